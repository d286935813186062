def am_gro (H H' : am_H) : Prop := am_hw H' ∧ H.length ≤ H'.length ∧ am_sz H ≤ am_sz H'
theorem am_gro_rf {H : am_H} (h : am_hw H) : am_gro H H := ⟨h, Nat.le_refl _, Nat.le_refl _⟩
theorem am_gro_tr {H H1 H2 : am_H} (h : am_gro H H1) (h2 : am_gro H1 H2) : am_gro H H2 := ⟨h2.1, Nat.le_trans h.2.1 h2.2.1, Nat.le_trans h.2.2 h2.2.2⟩
theorem am_gro_set {H : am_H} {a : Nat} {c0 c1 : am_C} (hw : am_hw H) (h0 : H[a]? = some c0) (hz : am_cz c1 = am_cz c0) (hc : am_cw H.length c1) : am_gro H (H.set a c1) := ⟨am_hw_set hw hc, by rw [List.length_set]; exact Nat.le_refl _, by rw [am_sz_set h0 hz]; exact Nat.le_refl _⟩
theorem am_gro_app {H : am_H} {c1 : am_C} (hw : am_hw H) (hc : am_cw H.length c1) : am_gro H (H ++ [c1]) := ⟨am_hw_app hw hc, by simp, by rw [am_sz_app]; omega⟩
theorem am_ws_new {H : am_H} {c1 : am_C} {r : List Value} (hr : am_ws H.length r) : am_ws (H ++ [c1]).length (.ref H.length :: r) := am_ws_cons.mpr ⟨fun i hi => by cases hi; simp, am_ws_mono (by simp) hr⟩
theorem am_dv_w (N : Nat) (ty : FieldType) : am_vw N (defaultValue ty) := fun i h => by cases ty <;> cases h
set_option maxHeartbeats 4000000 in
theorem am_wC_get {G : am_G} {own : String} {isI : Bool} {n idx : Nat} {st st' : List Value} {H H' : am_H} (h : am_stC G own isI (.getfield idx) n st H = some (st', H')) (hw : am_hw H) (hs : am_ws H.length st) : am_gro H H' ∧ am_ws H'.length st' := by
  dsimp only [am_stC] at h
  split at h
  · rename_i a r ci k hf
    split at h
    · rename_i v hv
      split at h
      · cases h
        obtain ⟨fs, hfs, hvk⟩ := am_getf_inv hv
        exact ⟨am_gro_rf hw, am_ws_cons.mpr ⟨(show ∀ v ∈ fs, am_vw H.length v from hw _ (List.mem_of_getElem? hfs)) v (List.mem_of_getElem? hvk), (am_ws_cons.mp hs).2⟩⟩
      · cases h
    · cases h
  · cases h
set_option maxHeartbeats 4000000 in
theorem am_wC_put {G : am_G} {own : String} {isI : Bool} {n idx : Nat} {st st' : List Value} {H H' : am_H} (h : am_stC G own isI (.putfield idx) n st H = some (st', H')) (hw : am_hw H) (hs : am_ws H.length st) : am_gro H H' ∧ am_ws H'.length st' := by
  dsimp only [am_stC] at h
  split at h
  · rename_i v a r ci k hf
    split at h
    · rename_i H1 hv
      split at h
      · cases h
        obtain ⟨fs, hfs, hkl, hcp, rfl⟩ := am_putf_inv hv
        have h1 := am_ws_cons.mp hs
        refine ⟨am_gro_set hw hfs (List.length_set ..) ?_, by rw [List.length_set]; exact (am_ws_cons.mp h1.2).2⟩
        intro x hx
        rcases List.mem_or_eq_of_mem_set hx with h | h
        · exact (show ∀ v ∈ fs, am_vw H.length v from hw _ (List.mem_of_getElem? hfs)) x h
        · rw [h]; exact h1.1
      · cases h
    · cases h
  · cases h
set_option maxHeartbeats 4000000 in
theorem am_wC_iald {G : am_G} {own : String} {isI : Bool} {n : Nat} {st st' : List Value} {H H' : am_H} (h : am_stC G own isI (.iaload) n st H = some (st', H')) (hw : am_hw H) (hs : am_ws H.length st) : am_gro H H' ∧ am_ws H'.length st' := by
  dsimp only [am_stC] at h
  split at h
  · rename_i j a r
    split at h
    · rename_i w f hf
      split at h
      · cases h
        exact ⟨am_gro_rf hw, am_ws_cons.mpr ⟨am_vw_i _ _, (am_ws_cons.mp (am_ws_cons.mp hs).2).2⟩⟩
      · cases h
    · cases h
  · cases h
set_option maxHeartbeats 4000000 in
theorem am_wC_zald {G : am_G} {own : String} {isI : Bool} {n : Nat} {st st' : List Value} {H H' : am_H} (h : am_stC G own isI (.baload) n st H = some (st', H')) (hw : am_hw H) (hs : am_ws H.length st) : am_gro H H' ∧ am_ws H'.length st' := by
  dsimp only [am_stC] at h
  split at h
  · rename_i j a r
    split at h
    · rename_i w f hf
      split at h
      · cases h
        exact ⟨am_gro_rf hw, am_ws_cons.mpr ⟨am_vw_i _ _, (am_ws_cons.mp (am_ws_cons.mp hs).2).2⟩⟩
      · cases h
    · cases h
  · cases h
set_option maxHeartbeats 4000000 in
theorem am_wC_lald {G : am_G} {own : String} {isI : Bool} {n : Nat} {st st' : List Value} {H H' : am_H} (h : am_stC G own isI (.laload) n st H = some (st', H')) (hw : am_hw H) (hs : am_ws H.length st) : am_gro H H' ∧ am_ws H'.length st' := by
  dsimp only [am_stC] at h
  split at h
  · rename_i j a r
    split at h
    · rename_i w f hf
      split at h
      · cases h
        exact ⟨am_gro_rf hw, am_ws_cons.mpr ⟨am_vw_l _ _, (am_ws_cons.mp (am_ws_cons.mp hs).2).2⟩⟩
      · cases h
    · cases h
  · cases h
set_option maxHeartbeats 4000000 in
theorem am_wC_aald {G : am_G} {own : String} {isI : Bool} {n : Nat} {st st' : List Value} {H H' : am_H} (h : am_stC G own isI (.aaload) n st H = some (st', H')) (hw : am_hw H) (hs : am_ws H.length st) : am_gro H H' ∧ am_ws H'.length st' := by
  dsimp only [am_stC] at h
  split at h
  · rename_i j a r
    split at h
    · rename_i C w f hf
      split at h
      · cases h
        refine ⟨am_gro_rf hw, am_ws_cons.mpr ⟨fun i hi => ?_, (am_ws_cons.mp (am_ws_cons.mp hs).2).2⟩⟩
        cases hj : f j.toNatClampNeg with
        | none => rw [hj] at hi; cases hi
        | some x => rw [hj] at hi; cases hi; exact (show ∀ j i, f j = some i → i < H.length from hw _ (List.mem_of_getElem? hf)) _ _ hj
      · cases h
    · cases h
  · cases h
set_option maxHeartbeats 4000000 in
theorem am_wC_iast {G : am_G} {own : String} {isI : Bool} {n : Nat} {st st' : List Value} {H H' : am_H} (h : am_stC G own isI (.iastore) n st H = some (st', H')) (hw : am_hw H) (hs : am_ws H.length st) : am_gro H H' ∧ am_ws H'.length st' := by
  dsimp only [am_stC] at h
  split at h
  · rename_i x j a r
    split at h
    · rename_i w f hf
      split at h
      · cases h
        exact ⟨am_gro_set hw hf rfl trivial, by rw [List.length_set]; exact (am_ws_cons.mp (am_ws_cons.mp (am_ws_cons.mp hs).2).2).2⟩
      · cases h
    · cases h
  · cases h
set_option maxHeartbeats 4000000 in
theorem am_wC_zast {G : am_G} {own : String} {isI : Bool} {n : Nat} {st st' : List Value} {H H' : am_H} (h : am_stC G own isI (.bastore) n st H = some (st', H')) (hw : am_hw H) (hs : am_ws H.length st) : am_gro H H' ∧ am_ws H'.length st' := by
  dsimp only [am_stC] at h
  split at h
  · rename_i x j a r
    split at h
    · rename_i w f hf
      split at h
      · cases h
        exact ⟨am_gro_set hw hf rfl trivial, by rw [List.length_set]; exact (am_ws_cons.mp (am_ws_cons.mp (am_ws_cons.mp hs).2).2).2⟩
      · cases h
    · cases h
  · cases h
set_option maxHeartbeats 4000000 in
theorem am_wC_last {G : am_G} {own : String} {isI : Bool} {n : Nat} {st st' : List Value} {H H' : am_H} (h : am_stC G own isI (.lastore) n st H = some (st', H')) (hw : am_hw H) (hs : am_ws H.length st) : am_gro H H' ∧ am_ws H'.length st' := by
  dsimp only [am_stC] at h
  split at h
  · rename_i x j a r
    split at h
    · rename_i w f hf
      split at h
      · cases h
        exact ⟨am_gro_set hw hf rfl trivial, by rw [List.length_set]; exact (am_ws_cons.mp (am_ws_cons.mp (am_ws_cons.mp hs).2).2).2⟩
      · cases h
    · cases h
  · cases h
set_option maxHeartbeats 4000000 in
theorem am_wC_aast {G : am_G} {own : String} {isI : Bool} {n : Nat} {st st' : List Value} {H H' : am_H} (h : am_stC G own isI (.aastore) n st H = some (st', H')) (hw : am_hw H) (hs : am_ws H.length st) : am_gro H H' ∧ am_ws H'.length st' := by
  dsimp only [am_stC] at h
  split at h
  · rename_i v j a r
    split at h
    · rename_i C w f ci fs hf hv
      split at h
      · cases h
        refine ⟨am_gro_set hw hf rfl ?_, by rw [List.length_set]; exact (am_ws_cons.mp (am_ws_cons.mp (am_ws_cons.mp hs).2).2).2⟩
        intro k i hk
        unfold va_up at hk
        split at hk
        · cases hk; exact (List.getElem?_eq_some_iff.mp hv).1
        · exact (show ∀ j i, f j = some i → i < H.length from hw _ (List.mem_of_getElem? hf)) _ _ hk
      · cases h
    · cases h
  · cases h
set_option maxHeartbeats 4000000 in
theorem am_wC_alen {G : am_G} {own : String} {isI : Bool} {n : Nat} {st st' : List Value} {H H' : am_H} (h : am_stC G own isI (.arraylength) n st H = some (st', H')) (hw : am_hw H) (hs : am_ws H.length st) : am_gro H H' ∧ am_ws H'.length st' := by
  dsimp only [am_stC] at h
  split at h
  · rename_i a r
    split at h
    · split at h
      · cases h
        exact ⟨am_gro_rf hw, am_ws_cons.mpr ⟨am_vw_i _ _, (am_ws_cons.mp hs).2⟩⟩
      · cases h
    · cases h
  · cases h
set_option maxHeartbeats 4000000 in
theorem am_wC_ldc {G : am_G} {own : String} {isI : Bool} {n idx : Nat} {st st' : List Value} {H H' : am_H} (h : am_stC G own isI (.ldc idx) n st H = some (st', H')) (hw : am_hw H) (hs : am_ws H.length st) : am_gro H H' ∧ am_ws H'.length st' := by
  dsimp only [am_stC] at h
  split at h
  · split at h
    · cases h
      exact ⟨am_gro_rf hw, am_ws_cons.mpr ⟨am_vw_i _ _, hs⟩⟩
    · cases h
  · cases h
set_option maxHeartbeats 4000000 in
theorem am_wC_ldc2 {G : am_G} {own : String} {isI : Bool} {n idx : Nat} {st st' : List Value} {H H' : am_H} (h : am_stC G own isI (.ldc2_w idx) n st H = some (st', H')) (hw : am_hw H) (hs : am_ws H.length st) : am_gro H H' ∧ am_ws H'.length st' := by
  dsimp only [am_stC] at h
  split at h
  · split at h
    · cases h
      exact ⟨am_gro_rf hw, am_ws_cons.mpr ⟨am_vw_l _ _, hs⟩⟩
    · cases h
  · cases h
set_option maxHeartbeats 4000000 in
theorem am_wC_new {G : am_G} {own : String} {isI : Bool} {n idx : Nat} {st st' : List Value} {H H' : am_H} (h : am_stC G own isI (.new idx) n st H = some (st', H')) (hw : am_hw H) (hs : am_ws H.length st) : am_gro H H' ∧ am_ws H'.length st' := by
  dsimp only [am_stC] at h
  split at h
  · rename_i ci z1 z2 hk
    split at h
    · rename_i H1 hH
      split at h
      · cases h
        unfold am_new at hH
        split at hH
        · cases hH
          refine ⟨am_gro_app hw ?_, am_ws_new hs⟩
          intro v hv
          obtain ⟨k, -, rfl⟩ := List.mem_map.mp hv
          exact am_dv_w _ _
        · cases hH
      · cases h
    · cases h
  · cases h
set_option maxHeartbeats 4000000 in
theorem am_wC_newa {G : am_G} {own : String} {isI : Bool} {n : Nat} {aty : ArrayType} {st st' : List Value} {H H' : am_H} (h : am_stC G own isI (.newarray aty) n st H = some (st', H')) (hw : am_hw H) (hs : am_ws H.length st) : am_gro H H' ∧ am_ws H'.length st' := by
  dsimp only [am_stC] at h
  split at h
  · rename_i w r
    split at h
    · rename_i H1 hH
      split at h
      · cases h
        unfold am_newa at hH
        split at hH
        · rename_i a0 ha0
          split at hH
          · cases hH
            refine ⟨am_gro_app hw ?_, am_ws_new (am_ws_cons.mp hs).2⟩
            cases hty : newarray.typeOf aty <;> rw [hty] at ha0 <;> cases ha0 <;> exact trivial
          · cases hH
        · cases hH
      · cases h
    · cases h
  · cases h
set_option maxHeartbeats 4000000 in
theorem am_wC_newq {G : am_G} {own : String} {isI : Bool} {n idx : Nat} {st st' : List Value} {H H' : am_H} (h : am_stC G own isI (.anewarray idx) n st H = some (st', H')) (hw : am_hw H) (hs : am_ws H.length st) : am_gro H H' ∧ am_ws H'.length st' := by
  dsimp only [am_stC] at h
  split at h
  · rename_i w r ci z1 z2 hk
    split at h
    · rename_i H1 hH
      split at h
      · cases h
        unfold am_newq at hH
        split at hH
        · split at hH
          · cases hH
            exact ⟨am_gro_app hw (fun j i hj => by cases hj), am_ws_new (am_ws_cons.mp hs).2⟩
          · cases hH
        · cases hH
      · cases h
    · cases h
  · cases h
theorem am_wC {G : am_G} {own : String} {isI : Bool} {n : Nat} {i : Instr} {st st' : List Value} {H H' : am_H} (h : am_stC G own isI i n st H = some (st', H')) (hw : am_hw H) (hs : am_ws H.length st) : am_gro H H' ∧ am_ws H'.length st' := by
  cases i with
  | getfield idx => exact am_wC_get h hw hs
  | putfield idx => exact am_wC_put h hw hs
  | iaload => exact am_wC_iald h hw hs
  | baload => exact am_wC_zald h hw hs
  | laload => exact am_wC_lald h hw hs
  | aaload => exact am_wC_aald h hw hs
  | iastore => exact am_wC_iast h hw hs
  | bastore => exact am_wC_zast h hw hs
  | lastore => exact am_wC_last h hw hs
  | aastore => exact am_wC_aast h hw hs
  | arraylength => exact am_wC_alen h hw hs
  | new idx => exact am_wC_new h hw hs
  | newarray aty => exact am_wC_newa h hw hs
  | anewarray idx => exact am_wC_newq h hw hs
  | ldc idx => exact am_wC_ldc h hw hs
  | ldc2_w idx => exact am_wC_ldc2 h hw hs
  | _ => cases h
/-- what a call may be taken to keep -/
def am_keeps (call : Nat → List Value → am_H → Option (Option Value × am_H)) : Prop := ∀ (j : Nat) (as : List Value) (H H' : am_H) (r : Option Value), call j as H = some (r, H') → am_hw H → am_ws H.length as → am_gro H H' ∧ ∀ v, r = some v → am_vw H'.length v
theorem am_out_inv {r st' : List Value} {x : Option (Option Value × am_H)} {H' : am_H} (h : am_out r x = some (st', H')) : ∃ v, x = some (v, H') ∧ st' = v.toList ++ r := by
  unfold am_out at h
  split at h
  · cases h; exact ⟨_, rfl, rfl⟩
  · cases h
theorem am_ws_take {N : Nat} {st : List Value} (k : Nat) (hs : am_ws N st) : am_ws N (st.take k).reverse := fun v hv => hs v (List.mem_of_mem_take (List.mem_reverse.mp hv))
theorem am_ws_drop {N : Nat} {st : List Value} (k : Nat) (hs : am_ws N st) : am_ws N (st.drop k) := fun v hv => hs v (List.mem_of_mem_drop hv)
theorem am_ws_ret {N : Nat} {v : Option Value} {r : List Value} (hv : ∀ x, v = some x → am_vw N x) (hr : am_ws N r) : am_ws N (v.toList ++ r) := by
  intro x hx
  rcases List.mem_append.mp hx with h | h
  · cases v with
    | none => cases h
    | some y => rw [List.mem_singleton.mp h]; exact hv y rfl
  · exact hr x h
theorem am_cv_inv {G : am_G} {call : Nat → List Value → am_H → Option (Option Value × am_H)} {j n : Nat} {chk : Bool} {st st' : List Value} {H H' : am_H} (h : am_cv G call j n chk st H = some (st', H')) : ∃ (M : am_M) (b : Nat) (r : List Value) (v : Option Value), G.2.2.2.1[j]? = some M ∧ st.drop M.2.2.2.2.1 = .ref b :: r ∧ n = 3 ∧ M.2.2.2.2.1 ≤ st.length ∧ (r.map fun v => v.category).sum ≤ 8 ∧ (chk = true → am_isC G H b M.1.cls = true) ∧ call j (.ref b :: (st.take M.2.2.2.2.1).reverse) H = some (v, H') ∧ st' = v.toList ++ r := by
  unfold am_cv at h
  split at h
  · rename_i M hM
    split at h
    · rename_i b r hr
      split at h
      · rename_i hc
        obtain ⟨v, h1, h2⟩ := am_out_inv h
        exact ⟨M, b, r, v, hM, hr, hc.1, hc.2.1, hc.2.2.1, hc.2.2.2, h1, h2⟩
      · cases h
    · cases h
  · cases h
theorem am_cs_inv {G : am_G} {call : Nat → List Value → am_H → Option (Option Value × am_H)} {j n : Nat} {st st' : List Value} {H H' : am_H} (h : am_cs G call j n st H = some (st', H')) : ∃ (M : am_M) (v : Option Value), G.2.2.2.1[j]? = some M ∧ n = 3 ∧ M.2.2.2.2.1 ≤ st.length ∧ ((st.drop M.2.2.2.2.1).map fun v => v.category).sum ≤ 8 ∧ call j (st.take M.2.2.2.2.1).reverse H = some (v, H') ∧ st' = v.toList ++ st.drop M.2.2.2.2.1 := by
  unfold am_cs at h
  split at h
  · rename_i M hM
    split at h
    · rename_i hc
      obtain ⟨v, h1, h2⟩ := am_out_inv h
      exact ⟨M, v, hM, hc.1, hc.2.1, hc.2.2, h1, h2⟩
    · cases h
  · cases h
theorem am_wcv {G : am_G} {call : Nat → List Value → am_H → Option (Option Value × am_H)} (hk : am_keeps call) {j n : Nat} {chk : Bool} {st st' : List Value} {H H' : am_H} (h : am_cv G call j n chk st H = some (st', H')) (hw : am_hw H) (hs : am_ws H.length st) : am_gro H H' ∧ am_ws H'.length st' := by
  obtain ⟨M, b, r, v, hM, hd, -, -, -, -, hc, rfl⟩ := am_cv_inv h
  have h1 := am_ws_drop M.2.2.2.2.1 hs
  rw [hd] at h1
  obtain ⟨g1, g2⟩ := hk j _ H H' v hc hw (am_ws_cons.mpr ⟨(am_ws_cons.mp h1).1, am_ws_take _ hs⟩)
  exact ⟨g1, am_ws_ret g2 (am_ws_mono g1.2.1 (am_ws_cons.mp h1).2)⟩
theorem am_wcs {G : am_G} {call : Nat → List Value → am_H → Option (Option Value × am_H)} (hk : am_keeps call) {j n : Nat} {st st' : List Value} {H H' : am_H} (h : am_cs G call j n st H = some (st', H')) (hw : am_hw H) (hs : am_ws H.length st) : am_gro H H' ∧ am_ws H'.length st' := by
  obtain ⟨M, v, hM, -, -, -, hc, rfl⟩ := am_cs_inv h
  obtain ⟨g1, g2⟩ := hk j _ H H' v hc hw (am_ws_take _ hs)
  exact ⟨g1, am_ws_ret g2 (am_ws_mono g1.2.1 (am_ws_drop _ hs))⟩
set_option maxHeartbeats 4000000 in
theorem am_wcpy {n : Nat} {st st' : List Value} {H H' : am_H} (h : am_cpy n st H = some (st', H')) (hw : am_hw H) (hs : am_ws H.length st) : am_gro H H' ∧ am_ws H'.length st' := by
  unfold am_cpy at h
  split at h
  · rename_i w dp a sp a0 r
    have hr : am_ws H.length r := (am_ws_cons.mp (am_ws_cons.mp (am_ws_cons.mp (am_ws_cons.mp (am_ws_cons.mp hs).2).2).2).2).2
    split at h
    · rename_i h0 h1
      split at h
      · cases h; exact ⟨am_gro_set hw h1 rfl trivial, by rw [List.length_set]; exact hr⟩
      · cases h
    · rename_i h0 h1
      split at h
      · cases h; exact ⟨am_gro_set hw h1 rfl trivial, by rw [List.length_set]; exact hr⟩
      · cases h
    · cases h
  · cases h
set_option maxHeartbeats 4000000 in
theorem am_wD {G : am_G} {call : Nat → List Value → am_H → Option (Option Value × am_H)} (hk : am_keeps call) {own : String} {n : Nat} {i : Instr} {st st' : List Value} {H H' : am_H} (h : am_stD G call own i n st H = some (st', H')) (hw : am_hw H) (hs : am_ws H.length st) : am_gro H H' ∧ am_ws H'.length st' := by
  cases i with
  | invokevirtual idx =>
    dsimp only [am_stD] at h
    split at h
    · exact am_wcv hk h hw hs
    · cases h
  | invokespecial idx =>
    dsimp only [am_stD] at h
    split at h
    · exact am_wcv hk h hw hs
    · exact am_wcv hk h hw hs
    · split at h
      · split at h
        · cases h; exact ⟨am_gro_rf hw, (am_ws_cons.mp hs).2⟩
        · cases h
      · cases h
    · cases h
  | invokestatic idx =>
    dsimp only [am_stD] at h
    split at h
    · exact am_wcs hk h hw hs
    · exact am_wcs hk h hw hs
    · exact am_wcpy h hw hs
    · split at h
      · split at h
        · cases h; exact ⟨am_gro_rf hw, am_ws_cons.mpr ⟨am_vw_i _ _, (am_ws_cons.mp (am_ws_cons.mp hs).2).2⟩⟩
        · cases h
      · cases h
    · split at h
      · split at h
        · cases h; exact ⟨am_gro_rf hw, am_ws_cons.mpr ⟨am_vw_i _ _, (am_ws_cons.mp (am_ws_cons.mp hs).2).2⟩⟩
        · cases h
      · cases h
    · cases h
  | _ => cases h
set_option maxHeartbeats 4000000 in
theorem am_wret {ret : Option FieldType} {i : Instr} {n N : Nat} {st : List Value} {r : Option Value} (h : am_ret ret i n st = some r) (hs : am_ws N st) : ∀ v, r = some v → am_vw N v := by
  cases i with
  | return_ =>
    dsimp only [am_ret] at h
    split at h
    · split at h
      · cases h; exact fun v hv => by cases hv
      · cases h
    · cases h
  | ireturn =>
    dsimp only [am_ret] at h
    split at h
    · split at h
      · cases h; exact fun v hv => by cases hv; exact am_vw_i _ _
      · cases h
    · cases h
  | lreturn =>
    dsimp only [am_ret] at h
    split at h
    · split at h
      · cases h; exact fun v hv => by cases hv; exact am_vw_l _ _
      · cases h
    · cases h
  | areturn =>
    dsimp only [am_ret] at h
    split at h
    · split at h
      · cases h; exact fun v hv => by cases hv; exact (am_ws_cons.mp hs).1
      · cases h
    · split at h
      · cases h; exact fun v hv => by cases hv; exact (am_ws_cons.mp hs).1
      · cases h
    · cases h
  | _ => cases h
theorem am_lvargs_w {N : Nat} : ∀ (as : List Value) (k : Nat), am_ws N as → am_wl N (lv_args k as)
  | [], k, _ => fun q hq => by cases hq
  | v :: as, k, h => by
    intro q hq
    rcases List.mem_cons.mp (show q ∈ (k, v) :: lv_args _ as from hq) with rfl | h2
    · exact (am_ws_cons.mp h).1
    · exact am_lvargs_w as _ (am_ws_cons.mp h).2 q h2
theorem am_wexec {G : am_G} {call : Nat → List Value → am_H → Option (Option Value × am_H)} (hk : am_keeps call) {M : am_M} : ∀ (f pc : Nat) (lv : am_L) (st : List Value) (H H' : am_H) (r : Option Value), am_exec G call M f pc lv st H = some (r, H') → am_hw H → am_wl H.length lv → am_ws H.length st → am_gro H H' ∧ ∀ v, r = some v → am_vw H'.length v := by
  intro f
  induction f with
  | zero => intro pc lv st H H' r h; cases h
  | succ f ih =>
    intro pc lv st H H' r h hw hl hs
    unfold am_exec at h
    split at h
    · rename_i i n hrow
      split at h
      · rename_i pc1 lv1 st1 H1 h1
        unfold am_one at h1
        split at h1
        · rename_i hA
          cases h1
          obtain ⟨a1, a2⟩ := am_wA hA hl hs
          exact ih _ _ _ _ _ _ h hw a1 a2
        · split at h1
          · rename_i hB
            cases h1
            exact ih _ _ _ _ _ _ h hw hl (am_wB hB hs)
          · split at h1
            · rename_i hC
              cases h1
              obtain ⟨a1, a2⟩ := am_wC hC hw hs
              obtain ⟨b1, b2⟩ := ih _ _ _ _ _ _ h a1.1 (am_wl_mono a1.2.1 hl) a2
              exact ⟨am_gro_tr a1 b1, b2⟩
            · split at h1
              · rename_i hD
                cases h1
                obtain ⟨a1, a2⟩ := am_wD hk hD hw hs
                obtain ⟨b1, b2⟩ := ih _ _ _ _ _ _ h a1.1 (am_wl_mono a1.2.1 hl) a2
                exact ⟨am_gro_tr a1 b1, b2⟩
              · split at h1
                · cases h1
                · cases h1
      · rename_i h1
        cases h
        unfold am_one at h1
        split at h1
        · cases h1
        · split at h1
          · cases h1
          · split at h1
            · cases h1
            · split at h1
              · cases h1
              · split at h1
                · rename_i hR
                  cases h1
                  exact ⟨am_gro_rf hw, am_wret hR hs⟩
                · cases h1
      · cases h
    · cases h
theorem am_wcall (G : am_G) (fuel : Nat) : ∀ d, am_keeps (am_call G fuel d) := by
  intro d
  induction d with
  | zero => intro j as H H' r h; cases h
  | succ d ih =>
    intro j as H H' r h hw hs
    unfold am_call at h
    split at h
    · split at h
      · exact am_wexec ih _ _ _ _ _ _ _ h hw (am_lvargs_w as 0 hs) (am_ws_nil _)
      · cases h
    · cases h
