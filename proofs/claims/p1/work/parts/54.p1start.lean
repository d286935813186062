/-! p1: the law's entry, and the pure statement -/
theorem am_oneI {G : am_G} {d : Nat} {M : am_M} {pc : Nat} {lv : am_L} {st : List Value} {H H1 : am_H} {idx j kind : Nat} {z : Int64} {Mj : am_M} {as : List Value} {p : Nat} {rest : List Value} {v : Option Value} (hA : am_stA M.2.2.1 (.invokespecial idx) 3 lv st = none) (hB : am_stB (.invokespecial idx) 3 pc st = none) (hC : am_stC G M.1.cls (M.1.name == "<init>") (.invokespecial idx) 3 st H = none) (hlk : G.2.2.1 M.1.cls idx = some (1, j, kind, z)) (hkd : kind = 1 ∨ kind = 2) (hM : G.2.2.2.1[j]? = some Mj) (hst : st = as.reverse ++ .ref p :: rest) (has : as.length = Mj.2.2.2.2.1) (hcat : (rest.map fun v => v.category).sum ≤ 8) (hR : am_R G d j (.ref p :: as) H v H1) :
    ∃ N, ∀ fuel, N ≤ fuel → am_one G (am_call G fuel d) M (.invokespecial idx) 3 pc lv st H = some (.inl (pc + 3, lv, v.toList ++ rest, H1)) := by
  obtain ⟨N, hR⟩ := hR
  refine ⟨N, fun fuel hf => ?_⟩
  have e1 : st.drop Mj.2.2.2.2.1 = .ref p :: rest := by rw [hst, ← has, ← List.length_reverse, List.drop_left]
  have e2 : (st.take Mj.2.2.2.2.1).reverse = as := by rw [hst, ← has, ← List.length_reverse, List.take_left, List.reverse_reverse]
  have e3 : Mj.2.2.2.2.1 ≤ st.length := by rw [hst, ← has]; simp
  have hcv : am_cv G (am_call G fuel d) j 3 false st H = some (v.toList ++ rest, H1) := by
    unfold am_cv
    rw [hM]
    dsimp only
    rw [e1]
    dsimp only
    rw [if_pos ⟨rfl, e3, hcat, fun q => by cases q⟩, e2, hR fuel hf]
    rfl
  have hD : am_stD G (am_call G fuel d) M.1.cls (.invokespecial idx) 3 st H = some (v.toList ++ rest, H1) := by
    dsimp only [am_stD]
    rw [hlk]
    rcases hkd with rfl | rfl
    · exact hcv
    · exact hcv
  unfold am_one
  rw [hA]
  dsimp only
  rw [hB]
  dsimp only
  rw [hC]
  dsimp only
  rw [hD]
set_option maxHeartbeats 4000000 in
set_option maxRecDepth 100000 in
/-- from the law's entry to its loop -/
theorem p1_entry {b L : Nat} {xs : Nat → Int32} {r : Option Value} {H' : am_H} (k : am_XL gx_G 12 gx_ML b L xs 18 (lw_lv b 0 3 (nI 0)) [] p1_H3 r H') : am_XL gx_G 12 gx_ML b L xs 0 [(0, .retAddr b)] [] [] r H' := by
  refine am_XL.go (i := .new 7) (n := 3) (pc' := 3) (lv' := [(0, .retAddr b)]) (st' := [.ref 0]) (H1 := p1_H0) (by decide +kernel) rfl (fun _ => rfl) ?_
  refine am_XL.go (i := .dup) (n := 1) (pc' := 4) (lv' := [(0, .retAddr b)]) (st' := [.ref 0, .ref 0]) (H1 := p1_H0) (by decide +kernel) rfl (fun _ => rfl) ?_
  refine am_XL.goD (i := .invokespecial 9) (n := 3) (pc' := 7) (lv' := [(0, .retAddr b)]) (st' := [.ref 0]) (H1 := p1_H1) (by decide +kernel) rfl (am_oneI (j := 0) (kind := 1) (z := 0) (Mj := gx_m0) (as := []) (p := 0) (rest := [.ref 0]) (v := none) rfl rfl rfl (by decide +kernel) (Or.inl rfl) rfl rfl rfl (Nat.le_of_ble_eq_true rfl) (p1_ix.deeper (by decide))) ?_
  refine am_XL.go (i := .astore_n 1) (n := 1) (pc' := 8) (lv' := [(1, .ref 0), (0, .retAddr b)]) (st' := []) (H1 := p1_H1) (by decide +kernel) rfl (fun _ => rfl) ?_
  refine am_XL.go (i := .new 10) (n := 3) (pc' := 11) (lv' := [(1, .ref 0), (0, .retAddr b)]) (st' := [.ref 3]) (H1 := p1_H2) (by decide +kernel) rfl (fun _ => rfl) ?_
  refine am_XL.go (i := .dup) (n := 1) (pc' := 12) (lv' := [(1, .ref 0), (0, .retAddr b)]) (st' := [.ref 3, .ref 3]) (H1 := p1_H2) (by decide +kernel) rfl (fun _ => rfl) ?_
  refine am_XL.goD (i := .invokespecial 12) (n := 3) (pc' := 15) (lv' := [(1, .ref 0), (0, .retAddr b)]) (st' := [.ref 3]) (H1 := p1_H3) (by decide +kernel) rfl (am_oneI (j := 136) (kind := 1) (z := 0) (Mj := gx_m136) (as := []) (p := 3) (rest := [.ref 3]) (v := none) rfl rfl rfl (by decide +kernel) (Or.inl rfl) rfl rfl rfl (Nat.le_of_ble_eq_true rfl) (p1_im.deeper (by decide))) ?_
  refine am_XL.go (i := .astore_n 2) (n := 1) (pc' := 16) (lv' := [(2, .ref 3), (1, .ref 0), (0, .retAddr b)]) (st' := []) (H1 := p1_H3) (by decide +kernel) rfl (fun _ => rfl) ?_
  refine am_XL.go (i := .iconst 0) (n := 1) (pc' := 17) (lv' := [(2, .ref 3), (1, .ref 0), (0, .retAddr b)]) (st' := [.int (Int32.ofInt 0)]) (H1 := p1_H3) (by decide +kernel) rfl (fun _ => rfl) ?_
  refine am_XL.go (i := .istore_n 3) (n := 1) (pc' := 18) (lv' := lw_lv b 0 3 (nI 0)) (st' := []) (H1 := p1_H3) (by decide +kernel) rfl (fun _ => rfl) ?_
  exact k
/-- the pure statement of p1, build() on fresh objects still owed -/
theorem p1_good_open (hb : lw_I 12 0 3 (p1_Inv 0) (p1_Inv 1) 3 138 []) {b L : Nat} {xs : Nat → Int32} (hL : L ≤ 4) : gx_good b L xs := by
  obtain ⟨k', H', hI, hr⟩ := lw_run (d := 12) (px := 0) (pm := 3) (b := b) (L := L) (xs := xs) (Inv := p1_Inv) (by omega) (fun k hk => by
    have h0 : k = 0 := by omega
    subst h0
    exact p1_steps_open hb) 2 0 p1_H3 rfl (by omega) (by omega)
  obtain ⟨N, hN⟩ := p1_entry hr
  have hin : p1_in H' := by
    cases k' with
    | zero => have hI : H' = p1_H3 := hI; rw [hI]; exact p1_H3_in
    | succ k => exact hI
  exact ⟨N, 12, N, H', by decide, hN N N (Nat.le_refl _) (Nat.le_refl _), hin.1, hin.2⟩
