/-! Arrays.fill(long[], long), exactly; and runs with it as one step -/
abbrev p_fc (g : Nat → Int64) (y : Int64) (i w : Nat) : Nat → Int64 := fun k => if i ≤ k ∧ k < w then y else g k
set_option maxHeartbeats 4000000 in
set_option maxRecDepth 100000 in
theorem p_fillx_loop {a w : Nat} {y : Int64} (hw : w < 2 ^ 30) : ∀ (n i : Nat) (H : am_H) (g : Nat → Int64) (lv : am_L), (lv = p_flA a y w i ∨ lv = p_flB a y w i) → i + n = w → H[a]? = some (.inl (.long, w, .inr (.inl g))) → am_X gx_G 0 gx_m18 6 lv [] H none (H.set a (.inl (.long, w, .inr (.inl (p_fc g y i w))))) := by
  intro n
  induction n with
  | zero =>
    intro i H g lv hlv hi hc
    have eg : p_fc g y i w = g := by
      funext k
      show (if i ≤ k ∧ k < w then y else g k) = g k
      rw [if_neg (by omega)]
    rw [eg]
    have hH : H.set a (.inl (.long, w, .inr (.inl g))) = H := by
      apply List.ext_getElem?
      intro q
      by_cases hq : a = q
      · subst hq; rw [am_set_get hc, hc]
      · rw [List.getElem?_set_ne hq]
    rw [hH]
    have hb : am_if2 .ge (nI i) (Int32.ofNat w) = true := decide_eq_true (show nI w ≤ nI i from nI_le (by omega) (by omega))
    rcases hlv with rfl | rfl
    · refine am_X.blk 2 (pc' := 9) (lv' := p_flA a y w i) (st' := [.int (Int32.ofNat w), .int (nI i)]) (H1 := H) (fun _ _ => rfl) ?_
      refine am_X.if2 (off := 13) (t := 22) (by decide +kernel) (by decide +kernel) hb ?_
      exact am_X.done 1 (fun _ _ => rfl)
    · refine am_X.blk 2 (pc' := 9) (lv' := p_flB a y w i) (st' := [.int (Int32.ofNat w), .int (nI i)]) (H1 := H) (fun _ _ => rfl) ?_
      refine am_X.if2 (off := 13) (t := 22) (by decide +kernel) (by decide +kernel) hb ?_
      exact am_X.done 1 (fun _ _ => rfl)
  | succ n ih =>
    intro i H g lv hlv hi hc
    have hj : am_inb (nI i) w = true := decide_eq_true (vp_in_nI (by omega) (by omega))
    have ecl : (nI i).toNatClampNeg = i := nI_clamp (by omega)
    have hx := ih (i + 1) (H.set a (.inl (.long, w, .inr (.inl (vp_updL g (nI i).toNatClampNeg y))))) (vp_updL g (nI i).toNatClampNeg y) (p_flB a y w (i + 1)) (Or.inr rfl) (by omega) (am_set_get hc)
    have eg : p_fc (vp_updL g (nI i).toNatClampNeg y) y (i + 1) w = p_fc g y i w := by
      funext k
      rw [ecl]
      show (if i + 1 ≤ k ∧ k < w then y else (if k = i then y else g k)) = (if i ≤ k ∧ k < w then y else g k)
      by_cases h1 : k = i
      · rw [if_neg (by omega), if_pos h1, if_pos (by omega)]
      · by_cases h2 : i + 1 ≤ k ∧ k < w
        · rw [if_pos h2, if_pos (by omega)]
        · rw [if_neg h2, if_neg h1, if_neg (by omega)]
    rw [am_set_set, eg] at hx
    have hb : am_if2 .ge (nI i) (Int32.ofNat w) = false := decide_eq_false (show ¬ nI w ≤ nI i from nI_ge (by omega) (by omega))
    have e1 : nI i + Int32.ofInt 1 = nI (i + 1) := lw_k1 i
    rcases hlv with rfl | rfl
    · refine am_X.blk 2 (pc' := 9) (lv' := p_flA a y w i) (st' := [.int (Int32.ofNat w), .int (nI i)]) (H1 := H) (fun _ _ => rfl) ?_
      refine am_X.if2 (off := 13) (t := 22) (by decide +kernel) (by decide +kernel) hb ?_
      refine am_X.blk 3 (pc' := 15) (lv' := p_flA a y w i) (st' := [.long y, .int (nI i), .ref a]) (H1 := H) (fun _ _ => rfl) ?_
      refine am_X.last (by decide +kernel) hc hj ?_
      refine am_X.blk 2 (pc' := 6) (lv' := [(3, .int (nI i + Int32.ofInt 1)), (4, .int (Int32.ofNat w)), (0, .ref a), (1, .long y)]) (st' := []) (fun _ _ => rfl) ?_
      rw [e1]
      exact hx
    · refine am_X.blk 2 (pc' := 9) (lv' := p_flB a y w i) (st' := [.int (Int32.ofNat w), .int (nI i)]) (H1 := H) (fun _ _ => rfl) ?_
      refine am_X.if2 (off := 13) (t := 22) (by decide +kernel) (by decide +kernel) hb ?_
      refine am_X.blk 3 (pc' := 15) (lv' := p_flB a y w i) (st' := [.long y, .int (nI i), .ref a]) (H1 := H) (fun _ _ => rfl) ?_
      refine am_X.last (by decide +kernel) hc hj ?_
      refine am_X.blk 2 (pc' := 6) (lv' := [(3, .int (nI i + Int32.ofInt 1)), (4, .int (Int32.ofNat w)), (0, .ref a), (1, .long y)]) (st' := []) (fun _ _ => rfl) ?_
      rw [e1]
      exact hx
set_option maxHeartbeats 4000000 in
set_option maxRecDepth 100000 in
theorem p_fillx {H : am_H} {a w : Nat} {y : Int64} {g : Nat → Int64} (hw : w < 2 ^ 30) (hc : H[a]? = some (.inl (.long, w, .inr (.inl g)))) : am_R gx_G 1 18 [.ref a, .long y] H none (H.set a (.inl (.long, w, .inr (.inl (p_fc g y 0 w))))) := by
  have hx := p_fillx_loop (a := a) (y := y) hw w 0 H g (p_flA a y w 0) (Or.inl rfl) (by omega) hc
  refine am_R.enter (M := gx_m18) rfl ⟨Nat.le_of_ble_eq_true rfl, Nat.le_of_ble_eq_true rfl⟩ ?_
  refine am_X.blk 3 (pc' := 3) (lv' := [(3, .int (Int32.ofInt 0)), (0, .ref a), (1, .long y)]) (st' := [.ref a]) (H1 := H) (fun _ _ => rfl) ?_
  refine am_X.alen (by decide +kernel) hc (by decide +kernel) ?_
  refine am_X.blk 1 (pc' := 6) (lv' := p_flA a y w 0) (st' := []) (H1 := H) (fun _ _ => rfl) ?_
  exact hx
/-- calls that are known stand for runs -/
def am_kn (G : am_G) (d : Nat) (call : Nat → List Value → am_H → Option (Option Value × am_H)) : Prop := ∀ (j : Nat) (as : List Value) (H : am_H) (r : Option Value × am_H), call j as H = some r → am_R G d j as H r.1 r.2
theorem am_cv_kn {G : am_G} {d : Nat} {call : Nat → List Value → am_H → Option (Option Value × am_H)} (hk : am_kn G d call) {j n : Nat} {chk : Bool} {st : List Value} {H : am_H} {y : List Value × am_H} (h : am_cv G call j n chk st H = some y) : ∃ N, ∀ fuel, N ≤ fuel → am_cv G (am_call G fuel d) j n chk st H = some y := by
  obtain ⟨st', H'⟩ := y
  obtain ⟨M, b, r, v, hM, hd, hn, h1, h2, h3, hc, rfl⟩ := am_cv_inv h
  obtain ⟨N, hN⟩ := hk _ _ _ _ hc
  refine ⟨N, fun fuel hf => ?_⟩
  unfold am_cv
  rw [hM]
  dsimp only
  rw [hd]
  dsimp only
  rw [if_pos ⟨hn, h1, h2, h3⟩, hN fuel hf]
  rfl
theorem am_cs_kn {G : am_G} {d : Nat} {call : Nat → List Value → am_H → Option (Option Value × am_H)} (hk : am_kn G d call) {j n : Nat} {st : List Value} {H : am_H} {y : List Value × am_H} (h : am_cs G call j n st H = some y) : ∃ N, ∀ fuel, N ≤ fuel → am_cs G (am_call G fuel d) j n st H = some y := by
  obtain ⟨st', H'⟩ := y
  obtain ⟨M, v, hM, hn, h1, h2, hc, rfl⟩ := am_cs_inv h
  obtain ⟨N, hN⟩ := hk _ _ _ _ hc
  refine ⟨N, fun fuel hf => ?_⟩
  unfold am_cs
  rw [hM]
  dsimp only
  rw [if_pos ⟨hn, h1, h2⟩, hN fuel hf]
  rfl
set_option maxHeartbeats 4000000 in
theorem am_stD_kn {G : am_G} {d : Nat} {call : Nat → List Value → am_H → Option (Option Value × am_H)} (hk : am_kn G d call) {own : String} {i : Instr} {n : Nat} {st : List Value} {H : am_H} {y : List Value × am_H} (h : am_stD G call own i n st H = some y) : ∃ N, ∀ fuel, N ≤ fuel → am_stD G (am_call G fuel d) own i n st H = some y := by
  cases i with
  | invokevirtual idx =>
    dsimp only [am_stD] at h ⊢
    split at h
    · exact am_cv_kn hk h
    · cases h
  | invokespecial idx =>
    dsimp only [am_stD] at h ⊢
    split at h
    · exact am_cv_kn hk h
    · exact am_cv_kn hk h
    · exact ⟨0, fun _ _ => h⟩
    · cases h
  | invokestatic idx =>
    dsimp only [am_stD] at h ⊢
    split at h
    · exact am_cs_kn hk h
    · exact am_cs_kn hk h
    · exact ⟨0, fun _ _ => h⟩
    · exact ⟨0, fun _ _ => h⟩
    · exact ⟨0, fun _ _ => h⟩
    · cases h
  | _ => cases h
theorem am_one_kn {G : am_G} {d : Nat} {call : Nat → List Value → am_H → Option (Option Value × am_H)} (hk : am_kn G d call) {M : am_M} {i : Instr} {n pc : Nat} {lv : am_L} {st : List Value} {H : am_H} {y : (Nat × am_L × List Value × am_H) ⊕ (Option Value × am_H)} (h : am_one G call M i n pc lv st H = some y) : ∃ N, ∀ fuel, N ≤ fuel → am_one G (am_call G fuel d) M i n pc lv st H = some y := by
  unfold am_one at h
  split at h
  · rename_i hA; exact ⟨0, fun _ _ => by unfold am_one; rw [hA]; exact h⟩
  · rename_i hA
    split at h
    · rename_i hB; exact ⟨0, fun _ _ => by unfold am_one; rw [hA]; dsimp only; rw [hB]; exact h⟩
    · rename_i hB
      split at h
      · rename_i hC; exact ⟨0, fun _ _ => by unfold am_one; rw [hA]; dsimp only; rw [hB]; dsimp only; rw [hC]; exact h⟩
      · rename_i hC
        split at h
        · rename_i hD
          obtain ⟨N, hN⟩ := am_stD_kn hk hD
          exact ⟨N, fun fuel hf => by unfold am_one; rw [hA]; dsimp only; rw [hB]; dsimp only; rw [hC]; dsimp only; rw [hN fuel hf]; exact h⟩
        · split at h
          · rename_i hR
            exact ⟨0, fun _ _ => by unfold am_one; rw [hA]; dsimp only; rw [hB]; dsimp only; rw [hC]; dsimp only; rw [am_stD_ret hR]; dsimp only; rw [hR]; exact h⟩
          · cases h
theorem am_exec_kn {G : am_G} {d : Nat} {call : Nat → List Value → am_H → Option (Option Value × am_H)} (hk : am_kn G d call) {M : am_M} : ∀ (f pc : Nat) (lv : am_L) (st : List Value) (H : am_H) (r : Option Value × am_H), am_exec G call M f pc lv st H = some r → am_X G d M pc lv st H r.1 r.2 := by
  intro f
  induction f with
  | zero => intro pc lv st H r h; cases h
  | succ f ih =>
    intro pc lv st H r h
    unfold am_exec at h
    split at h
    · rename_i i n hrow
      split at h
      · rename_i pc1 lv1 st1 H1 h1
        exact am_X.goD hrow (am_one_kn hk h1) (ih _ _ _ _ _ h)
      · rename_i z h1
        cases h
        obtain ⟨N, hN⟩ := am_one_kn hk h1
        refine ⟨N + 1, fun fuel f' hf hf2 => ?_⟩
        cases f' with
        | zero => omega
        | succ f' =>
          unfold am_exec
          rw [hrow]
          dsimp only
          rw [hN fuel (by omega)]
      · cases h
    · cases h
/-- as am_call, with Arrays.fill(long[], long) in one step -/
def p_callF (fuel : Nat) : Nat → Nat → List Value → am_H → Option (Option Value × am_H)
  | 0, _, _, _ => none
  | d + 1, j, as, H => if j = 18 then (match as with
      | [.ref a, .long y] => match H[a]? with
        | some (.inl (.long, w, .inr (.inl g))) => if w < 1073741824 then some (none, H.set a (.inl (.long, w, .inr (.inl (p_fc g y 0 w))))) else none
        | _ => none
      | _ => none) else match gx_G.2.2.2.1[j]? with
    | some M => if (lg_sl as).length ≤ M.2.2.1 ∧ M.2.2.1 ≤ 45 then am_exec gx_G (p_callF fuel d) M fuel 0 (lv_args 0 as) [] H else none
    | none => none
theorem p_callF_kn (fuel : Nat) : ∀ d, am_kn gx_G d (p_callF fuel d) := by
  intro d
  induction d with
  | zero => intro j as H r h; cases h
  | succ d ih =>
    intro j as H r h
    unfold p_callF at h
    split at h
    · rename_i hj
      subst hj
      split at h
      · split at h
        · rename_i hc
          split at h
          · rename_i hw
            cases h
            exact (p_fillx hw hc).deeper (by omega)
          · cases h
        · cases h
      · cases h
    · split at h
      · rename_i M hM
        split at h
        · rename_i hc
          exact am_R.enter hM hc (am_exec_kn ih _ _ _ _ _ _ h)
        · cases h
      · cases h
