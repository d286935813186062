/-! Arrays.fill(long[], long) -/
theorem am_set_set {H : am_H} {a : Nat} {c1 c2 : am_C} : (H.set a c1).set a c2 = H.set a c2 := List.set_set ..
theorem am_set_get {H : am_H} {a : Nat} {c0 c1 : am_C} (h : H[a]? = some c0) : (H.set a c1)[a]? = some c1 := List.getElem?_set_self (List.getElem?_eq_some_iff.mp h).1
abbrev p_flA (a : Nat) (y : Int64) (w i : Nat) : am_L := [(4, .int (Int32.ofNat w)), (3, .int (nI i)), (0, .ref a), (1, .long y)]
abbrev p_flB (a : Nat) (y : Int64) (w i : Nat) : am_L := [(3, .int (nI i)), (4, .int (Int32.ofNat w)), (0, .ref a), (1, .long y)]
set_option maxHeartbeats 4000000 in
set_option maxRecDepth 100000 in
theorem p_fill_loop {a w : Nat} {y : Int64} (hw : w < 2 ^ 30) : ∀ (n i : Nat) (H : am_H) (g : Nat → Int64) (lv : am_L), (lv = p_flA a y w i ∨ lv = p_flB a y w i) → i + n = w → H[a]? = some (.inl (.long, w, .inr (.inl g))) → (∀ k, k < i → g k = y) →
    ∃ g' : Nat → Int64, (∀ k, k < w → g' k = y) ∧ am_X gx_G 0 gx_m18 6 lv [] H none (H.set a (.inl (.long, w, .inr (.inl g')))) := by
  intro n
  induction n with
  | zero =>
    intro i H g lv hlv hi hc hg
    refine ⟨g, fun k hk => hg k (by omega), ?_⟩
    have hH : H.set a (.inl (.long, w, .inr (.inl g))) = H := by
      apply List.ext_getElem?
      intro q
      by_cases hq : a = q
      · subst hq; rw [am_set_get hc, hc]
      · rw [List.getElem?_set_ne hq]
    rw [hH]
    have hb : am_if2 .ge (nI i) (Int32.ofNat w) = true := decide_eq_true (show nI w ≤ nI i from nI_le (by omega) (by omega))
    rcases hlv with rfl | rfl
    · refine am_X.blk 2 (pc' := 9) (lv' := p_flA a y w i) (st' := [.int (Int32.ofNat w), .int (nI i)]) (H1 := H) (fun _ _ => rfl) ?_
      refine am_X.if2 (off := 13) (t := 22) (by decide +kernel) (by decide +kernel) hb ?_
      exact am_X.done 1 (fun _ _ => rfl)
    · refine am_X.blk 2 (pc' := 9) (lv' := p_flB a y w i) (st' := [.int (Int32.ofNat w), .int (nI i)]) (H1 := H) (fun _ _ => rfl) ?_
      refine am_X.if2 (off := 13) (t := 22) (by decide +kernel) (by decide +kernel) hb ?_
      exact am_X.done 1 (fun _ _ => rfl)
  | succ n ih =>
    intro i H g lv hlv hi hc hg
    have hj : am_inb (nI i) w = true := decide_eq_true (vp_in_nI (by omega) (by omega))
    have ecl : (nI i).toNatClampNeg = i := nI_clamp (by omega)
    obtain ⟨g', hg', hx⟩ := ih (i + 1) (H.set a (.inl (.long, w, .inr (.inl (vp_updL g (nI i).toNatClampNeg y))))) (vp_updL g (nI i).toNatClampNeg y) (p_flB a y w (i + 1)) (Or.inr rfl) (by omega) (am_set_get hc) (fun k hk => by
      rw [ecl]
      by_cases hki : k = i
      · rw [hki, pk_uLs]
      · rw [pk_uLn hki]; exact hg k (by omega))
    rw [am_set_set] at hx
    refine ⟨g', hg', ?_⟩
    have hb : am_if2 .ge (nI i) (Int32.ofNat w) = false := decide_eq_false (show ¬ nI w ≤ nI i from nI_ge (by omega) (by omega))
    have e1 : nI i + Int32.ofInt 1 = nI (i + 1) := lw_k1 i
    rcases hlv with rfl | rfl
    · refine am_X.blk 2 (pc' := 9) (lv' := p_flA a y w i) (st' := [.int (Int32.ofNat w), .int (nI i)]) (H1 := H) (fun _ _ => rfl) ?_
      refine am_X.if2 (off := 13) (t := 22) (by decide +kernel) (by decide +kernel) hb ?_
      refine am_X.blk 3 (pc' := 15) (lv' := p_flA a y w i) (st' := [.long y, .int (nI i), .ref a]) (H1 := H) (fun _ _ => rfl) ?_
      refine am_X.last (by decide +kernel) hc hj ?_
      refine am_X.blk 2 (pc' := 6) (lv' := [(3, .int (nI i + Int32.ofInt 1)), (4, .int (Int32.ofNat w)), (0, .ref a), (1, .long y)]) (st' := []) (fun _ _ => rfl) ?_
      rw [e1]
      exact hx
    · refine am_X.blk 2 (pc' := 9) (lv' := p_flB a y w i) (st' := [.int (Int32.ofNat w), .int (nI i)]) (H1 := H) (fun _ _ => rfl) ?_
      refine am_X.if2 (off := 13) (t := 22) (by decide +kernel) (by decide +kernel) hb ?_
      refine am_X.blk 3 (pc' := 15) (lv' := p_flB a y w i) (st' := [.long y, .int (nI i), .ref a]) (H1 := H) (fun _ _ => rfl) ?_
      refine am_X.last (by decide +kernel) hc hj ?_
      refine am_X.blk 2 (pc' := 6) (lv' := [(3, .int (nI i + Int32.ofInt 1)), (4, .int (Int32.ofNat w)), (0, .ref a), (1, .long y)]) (st' := []) (fun _ _ => rfl) ?_
      rw [e1]
      exact hx
set_option maxHeartbeats 4000000 in
set_option maxRecDepth 100000 in
/-- Arrays.fill(long[], long): all its places hold the number -/
theorem p_fillL {H : am_H} {a w : Nat} {y : Int64} {g : Nat → Int64} (hw : w < 2 ^ 30) (hc : H[a]? = some (.inl (.long, w, .inr (.inl g)))) : ∃ g' : Nat → Int64, (∀ k, k < w → g' k = y) ∧ am_R gx_G 1 18 [.ref a, .long y] H none (H.set a (.inl (.long, w, .inr (.inl g')))) := by
  obtain ⟨g', hg', hx⟩ := p_fill_loop (a := a) (y := y) hw w 0 H g (p_flA a y w 0) (Or.inl rfl) (by omega) hc (fun k hk => by omega)
  refine ⟨g', hg', am_R.enter (M := gx_m18) rfl ⟨Nat.le_of_ble_eq_true rfl, Nat.le_of_ble_eq_true rfl⟩ ?_⟩
  refine am_X.blk 3 (pc' := 3) (lv' := [(3, .int (Int32.ofInt 0)), (0, .ref a), (1, .long y)]) (st' := [.ref a]) (H1 := H) (fun _ _ => rfl) ?_
  refine am_X.alen (by decide +kernel) hc (by decide +kernel) ?_
  refine am_X.blk 1 (pc' := 6) (lv' := p_flA a y w 0) (st' := []) (H1 := H) (fun _ _ => rfl) ?_
  exact hx
