theorem p1_build : lw_I 12 0 3 (p1_Inv 0) (p1_Inv 1) 3 138 [] := by
  intro H hH
  have hH : H = p1_H3 := hH
  subst hH
  have h := p1_bb_ok
  unfold p1_bb at h
  split at h
  · rename_i v H1 h1
    rw [Bool.and_eq_true] at h
    obtain ⟨hc, h⟩ := h
    split at h
    · rename_i u H2 h2
      simp only [Bool.and_eq_true, decide_eq_true_eq] at h
      obtain ⟨rfl, h3, h4⟩ := h
      exact ⟨u, H1, H2, p1_H3_x, hc, p_callF_kn 4000 12 _ _ _ _ h1, am_R.of h2, h3, h4⟩
    · cases h
  · cases h
/-- from the entry, for every script of at most 4 ints, the law comes to its end with true -/
theorem whole_start {p : Program} {e : Env} {s : State} {m : MethodId} {below : List Frame} {meth : Method} {c : Code} (l : Launch) {b L : Nat} {xs : Nat → Int32} (hL : L ≤ 4) (C0 : lw_At p s m meth c b L xs) : W p l e room_1 s m #[Value.ref b] below meth c s.heap [] 0 0 (lw_Z below #[Value.ref b] s) (entryFrame m ([Value.ref b] : List Value).toArray 4) :=
  gx_whole l (p1_good_open p1_build hL) C0
