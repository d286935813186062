/-! type(), of the class and of the reference: contracts, whatever the heap -/
def s_byteX (w : Int64) (k : Int32) : Int32 := (w.toUInt64 >>> (((Int8.ofInt 8).toInt32 * k).toInt64.toUInt64 &&& Int64.toUInt64 63)).toInt64.toInt32 &&& (Int16.ofInt 255).toInt32
def s_byteM (w : Int64) (k : Int32) : Int32 := ((w >>> (((Int8.ofInt 8).toInt32 * k).toInt64 &&& 63)) &&& 255).toInt32
set_option maxRecDepth 100000 in
theorem s_byteOf {w : Int64} {k : Int32} {H : am_H} : am_R gx_G 1 2 [.long w, .int k] H (some (.int (s_byteX w k))) H := by
  refine am_R.enter (M := gx_m2) rfl ⟨Nat.le_of_ble_eq_true rfl, Nat.le_of_ble_eq_true rfl⟩ ?_
  exact am_X.done 9 (fun _ _ => rfl)

set_option maxHeartbeats 4000000 in
set_option maxRecDepth 100000 in
theorem s_typeX_loop {p a : Nat} {w : Int64} {n : Int32} {fs : List Value} : ∀ (rem t : Nat) (H : am_H) (f : Nat → Int32) (kk : Int32), kk = nI rem - 1 → rem ≤ 8 → t + rem ≤ 2000 → H[p]? = some (.inr (11, .ref a :: .int (nI t) :: fs)) → H[a]? = some (.inl (.int, 2000, .inl f)) →
    ∃ (f' : Nat → Int32) (H' : am_H), am_X gx_G 1 gx_m1 33 [(4, .int kk), (0, .ref p), (1, .long w), (3, .int n)] [] H (some (.int (nI (t + rem)))) H' ∧ H'[p]? = some (.inr (11, .ref a :: .int (nI (t + rem)) :: fs)) ∧ H'[a]? = some (.inl (.int, 2000, .inl f')) ∧ (∀ q, q ≠ p → q ≠ a → H'[q]? = H[q]?) ∧ H'.length = H.length ∧ am_sz H' = am_sz H ∧ (∀ k, k < t → f' k = f k) ∧ (∀ i, i < rem → f' (t + i) = s_byteX w (nI (rem - 1 - i))) := by
  intro rem
  induction rem with
  | zero =>
    intro t H f kk hk h8 ht hp ha
    refine ⟨f, H, ?_, by simpa using hp, ha, fun _ _ _ => rfl, rfl, rfl, fun _ _ => rfl, fun i hi => absurd hi (by omega)⟩
    have hb : am_if1 .lt kk = true := by rw [hk]; decide +kernel
    refine am_X.blk 1 (pc' := 35) (lv' := [(4, .int kk), (0, .ref p), (1, .long w), (3, .int n)]) (st' := [.int kk]) (H1 := H) (fun _ _ => rfl) ?_
    refine am_X.if1 (off := 34) (t := 69) (by decide +kernel) (by decide +kernel) hb ?_
    refine am_X.blk 1 (pc' := 70) (lv' := [(4, .int kk), (0, .ref p), (1, .long w), (3, .int n)]) (st' := [.ref p]) (H1 := H) (fun _ _ => rfl) ?_
    refine am_X.getf (idx := 13) (ci := 11) (k := 1) (by decide +kernel) (by decide +kernel) hp rfl ?_
    exact am_X.done 1 (fun _ _ => rfl)
  | succ rem ih =>
    intro t H f kk hk h8 ht hp ha
    have hpa : p ≠ a := fun e => by rw [e, ha] at hp; cases hp
    have hk : kk = nI rem := by rw [hk]; exact nI_pred rem
    subst hk
    have hb : am_if1 .lt (nI rem) = false := decide_eq_false (nI_pos (by omega))
    have hj : am_inb (nI t) 2000 = true := decide_eq_true (vp_in_nI (by omega) (by omega))
    have ecl : (nI t).toNatClampNeg = t := nI_clamp (by omega)
    have e1 : nI t + Int32.ofInt 1 = nI (t + 1) := lw_k1 t
    have e2 : nI rem + Int32.ofInt (-1) = nI rem - 1 := by rw [Int32.sub_eq_add_neg]; congr 1
    have hp1 : (H.set a (.inl (.int, 2000, .inl (upd f (nI t).toNatClampNeg (s_byteX w (nI rem))))))[p]? = some (.inr (11, .ref a :: .int (nI t) :: fs)) := by rw [List.getElem?_set_ne (Ne.symm hpa)]; exact hp
    have hp2 : ((H.set a (.inl (.int, 2000, .inl (upd f (nI t).toNatClampNeg (s_byteX w (nI rem)))))).set p (.inr (11, (.ref a :: .int (nI t) :: fs).set 1 (.int (nI t + Int32.ofInt 1)))))[p]? = some (.inr (11, .ref a :: .int (nI (t + 1)) :: fs)) := by rw [am_set_get hp1, e1]; rfl
    have ha2 : ((H.set a (.inl (.int, 2000, .inl (upd f (nI t).toNatClampNeg (s_byteX w (nI rem)))))).set p (.inr (11, (.ref a :: .int (nI t) :: fs).set 1 (.int (nI t + Int32.ofInt 1)))))[a]? = some (.inl (.int, 2000, .inl (upd f (nI t).toNatClampNeg (s_byteX w (nI rem))))) := by rw [List.getElem?_set_ne hpa, am_set_get ha]
    obtain ⟨f', H', hx, q1, q2, q3, q4, q5, q6, q7⟩ := ih (t + 1) _ _ (nI rem - 1) rfl (by omega) (by omega) hp2 ha2
    have hz1 : am_sz (H.set a (.inl (.int, 2000, .inl (upd f (nI t).toNatClampNeg (s_byteX w (nI rem)))))) = am_sz H := am_sz_set ha rfl
    refine ⟨f', H', ?_, by rw [q1, show t + 1 + rem = t + (rem + 1) by omega], q2, fun q h1 h2 => by rw [q3 q h1 h2, List.getElem?_set_ne (Ne.symm h1), List.getElem?_set_ne (Ne.symm h2)], by rw [q4, List.length_set, List.length_set], q5.trans ((am_sz_set hp1 (by simp [am_cz])).trans hz1), fun k hk => by rw [q6 k (by omega), ecl, pk_un (by omega)], fun i hi => ?_⟩
    · refine am_X.blk 1 (pc' := 35) (lv' := [(4, .int (nI rem)), (0, .ref p), (1, .long w), (3, .int n)]) (st' := [.int (nI rem)]) (H1 := H) (fun _ _ => rfl) ?_
      refine am_X.if1 (off := 34) (t := 69) (by decide +kernel) (by decide +kernel) hb ?_
      refine am_X.blk 1 (pc' := 39) (lv' := [(4, .int (nI rem)), (0, .ref p), (1, .long w), (3, .int n)]) (st' := [.ref p]) (H1 := H) (fun _ _ => rfl) ?_
      refine am_X.getf (idx := 9) (ci := 11) (k := 0) (by decide +kernel) (by decide +kernel) hp rfl ?_
      refine am_X.blk 1 (pc' := 43) (lv' := [(4, .int (nI rem)), (0, .ref p), (1, .long w), (3, .int n)]) (st' := [.ref p, .ref a]) (H1 := H) (fun _ _ => rfl) ?_
      refine am_X.getf (idx := 13) (ci := 11) (k := 1) (by decide +kernel) (by decide +kernel) hp rfl ?_
      refine am_X.blk 2 (pc' := 49) (lv' := [(4, .int (nI rem)), (0, .ref p), (1, .long w), (3, .int n)]) (st' := [.int (nI rem), .long w, .int (nI t), .ref a]) (H1 := H) (fun _ _ => rfl) ?_
      refine am_X.goD (i := .invokestatic 47) (n := 3) (pc' := 52) (lv' := [(4, .int (nI rem)), (0, .ref p), (1, .long w), (3, .int n)]) (st' := [.int (s_byteX w (nI rem)), .int (nI t), .ref a]) (H1 := H) (by decide +kernel) (am_oneS (jm := 2) (kind := 3) (z := 0) (Mj := gx_m2) (as := [.long w, .int (nI rem)]) (rest := [.int (nI t), .ref a]) (u := some (.int (s_byteX w (nI rem)))) rfl rfl rfl (by decide +kernel) (Or.inl rfl) rfl rfl rfl (Nat.le_of_ble_eq_true rfl) s_byteOf) ?_
      refine am_X.iast (by decide +kernel) ha hj ?_
      refine am_X.blk 2 (pc' := 55) (lv' := [(4, .int (nI rem)), (0, .ref p), (1, .long w), (3, .int n)]) (st' := [.ref p, .ref p]) (fun _ _ => rfl) ?_
      refine am_X.getf (idx := 13) (ci := 11) (k := 1) (by decide +kernel) (by decide +kernel) hp1 rfl ?_
      refine am_X.blk 2 (pc' := 60) (lv' := [(4, .int (nI rem)), (0, .ref p), (1, .long w), (3, .int n)]) (st' := [.int (nI t + Int32.ofInt 1), .ref p]) (fun _ _ => rfl) ?_
      refine am_X.putf (idx := 13) (ci := 11) (k := 1) (by decide +kernel) (by decide +kernel) hp1 (by simp) rfl ?_
      refine am_X.iinc (k := 4) (dn := -1) (x := nI rem) (y := nI rem - 1) (by decide +kernel) rfl (by decide +kernel) e2 ?_
      refine am_X.blk 1 (pc' := 33) (lv' := [(4, .int (nI rem - 1)), (0, .ref p), (1, .long w), (3, .int n)]) (st' := []) (fun _ _ => rfl) ?_
      rw [show t + (rem + 1) = t + 1 + rem by omega]
      exact hx
    · by_cases h0 : i = 0
      · subst h0
        rw [q6 (t + 0) (by omega), ecl, Nat.add_zero, pk_us, show rem + 1 - 1 - 0 = rem by omega]
      · have h1 := q7 (i - 1) (by omega)
        rw [show t + 1 + (i - 1) = t + i by omega, show rem - 1 - (i - 1) = rem + 1 - 1 - i by omega] at h1
        exact h1
set_option maxHeartbeats 4000000 in
set_option maxRecDepth 100000 in
/-- type(): the bytes come behind those of the tape -/
theorem s_typeX {p a t : Nat} {w : Int64} {fs : List Value} {H : am_H} {f : Nat → Int32} (m : Nat) (h1 : 1 ≤ m) (h8 : m ≤ 8) (ht : t + m ≤ 2000) (hp : H[p]? = some (.inr (11, .ref a :: .int (nI t) :: fs))) (ha : H[a]? = some (.inl (.int, 2000, .inl f))) :
    ∃ (f' : Nat → Int32) (H' : am_H), am_R gx_G 2 1 [.ref p, .long w, .int (nI m)] H (some (.int (nI (t + m)))) H' ∧ H'[p]? = some (.inr (11, .ref a :: .int (nI (t + m)) :: fs)) ∧ H'[a]? = some (.inl (.int, 2000, .inl f')) ∧ (∀ q, q ≠ p → q ≠ a → H'[q]? = H[q]?) ∧ H'.length = H.length ∧ am_sz H' = am_sz H ∧ (∀ k, k < t → f' k = f k) ∧ (∀ i, i < m → f' (t + i) = s_byteX w (nI (m - 1 - i))) := by
  obtain ⟨f', H', hx, q⟩ := s_typeX_loop (p := p) (a := a) (w := w) (n := nI m) (fs := fs) m t H f (nI m - Int32.ofInt 1) (by rw [show (Int32.ofInt 1 : Int32) = 1 by decide +kernel]) h8 ht hp ha
  refine ⟨f', H', am_R.enter (M := gx_m1) rfl ⟨Nat.le_of_ble_eq_true rfl, Nat.le_of_ble_eq_true rfl⟩ ?_, q⟩
  have b1 : am_if2 .lt (nI m) (Int32.ofInt 1) = false := decide_eq_false (by rw [show Int32.ofInt 1 = nI 1 by decide +kernel]; exact nI_nlt h1 (by omega))
  have b2 : am_if2 .le (nI m) (Int8.ofInt 8).toInt32 = true := decide_eq_true (by rw [show (Int8.ofInt 8).toInt32 = nI 8 by decide +kernel]; exact nI_le h8 (by omega))
  have b3 : am_if2 .le (nI t + nI m) (Int16.ofInt 2000).toInt32 = true := decide_eq_true (by rw [nI_add, show (Int16.ofInt 2000).toInt32 = nI 2000 by decide +kernel]; exact nI_le ht (by omega))
  show am_X gx_G 1 gx_m1 0 [(0, .ref p), (1, .long w), (3, .int (nI m))] [] H _ H'
  refine am_X.blk 2 (pc' := 2) (lv' := [(0, .ref p), (1, .long w), (3, .int (nI m))]) (st' := [.int (Int32.ofInt 1), .int (nI m)]) (H1 := H) (fun _ _ => rfl) ?_
  refine am_X.if2 (off := 9) (t := 11) (by decide +kernel) (by decide +kernel) b1 ?_
  refine am_X.blk 2 (pc' := 8) (lv' := [(0, .ref p), (1, .long w), (3, .int (nI m))]) (st' := [.int (Int8.ofInt 8).toInt32, .int (nI m)]) (H1 := H) (fun _ _ => rfl) ?_
  refine am_X.if2 (off := 5) (t := 13) (by decide +kernel) (by decide +kernel) b2 ?_
  refine am_X.blk 1 (pc' := 14) (lv' := [(0, .ref p), (1, .long w), (3, .int (nI m))]) (st' := [.ref p]) (H1 := H) (fun _ _ => rfl) ?_
  refine am_X.getf (idx := 13) (ci := 11) (k := 1) (by decide +kernel) (by decide +kernel) hp rfl ?_
  refine am_X.blk 3 (pc' := 22) (lv' := [(0, .ref p), (1, .long w), (3, .int (nI m))]) (st' := [.int (Int16.ofInt 2000).toInt32, .int (nI t + nI m)]) (H1 := H) (fun _ _ => rfl) ?_
  refine am_X.if2 (off := 6) (t := 28) (by decide +kernel) (by decide +kernel) b3 ?_
  refine am_X.blk 4 (pc' := 33) (lv' := [(4, .int (nI m - Int32.ofInt 1)), (0, .ref p), (1, .long w), (3, .int (nI m))]) (st' := []) (H1 := H) (fun _ _ => rfl) ?_
  exact hx
set_option maxHeartbeats 4000000 in
set_option maxRecDepth 100000 in
/-- type() with another n -/
theorem s_typeX_bad {p : Nat} {w : Int64} {n : Int32} {H : am_H} (h : n < 1 ∨ ¬ n ≤ 8) : am_R gx_G 2 1 [.ref p, .long w, .int n] H (some (.int (Int32.ofInt (-1)))) H := by
  refine am_R.enter (M := gx_m1) rfl ⟨Nat.le_of_ble_eq_true rfl, Nat.le_of_ble_eq_true rfl⟩ ?_
  show am_X gx_G 1 gx_m1 0 [(0, .ref p), (1, .long w), (3, .int n)] [] H _ H
  refine am_X.blk 2 (pc' := 2) (lv' := [(0, .ref p), (1, .long w), (3, .int n)]) (st' := [.int (Int32.ofInt 1), .int n]) (H1 := H) (fun _ _ => rfl) ?_
  by_cases h1 : n < 1
  · refine am_X.if2 (off := 9) (t := 11) (kd := .lt) (by decide +kernel) (by decide +kernel) (b := true) (decide_eq_true (by rw [show Int32.ofInt 1 = 1 by decide +kernel]; exact h1)) ?_
    exact am_X.done 2 (fun _ _ => rfl)
  · have h2 := h.resolve_left h1
    refine am_X.if2 (off := 9) (t := 11) (kd := .lt) (by decide +kernel) (by decide +kernel) (b := false) (decide_eq_false (by rw [show Int32.ofInt 1 = 1 by decide +kernel]; exact h1)) ?_
    refine am_X.blk 2 (pc' := 8) (lv' := [(0, .ref p), (1, .long w), (3, .int n)]) (st' := [.int (Int8.ofInt 8).toInt32, .int n]) (H1 := H) (fun _ _ => rfl) ?_
    refine am_X.if2 (off := 5) (t := 13) (kd := .le) (by decide +kernel) (by decide +kernel) (b := false) (decide_eq_false (by rw [show (Int8.ofInt 8).toInt32 = 8 by decide +kernel]; exact h2)) ?_
    exact am_X.done 2 (fun _ _ => rfl)

set_option maxHeartbeats 4000000 in
set_option maxRecDepth 100000 in
theorem s_typeM_loop {p a : Nat} {w : Int64} {n : Int32} {fs : List Value} : ∀ (rem t : Nat) (H : am_H) (f : Nat → Int32) (kk : Int32), kk = nI rem - 1 → rem ≤ 8 → t + rem ≤ 2000 → H[p]? = some (.inr (12, .ref a :: .int (nI t) :: fs)) → H[a]? = some (.inl (.int, 2000, .inl f)) →
    ∃ (f' : Nat → Int32) (H' : am_H), am_X gx_G 1 gx_m137 33 [(4, .int kk), (0, .ref p), (1, .long w), (3, .int n)] [] H (some (.int (nI (t + rem)))) H' ∧ H'[p]? = some (.inr (12, .ref a :: .int (nI (t + rem)) :: fs)) ∧ H'[a]? = some (.inl (.int, 2000, .inl f')) ∧ (∀ q, q ≠ p → q ≠ a → H'[q]? = H[q]?) ∧ H'.length = H.length ∧ am_sz H' = am_sz H ∧ (∀ k, k < t → f' k = f k) ∧ (∀ i, i < rem → f' (t + i) = s_byteM w (nI (rem - 1 - i))) := by
  intro rem
  induction rem with
  | zero =>
    intro t H f kk hk h8 ht hp ha
    refine ⟨f, H, ?_, by simpa using hp, ha, fun _ _ _ => rfl, rfl, rfl, fun _ _ => rfl, fun i hi => absurd hi (by omega)⟩
    have hb : am_if1 .lt kk = true := by rw [hk]; decide +kernel
    refine am_X.blk 1 (pc' := 35) (lv' := [(4, .int kk), (0, .ref p), (1, .long w), (3, .int n)]) (st' := [.int kk]) (H1 := H) (fun _ _ => rfl) ?_
    refine am_X.if1 (off := 40) (t := 75) (by decide +kernel) (by decide +kernel) hb ?_
    refine am_X.blk 1 (pc' := 76) (lv' := [(4, .int kk), (0, .ref p), (1, .long w), (3, .int n)]) (st' := [.ref p]) (H1 := H) (fun _ _ => rfl) ?_
    refine am_X.getf (idx := 223) (ci := 12) (k := 1) (by decide +kernel) (by decide +kernel) hp rfl ?_
    exact am_X.done 1 (fun _ _ => rfl)
  | succ rem ih =>
    intro t H f kk hk h8 ht hp ha
    have hpa : p ≠ a := fun e => by rw [e, ha] at hp; cases hp
    have hk : kk = nI rem := by rw [hk]; exact nI_pred rem
    subst hk
    have hb : am_if1 .lt (nI rem) = false := decide_eq_false (nI_pos (by omega))
    have hj : am_inb (nI t) 2000 = true := decide_eq_true (vp_in_nI (by omega) (by omega))
    have ecl : (nI t).toNatClampNeg = t := nI_clamp (by omega)
    have e1 : nI t + Int32.ofInt 1 = nI (t + 1) := lw_k1 t
    have e2 : nI rem + Int32.ofInt (-1) = nI rem - 1 := by rw [Int32.sub_eq_add_neg]; congr 1
    have hp1 : (H.set a (.inl (.int, 2000, .inl (upd f (nI t).toNatClampNeg (s_byteM w (nI rem))))))[p]? = some (.inr (12, .ref a :: .int (nI t) :: fs)) := by rw [List.getElem?_set_ne (Ne.symm hpa)]; exact hp
    have hp2 : ((H.set a (.inl (.int, 2000, .inl (upd f (nI t).toNatClampNeg (s_byteM w (nI rem)))))).set p (.inr (12, (.ref a :: .int (nI t) :: fs).set 1 (.int (nI t + Int32.ofInt 1)))))[p]? = some (.inr (12, .ref a :: .int (nI (t + 1)) :: fs)) := by rw [am_set_get hp1, e1]; rfl
    have ha2 : ((H.set a (.inl (.int, 2000, .inl (upd f (nI t).toNatClampNeg (s_byteM w (nI rem)))))).set p (.inr (12, (.ref a :: .int (nI t) :: fs).set 1 (.int (nI t + Int32.ofInt 1)))))[a]? = some (.inl (.int, 2000, .inl (upd f (nI t).toNatClampNeg (s_byteM w (nI rem))))) := by rw [List.getElem?_set_ne hpa, am_set_get ha]
    obtain ⟨f', H', hx, q1, q2, q3, q4, q5, q6, q7⟩ := ih (t + 1) _ _ (nI rem - 1) rfl (by omega) (by omega) hp2 ha2
    have hz1 : am_sz (H.set a (.inl (.int, 2000, .inl (upd f (nI t).toNatClampNeg (s_byteM w (nI rem)))))) = am_sz H := am_sz_set ha rfl
    refine ⟨f', H', ?_, by rw [q1, show t + 1 + rem = t + (rem + 1) by omega], q2, fun q h1 h2 => by rw [q3 q h1 h2, List.getElem?_set_ne (Ne.symm h1), List.getElem?_set_ne (Ne.symm h2)], by rw [q4, List.length_set, List.length_set], q5.trans ((am_sz_set hp1 (by simp [am_cz])).trans hz1), fun k hk => by rw [q6 k (by omega), ecl, pk_un (by omega)], fun i hi => ?_⟩
    · refine am_X.blk 1 (pc' := 35) (lv' := [(4, .int (nI rem)), (0, .ref p), (1, .long w), (3, .int n)]) (st' := [.int (nI rem)]) (H1 := H) (fun _ _ => rfl) ?_
      refine am_X.if1 (off := 40) (t := 75) (by decide +kernel) (by decide +kernel) hb ?_
      refine am_X.blk 1 (pc' := 39) (lv' := [(4, .int (nI rem)), (0, .ref p), (1, .long w), (3, .int n)]) (st' := [.ref p]) (H1 := H) (fun _ _ => rfl) ?_
      refine am_X.getf (idx := 7) (ci := 12) (k := 0) (by decide +kernel) (by decide +kernel) hp rfl ?_
      refine am_X.blk 1 (pc' := 43) (lv' := [(4, .int (nI rem)), (0, .ref p), (1, .long w), (3, .int n)]) (st' := [.ref p, .ref a]) (H1 := H) (fun _ _ => rfl) ?_
      refine am_X.getf (idx := 223) (ci := 12) (k := 1) (by decide +kernel) (by decide +kernel) hp rfl ?_
      refine am_X.blk 4 (pc' := 52) (lv' := [(4, .int (nI rem)), (0, .ref p), (1, .long w), (3, .int n)]) (st' := [.int ((Int8.ofInt 8).toInt32 * nI rem), .long w, .int (nI t), .ref a]) (H1 := H) (fun _ _ => rfl) ?_
      refine am_X.blk 1 (pc' := 53) (lv' := [(4, .int (nI rem)), (0, .ref p), (1, .long w), (3, .int n)]) (st' := [.long (w >>> (((Int8.ofInt 8).toInt32 * nI rem).toInt64 &&& 63)), .int (nI t), .ref a]) (H1 := H) (fun _ _ => rfl) ?_
      refine am_X.go (i := .ldc2_w 227) (n := 3) (by decide +kernel) (am_one_ldc2 (a := 0) (c := 0) (v := 255) (by decide +kernel)) ?_
      refine am_X.blk 2 (pc' := 58) (lv' := [(4, .int (nI rem)), (0, .ref p), (1, .long w), (3, .int n)]) (st' := [.int (s_byteM w (nI rem)), .int (nI t), .ref a]) (H1 := H) (fun _ _ => rfl) ?_
      refine am_X.iast (by decide +kernel) ha hj ?_
      refine am_X.blk 2 (pc' := 61) (lv' := [(4, .int (nI rem)), (0, .ref p), (1, .long w), (3, .int n)]) (st' := [.ref p, .ref p]) (fun _ _ => rfl) ?_
      refine am_X.getf (idx := 223) (ci := 12) (k := 1) (by decide +kernel) (by decide +kernel) hp1 rfl ?_
      refine am_X.blk 2 (pc' := 66) (lv' := [(4, .int (nI rem)), (0, .ref p), (1, .long w), (3, .int n)]) (st' := [.int (nI t + Int32.ofInt 1), .ref p]) (fun _ _ => rfl) ?_
      refine am_X.putf (idx := 223) (ci := 12) (k := 1) (by decide +kernel) (by decide +kernel) hp1 (by simp) rfl ?_
      refine am_X.iinc (k := 4) (dn := -1) (x := nI rem) (y := nI rem - 1) (by decide +kernel) rfl (by decide +kernel) e2 ?_
      refine am_X.blk 1 (pc' := 33) (lv' := [(4, .int (nI rem - 1)), (0, .ref p), (1, .long w), (3, .int n)]) (st' := []) (fun _ _ => rfl) ?_
      rw [show t + (rem + 1) = t + 1 + rem by omega]
      exact hx
    · by_cases h0 : i = 0
      · subst h0
        rw [q6 (t + 0) (by omega), ecl, Nat.add_zero, pk_us, show rem + 1 - 1 - 0 = rem by omega]
      · have h1 := q7 (i - 1) (by omega)
        rw [show t + 1 + (i - 1) = t + i by omega, show rem - 1 - (i - 1) = rem + 1 - 1 - i by omega] at h1
        exact h1
set_option maxHeartbeats 4000000 in
set_option maxRecDepth 100000 in
/-- type(): the bytes come behind those of the tape -/
theorem s_typeM {p a t : Nat} {w : Int64} {fs : List Value} {H : am_H} {f : Nat → Int32} (m : Nat) (h1 : 1 ≤ m) (h8 : m ≤ 8) (ht : t + m ≤ 2000) (hp : H[p]? = some (.inr (12, .ref a :: .int (nI t) :: fs))) (ha : H[a]? = some (.inl (.int, 2000, .inl f))) :
    ∃ (f' : Nat → Int32) (H' : am_H), am_R gx_G 2 137 [.ref p, .long w, .int (nI m)] H (some (.int (nI (t + m)))) H' ∧ H'[p]? = some (.inr (12, .ref a :: .int (nI (t + m)) :: fs)) ∧ H'[a]? = some (.inl (.int, 2000, .inl f')) ∧ (∀ q, q ≠ p → q ≠ a → H'[q]? = H[q]?) ∧ H'.length = H.length ∧ am_sz H' = am_sz H ∧ (∀ k, k < t → f' k = f k) ∧ (∀ i, i < m → f' (t + i) = s_byteM w (nI (m - 1 - i))) := by
  obtain ⟨f', H', hx, q⟩ := s_typeM_loop (p := p) (a := a) (w := w) (n := nI m) (fs := fs) m t H f (nI m - Int32.ofInt 1) (by rw [show (Int32.ofInt 1 : Int32) = 1 by decide +kernel]) h8 ht hp ha
  refine ⟨f', H', am_R.enter (M := gx_m137) rfl ⟨Nat.le_of_ble_eq_true rfl, Nat.le_of_ble_eq_true rfl⟩ ?_, q⟩
  have b1 : am_if2 .lt (nI m) (Int32.ofInt 1) = false := decide_eq_false (by rw [show Int32.ofInt 1 = nI 1 by decide +kernel]; exact nI_nlt h1 (by omega))
  have b2 : am_if2 .le (nI m) (Int8.ofInt 8).toInt32 = true := decide_eq_true (by rw [show (Int8.ofInt 8).toInt32 = nI 8 by decide +kernel]; exact nI_le h8 (by omega))
  have b3 : am_if2 .le (nI t + nI m) (Int16.ofInt 2000).toInt32 = true := decide_eq_true (by rw [nI_add, show (Int16.ofInt 2000).toInt32 = nI 2000 by decide +kernel]; exact nI_le ht (by omega))
  show am_X gx_G 1 gx_m137 0 [(0, .ref p), (1, .long w), (3, .int (nI m))] [] H _ H'
  refine am_X.blk 2 (pc' := 2) (lv' := [(0, .ref p), (1, .long w), (3, .int (nI m))]) (st' := [.int (Int32.ofInt 1), .int (nI m)]) (H1 := H) (fun _ _ => rfl) ?_
  refine am_X.if2 (off := 9) (t := 11) (by decide +kernel) (by decide +kernel) b1 ?_
  refine am_X.blk 2 (pc' := 8) (lv' := [(0, .ref p), (1, .long w), (3, .int (nI m))]) (st' := [.int (Int8.ofInt 8).toInt32, .int (nI m)]) (H1 := H) (fun _ _ => rfl) ?_
  refine am_X.if2 (off := 5) (t := 13) (by decide +kernel) (by decide +kernel) b2 ?_
  refine am_X.blk 1 (pc' := 14) (lv' := [(0, .ref p), (1, .long w), (3, .int (nI m))]) (st' := [.ref p]) (H1 := H) (fun _ _ => rfl) ?_
  refine am_X.getf (idx := 223) (ci := 12) (k := 1) (by decide +kernel) (by decide +kernel) hp rfl ?_
  refine am_X.blk 3 (pc' := 22) (lv' := [(0, .ref p), (1, .long w), (3, .int (nI m))]) (st' := [.int (Int16.ofInt 2000).toInt32, .int (nI t + nI m)]) (H1 := H) (fun _ _ => rfl) ?_
  refine am_X.if2 (off := 6) (t := 28) (by decide +kernel) (by decide +kernel) b3 ?_
  refine am_X.blk 4 (pc' := 33) (lv' := [(4, .int (nI m - Int32.ofInt 1)), (0, .ref p), (1, .long w), (3, .int (nI m))]) (st' := []) (H1 := H) (fun _ _ => rfl) ?_
  exact hx
set_option maxHeartbeats 4000000 in
set_option maxRecDepth 100000 in
/-- type() with another n -/
theorem s_typeM_bad {p : Nat} {w : Int64} {n : Int32} {H : am_H} (h : n < 1 ∨ ¬ n ≤ 8) : am_R gx_G 2 137 [.ref p, .long w, .int n] H (some (.int (Int32.ofInt (-1)))) H := by
  refine am_R.enter (M := gx_m137) rfl ⟨Nat.le_of_ble_eq_true rfl, Nat.le_of_ble_eq_true rfl⟩ ?_
  show am_X gx_G 1 gx_m137 0 [(0, .ref p), (1, .long w), (3, .int n)] [] H _ H
  refine am_X.blk 2 (pc' := 2) (lv' := [(0, .ref p), (1, .long w), (3, .int n)]) (st' := [.int (Int32.ofInt 1), .int n]) (H1 := H) (fun _ _ => rfl) ?_
  by_cases h1 : n < 1
  · refine am_X.if2 (off := 9) (t := 11) (kd := .lt) (by decide +kernel) (by decide +kernel) (b := true) (decide_eq_true (by rw [show Int32.ofInt 1 = 1 by decide +kernel]; exact h1)) ?_
    exact am_X.done 2 (fun _ _ => rfl)
  · have h2 := h.resolve_left h1
    refine am_X.if2 (off := 9) (t := 11) (kd := .lt) (by decide +kernel) (by decide +kernel) (b := false) (decide_eq_false (by rw [show Int32.ofInt 1 = 1 by decide +kernel]; exact h1)) ?_
    refine am_X.blk 2 (pc' := 8) (lv' := [(0, .ref p), (1, .long w), (3, .int n)]) (st' := [.int (Int8.ofInt 8).toInt32, .int n]) (H1 := H) (fun _ _ => rfl) ?_
    refine am_X.if2 (off := 5) (t := 13) (kd := .le) (by decide +kernel) (by decide +kernel) (b := false) (decide_eq_false (by rw [show (Int8.ofInt 8).toInt32 = 8 by decide +kernel]; exact h2)) ?_
    exact am_X.done 2 (fun _ _ => rfl)
