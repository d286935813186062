/-! the law's loop, written by wip/loopgen.py -/
def lw_I (d px pm : Nat) (P Q : am_H → Prop) (jx jm : Nat) (as : List Value) : Prop := ∀ H, P H → ∃ (v : Int32) (H1 H2 : am_H), am_isC gx_G H px "GrammarStream" = true ∧ am_isC gx_G H1 pm "GrammarStreamModel" = true ∧ am_R gx_G d jx (.ref px :: as) H (some (.int v)) H1 ∧ am_R gx_G d jm (.ref pm :: as) H1 (some (.int v)) H2 ∧ Q H2
def lw_J (d px pm : Nat) (P Q : am_H → Prop) (jx jm : Nat) (as : List Value) : Prop := ∀ H, P H → ∃ (v : Int64) (H1 H2 : am_H), am_isC gx_G H px "GrammarStream" = true ∧ am_isC gx_G H1 pm "GrammarStreamModel" = true ∧ am_R gx_G d jx (.ref px :: as) H (some (.long v)) H1 ∧ am_R gx_G d jm (.ref pm :: as) H1 (some (.long v)) H2 ∧ Q H2
theorem am_one_B {G : am_G} {M : am_M} {i : Instr} {n pc pc' : Nat} {lv : am_L} {st st' : List Value} {H : am_H} (hA : am_stA M.2.2.1 i n lv st = none) (hB : am_stB i n pc st = some (pc', st')) : ∀ call, am_one G call M i n pc lv st H = some (.inl (pc', lv, st', H)) := by
  intro call
  unfold am_one
  rw [hA]
  dsimp only
  rw [hB]
theorem am_one_R {G : am_G} {M : am_M} {i : Instr} {n pc : Nat} {lv : am_L} {st : List Value} {H : am_H} {r : Option Value} (hA : am_stA M.2.2.1 i n lv st = none) (hB : am_stB i n pc st = none) (hC : am_stC G M.1.cls (M.1.name == "<init>") i n st H = none) (hD : ∀ call, am_stD G call M.1.cls i n st H = none) (hR : am_ret M.2.2.2.1 i n st = some r) : ∀ call, am_one G call M i n pc lv st H = some (.inr (r, H)) := by
  intro call
  unfold am_one
  rw [hA]
  dsimp only
  rw [hB]
  dsimp only
  rw [hC]
  dsimp only
  rw [hD]
  dsimp only
  rw [hR]
/-- what each of the law's calls must keep: class and reference answer alike -/
def lw_steps (d px pm : Nat) (P Q : am_H → Prop) : Prop :=
  (∀ (w : Int64) (a1 : Int32), lw_I d px pm P Q 1 137 [.long w, .int a1])
  ∧ (lw_I d px pm P Q 3 138 [])
  ∧ (∀ (a0 : Int32), lw_I d px pm P Q 95 184 [.int a0])
  ∧ (∀ (a0 : Int32), lw_I d px pm P Q 96 185 [.int a0])
  ∧ (∀ (a0 : Int32) (a1 : Int32), lw_I d px pm P Q 97 186 [.int a0, .int a1])
  ∧ (∀ (a0 : Int32) (a1 : Int32), lw_I d px pm P Q 100 189 [.int a0, .int a1])
  ∧ (∀ (a0 : Int32), lw_I d px pm P Q 102 191 [.int a0])
  ∧ (∀ (a0 : Int32) (a1 : Int32), lw_I d px pm P Q 103 192 [.int a0, .int a1])
  ∧ (∀ (a0 : Int32), lw_I d px pm P Q 105 193 [.int a0])
  ∧ (∀ (a0 : Int32) (a1 : Int32), lw_I d px pm P Q 106 194 [.int a0, .int a1])
  ∧ (∀ (a0 : Int32) (a1 : Int32), lw_I d px pm P Q 107 195 [.int a0, .int a1])
  ∧ (∀ (a0 : Int32), lw_J d px pm P Q 108 196 [.int a0])
  ∧ (∀ (w : Int64) (a1 : Int32), lw_I d px pm P Q 117 199 [.long w, .int a1])
  ∧ (lw_I d px pm P Q 128 203 [])
  ∧ (lw_I d px pm P Q 130 204 [])
  ∧ (∀ (a0 : Int32), lw_I d px pm P Q 131 205 [.int a0])
  ∧ (∀ (a0 : Int32) (a1 : Int32), lw_I d px pm P Q 132 206 [.int a0, .int a1])
  ∧ (∀ (a0 : Int32) (a1 : Int32), lw_I d px pm P Q 133 207 [.int a0, .int a1])
  ∧ (∀ (a0 : Int32), lw_I d px pm P Q 134 208 [.int a0])
  ∧ (∀ H, P H → Q H)
def lw_tg (q : Nat) : Nat := ([124, 187, 200, 223, 246, 279, 312, 335, 368, 391, 424, 457, 481, 544, 557, 570, 593, 626, 659] : List Nat).getD q 682
set_option maxRecDepth 100000 in
theorem lw_sw : ∀ q, q < 32 → am_stB (.tableswitch 650 0 18 #[92, 155, 168, 191, 214, 247, 280, 303, 336, 359, 392, 425, 449, 512, 525, 538, 561, 594, 627]) 92 32 [.int (nI q)] = some (lw_tg q, []) := by decide +kernel
theorem lw_k1 (n : Nat) : nI n + Int32.ofInt 1 = nI (n + 1) := by rw [show (Int32.ofInt 1 : Int32) = nI 1 by decide +kernel, nI_add]
theorem lw_k2 (n : Nat) : nI n + Int32.ofInt 2 = nI (n + 2) := by rw [show (Int32.ofInt 2 : Int32) = nI 2 by decide +kernel, nI_add]
theorem lw_k3 (n : Nat) : nI n + Int32.ofInt 3 = nI (n + 3) := by rw [show (Int32.ofInt 3 : Int32) = nI 3 by decide +kernel, nI_add]
theorem lw_k4 (n : Nat) : nI n + Int32.ofInt 4 = nI (n + 4) := by rw [show (Int32.ofInt 4 : Int32) = nI 4 by decide +kernel, nI_add]
theorem lw_inb {n L : Nat} (h : n < L) (hL : L ≤ 4096) : am_inb (nI n) L = true := decide_eq_true (vp_in_nI h (by omega))
theorem lw_cmp {n L : Nat} (hn : n ≤ 8192) (hL : L ≤ 4096) : (Int32.ofNat L - Int32.ofInt 4 < nI n) ↔ L < n + 4 := by
  have e : (Int32.ofInt 4 : Int32) = nI 4 := by decide +kernel
  rw [e, show Int32.ofNat L = nI L from rfl, Int32.lt_iff_toInt_lt, pk_sub_toInt (by omega) (by omega), nI_toInt (by omega)]
  omega
set_option maxHeartbeats 4000000 in
set_option maxRecDepth 100000 in
theorem lw_round {d px pm b L : Nat} {xs : Nat → Int32} {P Q : am_H → Prop} (hs : lw_steps d px pm P Q) {n : Nat} (hL : L ≤ 4096) (hn : n + 4 ≤ L) {H : am_H} (hP : P H) :
    ∃ H2, Q H2 ∧ ∀ {r : Option Value} {H' : am_H}, am_XL gx_G d gx_ML b L xs 18 (lw_lv b px pm (nI (n + 4))) [] H2 r H' → am_XL gx_G d gx_ML b L xs 18 (lw_lv b px pm (nI n)) [] H r H' := by
  have h0 := lw_inb (n := n) (L := L) (by omega) hL
  have h1 : am_inb (nI n + Int32.ofInt 1) L = true := by rw [lw_k1]; exact lw_inb (by omega) hL
  have h2 : am_inb (nI n + Int32.ofInt 2) L = true := by rw [lw_k2]; exact lw_inb (by omega) hL
  have h3 : am_inb (nI n + Int32.ofInt 3) L = true := by rw [lw_k3]; exact lw_inb (by omega) hL
  obtain ⟨q, hq, eq⟩ := pk_andE (xs (nI n).toNatClampNeg) (m := (Int8.ofInt 31).toInt32) 5 (by decide +kernel)
  have hq : q < 32 := hq
  have back : ∀ {H2 H' : am_H} {r : Option Value}, am_XL gx_G d gx_ML b L xs 18 (lw_lv b px pm (nI (n + 4))) [] H2 r H' → am_XL gx_G d gx_ML b L xs 682 (lw_lv b px pm (nI n)) [] H2 r H' := by
    intro H2 H' r k
    refine am_XL.go (i := .iinc 3 4) (n := 3) (pc' := 685) (lv' := lw_lv b px pm (nI (n + 4))) (st' := []) (H1 := H2) (by decide +kernel) rfl (fun _ => by rw [← lw_k4]; rfl) ?_
    refine am_XL.go (i := .goto (-667)) (n := 3) (pc' := 18) (lv' := lw_lv b px pm (nI (n + 4))) (st' := []) (H1 := H2) (by decide +kernel) rfl (fun _ => rfl) ?_
    exact k
  have fore : ∀ {H' : am_H} {r : Option Value}, am_XL gx_G d gx_ML b L xs (lw_tg q) (lw_lv b px pm (nI n)) [] H r H' → am_XL gx_G d gx_ML b L xs 18 (lw_lv b px pm (nI n)) [] H r H' := by
    intro H' r k
    refine am_XL.go (i := .iload_n 3) (n := 1) (pc' := 19) (lv' := lw_lv b px pm (nI n)) (st' := [.int (nI n)]) (H1 := H) (by decide +kernel) rfl (fun _ => rfl) ?_
    refine am_XL.go (i := .aload_n 0) (n := 1) (pc' := 20) (lv' := lw_lv b px pm (nI n)) (st' := [.retAddr b, .int (nI n)]) (H1 := H) (by decide +kernel) rfl (fun _ => rfl) ?_
    refine am_XL.goS (i := .arraylength) (n := 1) (st' := [.int (Int32.ofNat L), .int (nI n)]) (by decide +kernel) am_stS_len ?_
    refine am_XL.go (i := .iconst 4) (n := 1) (pc' := 22) (lv' := lw_lv b px pm (nI n)) (st' := [.int (Int32.ofInt 4), .int (Int32.ofNat L), .int (nI n)]) (H1 := H) (by decide +kernel) rfl (fun _ => rfl) ?_
    refine am_XL.go (i := .isub) (n := 1) (pc' := 23) (lv' := lw_lv b px pm (nI n)) (st' := [.int (Int32.ofNat L - Int32.ofInt 4), .int (nI n)]) (H1 := H) (by decide +kernel) rfl (fun _ => rfl) ?_
    refine am_XL.go (i := .if_icmp .gt 665) (n := 3) (pc' := 26) (lv' := lw_lv b px pm (nI n)) (st' := []) (H1 := H) (by decide +kernel) rfl (am_gtF (t := 688) (fun h => by have := (lw_cmp (by omega) hL).mp h; omega) (by decide +kernel)) ?_
    refine am_XL.go (i := .aload_n 0) (n := 1) (pc' := 27) (lv' := lw_lv b px pm (nI n)) (st' := [.retAddr b]) (H1 := H) (by decide +kernel) rfl (fun _ => rfl) ?_
    refine am_XL.go (i := .iload_n 3) (n := 1) (pc' := 28) (lv' := lw_lv b px pm (nI n)) (st' := [.int (nI n), .retAddr b]) (H1 := H) (by decide +kernel) rfl (fun _ => rfl) ?_
    refine am_XL.goS (i := .iaload) (n := 1) (st' := [.int (xs (nI n).toNatClampNeg)]) (by decide +kernel) (am_stS_ld h0) ?_
    refine am_XL.go (i := .bipush 31) (n := 2) (pc' := 31) (lv' := lw_lv b px pm (nI n)) (st' := [.int (Int8.ofInt 31).toInt32, .int (xs (nI n).toNatClampNeg)]) (H1 := H) (by decide +kernel) rfl (fun _ => rfl) ?_
    refine am_XL.go (i := .iand) (n := 1) (pc' := 32) (lv' := lw_lv b px pm (nI n)) (st' := [.int (xs (nI n).toNatClampNeg &&& (Int8.ofInt 31).toInt32)]) (H1 := H) (by decide +kernel) rfl (fun _ => rfl) ?_
    rw [eq]
    refine am_XL.go (i := .tableswitch 650 0 18 #[92, 155, 168, 191, 214, 247, 280, 303, 336, 359, 392, 425, 449, 512, 525, 538, 561, 594, 627]) (n := 92) (pc' := lw_tg q) (lv' := lw_lv b px pm (nI n)) (st' := []) (H1 := H) (by decide +kernel) rfl (am_one_B rfl (lw_sw q hq)) ?_
    exact k
  rcases (show q = 0 ∨ q = 1 ∨ q = 2 ∨ q = 3 ∨ q = 4 ∨ q = 5 ∨ q = 6 ∨ q = 7 ∨ q = 8 ∨ q = 9 ∨ q = 10 ∨ q = 11 ∨ q = 12 ∨ q = 13 ∨ q = 14 ∨ q = 15 ∨ q = 16 ∨ q = 17 ∨ q = 18 ∨ 19 ≤ q by omega) with rfl | rfl | rfl | rfl | rfl | rfl | rfl | rfl | rfl | rfl | rfl | rfl | rfl | rfl | rfl | rfl | rfl | rfl | rfl | hb
  · obtain ⟨v, H1, H2, hx, hm, hR1, hR2, hQ⟩ := hs.1 _ _ H hP
    exact ⟨H2, hQ, fun k => fore (lw_case0 h1 h2 h3 hx hm hR1 hR2 (back k))⟩
  · obtain ⟨v, H1, H2, hx, hm, hR1, hR2, hQ⟩ := hs.2.1 H hP
    exact ⟨H2, hQ, fun k => fore (lw_case1  hx hm hR1 hR2 (back k))⟩
  · obtain ⟨v, H1, H2, hx, hm, hR1, hR2, hQ⟩ := hs.2.2.1 _ H hP
    exact ⟨H2, hQ, fun k => fore (lw_case2 h1 hx hm hR1 hR2 (back k))⟩
  · obtain ⟨v, H1, H2, hx, hm, hR1, hR2, hQ⟩ := hs.2.2.2.1 _ H hP
    exact ⟨H2, hQ, fun k => fore (lw_case3 h1 hx hm hR1 hR2 (back k))⟩
  · obtain ⟨v, H1, H2, hx, hm, hR1, hR2, hQ⟩ := hs.2.2.2.2.1 _ _ H hP
    exact ⟨H2, hQ, fun k => fore (lw_case4 h1 h2 hx hm hR1 hR2 (back k))⟩
  · obtain ⟨v, H1, H2, hx, hm, hR1, hR2, hQ⟩ := hs.2.2.2.2.2.1 _ _ H hP
    exact ⟨H2, hQ, fun k => fore (lw_case5 h1 h2 hx hm hR1 hR2 (back k))⟩
  · obtain ⟨v, H1, H2, hx, hm, hR1, hR2, hQ⟩ := hs.2.2.2.2.2.2.1 _ H hP
    exact ⟨H2, hQ, fun k => fore (lw_case6 h1 hx hm hR1 hR2 (back k))⟩
  · obtain ⟨v, H1, H2, hx, hm, hR1, hR2, hQ⟩ := hs.2.2.2.2.2.2.2.1 _ _ H hP
    exact ⟨H2, hQ, fun k => fore (lw_case7 h1 h2 hx hm hR1 hR2 (back k))⟩
  · obtain ⟨v, H1, H2, hx, hm, hR1, hR2, hQ⟩ := hs.2.2.2.2.2.2.2.2.1 _ H hP
    exact ⟨H2, hQ, fun k => fore (lw_case8 h1 hx hm hR1 hR2 (back k))⟩
  · obtain ⟨v, H1, H2, hx, hm, hR1, hR2, hQ⟩ := hs.2.2.2.2.2.2.2.2.2.1 _ _ H hP
    exact ⟨H2, hQ, fun k => fore (lw_case9 h1 h2 hx hm hR1 hR2 (back k))⟩
  · obtain ⟨v, H1, H2, hx, hm, hR1, hR2, hQ⟩ := hs.2.2.2.2.2.2.2.2.2.2.1 _ _ H hP
    exact ⟨H2, hQ, fun k => fore (lw_case10 h1 h2 hx hm hR1 hR2 (back k))⟩
  · obtain ⟨v, H1, H2, hx, hm, hR1, hR2, hQ⟩ := hs.2.2.2.2.2.2.2.2.2.2.2.1 _ H hP
    exact ⟨H2, hQ, fun k => fore (lw_case11 h1 hx hm hR1 hR2 (back k))⟩
  · obtain ⟨v, H1, H2, hx, hm, hR1, hR2, hQ⟩ := hs.2.2.2.2.2.2.2.2.2.2.2.2.1 _ _ H hP
    exact ⟨H2, hQ, fun k => fore (lw_case12 h1 h2 h3 hx hm hR1 hR2 (back k))⟩
  · obtain ⟨v, H1, H2, hx, hm, hR1, hR2, hQ⟩ := hs.2.2.2.2.2.2.2.2.2.2.2.2.2.1 H hP
    exact ⟨H2, hQ, fun k => fore (lw_case13  hx hm hR1 hR2 (back k))⟩
  · obtain ⟨v, H1, H2, hx, hm, hR1, hR2, hQ⟩ := hs.2.2.2.2.2.2.2.2.2.2.2.2.2.2.1 H hP
    exact ⟨H2, hQ, fun k => fore (lw_case14  hx hm hR1 hR2 (back k))⟩
  · obtain ⟨v, H1, H2, hx, hm, hR1, hR2, hQ⟩ := hs.2.2.2.2.2.2.2.2.2.2.2.2.2.2.2.1 _ H hP
    exact ⟨H2, hQ, fun k => fore (lw_case15 h1 hx hm hR1 hR2 (back k))⟩
  · obtain ⟨v, H1, H2, hx, hm, hR1, hR2, hQ⟩ := hs.2.2.2.2.2.2.2.2.2.2.2.2.2.2.2.2.1 _ _ H hP
    exact ⟨H2, hQ, fun k => fore (lw_case16 h1 h2 hx hm hR1 hR2 (back k))⟩
  · obtain ⟨v, H1, H2, hx, hm, hR1, hR2, hQ⟩ := hs.2.2.2.2.2.2.2.2.2.2.2.2.2.2.2.2.2.1 _ _ H hP
    exact ⟨H2, hQ, fun k => fore (lw_case17 h1 h2 hx hm hR1 hR2 (back k))⟩
  · obtain ⟨v, H1, H2, hx, hm, hR1, hR2, hQ⟩ := hs.2.2.2.2.2.2.2.2.2.2.2.2.2.2.2.2.2.2.1 _ H hP
    exact ⟨H2, hQ, fun k => fore (lw_case18 h1 hx hm hR1 hR2 (back k))⟩
  · refine ⟨H, hs.2.2.2.2.2.2.2.2.2.2.2.2.2.2.2.2.2.2.2 H hP, fun k => fore ?_⟩
    have e : lw_tg q = 682 := by unfold lw_tg; rw [List.getD_eq_getElem?_getD, List.getElem?_eq_none (by simpa using hb)]; rfl
    rw [e]
    exact back k
/-- the loop, to its end -/
theorem lw_run {d px pm b L : Nat} {xs : Nat → Int32} {Inv : Nat → am_H → Prop} (hL : L ≤ 4096) (hs : ∀ k, 4 * k + 4 ≤ L → lw_steps d px pm (Inv k) (Inv (k + 1))) : ∀ (t k : Nat) (H : am_H), Inv k H → 4 * k ≤ L + 4 → L < 4 * k + 4 * t + 4 → ∃ (k' : Nat) (H' : am_H), Inv k' H' ∧ am_XL gx_G d gx_ML b L xs 18 (lw_lv b px pm (nI (4 * k))) [] H (some (.int 1)) H' := by
  intro t
  induction t with
  | zero =>
    intro k H hI hk ht
    refine ⟨k, H, hI, ?_⟩
    refine am_XL.go (i := .iload_n 3) (n := 1) (pc' := 19) (lv' := lw_lv b px pm (nI (4 * k))) (st' := [.int (nI (4 * k))]) (H1 := H) (by decide +kernel) rfl (fun _ => rfl) ?_
    refine am_XL.go (i := .aload_n 0) (n := 1) (pc' := 20) (lv' := lw_lv b px pm (nI (4 * k))) (st' := [.retAddr b, .int (nI (4 * k))]) (H1 := H) (by decide +kernel) rfl (fun _ => rfl) ?_
    refine am_XL.goS (i := .arraylength) (n := 1) (st' := [.int (Int32.ofNat L), .int (nI (4 * k))]) (by decide +kernel) am_stS_len ?_
    refine am_XL.go (i := .iconst 4) (n := 1) (pc' := 22) (lv' := lw_lv b px pm (nI (4 * k))) (st' := [.int (Int32.ofInt 4), .int (Int32.ofNat L), .int (nI (4 * k))]) (H1 := H) (by decide +kernel) rfl (fun _ => rfl) ?_
    refine am_XL.go (i := .isub) (n := 1) (pc' := 23) (lv' := lw_lv b px pm (nI (4 * k))) (st' := [.int (Int32.ofNat L - Int32.ofInt 4), .int (nI (4 * k))]) (H1 := H) (by decide +kernel) rfl (fun _ => rfl) ?_
    refine am_XL.go (i := .if_icmp .gt 665) (n := 3) (pc' := 688) (lv' := lw_lv b px pm (nI (4 * k))) (st' := []) (H1 := H) (by decide +kernel) rfl (am_gtT (t := 688) ((lw_cmp (by omega) hL).mpr (by omega)) (by decide +kernel)) ?_
    refine am_XL.go (i := .iconst 1) (n := 1) (pc' := 689) (lv' := lw_lv b px pm (nI (4 * k))) (st' := [.int (Int32.ofInt 1)]) (H1 := H) (by decide +kernel) rfl (fun _ => rfl) ?_
    exact am_XL.ret (i := .ireturn) (n := 1) (by decide +kernel) rfl (am_one_R (r := some (.int 1)) rfl rfl rfl (fun _ => rfl) (by decide +kernel))
  | succ t ih =>
    intro k H hI hk ht
    by_cases hlt : L < 4 * k + 4
    · exact (ih k H hI hk (by omega))
    · obtain ⟨H2, hQ, hgo⟩ := lw_round (b := b) (xs := xs) (hs k (by omega)) (n := 4 * k) hL (by omega) hI
      obtain ⟨k', H', hI', hr⟩ := ih (k + 1) H2 hQ (by omega) (by omega)
      exact ⟨k', H', hI', hgo (by rw [show 4 * k + 4 = 4 * (k + 1) by omega]; exact hr)⟩
