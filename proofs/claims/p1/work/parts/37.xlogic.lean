/-! blocks and branches of a method's run -/
section XB
variable {G : am_G} {d : Nat} {M : am_M} {pc pc' t : Nat} {lv lv' : am_L} {st st' : List Value} {H H1 H' : am_H} {r : Option Value} {off : Int}
theorem am_X.blk (n : Nat) (h : ∀ (call : Nat → List Value → am_H → Option (Option Value × am_H)) (f : Nat), am_exec G call M (f + n) pc lv st H = am_exec G call M f pc' lv' st' H1) (k : am_X G d M pc' lv' st' H1 r H') : am_X G d M pc lv st H r H' := by
  obtain ⟨N, h2⟩ := k
  refine ⟨N + n, fun fuel f hf hf2 => ?_⟩
  obtain ⟨g, rfl⟩ : ∃ g, f = g + n := ⟨f - n, by omega⟩
  rw [h]
  exact h2 fuel g (by omega) (by omega)
theorem am_X.done (n : Nat) (h : ∀ (call : Nat → List Value → am_H → Option (Option Value × am_H)) (f : Nat), am_exec G call M (f + n) pc lv st H = some (r, H')) : am_X G d M pc lv st H r H' := by
  refine ⟨n, fun fuel f hf hf2 => ?_⟩
  obtain ⟨g, rfl⟩ : ∃ g, f = g + n := ⟨f - n, by omega⟩
  exact h _ _
theorem am_X.br1 {k : ClassFile.Cond} {x : Int32} {A B : Int32} (hrow : am_row M pc = some (.ifCond k off, 3)) (ht : am_jp pc off = some t) (hT : am_if1 k x = true → am_X G d M t lv st H (some (.int A)) H') (hF : am_if1 k x = false → am_X G d M (pc + 3) lv st H (some (.int B)) H') : am_X G d M pc lv (.int x :: st) H (some (.int (if am_if1 k x = true then A else B))) H' := by
  have hB : ∀ b, am_if1 k x = b → am_stB (.ifCond k off) 3 pc (.int x :: st) = some (if b = true then t else pc + 3, st) := by
    intro b hb
    dsimp only [am_stB, am_br]
    rw [ht, hb]
    rfl
  cases hb : am_if1 k x with
  | true => exact am_X.go hrow (am_one_B rfl (hB true hb)) (by simpa [hb] using hT hb)
  | false => exact am_X.go hrow (am_one_B rfl (hB false hb)) (by simpa [hb] using hF hb)
theorem am_X.br2 {k : ClassFile.Cond} {x y : Int32} {A B : Int32} (hrow : am_row M pc = some (.if_icmp k off, 3)) (ht : am_jp pc off = some t) (hT : am_if2 k x y = true → am_X G d M t lv st H (some (.int A)) H') (hF : am_if2 k x y = false → am_X G d M (pc + 3) lv st H (some (.int B)) H') : am_X G d M pc lv (.int y :: .int x :: st) H (some (.int (if am_if2 k x y = true then A else B))) H' := by
  have hB : ∀ b, am_if2 k x y = b → am_stB (.if_icmp k off) 3 pc (.int y :: .int x :: st) = some (if b = true then t else pc + 3, st) := by
    intro b hb
    dsimp only [am_stB, am_br]
    rw [ht, hb]
    rfl
  cases hb : am_if2 k x y with
  | true => exact am_X.go hrow (am_one_B rfl (hB true hb)) (by simpa [hb] using hT hb)
  | false => exact am_X.go hrow (am_one_B rfl (hB false hb)) (by simpa [hb] using hF hb)
theorem am_X.br1l {k : ClassFile.Cond} {x : Int32} {A B : Int64} (hrow : am_row M pc = some (.ifCond k off, 3)) (ht : am_jp pc off = some t) (hT : am_if1 k x = true → am_X G d M t lv st H (some (.long A)) H') (hF : am_if1 k x = false → am_X G d M (pc + 3) lv st H (some (.long B)) H') : am_X G d M pc lv (.int x :: st) H (some (.long (if am_if1 k x = true then A else B))) H' := by
  have hB : ∀ b, am_if1 k x = b → am_stB (.ifCond k off) 3 pc (.int x :: st) = some (if b = true then t else pc + 3, st) := by
    intro b hb
    dsimp only [am_stB, am_br]
    rw [ht, hb]
    rfl
  cases hb : am_if1 k x with
  | true => exact am_X.go hrow (am_one_B rfl (hB true hb)) (by simpa [hb] using hT hb)
  | false => exact am_X.go hrow (am_one_B rfl (hB false hb)) (by simpa [hb] using hF hb)
/-- a switch over 0, 1, .. -/
theorem am_X.sw {n N : Nat} {dflt hi : Int} {offs : Array Int} {x : Int32} {rs : Nat → Int32} {tq : Nat → Nat} {A : Int32} (hrow : am_row M pc = some (.tableswitch dflt 0 hi offs, n)) (hhi : hi = (N : Int)) (hq : ∀ q : Nat, q ≤ N → ∃ o, offs[q]? = some o ∧ am_jp pc o = some (tq q)) (ht : am_jp pc dflt = some t)
    (hall : ∀ q : Nat, q ≤ N → am_X G d M (tq q) lv st H (some (.int (rs q))) H') (hout : am_X G d M t lv st H (some (.int A)) H') : am_X G d M pc lv (.int x :: st) H (some (.int (if x.toInt < 0 ∨ hi < x.toInt then A else rs x.toInt.toNat))) H' := by
  by_cases hc : x.toInt < 0 ∨ hi < x.toInt
  · rw [if_pos hc]
    refine am_X.go (pc' := t) (lv' := lv) (st' := st) (H1 := H) hrow (am_one_B rfl ?_) hout
    dsimp only [am_stB]
    rw [if_pos hc]
    unfold am_jmp
    rw [ht]
  · rw [if_neg hc]
    have h1 : x.toInt.toNat ≤ N := by omega
    obtain ⟨o, ho, hj⟩ := hq _ h1
    refine am_X.go (pc' := tq x.toInt.toNat) (lv' := lv) (st' := st) (H1 := H) hrow (am_one_B rfl ?_) (hall _ h1)
    dsimp only [am_stB]
    rw [if_neg hc, show (x.toInt - 0).toNat = x.toInt.toNat by omega, ho]
    dsimp only
    unfold am_jmp
    rw [hj]
end XB
