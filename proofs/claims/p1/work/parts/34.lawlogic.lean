/-! the law's runs, whatever the fuel from some on -/
def am_XL (G : am_G) (d : Nat) (M : am_M) (b L : Nat) (xs : Nat → Int32) (pc : Nat) (lv : am_L) (st : List Value) (H : am_H) (r : Option Value) (H' : am_H) : Prop := ∃ N, ∀ fuel f, N ≤ fuel → N ≤ f → am_execL G (am_call G fuel d) M b L xs f pc lv st H = some (r, H')
section XL
variable {G : am_G} {d : Nat} {M : am_M} {b L : Nat} {xs : Nat → Int32} {pc pc' : Nat} {lv lv' : am_L} {st st' : List Value} {H H1 H' : am_H} {r : Option Value} {i : Instr} {n : Nat}
theorem am_XL.goS (hrow : am_row M pc = some (i, n)) (h1 : am_stS b L xs i n st = some st') (k : am_XL G d M b L xs (pc + n) lv st' H r H') : am_XL G d M b L xs pc lv st H r H' := by
  obtain ⟨N, h⟩ := k
  refine ⟨N + 1, fun fuel f hf hf2 => ?_⟩
  cases f with
  | zero => omega
  | succ f =>
    unfold am_execL
    rw [hrow]
    dsimp only
    rw [h1]
    exact h fuel f (by omega) (by omega)
theorem am_XL.goD (hrow : am_row M pc = some (i, n)) (h0 : am_stS b L xs i n st = none) (h1 : ∃ N, ∀ fuel, N ≤ fuel → am_one G (am_call G fuel d) M i n pc lv st H = some (.inl (pc', lv', st', H1))) (k : am_XL G d M b L xs pc' lv' st' H1 r H') : am_XL G d M b L xs pc lv st H r H' := by
  obtain ⟨N, h⟩ := k
  obtain ⟨N1, h1⟩ := h1
  refine ⟨N + N1 + 1, fun fuel f hf hf2 => ?_⟩
  cases f with
  | zero => omega
  | succ f =>
    unfold am_execL
    rw [hrow]
    dsimp only
    rw [h0]
    dsimp only
    rw [h1 fuel (by omega)]
    exact h fuel f (by omega) (by omega)
theorem am_XL.go (hrow : am_row M pc = some (i, n)) (h0 : am_stS b L xs i n st = none) (h1 : ∀ call, am_one G call M i n pc lv st H = some (.inl (pc', lv', st', H1))) (k : am_XL G d M b L xs pc' lv' st' H1 r H') : am_XL G d M b L xs pc lv st H r H' := am_XL.goD hrow h0 ⟨0, fun _ _ => h1 _⟩ k
theorem am_XL.ret (hrow : am_row M pc = some (i, n)) (h0 : am_stS b L xs i n st = none) (h1 : ∀ call, am_one G call M i n pc lv st H = some (.inr (r, H))) : am_XL G d M b L xs pc lv st H r H := by
  refine ⟨1, fun fuel f hf hf2 => ?_⟩
  cases f with
  | zero => omega
  | succ f =>
    unfold am_execL
    rw [hrow]
    dsimp only
    rw [h0]
    dsimp only
    rw [h1]
/-- a call of an object's method, of which the run is known -/
theorem am_oneV {own : String} {idx j : Nat} {z : Int64} {Mj : am_M} {as : List Value} {p : Nat} {rest : List Value} {v : Option Value} (hA : am_stA M.2.2.1 (.invokevirtual idx) 3 lv st = none) (hB : am_stB (.invokevirtual idx) 3 pc st = none) (hC : am_stC G M.1.cls (M.1.name == "<init>") (.invokevirtual idx) 3 st H = none) (hlk : G.2.2.1 M.1.cls idx = some (1, j, 0, z)) (hM : G.2.2.2.1[j]? = some Mj) (hst : st = as.reverse ++ .ref p :: rest) (has : as.length = Mj.2.2.2.2.1) (hcat : (rest.map fun v => v.category).sum ≤ 8) (hcls : am_isC G H p Mj.1.cls = true) (hR : am_R G d j (.ref p :: as) H v H1) :
    ∃ N, ∀ fuel, N ≤ fuel → am_one G (am_call G fuel d) M (.invokevirtual idx) 3 pc lv st H = some (.inl (pc + 3, lv, v.toList ++ rest, H1)) := by
  obtain ⟨N, hR⟩ := hR
  refine ⟨N, fun fuel hf => ?_⟩
  have hD : am_stD G (am_call G fuel d) M.1.cls (.invokevirtual idx) 3 st H = some (v.toList ++ rest, H1) := by
    dsimp only [am_stD]
    rw [hlk]
    show am_cv G (am_call G fuel d) j 3 true st H = _
    unfold am_cv
    rw [hM]
    dsimp only
    have e1 : st.drop Mj.2.2.2.2.1 = .ref p :: rest := by rw [hst, ← has, ← List.length_reverse, List.drop_left]
    have e2 : (st.take Mj.2.2.2.2.1).reverse = as := by rw [hst, ← has, ← List.length_reverse, List.take_left, List.reverse_reverse]
    have e3 : Mj.2.2.2.2.1 ≤ st.length := by rw [hst, ← has]; simp
    rw [e1]
    dsimp only
    rw [if_pos ⟨rfl, e3, hcat, fun _ => hcls⟩, e2, hR fuel hf]
    rfl
  unfold am_one
  rw [hA]
  dsimp only
  rw [hB]
  dsimp only
  rw [hC]
  dsimp only
  rw [hD]
end XL
theorem am_eqi {G : am_G} {M : am_M} {pc t : Nat} {off : Int} {lv : am_L} {st : List Value} {H : am_H} {x y : Int32} (h : x = y) (ht : am_jp pc off = some t) : ∀ call, am_one G call M (.if_icmp .eq off) 3 pc lv (.int y :: .int x :: st) H = some (.inl (t, lv, st, H)) := by
  intro call
  have hB : am_stB (.if_icmp .eq off) 3 pc (.int y :: .int x :: st) = some (t, st) := by
    dsimp only [am_stB, am_br, am_if2]
    rw [ht]
    simp [h]
  unfold am_one
  rw [show am_stA M.2.2.1 (.if_icmp .eq off) 3 lv (.int y :: .int x :: st) = none from rfl]
  dsimp only
  rw [hB]
theorem am_eq0 {G : am_G} {M : am_M} {pc t : Nat} {off : Int} {lv : am_L} {st : List Value} {H : am_H} {x : Int32} (h : x = 0) (ht : am_jp pc off = some t) : ∀ call, am_one G call M (.ifCond .eq off) 3 pc lv (.int x :: st) H = some (.inl (t, lv, st, H)) := by
  intro call
  have hB : am_stB (.ifCond .eq off) 3 pc (.int x :: st) = some (t, st) := by
    dsimp only [am_stB, am_br, am_if1]
    rw [ht]
    simp [h]
  unfold am_one
  rw [show am_stA M.2.2.1 (.ifCond .eq off) 3 lv (.int x :: st) = none from rfl]
  dsimp only
  rw [hB]
theorem am_gtT {G : am_G} {M : am_M} {pc t : Nat} {off : Int} {lv : am_L} {st : List Value} {H : am_H} {x y : Int32} (h : y < x) (ht : am_jp pc off = some t) : ∀ call, am_one G call M (.if_icmp .gt off) 3 pc lv (.int y :: .int x :: st) H = some (.inl (t, lv, st, H)) := by
  intro call
  have hB : am_stB (.if_icmp .gt off) 3 pc (.int y :: .int x :: st) = some (t, st) := by
    dsimp only [am_stB, am_br, am_if2]
    rw [ht]
    simp [h]
  unfold am_one
  rw [show am_stA M.2.2.1 (.if_icmp .gt off) 3 lv (.int y :: .int x :: st) = none from rfl]
  dsimp only
  rw [hB]
theorem am_gtF {G : am_G} {M : am_M} {pc t : Nat} {off : Int} {lv : am_L} {st : List Value} {H : am_H} {x y : Int32} (h : ¬ y < x) (ht : am_jp pc off = some t) : ∀ call, am_one G call M (.if_icmp .gt off) 3 pc lv (.int y :: .int x :: st) H = some (.inl (pc + 3, lv, st, H)) := by
  intro call
  have hB : am_stB (.if_icmp .gt off) 3 pc (.int y :: .int x :: st) = some (pc + 3, st) := by
    dsimp only [am_stB, am_br, am_if2]
    rw [ht]
    simp [h]
  unfold am_one
  rw [show am_stA M.2.2.1 (.if_icmp .gt off) 3 lv (.int y :: .int x :: st) = none from rfl]
  dsimp only
  rw [hB]
theorem am_lcmp_self (x : Int64) : lg_cmp x x = 0 := by
  unfold lg_cmp
  simp
