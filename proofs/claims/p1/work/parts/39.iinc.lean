/-- iinc by a rule of its own (a block's 'rfl' over a negative number runs away in the kernel) -/
theorem am_X.iinc {G : am_G} {d : Nat} {M : am_M} {pc k : Nat} {lv : am_L} {st : List Value} {H H' : am_H} {r : Option Value} {dn : Int} {x y : Int32} (hrow : am_row M pc = some (.iinc k dn, 3)) (hl : am_ld lv k = some (.int x)) (hk : k < M.2.2.1) (hy : x + Int32.ofInt dn = y) (kk : am_X G d M (pc + 3) (am_s1 lv k (.int y)) st H r H') : am_X G d M pc lv st H r H' := by
  subst hy
  have hA : am_stA M.2.2.1 (.iinc k dn) 3 lv st = some (am_s1 lv k (.int (x + Int32.ofInt dn)), st) := by
    dsimp only [am_stA, am_inc]
    rw [hl]
    dsimp only
    rw [if_pos ⟨rfl, hk⟩]
  refine am_X.go (pc' := pc + 3) (lv' := am_s1 lv k (.int (x + Int32.ofInt dn))) (st' := st) (H1 := H) hrow (fun call => ?_) kk
  unfold am_one
  rw [hA]
