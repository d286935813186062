/-! the heap's instructions in a method's run, by what is known of the cells -/
theorem am_one_C {G : am_G} {M : am_M} {i : Instr} {n pc : Nat} {lv : am_L} {st st' : List Value} {H H1 : am_H} (hA : am_stA M.2.2.1 i n lv st = none) (hB : am_stB i n pc st = none) (hC : am_stC G M.1.cls (M.1.name == "<init>") i n st H = some (st', H1)) : ∀ call, am_one G call M i n pc lv st H = some (.inl (pc + n, lv, st', H1)) := by
  intro call
  unfold am_one
  rw [hA]
  dsimp only
  rw [hB]
  dsimp only
  rw [hC]
section XH
variable {G : am_G} {d : Nat} {M : am_M} {pc t : Nat} {lv : am_L} {st : List Value} {H H' : am_H} {r : Option Value} {a ci k idx w : Nat} {fs : List Value} {v : Value} {j x : Int32} {y : Int64} {f : Nat → Int32} {g : Nat → Int64}
theorem am_X.getf (hrow : am_row M pc = some (.getfield idx, 3)) (hlk : am_fld G M.1.cls idx = some (ci, k)) (hc : H[a]? = some (.inr (ci, fs))) (hv : fs[k]? = some v) (kk : am_X G d M (pc + 3) lv (v :: st) H r H') : am_X G d M pc lv (.ref a :: st) H r H' := by
  refine am_X.go hrow (am_one_C rfl rfl ?_) kk
  dsimp only [am_stC]
  rw [hlk]
  dsimp only [am_getf]
  rw [hc]
  dsimp only
  rw [if_pos rfl, hv]
  rfl
theorem am_X.putf (hrow : am_row M pc = some (.putfield idx, 3)) (hlk : am_fld G M.1.cls idx = some (ci, k)) (hc : H[a]? = some (.inr (ci, fs))) (hk : k < fs.length) (hok : am_canput G M.1.cls (M.1.name == "<init>") ci k v = true) (kk : am_X G d M (pc + 3) lv st (H.set a (.inr (ci, fs.set k v))) r H') : am_X G d M pc lv (v :: .ref a :: st) H r H' := by
  refine am_X.go hrow (am_one_C (by cases v <;> rfl) (by cases v <;> rfl) ?_) kk
  dsimp only [am_stC]
  rw [hlk]
  dsimp only [am_putf]
  rw [hc]
  dsimp only
  rw [if_pos ⟨rfl, hk, hok⟩]
  rfl
theorem am_X.iald (hrow : am_row M pc = some (.iaload, 1)) (hc : H[a]? = some (.inl (.int, w, .inl f))) (hj : am_inb j w = true) (kk : am_X G d M (pc + 1) lv (.int (f j.toNatClampNeg) :: st) H r H') : am_X G d M pc lv (.int j :: .ref a :: st) H r H' := by
  refine am_X.go hrow (am_one_C rfl rfl ?_) kk
  dsimp only [am_stC]
  rw [hc]
  dsimp only
  rw [if_pos ⟨rfl, hj⟩]
theorem am_X.zald (hrow : am_row M pc = some (.baload, 1)) (hc : H[a]? = some (.inl (.boolean, w, .inl f))) (hj : am_inb j w = true) (kk : am_X G d M (pc + 1) lv (.int (f j.toNatClampNeg) :: st) H r H') : am_X G d M pc lv (.int j :: .ref a :: st) H r H' := by
  refine am_X.go hrow (am_one_C rfl rfl ?_) kk
  dsimp only [am_stC]
  rw [hc]
  dsimp only
  rw [if_pos ⟨rfl, hj⟩]
theorem am_X.lald (hrow : am_row M pc = some (.laload, 1)) (hc : H[a]? = some (.inl (.long, w, .inr (.inl g)))) (hj : am_inb j w = true) (kk : am_X G d M (pc + 1) lv (.long (g j.toNatClampNeg) :: st) H r H') : am_X G d M pc lv (.int j :: .ref a :: st) H r H' := by
  refine am_X.go hrow (am_one_C rfl rfl ?_) kk
  dsimp only [am_stC]
  rw [hc]
  dsimp only
  rw [if_pos ⟨rfl, hj⟩]
theorem am_X.iast (hrow : am_row M pc = some (.iastore, 1)) (hc : H[a]? = some (.inl (.int, w, .inl f))) (hj : am_inb j w = true) (kk : am_X G d M (pc + 1) lv st (H.set a (.inl (.int, w, .inl (upd f j.toNatClampNeg x)))) r H') : am_X G d M pc lv (.int x :: .int j :: .ref a :: st) H r H' := by
  refine am_X.go hrow (am_one_C rfl rfl ?_) kk
  dsimp only [am_stC]
  rw [hc]
  dsimp only
  rw [if_pos ⟨rfl, hj⟩]
theorem am_X.zast (hrow : am_row M pc = some (.bastore, 1)) (hc : H[a]? = some (.inl (.boolean, w, .inl f))) (hj : am_inb j w = true) (kk : am_X G d M (pc + 1) lv st (H.set a (.inl (.boolean, w, .inl (upd f j.toNatClampNeg (vp_nar .boolean x))))) r H') : am_X G d M pc lv (.int x :: .int j :: .ref a :: st) H r H' := by
  refine am_X.go hrow (am_one_C rfl rfl ?_) kk
  dsimp only [am_stC]
  rw [hc]
  dsimp only
  rw [if_pos ⟨rfl, hj⟩]
theorem am_X.last (hrow : am_row M pc = some (.lastore, 1)) (hc : H[a]? = some (.inl (.long, w, .inr (.inl g)))) (hj : am_inb j w = true) (kk : am_X G d M (pc + 1) lv st (H.set a (.inl (.long, w, .inr (.inl (vp_updL g j.toNatClampNeg y))))) r H') : am_X G d M pc lv (.long y :: .int j :: .ref a :: st) H r H' := by
  refine am_X.go hrow (am_one_C rfl rfl ?_) kk
  dsimp only [am_stC]
  rw [hc]
  dsimp only
  rw [if_pos ⟨rfl, hj⟩]
theorem am_X.alen {ty : FieldType} {c : (Nat → Int32) ⊕ (Nat → Int64) ⊕ (Nat → UInt32) ⊕ (Nat → UInt64) ⊕ (Nat → Option Nat)} (hrow : am_row M pc = some (.arraylength, 1)) (hc : H[a]? = some (.inl (ty, w, c))) (hm : ty ∈ G.2.2.2.2) (kk : am_X G d M (pc + 1) lv (.int (Int32.ofNat w) :: st) H r H') : am_X G d M pc lv (.ref a :: st) H r H' := by
  refine am_X.go hrow (am_one_C rfl rfl ?_) kk
  dsimp only [am_stC]
  rw [hc]
  dsimp only
  rw [if_pos ⟨rfl, hm⟩]
/-- branches, one way -/
theorem am_X.if1 {kd : ClassFile.Cond} {off : Int} {b : Bool} (hrow : am_row M pc = some (.ifCond kd off, 3)) (ht : am_jp pc off = some t) (hb : am_if1 kd x = b) (kk : am_X G d M (if b = true then t else pc + 3) lv st H r H') : am_X G d M pc lv (.int x :: st) H r H' := by
  refine am_X.go hrow (am_one_B rfl ?_) kk
  dsimp only [am_stB, am_br]
  rw [ht, hb]
  rfl
theorem am_X.if2 {kd : ClassFile.Cond} {off : Int} {b : Bool} {x2 : Int32} (hrow : am_row M pc = some (.if_icmp kd off, 3)) (ht : am_jp pc off = some t) (hb : am_if2 kd x x2 = b) (kk : am_X G d M (if b = true then t else pc + 3) lv st H r H') : am_X G d M pc lv (.int x2 :: .int x :: st) H r H' := by
  refine am_X.go hrow (am_one_B rfl ?_) kk
  dsimp only [am_stB, am_br]
  rw [ht, hb]
  rfl
/-- a call of a method of a class, of which the run is known -/
theorem am_oneS {H1 : am_H} {jm kind : Nat} {z : Int64} {Mj : am_M} {as rest : List Value} {u : Option Value} (hA : am_stA M.2.2.1 (.invokestatic idx) 3 lv st = none) (hB : am_stB (.invokestatic idx) 3 pc st = none) (hC : am_stC G M.1.cls (M.1.name == "<init>") (.invokestatic idx) 3 st H = none) (hlk : G.2.2.1 M.1.cls idx = some (1, jm, kind, z)) (hkd : kind = 3 ∨ kind = 4) (hM : G.2.2.2.1[jm]? = some Mj) (hst : st = as.reverse ++ rest) (has : as.length = Mj.2.2.2.2.1) (hcat : (rest.map fun v => v.category).sum ≤ 8) (hR : am_R G d jm as H u H1) :
    ∃ N, ∀ fuel, N ≤ fuel → am_one G (am_call G fuel d) M (.invokestatic idx) 3 pc lv st H = some (.inl (pc + 3, lv, u.toList ++ rest, H1)) := by
  obtain ⟨N, hR⟩ := hR
  refine ⟨N, fun fuel hf => ?_⟩
  have e1 : st.drop Mj.2.2.2.2.1 = rest := by rw [hst, ← has, ← List.length_reverse, List.drop_left]
  have e2 : (st.take Mj.2.2.2.2.1).reverse = as := by rw [hst, ← has, ← List.length_reverse, List.take_left, List.reverse_reverse]
  have e3 : Mj.2.2.2.2.1 ≤ st.length := by rw [hst, ← has]; simp
  have hcs : am_cs G (am_call G fuel d) jm 3 st H = some (u.toList ++ rest, H1) := by
    unfold am_cs
    rw [hM]
    dsimp only
    rw [e1, if_pos ⟨rfl, e3, hcat⟩, e2, hR fuel hf]
    rfl
  have hD : am_stD G (am_call G fuel d) M.1.cls (.invokestatic idx) 3 st H = some (u.toList ++ rest, H1) := by
    dsimp only [am_stD]
    rw [hlk]
    rcases hkd with rfl | rfl
    · exact hcs
    · exact hcs
  unfold am_one
  rw [hA]
  dsimp only
  rw [hB]
  dsimp only
  rw [hC]
  dsimp only
  rw [hD]
end XH
