section
/-! THE ABSTRACT MACHINE: a pure interpreter over decoded rows; references are places in a list of cells. -/
abbrev am_C : Type := (FieldType × vp_A) ⊕ (Nat × List Value)
abbrev am_H : Type := List am_C
abbrev am_L : Type := List (Nat × Value)
/-- a method: name, bytes, locals, what it answers, parameters (the receiver aside), decoded rows -/
abbrev am_M : Type := MethodName × ByteArray × Nat × Option FieldType × Nat × List (Nat × Instr × Nat)
/-- what an entry of the pool stands for: its kind, two numbers, a constant -/
abbrev am_K : Type := Nat × Nat × Nat × Int64
/-- the classes, the types of their fields, the pool's entries, the methods, the types of arrays' elements -/
abbrev am_G : Type := List vw_C × (Nat → Nat → FieldType) × (String → Nat → Option am_K) × List am_M × List FieldType
def am_ld (lv : am_L) (i : Nat) : Option Value := (lv.find? (fun q => q.1 == i)).map (fun q => q.2)
def am_s1 (lv : am_L) (i : Nat) (v : Value) : am_L := (i, v) :: lv.filter (fun q => !(q.1 == i) && !(q.1 + 1 == i && q.2.category == 2))
def am_s2 (lv : am_L) (i : Nat) (v : Value) : am_L := (i, v) :: lv.filter (fun q => !(q.1 == i) && (!(q.1 == i + 1) && !(q.1 + 1 == i && q.2.category == 2)))
/-- from places to addresses -/
def am_v (ad : Nat → Nat) : Value → Value
  | .ref i => .ref (ad i)
  | v => v
def am_q (ad : Nat → Nat) (q : Nat × Value) : Nat × Value := (q.1, am_v ad q.2)
def am_a (ad : Nat → Nat) (a : vp_A) : vp_A := match a with
  | (n, .inr (.inr (.inr (.inr f)))) => (n, .inr (.inr (.inr (.inr (fun j => (f j).map ad)))))
  | x => x
def am_c (ad : Nat → Nat) (ca : FieldType → ClassId) : am_C → va_E
  | .inl (ty, a) => .inl (ca ty, am_a ad a)
  | .inr (ci, fs) => .inr (ci, fs.map (am_v ad))
def am_w (ad : Nat → Nat) (ca : FieldType → ClassId) (H : am_H) : va_W := H.mapIdx (fun i c => (ad i, am_c ad ca c))
/-! stack and locals -/
def am_ps (lv : am_L) (n m : Nat) (v : Value) (st : List Value) : Option (am_L × List Value) := if n = m then some (lv, v :: st) else none
def am_gi (lv : am_L) (n m k : Nat) (st : List Value) : Option (am_L × List Value) := match am_ld lv k with
  | some (.int x) => am_ps lv n m (.int x) st
  | _ => none
def am_gl (lv : am_L) (n m k : Nat) (st : List Value) : Option (am_L × List Value) := match am_ld lv k with
  | some (.long x) => am_ps lv n m (.long x) st
  | _ => none
def am_ga (lv : am_L) (n m k : Nat) (st : List Value) : Option (am_L × List Value) := match am_ld lv k with
  | some (.ref x) => am_ps lv n m (.ref x) st
  | some .null => am_ps lv n m .null st
  | _ => none
def am_pi (lv : am_L) (nL n m k : Nat) (st : List Value) : Option (am_L × List Value) := match st with
  | .int x :: r => if n = m ∧ k < nL then some (am_s1 lv k (.int x), r) else none
  | _ => none
def am_pl (lv : am_L) (nL n m k : Nat) (st : List Value) : Option (am_L × List Value) := match st with
  | .long x :: r => if n = m ∧ k + 1 < nL then some (am_s2 lv k (.long x), r) else none
  | _ => none
def am_pa (lv : am_L) (nL n m k : Nat) (st : List Value) : Option (am_L × List Value) := match st with
  | .ref x :: r => if n = m ∧ k < nL then some (am_s1 lv k (.ref x), r) else none
  | .null :: r => if n = m ∧ k < nL then some (am_s1 lv k .null, r) else none
  | _ => none
def am_inc (lv : am_L) (nL n k : Nat) (d : Int) (st : List Value) : Option (am_L × List Value) := match am_ld lv k with
  | some (.int x) => if n = 3 ∧ k < nL then some (am_s1 lv k (.int (x + Int32.ofInt d)), st) else none
  | _ => none
def am_i2 (lv : am_L) (n : Nat) (f : Int32 → Int32 → Option Int32) (st : List Value) : Option (am_L × List Value) := match st with
  | .int y :: .int x :: r => match f x y with
    | some z => if n = 1 then some (lv, .int z :: r) else none
    | none => none
  | _ => none
def am_l2 (lv : am_L) (n : Nat) (f : Int64 → Int64 → Int64) (st : List Value) : Option (am_L × List Value) := match st with
  | .long y :: .long x :: r => if n = 1 then some (lv, .long (f x y) :: r) else none
  | _ => none
def am_il (lv : am_L) (n : Nat) (f : Int64 → Int32 → Int64) (st : List Value) : Option (am_L × List Value) := match st with
  | .int y :: .long x :: r => if n = 1 then some (lv, .long (f x y) :: r) else none
  | _ => none
def am_u (lv : am_L) (n : Nat) (f : Value → Option Value) (st : List Value) : Option (am_L × List Value) := match st with
  | v :: r => match f v with
    | some w => if n = 1 then some (lv, w :: r) else none
    | none => none
  | _ => none
def am_dup (lv : am_L) (n : Nat) (st : List Value) : Option (am_L × List Value) := match st with
  | v :: r => if n = 1 ∧ v.category = 1 then some (lv, v :: v :: r) else none
  | _ => none
def am_pop (lv : am_L) (n : Nat) (st : List Value) : Option (am_L × List Value) := match st with
  | v :: r => if n = 1 ∧ v.category = 1 then some (lv, r) else none
  | _ => none
def am_pop2 (lv : am_L) (n : Nat) (st : List Value) : Option (am_L × List Value) := match st with
  | v :: r => if n = 1 ∧ v.category = 2 then some (lv, r) else none
  | _ => none
def am_dup2 (lv : am_L) (n : Nat) (st : List Value) : Option (am_L × List Value) := match st with
  | v :: w :: r => if n = 1 ∧ v.category = 1 ∧ w.category = 1 then some (lv, v :: w :: v :: w :: r) else none
  | _ => none
/-- one instruction on locals and stack alone -/
def am_stA (nL : Nat) (i : Instr) (n : Nat) (lv : am_L) (st : List Value) : Option (am_L × List Value) := match i with
  | .iconst v => am_ps lv n 1 (.int (Int32.ofInt v)) st
  | .bipush v => am_ps lv n 2 (.int (Int8.ofInt v).toInt32) st
  | .sipush v => am_ps lv n 3 (.int (Int16.ofInt v).toInt32) st
  | .lconst v => am_ps lv n 1 (.long (Int64.ofNat (v : Nat))) st
  | .aconst_null => am_ps lv n 1 .null st
  | .iload_n k => am_gi lv n 1 k st
  | .iload k => am_gi lv n 2 k st
  | .lload_n k => am_gl lv n 1 k st
  | .lload k => am_gl lv n 2 k st
  | .aload_n k => am_ga lv n 1 k st
  | .aload k => am_ga lv n 2 k st
  | .istore_n k => am_pi lv nL n 1 k st
  | .istore k => am_pi lv nL n 2 k st
  | .lstore_n k => am_pl lv nL n 1 k st
  | .lstore k => am_pl lv nL n 2 k st
  | .astore_n k => am_pa lv nL n 1 k st
  | .astore k => am_pa lv nL n 2 k st
  | .iinc k d => am_inc lv nL n k d st
  | .iadd => am_i2 lv n (fun x y => some (x + y)) st
  | .isub => am_i2 lv n (fun x y => some (x - y)) st
  | .imul => am_i2 lv n (fun x y => some (x * y)) st
  | .iand => am_i2 lv n (fun x y => some (x &&& y)) st
  | .ior => am_i2 lv n (fun x y => some (x ||| y)) st
  | .ixor => am_i2 lv n (fun x y => some (x ^^^ y)) st
  | .idiv => am_i2 lv n (fun x y => if y = 0 then none else some (x / y)) st
  | .irem => am_i2 lv n (fun x y => if y = 0 then none else some (x - x / y * y)) st
  | .ishl => am_i2 lv n (fun x y => some (x <<< (y &&& 31))) st
  | .ishr => am_i2 lv n (fun x y => some (x >>> (y &&& 31))) st
  | .iushr => am_i2 lv n (fun x y => some (x.toUInt32 >>> (y.toUInt32 &&& Int32.toUInt32 31)).toInt32) st
  | .ladd => am_l2 lv n (fun x y => x + y) st
  | .lsub => am_l2 lv n (fun x y => x - y) st
  | .lmul => am_l2 lv n (fun x y => x * y) st
  | .land => am_l2 lv n (fun x y => x &&& y) st
  | .lor => am_l2 lv n (fun x y => x ||| y) st
  | .lxor => am_l2 lv n (fun x y => x ^^^ y) st
  | .lshl => am_il lv n (fun x y => x <<< (y.toInt64 &&& 63)) st
  | .lshr => am_il lv n (fun x y => x >>> (y.toInt64 &&& 63)) st
  | .lushr => am_il lv n (fun x y => (x.toUInt64 >>> (y.toInt64.toUInt64 &&& Int64.toUInt64 63)).toInt64) st
  | .ineg => am_u lv n (fun v => match v with | .int x => some (.int (-x)) | _ => none) st
  | .i2l => am_u lv n (fun v => match v with | .int x => some (.long x.toInt64) | _ => none) st
  | .l2i => am_u lv n (fun v => match v with | .long x => some (.int x.toInt32) | _ => none) st
  | .lcmp => match st with
    | .long y :: .long x :: r => if n = 1 then some (lv, .int (lg_cmp x y) :: r) else none
    | _ => none
  | .dup => am_dup lv n st
  | .pop => am_pop lv n st
  | .pop2 => am_pop2 lv n st
  | .dup2 => am_dup2 lv n st
  | _ => none
/-! what the helpers say -/
theorem am_ps_inv {lv lv' : am_L} {n m : Nat} {v : Value} {st st' : List Value} (h : am_ps lv n m v st = some (lv', st')) : n = m ∧ lv' = lv ∧ st' = v :: st := by
  unfold am_ps at h
  split at h
  · cases h; exact ⟨by assumption, rfl, rfl⟩
  · cases h
theorem am_ld_mem {lv : am_L} {k : Nat} {v : Value} (h : am_ld lv k = some v) : (k, v) ∈ lv := by
  unfold am_ld at h
  cases hf : lv.find? (fun q => q.1 == k) with
  | none => rw [hf] at h; cases h
  | some q =>
    rw [hf] at h
    cases h
    have h1 := List.mem_of_find?_eq_some hf
    have h2 := List.find?_some hf
    have h3 : q.1 = k := by simpa using h2
    rw [← h3]
    exact h1
theorem am_ld_at {lv : am_L} {k : Nat} {v : Value} {ad : Nat → Nat} {ls : Array Slot} {nL : Nat} (h : am_ld lv k = some v) (hl : lv_has ls nL (lv.map (am_q ad))) : ls[k]? = some (.val (am_v ad v)) :=
  hl.2.2 (k, am_v ad v) (List.mem_map.mpr ⟨(k, v), am_ld_mem h, rfl⟩)
theorem am_v_cat (ad : Nat → Nat) (v : Value) : (am_v ad v).category = v.category := by cases v <;> rfl
theorem am_s1_map (ad : Nat → Nat) (lv : am_L) (i : Nat) (v : Value) : (i, am_v ad v) :: (lv.map (am_q ad)).filter (fun q => !(q.1 == i) && !(q.1 + 1 == i && q.2.category == 2)) = (am_s1 lv i v).map (am_q ad) := by
  unfold am_s1
  rw [List.map_cons, List.filter_map]
  congr 2
  apply List.filter_congr
  intro q _
  simp [am_q, am_v_cat]
theorem am_s2_map (ad : Nat → Nat) (lv : am_L) (i : Nat) (v : Value) : (i, am_v ad v) :: (lv.map (am_q ad)).filter (fun q => !(q.1 == i) && (!(q.1 == i + 1) && !(q.1 + 1 == i && q.2.category == 2))) = (am_s2 lv i v).map (am_q ad) := by
  unfold am_s2
  rw [List.map_cons, List.filter_map]
  congr 2
  apply List.filter_congr
  intro q _
  simp [am_q, am_v_cat]
theorem am_gi_inv {lv lv' : am_L} {n m k : Nat} {st st' : List Value} (h : am_gi lv n m k st = some (lv', st')) : ∃ x : Int32, am_ld lv k = some (.int x) ∧ n = m ∧ lv' = lv ∧ st' = .int x :: st := by
  unfold am_gi at h
  split at h
  · exact ⟨_, by assumption, am_ps_inv h⟩
  · cases h
theorem am_gl_inv {lv lv' : am_L} {n m k : Nat} {st st' : List Value} (h : am_gl lv n m k st = some (lv', st')) : ∃ x : Int64, am_ld lv k = some (.long x) ∧ n = m ∧ lv' = lv ∧ st' = .long x :: st := by
  unfold am_gl at h
  split at h
  · exact ⟨_, by assumption, am_ps_inv h⟩
  · cases h
theorem am_ga_inv {lv lv' : am_L} {n m k : Nat} {st st' : List Value} (h : am_ga lv n m k st = some (lv', st')) : (∃ x : Nat, am_ld lv k = some (.ref x) ∧ n = m ∧ lv' = lv ∧ st' = .ref x :: st) ∨ (am_ld lv k = some .null ∧ n = m ∧ lv' = lv ∧ st' = .null :: st) := by
  unfold am_ga at h
  split at h
  · exact Or.inl ⟨_, by assumption, am_ps_inv h⟩
  · exact Or.inr ⟨by assumption, am_ps_inv h⟩
  · cases h
theorem am_pi_inv {lv lv' : am_L} {nL n m k : Nat} {st st' : List Value} (h : am_pi lv nL n m k st = some (lv', st')) : ∃ x : Int32, st = .int x :: st' ∧ n = m ∧ k < nL ∧ lv' = am_s1 lv k (.int x) := by
  unfold am_pi at h
  split at h
  · split at h
    · rename_i hc
      cases h; exact ⟨_, rfl, hc.1, hc.2, rfl⟩
    · cases h
  · cases h
theorem am_pl_inv {lv lv' : am_L} {nL n m k : Nat} {st st' : List Value} (h : am_pl lv nL n m k st = some (lv', st')) : ∃ x : Int64, st = .long x :: st' ∧ n = m ∧ k + 1 < nL ∧ lv' = am_s2 lv k (.long x) := by
  unfold am_pl at h
  split at h
  · split at h
    · rename_i hc
      cases h; exact ⟨_, rfl, hc.1, hc.2, rfl⟩
    · cases h
  · cases h
theorem am_pa_inv {lv lv' : am_L} {nL n m k : Nat} {st st' : List Value} (h : am_pa lv nL n m k st = some (lv', st')) : (∃ x : Nat, st = .ref x :: st' ∧ n = m ∧ k < nL ∧ lv' = am_s1 lv k (.ref x)) ∨ (st = .null :: st' ∧ n = m ∧ k < nL ∧ lv' = am_s1 lv k .null) := by
  unfold am_pa at h
  split at h
  · split at h
    · rename_i hc
      cases h; exact Or.inl ⟨_, rfl, hc.1, hc.2, rfl⟩
    · cases h
  · split at h
    · rename_i hc
      cases h; exact Or.inr ⟨rfl, hc.1, hc.2, rfl⟩
    · cases h
  · cases h
theorem am_inc_inv {lv lv' : am_L} {nL n k : Nat} {d : Int} {st st' : List Value} (h : am_inc lv nL n k d st = some (lv', st')) : ∃ x : Int32, am_ld lv k = some (.int x) ∧ n = 3 ∧ k < nL ∧ lv' = am_s1 lv k (.int (x + Int32.ofInt d)) ∧ st' = st := by
  unfold am_inc at h
  split at h
  · split at h
    · rename_i hc
      cases h; exact ⟨_, by assumption, hc.1, hc.2, rfl, rfl⟩
    · cases h
  · cases h
theorem am_i2_inv {lv lv' : am_L} {n : Nat} {f : Int32 → Int32 → Option Int32} {st st' : List Value} (h : am_i2 lv n f st = some (lv', st')) : ∃ (x y z : Int32) (r : List Value), f x y = some z ∧ st = .int y :: .int x :: r ∧ n = 1 ∧ lv' = lv ∧ st' = .int z :: r := by
  unfold am_i2 at h
  split at h
  · split at h
    · split at h
      · cases h; exact ⟨_, _, _, _, by assumption, rfl, by assumption, rfl, rfl⟩
      · cases h
    · cases h
  · cases h
theorem am_l2_inv {lv lv' : am_L} {n : Nat} {f : Int64 → Int64 → Int64} {st st' : List Value} (h : am_l2 lv n f st = some (lv', st')) : ∃ (x y : Int64) (r : List Value), st = .long y :: .long x :: r ∧ n = 1 ∧ lv' = lv ∧ st' = .long (f x y) :: r := by
  unfold am_l2 at h
  split at h
  · split at h
    · cases h; exact ⟨_, _, _, rfl, by assumption, rfl, rfl⟩
    · cases h
  · cases h
theorem am_il_inv {lv lv' : am_L} {n : Nat} {f : Int64 → Int32 → Int64} {st st' : List Value} (h : am_il lv n f st = some (lv', st')) : ∃ (x : Int64) (y : Int32) (r : List Value), st = .int y :: .long x :: r ∧ n = 1 ∧ lv' = lv ∧ st' = .long (f x y) :: r := by
  unfold am_il at h
  split at h
  · split at h
    · cases h; exact ⟨_, _, _, rfl, by assumption, rfl, rfl⟩
    · cases h
  · cases h
theorem am_u_inv {lv lv' : am_L} {n : Nat} {f : Value → Option Value} {st st' : List Value} (h : am_u lv n f st = some (lv', st')) : ∃ (v w : Value) (r : List Value), f v = some w ∧ st = v :: r ∧ n = 1 ∧ lv' = lv ∧ st' = w :: r := by
  unfold am_u at h
  split at h
  · split at h
    · split at h
      · cases h; exact ⟨_, _, _, by assumption, rfl, by assumption, rfl, rfl⟩
      · cases h
    · cases h
  · cases h
theorem am_dup_inv {lv lv' : am_L} {n : Nat} {st st' : List Value} (h : am_dup lv n st = some (lv', st')) : ∃ (v : Value) (r : List Value), v.category = 1 ∧ st = v :: r ∧ n = 1 ∧ lv' = lv ∧ st' = v :: v :: r := by
  unfold am_dup at h
  split at h
  · split at h
    · rename_i hc
      cases h; exact ⟨_, _, hc.2, rfl, hc.1, rfl, rfl⟩
    · cases h
  · cases h
theorem am_pop_inv {lv lv' : am_L} {n : Nat} {st st' : List Value} (h : am_pop lv n st = some (lv', st')) : ∃ (v : Value), v.category = 1 ∧ st = v :: st' ∧ n = 1 ∧ lv' = lv := by
  unfold am_pop at h
  split at h
  · split at h
    · rename_i hc
      cases h; exact ⟨_, hc.2, rfl, hc.1, rfl⟩
    · cases h
  · cases h
theorem am_pop2_inv {lv lv' : am_L} {n : Nat} {st st' : List Value} (h : am_pop2 lv n st = some (lv', st')) : ∃ (v : Value), v.category = 2 ∧ st = v :: st' ∧ n = 1 ∧ lv' = lv := by
  unfold am_pop2 at h
  split at h
  · split at h
    · rename_i hc
      cases h; exact ⟨_, hc.2, rfl, hc.1, rfl⟩
    · cases h
  · cases h
theorem am_dup2_inv {lv lv' : am_L} {n : Nat} {st st' : List Value} (h : am_dup2 lv n st = some (lv', st')) : ∃ (v w : Value) (r : List Value), v.category = 1 ∧ w.category = 1 ∧ st = v :: w :: r ∧ n = 1 ∧ lv' = lv ∧ st' = v :: w :: v :: w :: r := by
  unfold am_dup2 at h
  split at h
  · split at h
    · rename_i hc
      cases h; exact ⟨_, _, _, hc.2.1, hc.2.2, rfl, hc.1, rfl, rfl⟩
    · cases h
  · cases h
section AMA
variable {p : Program} {l : Launch} {e : Env} {R : Room} {s : State} {m : MethodId} {args : Array Value} {below : List Frame} {meth : Method} {c : Code} {H : Heap} {locs : List Loc} {cells slots : Nat} {Q : State → Prop}
variable {cc : ByteArray} {pc : Nat} {ls : Array Slot} {ad : Nat → Nat}
set_option maxHeartbeats 4000000 in
/-- the machine follows: instructions on locals and stack alone -/
theorem am_sA {nL n : Nat} {i : Instr} {lv lv' : am_L} {st st' : List Value} (h : am_stA nL i n lv st = some (lv', st')) (hx : p.tables.exec = Jvm.exec) (hb : c.code = cc) (hdg : decode cc pc = .ok (i, n)) (hl : lv_has ls nL (lv.map (am_q ad)))
    (kk : ∀ ls' : Array Slot, lv_has ls' nL (lv'.map (am_q ad)) → W p l e R s m args below meth c H locs cells slots Q (F0 m (pc + n) ls' (st'.map (am_v ad)))) : W p l e R s m args below meth c H locs cells slots Q (F0 m pc ls (st.map (am_v ad))) := by
  cases i with
  | iconst v => obtain ⟨rfl, rfl, rfl⟩ := am_ps_inv h; exact lv_iconst hx hb hdg rfl (kk ls hl)
  | bipush v => obtain ⟨rfl, rfl, rfl⟩ := am_ps_inv h; exact lv_bipush hx hb hdg rfl (kk ls hl)
  | sipush v => obtain ⟨rfl, rfl, rfl⟩ := am_ps_inv h; exact lv_sipush hx hb hdg rfl (kk ls hl)
  | lconst v => obtain ⟨rfl, rfl, rfl⟩ := am_ps_inv h; exact lv_lconst hx hb hdg rfl (kk ls hl)
  | aconst_null => obtain ⟨rfl, rfl, rfl⟩ := am_ps_inv h; exact lv_null hx hb hdg (kk ls hl)
  | iload_n k => obtain ⟨x, h1, rfl, rfl, rfl⟩ := am_gi_inv h; exact lv_iload_n hx hb hdg rfl (am_ld_at h1 hl) (kk ls hl)
  | iload k => obtain ⟨x, h1, rfl, rfl, rfl⟩ := am_gi_inv h; exact lv_iload hx hb hdg (am_ld_at h1 hl) (kk ls hl)
  | lload_n k => obtain ⟨x, h1, rfl, rfl, rfl⟩ := am_gl_inv h; exact lv_lload_n hx hb hdg rfl (am_ld_at h1 hl) (kk ls hl)
  | lload k => obtain ⟨x, h1, rfl, rfl, rfl⟩ := am_gl_inv h; exact lv_lload hx hb hdg (am_ld_at h1 hl) (kk ls hl)
  | aload_n k =>
    rcases am_ga_inv h with ⟨x, h1, rfl, rfl, rfl⟩ | ⟨h1, rfl, rfl, rfl⟩
    · exact lv_aload_n hx hb hdg rfl (am_ld_at h1 hl) (kk ls hl)
    · exact lv_aload_nN hx hb hdg rfl (am_ld_at h1 hl) (kk ls hl)
  | aload k =>
    rcases am_ga_inv h with ⟨x, h1, rfl, rfl, rfl⟩ | ⟨h1, rfl, rfl, rfl⟩
    · exact lv_aload hx hb hdg (am_ld_at h1 hl) (kk ls hl)
    · exact lv_aloadN hx hb hdg (am_ld_at h1 hl) (kk ls hl)
  | istore_n k => obtain ⟨x, rfl, rfl, hk, rfl⟩ := am_pi_inv h; exact lv_istore_n hx hb hdg rfl hl hk (am_s1_map ad lv k (.int x)) kk
  | istore k => obtain ⟨x, rfl, rfl, hk, rfl⟩ := am_pi_inv h; exact lv_istore hx hb hdg hl hk (am_s1_map ad lv k (.int x)) kk
  | lstore_n k => obtain ⟨x, rfl, rfl, hk, rfl⟩ := am_pl_inv h; exact lv_lstore_n hx hb hdg rfl hl hk (am_s2_map ad lv k (.long x)) kk
  | lstore k => obtain ⟨x, rfl, rfl, hk, rfl⟩ := am_pl_inv h; exact lv_lstore hx hb hdg hl hk (am_s2_map ad lv k (.long x)) kk
  | astore_n k =>
    rcases am_pa_inv h with ⟨x, rfl, rfl, hk, rfl⟩ | ⟨rfl, rfl, hk, rfl⟩
    · exact lv_astore_n hx hb hdg rfl hl hk (am_s1_map ad lv k (.ref x)) kk
    · exact lv_astore_nN hx hb hdg rfl hl hk (am_s1_map ad lv k .null) kk
  | astore k =>
    rcases am_pa_inv h with ⟨x, rfl, rfl, hk, rfl⟩ | ⟨rfl, rfl, hk, rfl⟩
    · exact lv_astore hx hb hdg hl hk (am_s1_map ad lv k (.ref x)) kk
    · exact lv_astoreN hx hb hdg hl hk (am_s1_map ad lv k .null) kk
  | iinc k d =>
    obtain ⟨x, h1, rfl, hk, rfl, rfl⟩ := am_inc_inv h
    obtain ⟨j, hj⟩ := List.getElem?_of_mem (List.mem_map.mpr ⟨(k, Value.int x), am_ld_mem h1, rfl⟩ : am_q ad (k, Value.int x) ∈ lv.map (am_q ad))
    exact lv_iinc hx hb hdg hl hj rfl hk (am_s1_map ad lv k (.int (x + Int32.ofInt d))) kk
  | iadd => obtain ⟨x, y, z, r, hz, rfl, rfl, rfl, rfl⟩ := am_i2_inv (show am_i2 lv n (fun x y => some (x + y)) st = some (lv', st') from h); cases hz; exact lv_iadd hx hb hdg (kk ls hl)
  | isub => obtain ⟨x, y, z, r, hz, rfl, rfl, rfl, rfl⟩ := am_i2_inv (show am_i2 lv n (fun x y => some (x - y)) st = some (lv', st') from h); cases hz; exact lv_isub hx hb hdg (kk ls hl)
  | imul => obtain ⟨x, y, z, r, hz, rfl, rfl, rfl, rfl⟩ := am_i2_inv (show am_i2 lv n (fun x y => some (x * y)) st = some (lv', st') from h); cases hz; exact lv_imul hx hb hdg (kk ls hl)
  | iand => obtain ⟨x, y, z, r, hz, rfl, rfl, rfl, rfl⟩ := am_i2_inv (show am_i2 lv n (fun x y => some (x &&& y)) st = some (lv', st') from h); cases hz; exact lv_iand hx hb hdg (kk ls hl)
  | ior => obtain ⟨x, y, z, r, hz, rfl, rfl, rfl, rfl⟩ := am_i2_inv (show am_i2 lv n (fun x y => some (x ||| y)) st = some (lv', st') from h); cases hz; exact lv_ior hx hb hdg (kk ls hl)
  | ixor => obtain ⟨x, y, z, r, hz, rfl, rfl, rfl, rfl⟩ := am_i2_inv (show am_i2 lv n (fun x y => some (x ^^^ y)) st = some (lv', st') from h); cases hz; exact lv_ixor hx hb hdg (kk ls hl)
  | idiv =>
    obtain ⟨x, y, z, r, hz, rfl, rfl, rfl, rfl⟩ := am_i2_inv h
    by_cases h0 : y = 0
    · rw [if_pos h0] at hz; cases hz
    · rw [if_neg h0] at hz; cases hz; exact lv_idiv hx hb hdg h0 (kk ls hl)
  | irem =>
    obtain ⟨x, y, z, r, hz, rfl, rfl, rfl, rfl⟩ := am_i2_inv h
    by_cases h0 : y = 0
    · rw [if_pos h0] at hz; cases hz
    · rw [if_neg h0] at hz; cases hz; exact lv_irem hx hb hdg h0 (kk ls hl)
  | ishl => obtain ⟨x, y, z, r, hz, rfl, rfl, rfl, rfl⟩ := am_i2_inv (show am_i2 lv n (fun x y => some (x <<< (y &&& 31))) st = some (lv', st') from h); cases hz; exact lv_ishl hx hb hdg (kk ls hl)
  | ishr => obtain ⟨x, y, z, r, hz, rfl, rfl, rfl, rfl⟩ := am_i2_inv (show am_i2 lv n (fun x y => some (x >>> (y &&& 31))) st = some (lv', st') from h); cases hz; exact lv_ishr hx hb hdg (kk ls hl)
  | iushr => obtain ⟨x, y, z, r, hz, rfl, rfl, rfl, rfl⟩ := am_i2_inv (show am_i2 lv n (fun x y => some (x.toUInt32 >>> (y.toUInt32 &&& Int32.toUInt32 31)).toInt32) st = some (lv', st') from h); cases hz; exact lv_iushr hx hb hdg rfl (kk ls hl)
  | ladd => obtain ⟨x, y, r, rfl, rfl, rfl, rfl⟩ := am_l2_inv (show am_l2 lv n (fun x y => x + y) st = some (lv', st') from h); exact lv_ladd hx hb hdg (kk ls hl)
  | lsub => obtain ⟨x, y, r, rfl, rfl, rfl, rfl⟩ := am_l2_inv (show am_l2 lv n (fun x y => x - y) st = some (lv', st') from h); exact lv_lsub hx hb hdg (kk ls hl)
  | lmul => obtain ⟨x, y, r, rfl, rfl, rfl, rfl⟩ := am_l2_inv (show am_l2 lv n (fun x y => x * y) st = some (lv', st') from h); exact lv_lmul hx hb hdg (kk ls hl)
  | land => obtain ⟨x, y, r, rfl, rfl, rfl, rfl⟩ := am_l2_inv (show am_l2 lv n (fun x y => x &&& y) st = some (lv', st') from h); exact lv_land hx hb hdg (kk ls hl)
  | lor => obtain ⟨x, y, r, rfl, rfl, rfl, rfl⟩ := am_l2_inv (show am_l2 lv n (fun x y => x ||| y) st = some (lv', st') from h); exact lv_lor hx hb hdg (kk ls hl)
  | lxor => obtain ⟨x, y, r, rfl, rfl, rfl, rfl⟩ := am_l2_inv (show am_l2 lv n (fun x y => x ^^^ y) st = some (lv', st') from h); exact lv_lxor hx hb hdg (kk ls hl)
  | lshl => obtain ⟨x, y, r, rfl, rfl, rfl, rfl⟩ := am_il_inv h; exact lv_lshl hx hb hdg rfl (kk ls hl)
  | lshr => obtain ⟨x, y, r, rfl, rfl, rfl, rfl⟩ := am_il_inv h; exact lv_lshr hx hb hdg rfl (kk ls hl)
  | lushr => obtain ⟨x, y, r, rfl, rfl, rfl, rfl⟩ := am_il_inv h; exact lv_lushr hx hb hdg rfl (kk ls hl)
  | ineg =>
    obtain ⟨v, w, r, hw, rfl, rfl, rfl, rfl⟩ := am_u_inv h
    cases v <;> cases hw
    exact lv_ineg hx hb hdg (kk ls hl)
  | i2l =>
    obtain ⟨v, w, r, hw, rfl, rfl, rfl, rfl⟩ := am_u_inv h
    cases v <;> cases hw
    exact lv_i2l hx hb hdg rfl (kk ls hl)
  | l2i =>
    obtain ⟨v, w, r, hw, rfl, rfl, rfl, rfl⟩ := am_u_inv h
    cases v <;> cases hw
    exact lv_l2i hx hb hdg rfl (kk ls hl)
  | lcmp =>
    dsimp only [am_stA] at h
    split at h
    · split at h
      · rename_i h1
        subst h1
        cases h
        exact W.lcmp hx hb hdg (kk ls hl)
      · cases h
    · cases h
  | dup => obtain ⟨v, r, hc, rfl, rfl, rfl, rfl⟩ := am_dup_inv h; exact lv_dup hx hb hdg (by rw [am_v_cat]; exact hc) (kk ls hl)
  | pop => obtain ⟨v, hc, rfl, rfl, rfl⟩ := am_pop_inv h; exact lv_pop hx hb hdg (by rw [am_v_cat]; exact hc) (kk ls hl)
  | pop2 => obtain ⟨v, hc, rfl, rfl, rfl⟩ := am_pop2_inv h; exact lv_pop2_2 hx hb hdg (by rw [am_v_cat]; exact hc) (kk ls hl)
  | dup2 => obtain ⟨v, w, r, h1, h2, rfl, rfl, rfl, rfl⟩ := am_dup2_inv h; exact lv_dup2_11 hx hb hdg (by rw [am_v_cat]; exact h1) (by rw [am_v_cat]; exact h2) (kk ls hl)
  | _ => cases h
end AMA
end
section
/-! branches -/
def am_jp (pc : Nat) (off : Int) : Option Nat := if 0 ≤ (pc : Int) + off then some ((pc : Int) + off).toNat else none
def am_br (n pc : Nat) (off : Int) (b : Bool) (st : List Value) : Option (Nat × List Value) := match am_jp pc off with
  | some t => if n = 3 then some (if b = true then t else pc + 3, st) else none
  | none => none
def am_if1 (k : ClassFile.Cond) (x : Int32) : Bool := match k with
  | .eq => decide (x = 0)
  | .ne => decide (¬ x = 0)
  | .lt => decide (x < 0)
  | .ge => decide (0 ≤ x)
  | .gt => decide (0 < x)
  | .le => decide (x ≤ 0)
def am_if2 (k : ClassFile.Cond) (x y : Int32) : Bool := match k with
  | .eq => decide (x = y)
  | .ne => decide (¬ x = y)
  | .lt => decide (x < y)
  | .ge => decide (y ≤ x)
  | .gt => decide (y < x)
  | .le => decide (x ≤ y)
def am_jmp (pc : Nat) (off : Int) (st : List Value) : Option (Nat × List Value) := match am_jp pc off with
  | some t => some (t, st)
  | none => none
def am_stB (i : Instr) (n pc : Nat) (st : List Value) : Option (Nat × List Value) := match i with
  | .ifCond k off => match st with
    | .int x :: r => am_br n pc off (am_if1 k x) r
    | _ => none
  | .if_icmp k off => match st with
    | .int y :: .int x :: r => am_br n pc off (am_if2 k x y) r
    | _ => none
  | .ifnull off => match st with
    | .null :: r => am_br n pc off true r
    | .ref _ :: r => am_br n pc off false r
    | _ => none
  | .ifnonnull off => match st with
    | .null :: r => am_br n pc off false r
    | .ref _ :: r => am_br n pc off true r
    | _ => none
  | .goto off => am_br n pc off true st
  | .tableswitch dflt lo hi offs => match st with
    | .int x :: r => if x.toInt < lo ∨ hi < x.toInt then am_jmp pc dflt r else match offs[(x.toInt - lo).toNat]? with
      | some off => am_jmp pc off r
      | none => none
    | _ => none
  | .lookupswitch dflt ps => match st with
    | .int x :: r => if (ps.toList.zip (ps.toList.drop 1)).all (fun (a, next) => a.1 < next.1) = true then am_jmp pc (Op.lookupswitch.offset ps.toList dflt x.toInt) r else none
    | _ => none
  | _ => none
theorem am_jp_inv {pc t : Nat} {off : Int} (h : am_jp pc off = some t) : (pc : Int) + off = (t : Int) := by
  unfold am_jp at h
  split at h
  · cases h; omega
  · cases h
theorem am_br_inv {n pc pc' : Nat} {off : Int} {b : Bool} {st st' : List Value} (h : am_br n pc off b st = some (pc', st')) : n = 3 ∧ st' = st ∧ ∃ t : Nat, (pc : Int) + off = (t : Int) ∧ pc' = (if b = true then t else pc + 3) := by
  unfold am_br at h
  split at h
  · split at h
    · cases h; exact ⟨by assumption, rfl, _, am_jp_inv (by assumption), rfl⟩
    · cases h
  · cases h
theorem am_jmp_inv {pc pc' : Nat} {off : Int} {st st' : List Value} (h : am_jmp pc off st = some (pc', st')) : st' = st ∧ (pc : Int) + off = (pc' : Int) := by
  unfold am_jmp at h
  split at h
  · cases h; exact ⟨rfl, am_jp_inv (by assumption)⟩
  · cases h
section AMB
variable {p : Program} {l : Launch} {e : Env} {R : Room} {s : State} {m : MethodId} {args : Array Value} {below : List Frame} {meth : Method} {c : Code} {H : Heap} {locs : List Loc} {cells slots : Nat} {Q : State → Prop}
variable {cc : ByteArray} {pc : Nat} {ls : Array Slot} {ad : Nat → Nat}
theorem am_t {P : Prop} {hP : Decidable P} {t u : Nat} {rest : List Value} (h : P) (kk : W p l e R s m args below meth c H locs cells slots Q (F0 m (if decide P = true then t else u) ls rest)) : W p l e R s m args below meth c H locs cells slots Q (F0 m t ls rest) := by
  rw [if_pos (by simpa using h)] at kk; exact kk
theorem am_f {P : Prop} {hP : Decidable P} {t u : Nat} {rest : List Value} (h : ¬ P) (kk : W p l e R s m args below meth c H locs cells slots Q (F0 m (if decide P = true then t else u) ls rest)) : W p l e R s m args below meth c H locs cells slots Q (F0 m u ls rest) := by
  rw [if_neg (by simpa using h)] at kk; exact kk
set_option maxHeartbeats 4000000 in
theorem am_sB {n pc' : Nat} {i : Instr} {st st' : List Value} (h : am_stB i n pc st = some (pc', st')) (hx : p.tables.exec = Jvm.exec) (hb : c.code = cc) (hdg : decode cc pc = .ok (i, n))
    (kk : W p l e R s m args below meth c H locs cells slots Q (F0 m pc' ls (st'.map (am_v ad)))) : W p l e R s m args below meth c H locs cells slots Q (F0 m pc ls (st.map (am_v ad))) := by
  cases i with
  | ifCond k off =>
    dsimp only [am_stB] at h
    split at h
    · obtain ⟨rfl, rfl, t, ht, rfl⟩ := am_br_inv h
      cases k
      · exact lv_if_eq hx hb hdg ht (fun hc => am_t hc kk) (fun hc => am_f hc kk)
      · exact lv_if_ne hx hb hdg ht (fun hc => am_t hc kk) (fun hc => am_f (fun q => q hc) kk)
      · exact lv_if_lt hx hb hdg ht (fun hc => am_t hc kk) (fun hc => am_f hc kk)
      · exact lv_if_ge hx hb hdg ht (fun hc => am_t hc kk) (fun hc => am_f hc kk)
      · exact lv_if_gt hx hb hdg ht (fun hc => am_t hc kk) (fun hc => am_f hc kk)
      · exact lv_if_le hx hb hdg ht (fun hc => am_t hc kk) (fun hc => am_f hc kk)
    · cases h
  | if_icmp k off =>
    dsimp only [am_stB] at h
    split at h
    · obtain ⟨rfl, rfl, t, ht, rfl⟩ := am_br_inv h
      cases k
      · exact lv_icmp_eq hx hb hdg ht (fun hc => am_t hc kk) (fun hc => am_f hc kk)
      · exact lv_icmp_ne hx hb hdg ht (fun hc => am_t hc kk) (fun hc => am_f (fun q => q hc) kk)
      · exact lv_icmp_lt hx hb hdg ht (fun hc => am_t hc kk) (fun hc => am_f hc kk)
      · exact lv_icmp_ge hx hb hdg ht (fun hc => am_t hc kk) (fun hc => am_f hc kk)
      · exact lv_icmp_gt hx hb hdg ht (fun hc => am_t hc kk) (fun hc => am_f hc kk)
      · exact lv_icmp_le hx hb hdg ht (fun hc => am_t hc kk) (fun hc => am_f hc kk)
    · cases h
  | ifnull off =>
    dsimp only [am_stB] at h
    split at h
    · obtain ⟨rfl, rfl, t, ht, rfl⟩ := am_br_inv h
      exact lv_ifnullN hx hb hdg ht kk
    · obtain ⟨rfl, rfl, t, ht, rfl⟩ := am_br_inv h
      exact lv_ifnull hx hb hdg kk
    · cases h
  | ifnonnull off =>
    dsimp only [am_stB] at h
    split at h
    · obtain ⟨rfl, rfl, t, ht, rfl⟩ := am_br_inv h
      exact lv_ifnonnullN hx hb hdg kk
    · obtain ⟨rfl, rfl, t, ht, rfl⟩ := am_br_inv h
      exact lv_ifnonnull hx hb hdg ht kk
    · cases h
  | goto off =>
    obtain ⟨rfl, rfl, t, ht, rfl⟩ := am_br_inv (show am_br n pc off true st = some (pc', st') from h)
    exact lv_goto hx hb hdg ht kk
  | tableswitch dflt lo hi offs =>
    dsimp only [am_stB] at h
    split at h
    · split at h
      · rename_i hc
        obtain ⟨rfl, ht⟩ := am_jmp_inv h
        exact lv_tableOut hx hb hdg hc ht kk
      · rename_i hc
        split at h
        · rename_i off ho
          obtain ⟨rfl, ht⟩ := am_jmp_inv h
          exact lv_tableIn hx hb hdg (fun q => hc (Or.inl q)) (fun q => hc (Or.inr q)) ho ht kk
        · cases h
    · cases h
  | lookupswitch dflt ps =>
    dsimp only [am_stB] at h
    split at h
    · split at h
      · rename_i hp
        obtain ⟨rfl, ht⟩ := am_jmp_inv h
        exact lv_lookup hx hb hdg hp rfl ht kk
      · cases h
    · cases h
  | _ => cases h
end AMB
end
section
/-! the heap -/
def am_cz : am_C → Nat
  | .inl (_, a) => a.1
  | .inr (_, fs) => fs.length
def am_sz (H : am_H) : Nat := (H.map am_cz).sum
def am_fld (G : am_G) (own : String) (idx : Nat) : Option (Nat × Nat) := match G.2.2.1 own idx with
  | some (0, ci, k, _) => some (ci, k)
  | _ => none
def am_getf (H : am_H) (ci k a : Nat) : Option Value := match H[a]? with
  | some (.inr (ci', fs)) => if ci' = ci then fs[k]? else none
  | _ => none
def am_canput (G : am_G) (own : String) (isI : Bool) (ci k : Nat) (v : Value) : Bool := match G.1[ci]? with
  | some (_, T, _) => decide (narrow (G.2.1 ci k) v = v) && fits (G.2.1 ci k) v && ((T k).2.2.2 == false || (isI && (T k).1 == own))
  | none => false
def am_putf (G : am_G) (own : String) (isI : Bool) (H : am_H) (ci k a : Nat) (v : Value) : Option am_H := match H[a]? with
  | some (.inr (ci', fs)) => if ci' = ci ∧ k < fs.length ∧ am_canput G own isI ci k v = true then some (H.set a (.inr (ci, fs.set k v))) else none
  | _ => none
def am_zero (ty : FieldType) (n : Nat) : Option vp_A := match ty with
  | .int => some (n, .inl (fun _ => 0))
  | .boolean => some (n, .inl (fun _ => 0))
  | .long => some (n, .inr (.inl (fun _ => 0)))
  | _ => none
def am_rf : Option Nat → Value
  | some a => .ref a
  | none => .null
def am_inb (i : Int32) (n : Nat) : Bool := decide (¬ (i < 0 ∨ n ≤ i.toNatClampNeg))
def am_new (G : am_G) (H : am_H) (ci : Nat) : Option am_H := match G.1[ci]? with
  | some (_, _, N) => some (H ++ [.inr (ci, (List.range N).map (fun k => defaultValue (G.2.1 ci k)))])
  | none => none
def am_newa (G : am_G) (H : am_H) (ty : FieldType) (n : Int32) : Option am_H := match am_zero ty n.toNatClampNeg with
  | some a => if ¬ n < 0 ∧ n.toNatClampNeg * componentBytes ty ≤ 536870912 ∧ ty ∈ G.2.2.2.2 then some (H ++ [.inl (ty, a)]) else none
  | none => none
def am_newq (G : am_G) (H : am_H) (ci : Nat) (n : Int32) : Option am_H := match G.1[ci]? with
  | some (C, _, _) => if ¬ n < 0 ∧ n.toNatClampNeg * 4 ≤ 536870912 ∧ FieldType.object C ∈ G.2.2.2.2 then some (H ++ [.inl (.object C, n.toNatClampNeg, .inr (.inr (.inr (.inr (fun _ => none)))))]) else none
  | none => none
/-- one instruction on the heap: the stack and the heap behind it -/
def am_stC (G : am_G) (own : String) (isI : Bool) (i : Instr) (n : Nat) (st : List Value) (H : am_H) : Option (List Value × am_H) := match i with
  | .getfield idx => match st, am_fld G own idx with
    | .ref a :: r, some (ci, k) => match am_getf H ci k a with
      | some v => if n = 3 then some (v :: r, H) else none
      | none => none
    | _, _ => none
  | .putfield idx => match st, am_fld G own idx with
    | v :: .ref a :: r, some (ci, k) => match am_putf G own isI H ci k a v with
      | some H' => if n = 3 then some (r, H') else none
      | none => none
    | _, _ => none
  | .iaload => match st with
    | .int j :: .ref a :: r => match H[a]? with
      | some (.inl (.int, w, .inl f)) => if n = 1 ∧ am_inb j w = true then some (.int (f j.toNatClampNeg) :: r, H) else none
      | _ => none
    | _ => none
  | .baload => match st with
    | .int j :: .ref a :: r => match H[a]? with
      | some (.inl (.boolean, w, .inl f)) => if n = 1 ∧ am_inb j w = true then some (.int (f j.toNatClampNeg) :: r, H) else none
      | _ => none
    | _ => none
  | .laload => match st with
    | .int j :: .ref a :: r => match H[a]? with
      | some (.inl (.long, w, .inr (.inl f))) => if n = 1 ∧ am_inb j w = true then some (.long (f j.toNatClampNeg) :: r, H) else none
      | _ => none
    | _ => none
  | .aaload => match st with
    | .int j :: .ref a :: r => match H[a]? with
      | some (.inl (.object C, w, .inr (.inr (.inr (.inr f))))) => if n = 1 ∧ am_inb j w = true ∧ FieldType.object C ∈ G.2.2.2.2 then some (am_rf (f j.toNatClampNeg) :: r, H) else none
      | _ => none
    | _ => none
  | .iastore => match st with
    | .int x :: .int j :: .ref a :: r => match H[a]? with
      | some (.inl (.int, w, .inl f)) => if n = 1 ∧ am_inb j w = true then some (r, H.set a (.inl (.int, w, .inl (upd f j.toNatClampNeg x)))) else none
      | _ => none
    | _ => none
  | .bastore => match st with
    | .int x :: .int j :: .ref a :: r => match H[a]? with
      | some (.inl (.boolean, w, .inl f)) => if n = 1 ∧ am_inb j w = true then some (r, H.set a (.inl (.boolean, w, .inl (upd f j.toNatClampNeg (vp_nar .boolean x))))) else none
      | _ => none
    | _ => none
  | .lastore => match st with
    | .long x :: .int j :: .ref a :: r => match H[a]? with
      | some (.inl (.long, w, .inr (.inl f))) => if n = 1 ∧ am_inb j w = true then some (r, H.set a (.inl (.long, w, .inr (.inl (vp_updL f j.toNatClampNeg x))))) else none
      | _ => none
    | _ => none
  | .aastore => match st with
    | .ref v :: .int j :: .ref a :: r => match H[a]?, H[v]? with
      | some (.inl (.object C, w, .inr (.inr (.inr (.inr f))))), some (.inr (ci, _)) => if n = 1 ∧ am_inb j w = true ∧ FieldType.object C ∈ G.2.2.2.2 ∧ (G.1[ci]?).map (fun q => q.1) = some C then some (r, H.set a (.inl (.object C, w, .inr (.inr (.inr (.inr (va_up f j.toNatClampNeg (some v)))))))) else none
      | _, _ => none
    | _ => none
  | .arraylength => match st with
    | .ref a :: r => match H[a]? with
      | some (.inl (ty, w, _)) => if n = 1 ∧ ty ∈ G.2.2.2.2 then some (.int (Int32.ofNat w) :: r, H) else none
      | _ => none
    | _ => none
  | .new idx => match G.2.2.1 own idx with
    | some (2, ci, _, _) => match am_new G H ci with
      | some H' => if n = 3 then some (.ref H.length :: st, H') else none
      | none => none
    | _ => none
  | .newarray aty => match st with
    | .int w :: r => match am_newa G H (newarray.typeOf aty) w with
      | some H' => if n = 2 then some (.ref H.length :: r, H') else none
      | none => none
    | _ => none
  | .anewarray idx => match st, G.2.2.1 own idx with
    | .int w :: r, some (3, ci, _, _) => match am_newq G H ci w with
      | some H' => if n = 3 then some (.ref H.length :: r, H') else none
      | none => none
    | _, _ => none
  | .ldc idx => match G.2.2.1 own idx with
    | some (6, _, _, v) => if n = 2 then some (.int v.toInt32 :: st, H) else none
    | _ => none
  | .ldc2_w idx => match G.2.2.1 own idx with
    | some (7, _, _, v) => if n = 3 then some (.long v :: st, H) else none
    | _ => none
  | _ => none
/-! worlds of abstract heaps -/
theorem am_w_at (ad : Nat → Nat) (ca : FieldType → ClassId) (H : am_H) (i : Nat) : (am_w ad ca H)[i]? = (H[i]?).map (fun c => (ad i, am_c ad ca c)) := by
  unfold am_w
  rw [List.getElem?_mapIdx]
theorem am_w_get {ad : Nat → Nat} {ca : FieldType → ClassId} {H : am_H} {i : Nat} {c : am_C} (h : H[i]? = some c) : (am_w ad ca H)[i]? = some (ad i, am_c ad ca c) := by
  rw [am_w_at, h]; rfl
theorem am_w_set (ad : Nat → Nat) (ca : FieldType → ClassId) (H : am_H) (i : Nat) (c : am_C) : (am_w ad ca H).set i (ad i, am_c ad ca c) = am_w ad ca (H.set i c) := by
  apply List.ext_getElem?
  intro j
  rw [am_w_at, List.getElem?_set, List.getElem?_set, am_w_at]
  have hl : (am_w ad ca H).length = H.length := by unfold am_w; simp
  rw [hl]
  by_cases hij : i = j
  · subst hij
    simp only [if_true]
    by_cases hi : i < H.length
    · simp [hi]
    · simp [hi]
  · simp [hij]
theorem am_w_app (ad : Nat → Nat) (ca : FieldType → ClassId) (H : am_H) (c : am_C) : am_w ad ca (H ++ [c]) = am_w ad ca H ++ [(ad H.length, am_c ad ca c)] := by
  unfold am_w
  rw [List.mapIdx_append]
  simp
theorem am_w_len (ad : Nat → Nat) (ca : FieldType → ClassId) (H : am_H) : (am_w ad ca H).length = H.length := by unfold am_w; simp
/-! references within -/
def am_vw (n : Nat) (v : Value) : Prop := ∀ i, v = .ref i → i < n
def am_cw (n : Nat) : am_C → Prop
  | .inl (_, _, .inr (.inr (.inr (.inr f)))) => ∀ j i, f j = some i → i < n
  | .inl _ => True
  | .inr (_, fs) => ∀ v ∈ fs, am_vw n v
def am_hw (H : am_H) : Prop := ∀ c ∈ H, am_cw H.length c
def am_ext (ad : Nat → Nat) (n q : Nat) : Nat → Nat := fun i => if i = n then q else ad i
def am_agree (n : Nat) (ad ad' : Nat → Nat) : Prop := ∀ i, i < n → ad' i = ad i
theorem am_ext_agree (ad : Nat → Nat) (n q : Nat) : am_agree n ad (am_ext ad n q) := fun i hi => by
  unfold am_ext
  rw [if_neg (Nat.ne_of_lt hi)]
theorem am_ext_self (ad : Nat → Nat) (n q : Nat) : am_ext ad n q n = q := by unfold am_ext; rw [if_pos rfl]
theorem am_v_agree {n : Nat} {ad ad' : Nat → Nat} (h : am_agree n ad ad') {v : Value} (hv : am_vw n v) : am_v ad' v = am_v ad v := by
  cases v with
  | ref i => show Value.ref (ad' i) = Value.ref (ad i); rw [h i (hv i rfl)]
  | _ => rfl
theorem am_c_agree {n : Nat} {ad ad' : Nat → Nat} {ca : FieldType → ClassId} (h : am_agree n ad ad') {c : am_C} (hc : am_cw n c) : am_c ad' ca c = am_c ad ca c := by
  cases c with
  | inl x =>
    obtain ⟨ty, w, f | f | f | f | f⟩ := x
    · rfl
    · rfl
    · rfl
    · rfl
    · have hc : ∀ j i, f j = some i → i < n := hc
      have e : (fun j => (f j).map ad') = (fun j => (f j).map ad) := by
        funext j
        cases hj : f j with
        | none => rfl
        | some i => show some (ad' i) = some (ad i); rw [h i (hc j i hj)]
      show (Sum.inl (ca ty, (w, .inr (.inr (.inr (.inr (fun j => (f j).map ad')))))) : va_E) = Sum.inl (ca ty, (w, .inr (.inr (.inr (.inr (fun j => (f j).map ad))))))
      rw [e]
  | inr x =>
    obtain ⟨ci, fs⟩ := x
    have hc : ∀ v ∈ fs, am_vw n v := hc
    show (Sum.inr (ci, fs.map (am_v ad')) : va_E) = Sum.inr (ci, fs.map (am_v ad))
    rw [List.map_congr_left (fun v hv => am_v_agree h (hc v hv))]
theorem am_w_agree {ad ad' : Nat → Nat} {ca : FieldType → ClassId} {H : am_H} (h : am_agree H.length ad ad') (hw : am_hw H) : am_w ad' ca H = am_w ad ca H := by
  apply List.ext_getElem?
  intro i
  rw [am_w_at, am_w_at]
  cases hc : H[i]? with
  | none => rfl
  | some c =>
    have hi : i < H.length := (List.getElem?_eq_some_iff.mp hc).1
    show some (ad' i, am_c ad' ca c) = some (ad i, am_c ad ca c)
    rw [h i hi, am_c_agree h (hw c (List.mem_of_getElem? hc))]
theorem am_st_agree {n : Nat} {ad ad' : Nat → Nat} (h : am_agree n ad ad') {st : List Value} (hv : ∀ v ∈ st, am_vw n v) : st.map (am_v ad') = st.map (am_v ad) := List.map_congr_left (fun v hx => am_v_agree h (hv v hx))
theorem am_lv_agree {n : Nat} {ad ad' : Nat → Nat} (h : am_agree n ad ad') {lv : am_L} (hv : ∀ q ∈ lv, am_vw n q.2) : lv.map (am_q ad') = lv.map (am_q ad) := List.map_congr_left (fun q hx => by
  show (q.1, am_v ad' q.2) = (q.1, am_v ad q.2)
  rw [am_v_agree h (hv q hx)])
theorem am_sz_set {H : am_H} {i : Nat} {c c' : am_C} (h : H[i]? = some c) (hz : am_cz c' = am_cz c) : am_sz (H.set i c') = am_sz H := by
  unfold am_sz
  congr 1
  apply List.ext_getElem?
  intro j
  rw [List.getElem?_map, List.getElem?_map, List.getElem?_set]
  by_cases hij : i = j
  · subst hij
    have hi : i < H.length := (List.getElem?_eq_some_iff.mp h).1
    rw [if_pos rfl, if_pos hi, h]
    show some (am_cz c') = some (am_cz c)
    rw [hz]
  · rw [if_neg hij]
theorem am_sz_app (H : am_H) (c : am_C) : am_sz (H ++ [c]) = am_sz H + am_cz c := by
  unfold am_sz
  simp
end
section
/-- what the pool's entries, the classes and the arrays' types are, in the tables' words -/
def am_ok (G : am_G) (Ts : List Cond) : Prop :=
  (∀ own idx ci k z, G.2.2.1 own idx = some (0, ci, k, z) → ∃ C T N, G.1[ci]? = some (C, T, N) ∧ k < N ∧ Cond.fieldLink own idx (T k).1 (T k).2.1 (T k).2.2.1 ∈ Ts)
  ∧ (∀ (ci : Nat) (C : String) (T : u_T) (N : Nat), G.1[ci]? = some (C, T, N) → (∀ w ∈ u_ws C T N, w ∈ Ts) ∧ (∀ k, k < N → parseFieldDescriptor (T k).2.2.1 = some (G.2.1 ci k)) ∧ (∀ a, a < N → ∀ b, b < N → a ≠ b → (T a).2.1 ≠ (T b).2.1))
  ∧ (∀ own idx ci k z, G.2.2.1 own idx = some (2, ci, k, z) → ∃ C T N, G.1[ci]? = some (C, T, N) ∧ Cond.classLink own idx C ∈ Ts ∧ Cond.instantiable C N ∈ Ts ∧ Cond.initialized C ∈ Ts)
  ∧ (∀ own idx ci k z, G.2.2.1 own idx = some (3, ci, k, z) → ∃ C T N, G.1[ci]? = some (C, T, N) ∧ Cond.classLink own idx C ∈ Ts)
  ∧ (∀ own idx ci k z, G.2.2.1 own idx = some (6, ci, k, z) → Cond.constant own idx z.toInt32 ∈ Ts)
  ∧ (∀ own idx ci k z, G.2.2.1 own idx = some (7, ci, k, z) → Cond.constantLong own idx z ∈ Ts)
  ∧ (FieldType.int ∈ G.2.2.2.2 ∧ FieldType.long ∈ G.2.2.2.2 ∧ FieldType.boolean ∈ G.2.2.2.2)
  ∧ (∀ aty, newarray.typeOf aty ∈ G.2.2.2.2 → Cond.arrayClass (newarray.typeOf aty) ∈ Ts)
abbrev am_tys (G : am_G) (ca : FieldType → ClassId) : List (ClassId × FieldType) := G.2.2.2.2.map (fun ty => (ca ty, ty))
/-- what a state says of the tables -/
def am_env (G : am_G) (D : va_G) (ca : FieldType → ClassId) (s : State) : Prop := va_K D G.1 (am_tys G ca) s ∧ ∀ C, FieldType.object C ∈ G.2.2.2.2 → va_AO C s
theorem am_ty {G : am_G} {ca : FieldType → ClassId} {ty : FieldType} (h : ty ∈ G.2.2.2.2) : ∃ t0 : Nat, (am_tys G ca)[t0]? = some (ca ty, ty) :=
  List.getElem?_of_mem (List.mem_map.mpr ⟨ty, h, rfl⟩)
theorem am_RA_eq {s : State} {ty : FieldType} {a b : ClassId} (h1 : va_RA s a ty) (h2 : va_RA s b ty) : a = b := by
  cases ty with
  | object C =>
    obtain ⟨_, _, _, _, _, h3⟩ := h1
    obtain ⟨_, _, _, _, _, h4⟩ := h2
    exact Option.some.inj (h3.symm.trans h4)
  | _ => exact Option.some.inj ((show s.vm.findClass _ = some a from h1).symm.trans h2)
theorem am_fld_inv {G : am_G} {own : String} {idx ci k : Nat} (h : am_fld G own idx = some (ci, k)) : ∃ z, G.2.2.1 own idx = some (0, ci, k, z) := by
  unfold am_fld at h
  split at h
  · cases h; exact ⟨_, by assumption⟩
  · cases h
theorem am_getf_inv {H : am_H} {ci k a : Nat} {v : Value} (h : am_getf H ci k a = some v) : ∃ fs, H[a]? = some (.inr (ci, fs)) ∧ fs[k]? = some v := by
  unfold am_getf at h
  split at h
  · split at h
    · rename_i h1 h2
      subst h2
      exact ⟨_, h1, h⟩
    · cases h
  · cases h
theorem am_putf_inv {G : am_G} {own : String} {isI : Bool} {H H' : am_H} {ci k a : Nat} {v : Value} (h : am_putf G own isI H ci k a v = some H') : ∃ fs, H[a]? = some (.inr (ci, fs)) ∧ k < fs.length ∧ am_canput G own isI ci k v = true ∧ H' = H.set a (.inr (ci, fs.set k v)) := by
  unfold am_putf at h
  split at h
  · split at h
    · rename_i h1 h2
      obtain ⟨rfl, h3, h4⟩ := h2
      cases h
      exact ⟨_, h1, h3, h4, rfl⟩
    · cases h
  · cases h
theorem am_canput_inv {G : am_G} {own : String} {isI : Bool} {ci k : Nat} {v : Value} {C : String} {T : u_T} {N : Nat} (hc : G.1[ci]? = some (C, T, N)) (h : am_canput G own isI ci k v = true) : narrow (G.2.1 ci k) v = v ∧ fits (G.2.1 ci k) v = true ∧ ((T k).2.2.2 = false ∨ (isI = true ∧ (T k).1 = own)) := by
  unfold am_canput at h
  rw [hc] at h
  simp only [Bool.and_eq_true, Bool.or_eq_true, decide_eq_true_eq, beq_iff_eq] at h
  exact ⟨h.1.1, h.1.2, h.2⟩
theorem am_nar (ad : Nat → Nat) {ty : FieldType} {v : Value} (h : narrow ty v = v) : narrow ty (am_v ad v) = am_v ad v := by
  cases v with
  | ref i => cases ty <;> rfl
  | _ => exact h
theorem am_fits (ad : Nat → Nat) {ty : FieldType} {v : Value} (h : fits ty v = true) : fits ty (am_v ad v) = true := by
  cases v with
  | ref i => cases ty <;> first | exact h | (cases h)
  | _ => exact h
theorem am_inb_in {i : Int32} {n : Nat} (h : am_inb i n = true) : vp_in i n := fun q => (of_decide_eq_true (show decide (¬ (i < 0 ∨ n ≤ i.toNatClampNeg)) = true from h)) q
theorem am_dv (ad : Nat → Nat) (ty : FieldType) : am_v ad (defaultValue ty) = defaultValue ty := by cases ty <;> rfl
theorem am_rf_v (ad : Nat → Nat) (x : Option Nat) : va_rf (x.map ad) = am_v ad (am_rf x) := by cases x <;> rfl
theorem am_up_map (ad : Nat → Nat) (f : Nat → Option Nat) (k v : Nat) : (fun j => (va_up f k (some v) j).map ad) = va_up (fun j => (f j).map ad) k (some (ad v)) := by
  funext j
  unfold va_up
  by_cases h : j = k
  · simp [h]
  · simp [h]
section AMC
variable {p : Program} {l : Launch} {e : Env} {R : Room} {s : State} {m : MethodId} {args : Array Value} {below : List Frame} {meth : Method} {c : Code} {H : Heap} {locs : List Loc} {cells slots : Nat} {Q : State → Prop}
variable {cc : ByteArray} {pc : Nat} {ls : Array Slot} {ad : Nat → Nat} {G : am_G} {Ts : List Cond} {D : va_G} {ca : FieldType → ClassId} {A : Nat → Prop} {H0 : Heap} {own : String} {isI : Bool}
/-- a place of the heap is set -/
theorem am_kset {AH : am_H} {a : Nat} {c0 c1 : am_C} {st' : List Value} {n : Nat} (hc0 : AH[a]? = some c0) (hz : am_cz c1 = am_cz c0)
    (kk : ∀ (ad' : Nat → Nat) (H1 : Heap) (locs1 : List Loc), am_agree AH.length ad ad' → va_P D G.1 (am_w ad' ca (AH.set a c1)) H1 → va_D A (am_w ad' ca (AH.set a c1)) → va_S A H0 H1 locs1 → W p l e R s m args below meth c H1 locs1 (cells + ((AH.set a c1).length - AH.length)) (slots + (am_sz (AH.set a c1) - am_sz AH)) Q (F0 m (pc + n) ls (st'.map (am_v ad')))) :
    ∀ (H1 : Heap) (locs1 : List Loc), va_P D G.1 ((am_w ad ca AH).set a (ad a, am_c ad ca c1)) H1 → va_D A ((am_w ad ca AH).set a (ad a, am_c ad ca c1)) → va_S A H0 H1 locs1 → W p l e R s m args below meth c H1 locs1 cells slots Q (F0 m (pc + n) ls (st'.map (am_v ad))) := by
  intro H1 locs1 hP hD hS
  rw [am_w_set] at hP hD
  have k1 := kk ad H1 locs1 (fun _ _ => rfl) hP hD hS
  rw [List.length_set, Nat.sub_self, Nat.add_zero, am_sz_set hc0 hz, Nat.sub_self, Nat.add_zero] at k1
  exact k1
theorem am_kid {AH : am_H} {st' : List Value} {n : Nat} (hP : va_P D G.1 (am_w ad ca AH) H) (hD : va_D A (am_w ad ca AH)) (hS : va_S A H0 H locs)
    (kk : ∀ (ad' : Nat → Nat) (H1 : Heap) (locs1 : List Loc), am_agree AH.length ad ad' → va_P D G.1 (am_w ad' ca AH) H1 → va_D A (am_w ad' ca AH) → va_S A H0 H1 locs1 → W p l e R s m args below meth c H1 locs1 (cells + (AH.length - AH.length)) (slots + (am_sz AH - am_sz AH)) Q (F0 m (pc + n) ls (st'.map (am_v ad')))) :
    W p l e R s m args below meth c H locs cells slots Q (F0 m (pc + n) ls (st'.map (am_v ad))) := by
  have k1 := kk ad H locs (fun _ _ => rfl) hP hD hS
  rw [Nat.sub_self, Nat.add_zero, Nat.sub_self, Nat.add_zero] at k1
  exact k1
/-- a cell more -/
theorem am_knew {AH : am_H} {c1 : am_C} {r : List Value} {n q : Nat} {E : va_E} {H1 : Heap} {locs1 : List Loc} (hw : am_hw AH) (hr : ∀ v ∈ r, am_vw AH.length v) (hE : ∀ ad' : Nat → Nat, am_c ad' ca c1 = E)
    (hP : va_P D G.1 (am_w ad ca AH ++ [(q, E)]) H1) (hD : va_D A (am_w ad ca AH ++ [(q, E)])) (hS : va_S A H0 H1 locs1)
    (kk : ∀ (ad' : Nat → Nat) (H1 : Heap) (locs1 : List Loc), am_agree AH.length ad ad' → va_P D G.1 (am_w ad' ca (AH ++ [c1])) H1 → va_D A (am_w ad' ca (AH ++ [c1])) → va_S A H0 H1 locs1 → W p l e R s m args below meth c H1 locs1 (cells + ((AH ++ [c1]).length - AH.length)) (slots + (am_sz (AH ++ [c1]) - am_sz AH)) Q (F0 m (pc + n) ls ((Value.ref AH.length :: r).map (am_v ad')))) :
    W p l e R s m args below meth c H1 locs1 (cells + 1) (slots + am_cz c1) Q (F0 m (pc + n) ls (.ref q :: r.map (am_v ad))) := by
  have hag := am_ext_agree ad AH.length q
  have e1 : am_w (am_ext ad AH.length q) ca (AH ++ [c1]) = am_w ad ca AH ++ [(q, E)] := by
    rw [am_w_app, am_w_agree hag hw, am_ext_self, hE]
  have k1 := kk (am_ext ad AH.length q) H1 locs1 hag (by rw [e1]; exact hP) (by rw [e1]; exact hD) hS
  have e2 : (AH ++ [c1]).length - AH.length = 1 := by simp
  have e3 : am_sz (AH ++ [c1]) - am_sz AH = am_cz c1 := by rw [am_sz_app]; omega
  have e4 : (Value.ref AH.length :: r).map (am_v (am_ext ad AH.length q)) = .ref q :: r.map (am_v ad) := by
    rw [List.map_cons, am_st_agree hag hr]
    show Value.ref (am_ext ad AH.length q AH.length) :: _ = _
    rw [am_ext_self]
  rw [e2, e3, e4] at k1
  exact k1
set_option maxHeartbeats 4000000 in
theorem am_sC_get {n idx : Nat} {st st' : List Value} {AH AH' : am_H} (hok : am_ok G Ts) (h : am_stC G own isI (.getfield idx) n st AH = some (st', AH')) (hx : p.tables.exec = Jvm.exec) (hb : c.code = cc) (hdg : decode cc pc = .ok (.getfield idx, n)) (hown : s.vm.findClass own = some m.cls) (hts : ∀ w ∈ Ts, w.before args s = true) (henv : am_env G D ca s)
    (hP : va_P D G.1 (am_w ad ca AH) H) (hD : va_D A (am_w ad ca AH)) (hS : va_S A H0 H locs)
    (kk : ∀ (ad' : Nat → Nat) (H1 : Heap) (locs1 : List Loc), am_agree AH.length ad ad' → va_P D G.1 (am_w ad' ca AH') H1 → va_D A (am_w ad' ca AH') → va_S A H0 H1 locs1 → W p l e R s m args below meth c H1 locs1 (cells + (AH'.length - AH.length)) (slots + (am_sz AH' - am_sz AH)) Q (F0 m (pc + n) ls (st'.map (am_v ad')))) :
    W p l e R s m args below meth c H locs cells slots Q (F0 m pc ls (st.map (am_v ad))) := by
  dsimp only [am_stC] at h
  split at h
  · rename_i a r ci k hf
    split at h
    · rename_i v hv
      split at h
      · rename_i h3
        subst h3
        cases h
        obtain ⟨z, hz⟩ := am_fld_inv hf
        obtain ⟨C, T, N, hc, hk, hl⟩ := hok.1 own idx ci k z hz
        obtain ⟨hin, hty, hnm⟩ := hok.2.1 ci C T N hc
        obtain ⟨fs, hfs, hvk⟩ := am_getf_inv hv
        exact va_get hx hb hts hin hown henv.1 hP a (am_w_get hfs) hc k hk (hts _ hl) (fun _ h9 => h9) (v := am_v ad v) (by rw [List.getElem?_map, hvk]; rfl) hdg (am_kid (st' := v :: r) hP hD hS kk)
      · cases h
    · cases h
  · cases h
set_option maxHeartbeats 4000000 in
theorem am_sC_put {n idx : Nat} {st st' : List Value} {AH AH' : am_H} (hok : am_ok G Ts) (h : am_stC G own isI (.putfield idx) n st AH = some (st', AH')) (hx : p.tables.exec = Jvm.exec) (hb : c.code = cc) (hdg : decode cc pc = .ok (.putfield idx, n)) (hown : s.vm.findClass own = some m.cls) (hts : ∀ w ∈ Ts, w.before args s = true) (hI : isI = true → meth.name = "<init>") (henv : am_env G D ca s)
    (hP : va_P D G.1 (am_w ad ca AH) H) (hD : va_D A (am_w ad ca AH)) (hS : va_S A H0 H locs)
    (kk : ∀ (ad' : Nat → Nat) (H1 : Heap) (locs1 : List Loc), am_agree AH.length ad ad' → va_P D G.1 (am_w ad' ca AH') H1 → va_D A (am_w ad' ca AH') → va_S A H0 H1 locs1 → W p l e R s m args below meth c H1 locs1 (cells + (AH'.length - AH.length)) (slots + (am_sz AH' - am_sz AH)) Q (F0 m (pc + n) ls (st'.map (am_v ad')))) :
    W p l e R s m args below meth c H locs cells slots Q (F0 m pc ls (st.map (am_v ad))) := by
  dsimp only [am_stC] at h
  split at h
  · rename_i v a r ci k hf
    split at h
    · rename_i H' hv
      split at h
      · rename_i h3
        subst h3
        cases h
        obtain ⟨z, hz⟩ := am_fld_inv hf
        obtain ⟨C, T, N, hc, hk, hl⟩ := hok.1 own idx ci k z hz
        obtain ⟨hin, hty, hnm⟩ := hok.2.1 ci C T N hc
        obtain ⟨fs, hfs, hkl, hcp, rfl⟩ := am_putf_inv hv
        obtain ⟨hn1, hn2, hn3⟩ := am_canput_inv hc hcp
        have hset : (fs.map (am_v ad)).set k (am_v ad v) = (fs.set k v).map (am_v ad) := by rw [List.map_set]
        have k2 := am_kset (c := c) (st' := st') (n := 3) (cells := cells) (slots := slots) hfs (show am_cz (.inr (ci, fs.set k v)) = am_cz (.inr (ci, fs)) from List.length_set ..) kk
        have k3 : ∀ (H1 : Heap) (locs1 : List Loc), va_P D G.1 ((am_w ad ca AH).set a (ad a, .inr (ci, (fs.map (am_v ad)).set k (am_v ad v)))) H1 → va_D A ((am_w ad ca AH).set a (ad a, .inr (ci, (fs.map (am_v ad)).set k (am_v ad v)))) → va_S A H0 H1 locs1 → W p l e R s m args below meth c H1 locs1 cells slots Q (F0 m (pc + 3) ls (st'.map (am_v ad))) := by
          rw [hset]; exact k2
        rcases hn3 with hfin | ⟨hi, hdc⟩
        · exact va_put hx hb hts hin (G.2.1 ci) hty hnm hown henv.1 hP hD hS a (am_w_get hfs) hc k hk (hts _ hl) (fun _ h9 => h9) hfin (hty k hk) (am_nar ad hn1) (am_fits ad hn2) (by rw [List.length_map]; exact hkl) hdg k3
        · by_cases hfin : (T k).2.2.2 = true
          · exact va_putF hx hb hts hin (G.2.1 ci) hty hnm hown henv.1 hP hD hS a (am_w_get hfs) hc k hk (hts _ hl) (fun _ h9 => h9) hfin (hI hi) hdc (hty k hk) (am_nar ad hn1) (am_fits ad hn2) (by rw [List.length_map]; exact hkl) hdg k3
          · exact va_put hx hb hts hin (G.2.1 ci) hty hnm hown henv.1 hP hD hS a (am_w_get hfs) hc k hk (hts _ hl) (fun _ h9 => h9) (by simpa using hfin) (hty k hk) (am_nar ad hn1) (am_fits ad hn2) (by rw [List.length_map]; exact hkl) hdg k3
      · cases h
    · cases h
  · cases h
end AMC
end
section
section AMD
variable {p : Program} {l : Launch} {e : Env} {R : Room} {s : State} {m : MethodId} {args : Array Value} {below : List Frame} {meth : Method} {c : Code} {H : Heap} {locs : List Loc} {cells slots : Nat} {Q : State → Prop}
variable {cc : ByteArray} {pc : Nat} {ls : Array Slot} {ad : Nat → Nat} {G : am_G} {Ts : List Cond} {D : va_G} {ca : FieldType → ClassId} {A : Nat → Prop} {H0 : Heap} {own : String} {isI : Bool}
set_option maxHeartbeats 4000000 in
theorem am_sC_iald {n : Nat} {st st' : List Value} {AH AH' : am_H} (hok : am_ok G Ts) (h : am_stC G own isI (.iaload) n st AH = some (st', AH')) (hx : p.tables.exec = Jvm.exec) (hb : c.code = cc) (hdg : decode cc pc = .ok (.iaload, n)) (henv : am_env G D ca s)
    (hP : va_P D G.1 (am_w ad ca AH) H) (hD : va_D A (am_w ad ca AH)) (hS : va_S A H0 H locs)
    (kk : ∀ (ad' : Nat → Nat) (H1 : Heap) (locs1 : List Loc), am_agree AH.length ad ad' → va_P D G.1 (am_w ad' ca AH') H1 → va_D A (am_w ad' ca AH') → va_S A H0 H1 locs1 → W p l e R s m args below meth c H1 locs1 (cells + (AH'.length - AH.length)) (slots + (am_sz AH' - am_sz AH)) Q (F0 m (pc + n) ls (st'.map (am_v ad')))) :
    W p l e R s m args below meth c H locs cells slots Q (F0 m pc ls (st.map (am_v ad))) := by
  dsimp only [am_stC] at h
  split at h
  · rename_i j a r
    split at h
    · rename_i w f hf
      split at h
      · rename_i hc
        obtain ⟨rfl, hj⟩ := hc
        cases h
        obtain ⟨t0, ht⟩ := am_ty (ca := ca) hok.2.2.2.2.2.2.1.1
        exact va_iald hx hb henv.1 hP a t0 (am_w_get hf) ht (am_inb_in hj) hdg (am_kid (st' := .int (f j.toNatClampNeg) :: r) hP hD hS kk)
      · cases h
    · cases h
  · cases h
set_option maxHeartbeats 4000000 in
theorem am_sC_zald {n : Nat} {st st' : List Value} {AH AH' : am_H} (hok : am_ok G Ts) (h : am_stC G own isI (.baload) n st AH = some (st', AH')) (hx : p.tables.exec = Jvm.exec) (hb : c.code = cc) (hdg : decode cc pc = .ok (.baload, n)) (henv : am_env G D ca s)
    (hP : va_P D G.1 (am_w ad ca AH) H) (hD : va_D A (am_w ad ca AH)) (hS : va_S A H0 H locs)
    (kk : ∀ (ad' : Nat → Nat) (H1 : Heap) (locs1 : List Loc), am_agree AH.length ad ad' → va_P D G.1 (am_w ad' ca AH') H1 → va_D A (am_w ad' ca AH') → va_S A H0 H1 locs1 → W p l e R s m args below meth c H1 locs1 (cells + (AH'.length - AH.length)) (slots + (am_sz AH' - am_sz AH)) Q (F0 m (pc + n) ls (st'.map (am_v ad')))) :
    W p l e R s m args below meth c H locs cells slots Q (F0 m pc ls (st.map (am_v ad))) := by
  dsimp only [am_stC] at h
  split at h
  · rename_i j a r
    split at h
    · rename_i w f hf
      split at h
      · rename_i hc
        obtain ⟨rfl, hj⟩ := hc
        cases h
        obtain ⟨t0, ht⟩ := am_ty (ca := ca) hok.2.2.2.2.2.2.1.2.2
        exact va_zald hx hb henv.1 hP a t0 (am_w_get hf) ht (am_inb_in hj) hdg (am_kid (st' := .int (f j.toNatClampNeg) :: r) hP hD hS kk)
      · cases h
    · cases h
  · cases h
set_option maxHeartbeats 4000000 in
theorem am_sC_lald {n : Nat} {st st' : List Value} {AH AH' : am_H} (hok : am_ok G Ts) (h : am_stC G own isI (.laload) n st AH = some (st', AH')) (hx : p.tables.exec = Jvm.exec) (hb : c.code = cc) (hdg : decode cc pc = .ok (.laload, n)) (henv : am_env G D ca s)
    (hP : va_P D G.1 (am_w ad ca AH) H) (hD : va_D A (am_w ad ca AH)) (hS : va_S A H0 H locs)
    (kk : ∀ (ad' : Nat → Nat) (H1 : Heap) (locs1 : List Loc), am_agree AH.length ad ad' → va_P D G.1 (am_w ad' ca AH') H1 → va_D A (am_w ad' ca AH') → va_S A H0 H1 locs1 → W p l e R s m args below meth c H1 locs1 (cells + (AH'.length - AH.length)) (slots + (am_sz AH' - am_sz AH)) Q (F0 m (pc + n) ls (st'.map (am_v ad')))) :
    W p l e R s m args below meth c H locs cells slots Q (F0 m pc ls (st.map (am_v ad))) := by
  dsimp only [am_stC] at h
  split at h
  · rename_i j a r
    split at h
    · rename_i w f hf
      split at h
      · rename_i hc
        obtain ⟨rfl, hj⟩ := hc
        cases h
        obtain ⟨t0, ht⟩ := am_ty (ca := ca) hok.2.2.2.2.2.2.1.2.1
        exact va_lald hx hb henv.1 hP a t0 (am_w_get hf) ht (am_inb_in hj) hdg (am_kid (st' := .long (f j.toNatClampNeg) :: r) hP hD hS kk)
      · cases h
    · cases h
  · cases h
set_option maxHeartbeats 4000000 in
theorem am_sC_aald {n : Nat} {st st' : List Value} {AH AH' : am_H} (hok : am_ok G Ts) (h : am_stC G own isI (.aaload) n st AH = some (st', AH')) (hx : p.tables.exec = Jvm.exec) (hb : c.code = cc) (hdg : decode cc pc = .ok (.aaload, n)) (henv : am_env G D ca s)
    (hP : va_P D G.1 (am_w ad ca AH) H) (hD : va_D A (am_w ad ca AH)) (hS : va_S A H0 H locs)
    (kk : ∀ (ad' : Nat → Nat) (H1 : Heap) (locs1 : List Loc), am_agree AH.length ad ad' → va_P D G.1 (am_w ad' ca AH') H1 → va_D A (am_w ad' ca AH') → va_S A H0 H1 locs1 → W p l e R s m args below meth c H1 locs1 (cells + (AH'.length - AH.length)) (slots + (am_sz AH' - am_sz AH)) Q (F0 m (pc + n) ls (st'.map (am_v ad')))) :
    W p l e R s m args below meth c H locs cells slots Q (F0 m pc ls (st.map (am_v ad))) := by
  dsimp only [am_stC] at h
  split at h
  · rename_i j a r
    split at h
    · rename_i C w f hf
      split at h
      · rename_i hc
        obtain ⟨rfl, hj, hm⟩ := hc
        cases h
        obtain ⟨t0, ht⟩ := am_ty (ca := ca) hm
        refine va_aldq hx hb henv.1 hP a t0 (am_w_get hf) ht (am_inb_in hj) hdg ?_
        rw [am_rf_v]
        exact am_kid (st' := am_rf (f j.toNatClampNeg) :: r) hP hD hS kk
      · cases h
    · cases h
  · cases h
set_option maxHeartbeats 4000000 in
theorem am_sC_iast {n : Nat} {st st' : List Value} {AH AH' : am_H} (hok : am_ok G Ts) (h : am_stC G own isI (.iastore) n st AH = some (st', AH')) (hx : p.tables.exec = Jvm.exec) (hb : c.code = cc) (hdg : decode cc pc = .ok (.iastore, n)) (henv : am_env G D ca s)
    (hP : va_P D G.1 (am_w ad ca AH) H) (hD : va_D A (am_w ad ca AH)) (hS : va_S A H0 H locs)
    (kk : ∀ (ad' : Nat → Nat) (H1 : Heap) (locs1 : List Loc), am_agree AH.length ad ad' → va_P D G.1 (am_w ad' ca AH') H1 → va_D A (am_w ad' ca AH') → va_S A H0 H1 locs1 → W p l e R s m args below meth c H1 locs1 (cells + (AH'.length - AH.length)) (slots + (am_sz AH' - am_sz AH)) Q (F0 m (pc + n) ls (st'.map (am_v ad')))) :
    W p l e R s m args below meth c H locs cells slots Q (F0 m pc ls (st.map (am_v ad))) := by
  dsimp only [am_stC] at h
  split at h
  · rename_i x j a r
    split at h
    · rename_i w f hf
      split at h
      · rename_i hc
        obtain ⟨rfl, hj⟩ := hc
        cases h
        obtain ⟨t0, ht⟩ := am_ty (ca := ca) hok.2.2.2.2.2.2.1.1
        exact va_iast hx hb henv.1 hP hD hS a t0 (am_w_get hf) ht (am_inb_in hj) hdg (am_kset (c1 := .inl (.int, w, .inl (upd f j.toNatClampNeg x))) (n := 1) hf rfl kk)
      · cases h
    · cases h
  · cases h
set_option maxHeartbeats 4000000 in
theorem am_sC_zast {n : Nat} {st st' : List Value} {AH AH' : am_H} (hok : am_ok G Ts) (h : am_stC G own isI (.bastore) n st AH = some (st', AH')) (hx : p.tables.exec = Jvm.exec) (hb : c.code = cc) (hdg : decode cc pc = .ok (.bastore, n)) (henv : am_env G D ca s)
    (hP : va_P D G.1 (am_w ad ca AH) H) (hD : va_D A (am_w ad ca AH)) (hS : va_S A H0 H locs)
    (kk : ∀ (ad' : Nat → Nat) (H1 : Heap) (locs1 : List Loc), am_agree AH.length ad ad' → va_P D G.1 (am_w ad' ca AH') H1 → va_D A (am_w ad' ca AH') → va_S A H0 H1 locs1 → W p l e R s m args below meth c H1 locs1 (cells + (AH'.length - AH.length)) (slots + (am_sz AH' - am_sz AH)) Q (F0 m (pc + n) ls (st'.map (am_v ad')))) :
    W p l e R s m args below meth c H locs cells slots Q (F0 m pc ls (st.map (am_v ad))) := by
  dsimp only [am_stC] at h
  split at h
  · rename_i x j a r
    split at h
    · rename_i w f hf
      split at h
      · rename_i hc
        obtain ⟨rfl, hj⟩ := hc
        cases h
        obtain ⟨t0, ht⟩ := am_ty (ca := ca) hok.2.2.2.2.2.2.1.2.2
        exact va_zast hx hb henv.1 hP hD hS a t0 (am_w_get hf) ht (am_inb_in hj) hdg (am_kset (c1 := .inl (.boolean, w, .inl (upd f j.toNatClampNeg (vp_nar .boolean x)))) (n := 1) hf rfl kk)
      · cases h
    · cases h
  · cases h
set_option maxHeartbeats 4000000 in
theorem am_sC_last {n : Nat} {st st' : List Value} {AH AH' : am_H} (hok : am_ok G Ts) (h : am_stC G own isI (.lastore) n st AH = some (st', AH')) (hx : p.tables.exec = Jvm.exec) (hb : c.code = cc) (hdg : decode cc pc = .ok (.lastore, n)) (henv : am_env G D ca s)
    (hP : va_P D G.1 (am_w ad ca AH) H) (hD : va_D A (am_w ad ca AH)) (hS : va_S A H0 H locs)
    (kk : ∀ (ad' : Nat → Nat) (H1 : Heap) (locs1 : List Loc), am_agree AH.length ad ad' → va_P D G.1 (am_w ad' ca AH') H1 → va_D A (am_w ad' ca AH') → va_S A H0 H1 locs1 → W p l e R s m args below meth c H1 locs1 (cells + (AH'.length - AH.length)) (slots + (am_sz AH' - am_sz AH)) Q (F0 m (pc + n) ls (st'.map (am_v ad')))) :
    W p l e R s m args below meth c H locs cells slots Q (F0 m pc ls (st.map (am_v ad))) := by
  dsimp only [am_stC] at h
  split at h
  · rename_i x j a r
    split at h
    · rename_i w f hf
      split at h
      · rename_i hc
        obtain ⟨rfl, hj⟩ := hc
        cases h
        obtain ⟨t0, ht⟩ := am_ty (ca := ca) hok.2.2.2.2.2.2.1.2.1
        exact va_last hx hb henv.1 hP hD hS a t0 (am_w_get hf) ht (am_inb_in hj) hdg (am_kset (c1 := .inl (.long, w, .inr (.inl (vp_updL f j.toNatClampNeg x)))) (n := 1) hf rfl kk)
      · cases h
    · cases h
  · cases h
set_option maxHeartbeats 4000000 in
theorem am_sC_aast {n : Nat} {st st' : List Value} {AH AH' : am_H} (hok : am_ok G Ts) (h : am_stC G own isI (.aastore) n st AH = some (st', AH')) (hx : p.tables.exec = Jvm.exec) (hb : c.code = cc) (hdg : decode cc pc = .ok (.aastore, n)) (henv : am_env G D ca s)
    (hP : va_P D G.1 (am_w ad ca AH) H) (hD : va_D A (am_w ad ca AH)) (hS : va_S A H0 H locs)
    (kk : ∀ (ad' : Nat → Nat) (H1 : Heap) (locs1 : List Loc), am_agree AH.length ad ad' → va_P D G.1 (am_w ad' ca AH') H1 → va_D A (am_w ad' ca AH') → va_S A H0 H1 locs1 → W p l e R s m args below meth c H1 locs1 (cells + (AH'.length - AH.length)) (slots + (am_sz AH' - am_sz AH)) Q (F0 m (pc + n) ls (st'.map (am_v ad')))) :
    W p l e R s m args below meth c H locs cells slots Q (F0 m pc ls (st.map (am_v ad))) := by
  dsimp only [am_stC] at h
  split at h
  · rename_i v j a r
    split at h
    · rename_i C w f ci fs hf hv
      split at h
      · rename_i hc
        obtain ⟨rfl, hj, hm, hC⟩ := hc
        cases h
        obtain ⟨t0, ht⟩ := am_ty (ca := ca) hm
        cases hq : G.1[ci]? with
        | none => rw [hq] at hC; cases hC
        | some q =>
          rw [hq] at hC
          cases hC
          have k2 := am_kset (c := c) (st' := st') (n := 1) (cells := cells) (slots := slots) (c1 := .inl (.object q.1, w, .inr (.inr (.inr (.inr (va_up f j.toNatClampNeg (some v))))))) hf rfl kk
          refine va_astq hx hb henv.1 hP hD hS a t0 v ci (am_w_get hf) ht (am_w_get hv) hq (am_inb_in hj) hdg (fun H1 locs1 hP1 hD1 hS1 => ?_)
          refine k2 H1 locs1 ?_ ?_ hS1
          · show va_P D G.1 ((am_w ad ca AH).set a (ad a, .inl (ca (.object q.1), w, .inr (.inr (.inr (.inr (fun i => (va_up f j.toNatClampNeg (some v) i).map ad))))))) H1
            rw [am_up_map]; exact hP1
          · show va_D A ((am_w ad ca AH).set a (ad a, .inl (ca (.object q.1), w, .inr (.inr (.inr (.inr (fun i => (va_up f j.toNatClampNeg (some v) i).map ad)))))))
            rw [am_up_map]; exact hD1
      · cases h
    · cases h
  · cases h
set_option maxHeartbeats 4000000 in
theorem am_sC_alen {n : Nat} {st st' : List Value} {AH AH' : am_H} (hok : am_ok G Ts) (h : am_stC G own isI (.arraylength) n st AH = some (st', AH')) (hx : p.tables.exec = Jvm.exec) (hb : c.code = cc) (hdg : decode cc pc = .ok (.arraylength, n)) (henv : am_env G D ca s)
    (hP : va_P D G.1 (am_w ad ca AH) H) (hD : va_D A (am_w ad ca AH)) (hS : va_S A H0 H locs)
    (kk : ∀ (ad' : Nat → Nat) (H1 : Heap) (locs1 : List Loc), am_agree AH.length ad ad' → va_P D G.1 (am_w ad' ca AH') H1 → va_D A (am_w ad' ca AH') → va_S A H0 H1 locs1 → W p l e R s m args below meth c H1 locs1 (cells + (AH'.length - AH.length)) (slots + (am_sz AH' - am_sz AH)) Q (F0 m (pc + n) ls (st'.map (am_v ad')))) :
    W p l e R s m args below meth c H locs cells slots Q (F0 m pc ls (st.map (am_v ad))) := by
  dsimp only [am_stC] at h
  split at h
  · rename_i a r
    split at h
    · rename_i ty w f hf
      split at h
      · rename_i hc
        obtain ⟨rfl, hm⟩ := hc
        cases h
        obtain ⟨t0, ht⟩ := am_ty (ca := ca) hm
        refine va_alen hx hb henv.1 hP a t0 (am_w_get hf) ht (v := Int32.ofNat w) ?_ hdg (am_kid (st' := .int (Int32.ofNat w) :: r) hP hD hS kk)
        rcases f with f | f | f | f | f <;> rfl
      · cases h
    · cases h
  · cases h
set_option maxHeartbeats 4000000 in
theorem am_sC_ldc {n idx : Nat} {st st' : List Value} {AH AH' : am_H} (hok : am_ok G Ts) (h : am_stC G own isI (.ldc idx) n st AH = some (st', AH')) (hx : p.tables.exec = Jvm.exec) (hb : c.code = cc) (hdg : decode cc pc = .ok (.ldc idx, n)) (hown : s.vm.findClass own = some m.cls) (hts : ∀ w ∈ Ts, w.before args s = true)
    (hP : va_P D G.1 (am_w ad ca AH) H) (hD : va_D A (am_w ad ca AH)) (hS : va_S A H0 H locs)
    (kk : ∀ (ad' : Nat → Nat) (H1 : Heap) (locs1 : List Loc), am_agree AH.length ad ad' → va_P D G.1 (am_w ad' ca AH') H1 → va_D A (am_w ad' ca AH') → va_S A H0 H1 locs1 → W p l e R s m args below meth c H1 locs1 (cells + (AH'.length - AH.length)) (slots + (am_sz AH' - am_sz AH)) Q (F0 m (pc + n) ls (st'.map (am_v ad')))) :
    W p l e R s m args below meth c H locs cells slots Q (F0 m pc ls (st.map (am_v ad))) := by
  dsimp only [am_stC] at h
  split at h
  · rename_i z1 z2 v hk
    split at h
    · rename_i h3
      subst h3
      cases h
      exact lv_ldc hx hb hown (hts _ (hok.2.2.2.2.1 own idx _ _ v hk)) hdg (am_kid (st' := .int v.toInt32 :: st) hP hD hS kk)
    · cases h
  · cases h
set_option maxHeartbeats 4000000 in
theorem am_sC_ldc2 {n idx : Nat} {st st' : List Value} {AH AH' : am_H} (hok : am_ok G Ts) (h : am_stC G own isI (.ldc2_w idx) n st AH = some (st', AH')) (hx : p.tables.exec = Jvm.exec) (hb : c.code = cc) (hdg : decode cc pc = .ok (.ldc2_w idx, n)) (hown : s.vm.findClass own = some m.cls) (hts : ∀ w ∈ Ts, w.before args s = true)
    (hP : va_P D G.1 (am_w ad ca AH) H) (hD : va_D A (am_w ad ca AH)) (hS : va_S A H0 H locs)
    (kk : ∀ (ad' : Nat → Nat) (H1 : Heap) (locs1 : List Loc), am_agree AH.length ad ad' → va_P D G.1 (am_w ad' ca AH') H1 → va_D A (am_w ad' ca AH') → va_S A H0 H1 locs1 → W p l e R s m args below meth c H1 locs1 (cells + (AH'.length - AH.length)) (slots + (am_sz AH' - am_sz AH)) Q (F0 m (pc + n) ls (st'.map (am_v ad')))) :
    W p l e R s m args below meth c H locs cells slots Q (F0 m pc ls (st.map (am_v ad))) := by
  dsimp only [am_stC] at h
  split at h
  · rename_i z1 z2 v hk
    split at h
    · rename_i h3
      subst h3
      cases h
      exact lv_ldc2 hx hb hown (hts _ (hok.2.2.2.2.2.1 own idx _ _ v hk)) hdg (am_kid (st' := .long v :: st) hP hD hS kk)
    · cases h
  · cases h
set_option maxHeartbeats 4000000 in
theorem am_sC_new {n idx : Nat} {st st' : List Value} {AH AH' : am_H} (hok : am_ok G Ts) (h : am_stC G own isI (.new idx) n st AH = some (st', AH')) (hx : p.tables.exec = Jvm.exec) (hb : c.code = cc) (hdg : decode cc pc = .ok (.new idx, n)) (hown : s.vm.findClass own = some m.cls) (hts : ∀ w ∈ Ts, w.before args s = true) (henv : am_env G D ca s) (hA : ∀ q, H0.size ≤ q → A q) (hw : am_hw AH) (hsv : ∀ v ∈ st, am_vw AH.length v) (hcl : cells + (AH'.length - AH.length) ≤ R.cells) (hsl : slots + (am_sz AH' - am_sz AH) ≤ R.slots)
    (hP : va_P D G.1 (am_w ad ca AH) H) (hD : va_D A (am_w ad ca AH)) (hS : va_S A H0 H locs)
    (kk : ∀ (ad' : Nat → Nat) (H1 : Heap) (locs1 : List Loc), am_agree AH.length ad ad' → va_P D G.1 (am_w ad' ca AH') H1 → va_D A (am_w ad' ca AH') → va_S A H0 H1 locs1 → W p l e R s m args below meth c H1 locs1 (cells + (AH'.length - AH.length)) (slots + (am_sz AH' - am_sz AH)) Q (F0 m (pc + n) ls (st'.map (am_v ad')))) :
    W p l e R s m args below meth c H locs cells slots Q (F0 m pc ls (st.map (am_v ad))) := by
  dsimp only [am_stC] at h
  split at h
  · rename_i ci z1 z2 hk
    split at h
    · rename_i H' hH
      split at h
      · rename_i h3
        subst h3
        cases h
        obtain ⟨C, T, N, hc, hlk, hin, hini⟩ := hok.2.2.1 own idx ci _ _ hk
        obtain ⟨hi1, hty, hnm⟩ := hok.2.1 ci C T N hc
        unfold am_new at hH
        rw [hc] at hH
        cases hH
        have e2 : (AH ++ [Sum.inr (ci, (List.range N).map (fun k => defaultValue (G.2.1 ci k)))]).length - AH.length = 1 := by simp
        have e3 : am_sz (AH ++ [Sum.inr (ci, (List.range N).map (fun k => defaultValue (G.2.1 ci k)))]) - am_sz AH = N := by rw [am_sz_app]; simp [am_cz]
        refine va_new (c0 := c) (fs := (List.range N).map (fun k => defaultValue (G.2.1 ci k))) hx hb hts hi1 (G.2.1 ci) hty hown (hts _ hlk) (hts _ hin) (hts _ hini) henv.1 hP hD hS hA hc (fun j hj => ?_) (by rw [e2] at hcl; exact hcl) (by rw [e3] at hsl; exact hsl) hdg (fun q H1 hP1 hD1 hS1 => ?_)
        · show _ = ((List.range N).map (fun k => defaultValue (G.2.1 ci k))).getD j .null
          simp [hj]
        · have hE : ∀ ad' : Nat → Nat, am_c ad' ca (Sum.inr (ci, (List.range N).map (fun k => defaultValue (G.2.1 ci k)))) = .inr (ci, (List.range N).map (fun k => defaultValue (G.2.1 ci k))) := by
            intro ad'
            show (Sum.inr (ci, ((List.range N).map (fun k => defaultValue (G.2.1 ci k))).map (am_v ad')) : va_E) = _
            rw [List.map_map]
            congr 2
            apply List.map_congr_left
            intro k _
            exact am_dv ad' _
          have k1 := am_knew (c := c) (n := 3) hw hsv hE hP1 hD1 hS1 kk
          have e4 : am_cz (Sum.inr (ci, (List.range N).map (fun k => defaultValue (G.2.1 ci k)))) = N := by simp [am_cz]
          rw [e4] at k1
          exact k1
      · cases h
    · cases h
  · cases h
set_option maxHeartbeats 4000000 in
theorem am_sC_newa {n : Nat} {aty : ArrayType} {st st' : List Value} {AH AH' : am_H} (hok : am_ok G Ts) (h : am_stC G own isI (.newarray aty) n st AH = some (st', AH')) (hx : p.tables.exec = Jvm.exec) (hb : c.code = cc) (hdg : decode cc pc = .ok (.newarray aty, n)) (hown : s.vm.findClass own = some m.cls) (hts : ∀ w ∈ Ts, w.before args s = true) (henv : am_env G D ca s) (hA : ∀ q, H0.size ≤ q → A q) (hw : am_hw AH) (hsv : ∀ v ∈ st, am_vw AH.length v) (hcl : cells + (AH'.length - AH.length) ≤ R.cells) (hsl : slots + (am_sz AH' - am_sz AH) ≤ R.slots)
    (hP : va_P D G.1 (am_w ad ca AH) H) (hD : va_D A (am_w ad ca AH)) (hS : va_S A H0 H locs)
    (kk : ∀ (ad' : Nat → Nat) (H1 : Heap) (locs1 : List Loc), am_agree AH.length ad ad' → va_P D G.1 (am_w ad' ca AH') H1 → va_D A (am_w ad' ca AH') → va_S A H0 H1 locs1 → W p l e R s m args below meth c H1 locs1 (cells + (AH'.length - AH.length)) (slots + (am_sz AH' - am_sz AH)) Q (F0 m (pc + n) ls (st'.map (am_v ad')))) :
    W p l e R s m args below meth c H locs cells slots Q (F0 m pc ls (st.map (am_v ad))) := by
  dsimp only [am_stC] at h
  split at h
  · rename_i w r
    split at h
    · rename_i H' hH
      split at h
      · rename_i h3
        subst h3
        cases h
        unfold am_newa at hH
        split at hH
        · rename_i a0 ha0
          split at hH
          · rename_i hc
            obtain ⟨hn0, hby, hm⟩ := hc
            cases hH
            have hz : a0.1 = w.toNatClampNeg ∧ (∀ ad' : Nat → Nat, am_a ad' a0 = a0) ∧ ∀ cA : ClassId, vp_cell cA a0 = arrV cA w.toNatClampNeg (fun _ => defaultValue (newarray.typeOf aty)) := by
              cases hty : newarray.typeOf aty <;> rw [hty] at ha0 <;> cases ha0 <;> exact ⟨rfl, fun _ => rfl, fun _ => rfl⟩
            have e2 : (AH ++ [Sum.inl (newarray.typeOf aty, a0)]).length - AH.length = 1 := by simp
            have e4 : am_cz (Sum.inl (newarray.typeOf aty, a0)) = w.toNatClampNeg := hz.1
            have e3 : am_sz (AH ++ [Sum.inl (newarray.typeOf aty, a0)]) - am_sz AH = w.toNatClampNeg := by rw [am_sz_app, e4]; omega
            refine va_newa hx hb (hts _ (hok.2.2.2.2.2.2.2 aty hm)) rfl henv.1 hP hD hS hA (a0 := a0) hz.2.2 hn0 rfl hby (by rw [e2] at hcl; exact hcl) (by rw [e3] at hsl; exact hsl) hdg (fun q cA H1 hK1 hP1 hD1 hS1 => ?_)
            have hcA : ca (newarray.typeOf aty) = cA := by
              obtain ⟨t0, ht⟩ := am_ty (ca := ca) hm
              have g1 := (henv.1.2 t0 _ ht).2
              have g2 := (hK1.2 (am_tys G ca).length (cA, newarray.typeOf aty) (by simp)).2
              exact am_RA_eq g1 g2
            have k1 := am_knew (c := c) (n := 2) (r := r) (E := .inl (cA, a0)) hw (fun v hv => hsv v (List.mem_cons_of_mem _ hv)) (fun ad' => by show (Sum.inl (ca (newarray.typeOf aty), am_a ad' a0) : va_E) = _; rw [hz.2.1, hcA]) hP1 hD1 hS1 kk
            rw [e4] at k1
            exact k1
          · cases hH
        · cases hH
      · cases h
    · cases h
  · cases h
set_option maxHeartbeats 4000000 in
theorem am_sC_newq {n idx : Nat} {st st' : List Value} {AH AH' : am_H} (hok : am_ok G Ts) (h : am_stC G own isI (.anewarray idx) n st AH = some (st', AH')) (hx : p.tables.exec = Jvm.exec) (hb : c.code = cc) (hdg : decode cc pc = .ok (.anewarray idx, n)) (hown : s.vm.findClass own = some m.cls) (hts : ∀ w ∈ Ts, w.before args s = true) (henv : am_env G D ca s) (hA : ∀ q, H0.size ≤ q → A q) (hw : am_hw AH) (hsv : ∀ v ∈ st, am_vw AH.length v) (hcl : cells + (AH'.length - AH.length) ≤ R.cells) (hsl : slots + (am_sz AH' - am_sz AH) ≤ R.slots)
    (hP : va_P D G.1 (am_w ad ca AH) H) (hD : va_D A (am_w ad ca AH)) (hS : va_S A H0 H locs)
    (kk : ∀ (ad' : Nat → Nat) (H1 : Heap) (locs1 : List Loc), am_agree AH.length ad ad' → va_P D G.1 (am_w ad' ca AH') H1 → va_D A (am_w ad' ca AH') → va_S A H0 H1 locs1 → W p l e R s m args below meth c H1 locs1 (cells + (AH'.length - AH.length)) (slots + (am_sz AH' - am_sz AH)) Q (F0 m (pc + n) ls (st'.map (am_v ad')))) :
    W p l e R s m args below meth c H locs cells slots Q (F0 m pc ls (st.map (am_v ad))) := by
  dsimp only [am_stC] at h
  split at h
  · rename_i w r ci z1 z2 hk
    split at h
    · rename_i H' hH
      split at h
      · rename_i h3
        subst h3
        cases h
        obtain ⟨C, T, N, hc, hlk⟩ := hok.2.2.2.1 own idx ci _ _ hk
        unfold am_newq at hH
        rw [hc] at hH
        dsimp only at hH
        split at hH
        · rename_i hcc
          obtain ⟨hn0, hby, hm⟩ := hcc
          cases hH
          have e2 : (AH ++ [(Sum.inl (FieldType.object C, w.toNatClampNeg, .inr (.inr (.inr (.inr (fun _ => none))))) : am_C)]).length - AH.length = 1 := by simp
          have e3 : am_sz (AH ++ [(Sum.inl (FieldType.object C, w.toNatClampNeg, .inr (.inr (.inr (.inr (fun _ => none))))) : am_C)]) - am_sz AH = w.toNatClampNeg := by rw [am_sz_app]; simp [am_cz]
          refine va_newq hx hb hown (hts _ hlk) (henv.2 C hm) henv.1 hP hD hS hA hn0 rfl hby (by rw [e2] at hcl; exact hcl) (by rw [e3] at hsl; exact hsl) hdg (fun q cA H1 hK1 hP1 hD1 hS1 => ?_)
          have hcA : ca (.object C) = cA := by
            obtain ⟨t0, ht⟩ := am_ty (ca := ca) hm
            have g1 := (henv.1.2 t0 _ ht).2
            have g2 := (hK1.2 (am_tys G ca).length (cA, .object C) (by simp)).2
            exact am_RA_eq g1 g2
          exact am_knew (c := c) (n := 3) (r := r) (c1 := .inl (FieldType.object C, w.toNatClampNeg, .inr (.inr (.inr (.inr (fun _ => none)))))) (E := .inl (cA, w.toNatClampNeg, .inr (.inr (.inr (.inr (fun _ => none)))))) hw (fun v hv => hsv v (List.mem_cons_of_mem _ hv)) (fun ad' => by rw [← hcA]; rfl) hP1 hD1 hS1 kk
        · cases hH
      · cases h
    · cases h
  · cases h
end AMD
end
section
/-! calls, returns, runs -/
def am_ent (H : am_H) (b ci : Nat) : Bool := match H[b]? with
  | some (.inr (c, _)) => c == ci
  | _ => false
def am_isC (G : am_G) (H : am_H) (b : Nat) (C : String) : Bool := match H[b]? with
  | some (.inr (ci, _)) => match G.1[ci]? with
    | some q => q.1 == C
    | none => false
  | _ => false
def am_out (r : List Value) (x : Option (Option Value × am_H)) : Option (List Value × am_H) := match x with
  | some (v, H') => some (v.toList ++ r, H')
  | none => none
def am_cpy (n : Nat) (st : List Value) (H : am_H) : Option (List Value × am_H) := match st with
  | .int w :: .int dp :: .ref a :: .int sp :: .ref a0 :: r => match H[a0]?, H[a]? with
    | some (.inl (.int, n0, .inl f)), some (.inl (.int, n1, .inl g)) => if n = 3 ∧ (r.map fun v => v.category).sum ≤ 8 ∧ ¬ sp < 0 ∧ ¬ dp < 0 ∧ ¬ w < 0 ∧ sp.toNatClampNeg + w.toNatClampNeg ≤ n0 ∧ dp.toNatClampNeg + w.toNatClampNeg ≤ n1 then some (r, H.set a (.inl (.int, n1, .inl (va_cpy f g sp.toNatClampNeg dp.toNatClampNeg w.toNatClampNeg)))) else none
    | some (.inl (.long, n0, .inr (.inl f))), some (.inl (.long, n1, .inr (.inl g))) => if n = 3 ∧ (r.map fun v => v.category).sum ≤ 8 ∧ ¬ sp < 0 ∧ ¬ dp < 0 ∧ ¬ w < 0 ∧ sp.toNatClampNeg + w.toNatClampNeg ≤ n0 ∧ dp.toNatClampNeg + w.toNatClampNeg ≤ n1 then some (r, H.set a (.inl (.long, n1, .inr (.inl (va_cpy f g sp.toNatClampNeg dp.toNatClampNeg w.toNatClampNeg))))) else none
    | _, _ => none
  | _ => none
/-- a call: of a method of an object, or of a class -/
def am_cv (G : am_G) (call : Nat → List Value → am_H → Option (Option Value × am_H)) (j n : Nat) (chk : Bool) (st : List Value) (H : am_H) : Option (List Value × am_H) := match G.2.2.2.1[j]? with
  | some M => match st.drop M.2.2.2.2.1 with
    | .ref b :: r => if n = 3 ∧ M.2.2.2.2.1 ≤ st.length ∧ (r.map fun v => v.category).sum ≤ 8 ∧ (chk = true → am_isC G H b M.1.cls = true) then am_out r (call j (.ref b :: (st.take M.2.2.2.2.1).reverse) H) else none
    | _ => none
  | none => none
def am_cs (G : am_G) (call : Nat → List Value → am_H → Option (Option Value × am_H)) (j n : Nat) (st : List Value) (H : am_H) : Option (List Value × am_H) := match G.2.2.2.1[j]? with
  | some M => if n = 3 ∧ M.2.2.2.2.1 ≤ st.length ∧ ((st.drop M.2.2.2.2.1).map fun v => v.category).sum ≤ 8 then am_out (st.drop M.2.2.2.2.1) (call j (st.take M.2.2.2.2.1).reverse H) else none
  | none => none
def am_stD (G : am_G) (call : Nat → List Value → am_H → Option (Option Value × am_H)) (own : String) (i : Instr) (n : Nat) (st : List Value) (H : am_H) : Option (List Value × am_H) := match i with
  | .invokevirtual idx => match G.2.2.1 own idx with
    | some (1, j, 0, _) => am_cv G call j n true st H
    | _ => none
  | .invokespecial idx => match G.2.2.1 own idx with
    | some (1, j, 1, _) => am_cv G call j n false st H
    | some (1, j, 2, _) => am_cv G call j n false st H
    | some (5, _, _, _) => match st with
      | .ref _ :: r => if n = 3 ∧ (r.map fun v => v.category).sum ≤ 8 then some (r, H) else none
      | _ => none
    | _ => none
  | .invokestatic idx => match G.2.2.1 own idx with
    | some (1, j, 3, _) => am_cs G call j n st H
    | some (1, j, 4, _) => am_cs G call j n st H
    | some (4, _, _, _) => am_cpy n st H
    | _ => none
  | _ => none
def am_ret (ret : Option FieldType) (i : Instr) (n : Nat) (st : List Value) : Option (Option Value) := match i with
  | .return_ => match st, ret with
    | [], none => if n = 1 then some none else none
    | _, _ => none
  | .ireturn => match st, ret with
    | [.int v], some ty => if n = 1 ∧ narrow ty (.int v) = .int v then some (some (.int v)) else none
    | _, _ => none
  | .lreturn => match st, ret with
    | [.long v], some .long => if n = 1 then some (some (.long v)) else none
    | _, _ => none
  | .areturn => match st, ret with
    | [.ref a], some (.object _) => if n = 1 then some (some (.ref a)) else none
    | [.ref a], some (.array _) => if n = 1 then some (some (.ref a)) else none
    | _, _ => none
  | _ => none
def am_row (M : am_M) (pc : Nat) : Option (Instr × Nat) := (M.2.2.2.2.2.find? (fun q => q.1 == pc)).map (fun q => q.2)
/-- one instruction: on we go, or the answer -/
def am_one (G : am_G) (call : Nat → List Value → am_H → Option (Option Value × am_H)) (M : am_M) (i : Instr) (n pc : Nat) (lv : am_L) (st : List Value) (H : am_H) : Option ((Nat × am_L × List Value × am_H) ⊕ (Option Value × am_H)) :=
  match am_stA M.2.2.1 i n lv st with
  | some (lv', st') => some (.inl (pc + n, lv', st', H))
  | none => match am_stB i n pc st with
    | some (pc', st') => some (.inl (pc', lv, st', H))
    | none => match am_stC G M.1.cls (M.1.name == "<init>") i n st H with
      | some (st', H') => some (.inl (pc + n, lv, st', H'))
      | none => match am_stD G call M.1.cls i n st H with
        | some (st', H') => some (.inl (pc + n, lv, st', H'))
        | none => match am_ret M.2.2.2.1 i n st with
          | some v => some (.inr (v, H))
          | none => none
def am_exec (G : am_G) (call : Nat → List Value → am_H → Option (Option Value × am_H)) (M : am_M) : Nat → Nat → am_L → List Value → am_H → Option (Option Value × am_H)
  | 0, _, _, _, _ => none
  | f + 1, pc, lv, st, H => match am_row M pc with
    | some (i, n) => match am_one G call M i n pc lv st H with
      | some (.inl (pc', lv', st', H')) => am_exec G call M f pc' lv' st' H'
      | some (.inr r) => some r
      | none => none
    | none => none
def am_call (G : am_G) (fuel : Nat) : Nat → Nat → List Value → am_H → Option (Option Value × am_H)
  | 0, _, _, _ => none
  | d + 1, j, as, H => match G.2.2.2.1[j]? with
    | some M => if (lg_sl as).length ≤ M.2.2.1 ∧ M.2.2.1 ≤ 45 then am_exec G (am_call G fuel d) M fuel 0 (lv_args 0 as) [] H else none
    | none => none
/-! references stay within; the heap grows -/
def am_ws (N : Nat) (st : List Value) : Prop := ∀ v ∈ st, am_vw N v
def am_wl (N : Nat) (lv : am_L) : Prop := ∀ q ∈ lv, am_vw N q.2
theorem am_vw_i (N : Nat) (x : Int32) : am_vw N (.int x) := fun i h => by cases h
theorem am_vw_l (N : Nat) (x : Int64) : am_vw N (.long x) := fun i h => by cases h
theorem am_vw_n (N : Nat) : am_vw N .null := fun i h => by cases h
theorem am_vw_mono {N N' : Nat} (h : N ≤ N') {v : Value} (hv : am_vw N v) : am_vw N' v := fun i hi => Nat.lt_of_lt_of_le (hv i hi) h
theorem am_ws_mono {N N' : Nat} (h : N ≤ N') {st : List Value} (hv : am_ws N st) : am_ws N' st := fun v hx => am_vw_mono h (hv v hx)
theorem am_wl_mono {N N' : Nat} (h : N ≤ N') {lv : am_L} (hv : am_wl N lv) : am_wl N' lv := fun q hx => am_vw_mono h (hv q hx)
theorem am_ws_cons {N : Nat} {v : Value} {st : List Value} : am_ws N (v :: st) ↔ am_vw N v ∧ am_ws N st := List.forall_mem_cons
theorem am_ws_nil (N : Nat) : am_ws N [] := fun v h => by cases h
theorem am_cw_mono {N N' : Nat} (h : N ≤ N') {c : am_C} (hc : am_cw N c) : am_cw N' c := by
  cases c with
  | inl x =>
    obtain ⟨ty, w, f | f | f | f | f⟩ := x
    · exact trivial
    · exact trivial
    · exact trivial
    · exact trivial
    · exact fun j i hj => Nat.lt_of_lt_of_le ((show ∀ j i, f j = some i → i < N from hc) j i hj) h
  | inr x => exact fun v hv => am_vw_mono h ((show ∀ v ∈ x.2, am_vw N v from hc) v hv)
theorem am_hw_set {H : am_H} {a : Nat} {c : am_C} (hw : am_hw H) (hc : am_cw H.length c) : am_hw (H.set a c) := by
  intro x hx
  rw [List.length_set]
  rcases List.mem_or_eq_of_mem_set hx with h | h
  · exact hw x h
  · rw [h]; exact hc
theorem am_hw_app {H : am_H} {c : am_C} (hw : am_hw H) (hc : am_cw H.length c) : am_hw (H ++ [c]) := by
  intro x hx
  have hl : H.length ≤ (H ++ [c]).length := by simp
  rcases List.mem_append.mp hx with h | h
  · exact am_cw_mono hl (hw x h)
  · rw [List.mem_singleton.mp h]; exact am_cw_mono hl hc
theorem am_wl_s1 {N : Nat} {lv : am_L} {k : Nat} {v : Value} (hl : am_wl N lv) (hv : am_vw N v) : am_wl N (am_s1 lv k v) := by
  intro q hq
  rcases List.mem_cons.mp hq with rfl | h
  · exact hv
  · exact hl q (List.mem_filter.mp h).1
theorem am_wl_s2 {N : Nat} {lv : am_L} {k : Nat} {v : Value} (hl : am_wl N lv) (hv : am_vw N v) : am_wl N (am_s2 lv k v) := by
  intro q hq
  rcases List.mem_cons.mp hq with rfl | h
  · exact hv
  · exact hl q (List.mem_filter.mp h).1
theorem am_wl_ld {N : Nat} {lv : am_L} {k : Nat} {v : Value} (hl : am_wl N lv) (h : am_ld lv k = some v) : am_vw N v := hl (k, v) (am_ld_mem h)
set_option maxHeartbeats 4000000 in
theorem am_wA {N nL n : Nat} {i : Instr} {lv lv' : am_L} {st st' : List Value} (h : am_stA nL i n lv st = some (lv', st')) (hl : am_wl N lv) (hs : am_ws N st) : am_wl N lv' ∧ am_ws N st' := by
  have i2 : ∀ f, am_i2 lv n f st = some (lv', st') → am_wl N lv' ∧ am_ws N st' := fun f h => by
    obtain ⟨x, y, z, r, hz, rfl, rfl, rfl, rfl⟩ := am_i2_inv h
    exact ⟨hl, am_ws_cons.mpr ⟨am_vw_i N z, (am_ws_cons.mp (am_ws_cons.mp hs).2).2⟩⟩
  have l2 : ∀ f, am_l2 lv n f st = some (lv', st') → am_wl N lv' ∧ am_ws N st' := fun f h => by
    obtain ⟨x, y, r, rfl, rfl, rfl, rfl⟩ := am_l2_inv h
    exact ⟨hl, am_ws_cons.mpr ⟨am_vw_l N _, (am_ws_cons.mp (am_ws_cons.mp hs).2).2⟩⟩
  have il : ∀ f, am_il lv n f st = some (lv', st') → am_wl N lv' ∧ am_ws N st' := fun f h => by
    obtain ⟨x, y, r, rfl, rfl, rfl, rfl⟩ := am_il_inv h
    exact ⟨hl, am_ws_cons.mpr ⟨am_vw_l N _, (am_ws_cons.mp (am_ws_cons.mp hs).2).2⟩⟩
  have ps : ∀ m v, am_vw N v → am_ps lv n m v st = some (lv', st') → am_wl N lv' ∧ am_ws N st' := fun m v hv h => by
    obtain ⟨rfl, rfl, rfl⟩ := am_ps_inv h
    exact ⟨hl, am_ws_cons.mpr ⟨hv, hs⟩⟩
  have gi : ∀ m k, am_gi lv n m k st = some (lv', st') → am_wl N lv' ∧ am_ws N st' := fun m k h => by
    obtain ⟨x, h1, rfl, rfl, rfl⟩ := am_gi_inv h
    exact ⟨hl, am_ws_cons.mpr ⟨am_vw_i N x, hs⟩⟩
  have gl : ∀ m k, am_gl lv n m k st = some (lv', st') → am_wl N lv' ∧ am_ws N st' := fun m k h => by
    obtain ⟨x, h1, rfl, rfl, rfl⟩ := am_gl_inv h
    exact ⟨hl, am_ws_cons.mpr ⟨am_vw_l N x, hs⟩⟩
  have ga : ∀ m k, am_ga lv n m k st = some (lv', st') → am_wl N lv' ∧ am_ws N st' := fun m k h => by
    rcases am_ga_inv h with ⟨x, h1, rfl, rfl, rfl⟩ | ⟨h1, rfl, rfl, rfl⟩
    · exact ⟨hl, am_ws_cons.mpr ⟨am_wl_ld hl h1, hs⟩⟩
    · exact ⟨hl, am_ws_cons.mpr ⟨am_vw_n N, hs⟩⟩
  have pi : ∀ m k, am_pi lv nL n m k st = some (lv', st') → am_wl N lv' ∧ am_ws N st' := fun m k h => by
    obtain ⟨x, rfl, rfl, hk, rfl⟩ := am_pi_inv h
    exact ⟨am_wl_s1 hl (am_vw_i N x), (am_ws_cons.mp hs).2⟩
  have pl : ∀ m k, am_pl lv nL n m k st = some (lv', st') → am_wl N lv' ∧ am_ws N st' := fun m k h => by
    obtain ⟨x, rfl, rfl, hk, rfl⟩ := am_pl_inv h
    exact ⟨am_wl_s2 hl (am_vw_l N x), (am_ws_cons.mp hs).2⟩
  have pa : ∀ m k, am_pa lv nL n m k st = some (lv', st') → am_wl N lv' ∧ am_ws N st' := fun m k h => by
    rcases am_pa_inv h with ⟨x, rfl, rfl, hk, rfl⟩ | ⟨rfl, rfl, hk, rfl⟩
    · exact ⟨am_wl_s1 hl (am_ws_cons.mp hs).1, (am_ws_cons.mp hs).2⟩
    · exact ⟨am_wl_s1 hl (am_vw_n N), (am_ws_cons.mp hs).2⟩
  cases i with
  | iconst v => exact ps _ _ (am_vw_i N _) h
  | bipush v => exact ps _ _ (am_vw_i N _) h
  | sipush v => exact ps _ _ (am_vw_i N _) h
  | lconst v => exact ps _ _ (am_vw_l N _) h
  | aconst_null => exact ps _ _ (am_vw_n N) h
  | iload_n k => exact gi _ _ h
  | iload k => exact gi _ _ h
  | lload_n k => exact gl _ _ h
  | lload k => exact gl _ _ h
  | aload_n k => exact ga _ _ h
  | aload k => exact ga _ _ h
  | istore_n k => exact pi _ _ h
  | istore k => exact pi _ _ h
  | lstore_n k => exact pl _ _ h
  | lstore k => exact pl _ _ h
  | astore_n k => exact pa _ _ h
  | astore k => exact pa _ _ h
  | iinc k d =>
    obtain ⟨x, h1, rfl, hk, rfl, rfl⟩ := am_inc_inv h
    exact ⟨am_wl_s1 hl (am_vw_i N _), hs⟩
  | iadd => exact i2 (fun x y => some (x + y)) h
  | isub => exact i2 (fun x y => some (x - y)) h
  | imul => exact i2 (fun x y => some (x * y)) h
  | iand => exact i2 (fun x y => some (x &&& y)) h
  | ior => exact i2 (fun x y => some (x ||| y)) h
  | ixor => exact i2 (fun x y => some (x ^^^ y)) h
  | idiv => exact i2 (fun x y => if y = 0 then none else some (x / y)) h
  | irem => exact i2 (fun x y => if y = 0 then none else some (x - x / y * y)) h
  | ishl => exact i2 (fun x y => some (x <<< (y &&& 31))) h
  | ishr => exact i2 (fun x y => some (x >>> (y &&& 31))) h
  | iushr => exact i2 (fun x y => some (x.toUInt32 >>> (y.toUInt32 &&& Int32.toUInt32 31)).toInt32) h
  | ladd => exact l2 (fun x y => x + y) h
  | lsub => exact l2 (fun x y => x - y) h
  | lmul => exact l2 (fun x y => x * y) h
  | land => exact l2 (fun x y => x &&& y) h
  | lor => exact l2 (fun x y => x ||| y) h
  | lxor => exact l2 (fun x y => x ^^^ y) h
  | lshl => exact il (fun x y => x <<< (y.toInt64 &&& 63)) h
  | lshr => exact il (fun x y => x >>> (y.toInt64 &&& 63)) h
  | lushr => exact il (fun x y => (x.toUInt64 >>> (y.toInt64.toUInt64 &&& Int64.toUInt64 63)).toInt64) h
  | ineg =>
    obtain ⟨v, w, r, hw, rfl, rfl, rfl, rfl⟩ := am_u_inv h
    cases v <;> cases hw
    exact ⟨hl, am_ws_cons.mpr ⟨am_vw_i N _, (am_ws_cons.mp hs).2⟩⟩
  | i2l =>
    obtain ⟨v, w, r, hw, rfl, rfl, rfl, rfl⟩ := am_u_inv h
    cases v <;> cases hw
    exact ⟨hl, am_ws_cons.mpr ⟨am_vw_l N _, (am_ws_cons.mp hs).2⟩⟩
  | l2i =>
    obtain ⟨v, w, r, hw, rfl, rfl, rfl, rfl⟩ := am_u_inv h
    cases v <;> cases hw
    exact ⟨hl, am_ws_cons.mpr ⟨am_vw_i N _, (am_ws_cons.mp hs).2⟩⟩
  | lcmp =>
    dsimp only [am_stA] at h
    split at h
    · split at h
      · cases h
        exact ⟨hl, am_ws_cons.mpr ⟨am_vw_i N _, (am_ws_cons.mp (am_ws_cons.mp hs).2).2⟩⟩
      · cases h
    · cases h
  | dup => obtain ⟨v, r, hc, rfl, rfl, rfl, rfl⟩ := am_dup_inv h; exact ⟨hl, am_ws_cons.mpr ⟨(am_ws_cons.mp hs).1, hs⟩⟩
  | pop => obtain ⟨v, hc, rfl, rfl, rfl⟩ := am_pop_inv h; exact ⟨hl, (am_ws_cons.mp hs).2⟩
  | pop2 => obtain ⟨v, hc, rfl, rfl, rfl⟩ := am_pop2_inv h; exact ⟨hl, (am_ws_cons.mp hs).2⟩
  | dup2 => obtain ⟨v, w, r, h1, h2, rfl, rfl, rfl, rfl⟩ := am_dup2_inv h; exact ⟨hl, am_ws_cons.mpr ⟨(am_ws_cons.mp hs).1, am_ws_cons.mpr ⟨(am_ws_cons.mp (am_ws_cons.mp hs).2).1, hs⟩⟩⟩
  | _ => cases h
set_option maxHeartbeats 4000000 in
theorem am_wB {N n pc pc' : Nat} {i : Instr} {st st' : List Value} (h : am_stB i n pc st = some (pc', st')) (hs : am_ws N st) : am_ws N st' := by
  cases i with
  | ifCond k off =>
    dsimp only [am_stB] at h
    split at h
    · obtain ⟨rfl, rfl, t, ht, rfl⟩ := am_br_inv h; exact (am_ws_cons.mp hs).2
    · cases h
  | if_icmp k off =>
    dsimp only [am_stB] at h
    split at h
    · obtain ⟨rfl, rfl, t, ht, rfl⟩ := am_br_inv h; exact (am_ws_cons.mp (am_ws_cons.mp hs).2).2
    · cases h
  | ifnull off =>
    dsimp only [am_stB] at h
    split at h
    · obtain ⟨rfl, rfl, t, ht, rfl⟩ := am_br_inv h; exact (am_ws_cons.mp hs).2
    · obtain ⟨rfl, rfl, t, ht, rfl⟩ := am_br_inv h; exact (am_ws_cons.mp hs).2
    · cases h
  | ifnonnull off =>
    dsimp only [am_stB] at h
    split at h
    · obtain ⟨rfl, rfl, t, ht, rfl⟩ := am_br_inv h; exact (am_ws_cons.mp hs).2
    · obtain ⟨rfl, rfl, t, ht, rfl⟩ := am_br_inv h; exact (am_ws_cons.mp hs).2
    · cases h
  | goto off =>
    obtain ⟨rfl, rfl, t, ht, rfl⟩ := am_br_inv (show am_br n pc off true st = some (pc', st') from h)
    exact hs
  | tableswitch dflt lo hi offs =>
    dsimp only [am_stB] at h
    split at h
    · split at h
      · obtain ⟨rfl, ht⟩ := am_jmp_inv h; exact (am_ws_cons.mp hs).2
      · split at h
        · obtain ⟨rfl, ht⟩ := am_jmp_inv h; exact (am_ws_cons.mp hs).2
        · cases h
    · cases h
  | lookupswitch dflt ps =>
    dsimp only [am_stB] at h
    split at h
    · split at h
      · obtain ⟨rfl, ht⟩ := am_jmp_inv h; exact (am_ws_cons.mp hs).2
      · cases h
    · cases h
  | _ => cases h
end
section
def am_gro (H H' : am_H) : Prop := am_hw H' ∧ H.length ≤ H'.length ∧ am_sz H ≤ am_sz H'
theorem am_gro_rf {H : am_H} (h : am_hw H) : am_gro H H := ⟨h, Nat.le_refl _, Nat.le_refl _⟩
theorem am_gro_tr {H H1 H2 : am_H} (h : am_gro H H1) (h2 : am_gro H1 H2) : am_gro H H2 := ⟨h2.1, Nat.le_trans h.2.1 h2.2.1, Nat.le_trans h.2.2 h2.2.2⟩
theorem am_gro_set {H : am_H} {a : Nat} {c0 c1 : am_C} (hw : am_hw H) (h0 : H[a]? = some c0) (hz : am_cz c1 = am_cz c0) (hc : am_cw H.length c1) : am_gro H (H.set a c1) := ⟨am_hw_set hw hc, by rw [List.length_set]; exact Nat.le_refl _, by rw [am_sz_set h0 hz]; exact Nat.le_refl _⟩
theorem am_gro_app {H : am_H} {c1 : am_C} (hw : am_hw H) (hc : am_cw H.length c1) : am_gro H (H ++ [c1]) := ⟨am_hw_app hw hc, by simp, by rw [am_sz_app]; omega⟩
theorem am_ws_new {H : am_H} {c1 : am_C} {r : List Value} (hr : am_ws H.length r) : am_ws (H ++ [c1]).length (.ref H.length :: r) := am_ws_cons.mpr ⟨fun i hi => by cases hi; simp, am_ws_mono (by simp) hr⟩
theorem am_dv_w (N : Nat) (ty : FieldType) : am_vw N (defaultValue ty) := fun i h => by cases ty <;> cases h
set_option maxHeartbeats 4000000 in
theorem am_wC_get {G : am_G} {own : String} {isI : Bool} {n idx : Nat} {st st' : List Value} {H H' : am_H} (h : am_stC G own isI (.getfield idx) n st H = some (st', H')) (hw : am_hw H) (hs : am_ws H.length st) : am_gro H H' ∧ am_ws H'.length st' := by
  dsimp only [am_stC] at h
  split at h
  · rename_i a r ci k hf
    split at h
    · rename_i v hv
      split at h
      · cases h
        obtain ⟨fs, hfs, hvk⟩ := am_getf_inv hv
        exact ⟨am_gro_rf hw, am_ws_cons.mpr ⟨(show ∀ v ∈ fs, am_vw H.length v from hw _ (List.mem_of_getElem? hfs)) v (List.mem_of_getElem? hvk), (am_ws_cons.mp hs).2⟩⟩
      · cases h
    · cases h
  · cases h
set_option maxHeartbeats 4000000 in
theorem am_wC_put {G : am_G} {own : String} {isI : Bool} {n idx : Nat} {st st' : List Value} {H H' : am_H} (h : am_stC G own isI (.putfield idx) n st H = some (st', H')) (hw : am_hw H) (hs : am_ws H.length st) : am_gro H H' ∧ am_ws H'.length st' := by
  dsimp only [am_stC] at h
  split at h
  · rename_i v a r ci k hf
    split at h
    · rename_i H1 hv
      split at h
      · cases h
        obtain ⟨fs, hfs, hkl, hcp, rfl⟩ := am_putf_inv hv
        have h1 := am_ws_cons.mp hs
        refine ⟨am_gro_set hw hfs (List.length_set ..) ?_, by rw [List.length_set]; exact (am_ws_cons.mp h1.2).2⟩
        intro x hx
        rcases List.mem_or_eq_of_mem_set hx with h | h
        · exact (show ∀ v ∈ fs, am_vw H.length v from hw _ (List.mem_of_getElem? hfs)) x h
        · rw [h]; exact h1.1
      · cases h
    · cases h
  · cases h
set_option maxHeartbeats 4000000 in
theorem am_wC_iald {G : am_G} {own : String} {isI : Bool} {n : Nat} {st st' : List Value} {H H' : am_H} (h : am_stC G own isI (.iaload) n st H = some (st', H')) (hw : am_hw H) (hs : am_ws H.length st) : am_gro H H' ∧ am_ws H'.length st' := by
  dsimp only [am_stC] at h
  split at h
  · rename_i j a r
    split at h
    · rename_i w f hf
      split at h
      · cases h
        exact ⟨am_gro_rf hw, am_ws_cons.mpr ⟨am_vw_i _ _, (am_ws_cons.mp (am_ws_cons.mp hs).2).2⟩⟩
      · cases h
    · cases h
  · cases h
set_option maxHeartbeats 4000000 in
theorem am_wC_zald {G : am_G} {own : String} {isI : Bool} {n : Nat} {st st' : List Value} {H H' : am_H} (h : am_stC G own isI (.baload) n st H = some (st', H')) (hw : am_hw H) (hs : am_ws H.length st) : am_gro H H' ∧ am_ws H'.length st' := by
  dsimp only [am_stC] at h
  split at h
  · rename_i j a r
    split at h
    · rename_i w f hf
      split at h
      · cases h
        exact ⟨am_gro_rf hw, am_ws_cons.mpr ⟨am_vw_i _ _, (am_ws_cons.mp (am_ws_cons.mp hs).2).2⟩⟩
      · cases h
    · cases h
  · cases h
set_option maxHeartbeats 4000000 in
theorem am_wC_lald {G : am_G} {own : String} {isI : Bool} {n : Nat} {st st' : List Value} {H H' : am_H} (h : am_stC G own isI (.laload) n st H = some (st', H')) (hw : am_hw H) (hs : am_ws H.length st) : am_gro H H' ∧ am_ws H'.length st' := by
  dsimp only [am_stC] at h
  split at h
  · rename_i j a r
    split at h
    · rename_i w f hf
      split at h
      · cases h
        exact ⟨am_gro_rf hw, am_ws_cons.mpr ⟨am_vw_l _ _, (am_ws_cons.mp (am_ws_cons.mp hs).2).2⟩⟩
      · cases h
    · cases h
  · cases h
set_option maxHeartbeats 4000000 in
theorem am_wC_aald {G : am_G} {own : String} {isI : Bool} {n : Nat} {st st' : List Value} {H H' : am_H} (h : am_stC G own isI (.aaload) n st H = some (st', H')) (hw : am_hw H) (hs : am_ws H.length st) : am_gro H H' ∧ am_ws H'.length st' := by
  dsimp only [am_stC] at h
  split at h
  · rename_i j a r
    split at h
    · rename_i C w f hf
      split at h
      · cases h
        refine ⟨am_gro_rf hw, am_ws_cons.mpr ⟨fun i hi => ?_, (am_ws_cons.mp (am_ws_cons.mp hs).2).2⟩⟩
        cases hj : f j.toNatClampNeg with
        | none => rw [hj] at hi; cases hi
        | some x => rw [hj] at hi; cases hi; exact (show ∀ j i, f j = some i → i < H.length from hw _ (List.mem_of_getElem? hf)) _ _ hj
      · cases h
    · cases h
  · cases h
set_option maxHeartbeats 4000000 in
theorem am_wC_iast {G : am_G} {own : String} {isI : Bool} {n : Nat} {st st' : List Value} {H H' : am_H} (h : am_stC G own isI (.iastore) n st H = some (st', H')) (hw : am_hw H) (hs : am_ws H.length st) : am_gro H H' ∧ am_ws H'.length st' := by
  dsimp only [am_stC] at h
  split at h
  · rename_i x j a r
    split at h
    · rename_i w f hf
      split at h
      · cases h
        exact ⟨am_gro_set hw hf rfl trivial, by rw [List.length_set]; exact (am_ws_cons.mp (am_ws_cons.mp (am_ws_cons.mp hs).2).2).2⟩
      · cases h
    · cases h
  · cases h
set_option maxHeartbeats 4000000 in
theorem am_wC_zast {G : am_G} {own : String} {isI : Bool} {n : Nat} {st st' : List Value} {H H' : am_H} (h : am_stC G own isI (.bastore) n st H = some (st', H')) (hw : am_hw H) (hs : am_ws H.length st) : am_gro H H' ∧ am_ws H'.length st' := by
  dsimp only [am_stC] at h
  split at h
  · rename_i x j a r
    split at h
    · rename_i w f hf
      split at h
      · cases h
        exact ⟨am_gro_set hw hf rfl trivial, by rw [List.length_set]; exact (am_ws_cons.mp (am_ws_cons.mp (am_ws_cons.mp hs).2).2).2⟩
      · cases h
    · cases h
  · cases h
set_option maxHeartbeats 4000000 in
theorem am_wC_last {G : am_G} {own : String} {isI : Bool} {n : Nat} {st st' : List Value} {H H' : am_H} (h : am_stC G own isI (.lastore) n st H = some (st', H')) (hw : am_hw H) (hs : am_ws H.length st) : am_gro H H' ∧ am_ws H'.length st' := by
  dsimp only [am_stC] at h
  split at h
  · rename_i x j a r
    split at h
    · rename_i w f hf
      split at h
      · cases h
        exact ⟨am_gro_set hw hf rfl trivial, by rw [List.length_set]; exact (am_ws_cons.mp (am_ws_cons.mp (am_ws_cons.mp hs).2).2).2⟩
      · cases h
    · cases h
  · cases h
set_option maxHeartbeats 4000000 in
theorem am_wC_aast {G : am_G} {own : String} {isI : Bool} {n : Nat} {st st' : List Value} {H H' : am_H} (h : am_stC G own isI (.aastore) n st H = some (st', H')) (hw : am_hw H) (hs : am_ws H.length st) : am_gro H H' ∧ am_ws H'.length st' := by
  dsimp only [am_stC] at h
  split at h
  · rename_i v j a r
    split at h
    · rename_i C w f ci fs hf hv
      split at h
      · cases h
        refine ⟨am_gro_set hw hf rfl ?_, by rw [List.length_set]; exact (am_ws_cons.mp (am_ws_cons.mp (am_ws_cons.mp hs).2).2).2⟩
        intro k i hk
        unfold va_up at hk
        split at hk
        · cases hk; exact (List.getElem?_eq_some_iff.mp hv).1
        · exact (show ∀ j i, f j = some i → i < H.length from hw _ (List.mem_of_getElem? hf)) _ _ hk
      · cases h
    · cases h
  · cases h
set_option maxHeartbeats 4000000 in
theorem am_wC_alen {G : am_G} {own : String} {isI : Bool} {n : Nat} {st st' : List Value} {H H' : am_H} (h : am_stC G own isI (.arraylength) n st H = some (st', H')) (hw : am_hw H) (hs : am_ws H.length st) : am_gro H H' ∧ am_ws H'.length st' := by
  dsimp only [am_stC] at h
  split at h
  · rename_i a r
    split at h
    · split at h
      · cases h
        exact ⟨am_gro_rf hw, am_ws_cons.mpr ⟨am_vw_i _ _, (am_ws_cons.mp hs).2⟩⟩
      · cases h
    · cases h
  · cases h
set_option maxHeartbeats 4000000 in
theorem am_wC_ldc {G : am_G} {own : String} {isI : Bool} {n idx : Nat} {st st' : List Value} {H H' : am_H} (h : am_stC G own isI (.ldc idx) n st H = some (st', H')) (hw : am_hw H) (hs : am_ws H.length st) : am_gro H H' ∧ am_ws H'.length st' := by
  dsimp only [am_stC] at h
  split at h
  · split at h
    · cases h
      exact ⟨am_gro_rf hw, am_ws_cons.mpr ⟨am_vw_i _ _, hs⟩⟩
    · cases h
  · cases h
set_option maxHeartbeats 4000000 in
theorem am_wC_ldc2 {G : am_G} {own : String} {isI : Bool} {n idx : Nat} {st st' : List Value} {H H' : am_H} (h : am_stC G own isI (.ldc2_w idx) n st H = some (st', H')) (hw : am_hw H) (hs : am_ws H.length st) : am_gro H H' ∧ am_ws H'.length st' := by
  dsimp only [am_stC] at h
  split at h
  · split at h
    · cases h
      exact ⟨am_gro_rf hw, am_ws_cons.mpr ⟨am_vw_l _ _, hs⟩⟩
    · cases h
  · cases h
set_option maxHeartbeats 4000000 in
theorem am_wC_new {G : am_G} {own : String} {isI : Bool} {n idx : Nat} {st st' : List Value} {H H' : am_H} (h : am_stC G own isI (.new idx) n st H = some (st', H')) (hw : am_hw H) (hs : am_ws H.length st) : am_gro H H' ∧ am_ws H'.length st' := by
  dsimp only [am_stC] at h
  split at h
  · rename_i ci z1 z2 hk
    split at h
    · rename_i H1 hH
      split at h
      · cases h
        unfold am_new at hH
        split at hH
        · cases hH
          refine ⟨am_gro_app hw ?_, am_ws_new hs⟩
          intro v hv
          obtain ⟨k, -, rfl⟩ := List.mem_map.mp hv
          exact am_dv_w _ _
        · cases hH
      · cases h
    · cases h
  · cases h
set_option maxHeartbeats 4000000 in
theorem am_wC_newa {G : am_G} {own : String} {isI : Bool} {n : Nat} {aty : ArrayType} {st st' : List Value} {H H' : am_H} (h : am_stC G own isI (.newarray aty) n st H = some (st', H')) (hw : am_hw H) (hs : am_ws H.length st) : am_gro H H' ∧ am_ws H'.length st' := by
  dsimp only [am_stC] at h
  split at h
  · rename_i w r
    split at h
    · rename_i H1 hH
      split at h
      · cases h
        unfold am_newa at hH
        split at hH
        · rename_i a0 ha0
          split at hH
          · cases hH
            refine ⟨am_gro_app hw ?_, am_ws_new (am_ws_cons.mp hs).2⟩
            cases hty : newarray.typeOf aty <;> rw [hty] at ha0 <;> cases ha0 <;> exact trivial
          · cases hH
        · cases hH
      · cases h
    · cases h
  · cases h
set_option maxHeartbeats 4000000 in
theorem am_wC_newq {G : am_G} {own : String} {isI : Bool} {n idx : Nat} {st st' : List Value} {H H' : am_H} (h : am_stC G own isI (.anewarray idx) n st H = some (st', H')) (hw : am_hw H) (hs : am_ws H.length st) : am_gro H H' ∧ am_ws H'.length st' := by
  dsimp only [am_stC] at h
  split at h
  · rename_i w r ci z1 z2 hk
    split at h
    · rename_i H1 hH
      split at h
      · cases h
        unfold am_newq at hH
        split at hH
        · split at hH
          · cases hH
            exact ⟨am_gro_app hw (fun j i hj => by cases hj), am_ws_new (am_ws_cons.mp hs).2⟩
          · cases hH
        · cases hH
      · cases h
    · cases h
  · cases h
theorem am_wC {G : am_G} {own : String} {isI : Bool} {n : Nat} {i : Instr} {st st' : List Value} {H H' : am_H} (h : am_stC G own isI i n st H = some (st', H')) (hw : am_hw H) (hs : am_ws H.length st) : am_gro H H' ∧ am_ws H'.length st' := by
  cases i with
  | getfield idx => exact am_wC_get h hw hs
  | putfield idx => exact am_wC_put h hw hs
  | iaload => exact am_wC_iald h hw hs
  | baload => exact am_wC_zald h hw hs
  | laload => exact am_wC_lald h hw hs
  | aaload => exact am_wC_aald h hw hs
  | iastore => exact am_wC_iast h hw hs
  | bastore => exact am_wC_zast h hw hs
  | lastore => exact am_wC_last h hw hs
  | aastore => exact am_wC_aast h hw hs
  | arraylength => exact am_wC_alen h hw hs
  | new idx => exact am_wC_new h hw hs
  | newarray aty => exact am_wC_newa h hw hs
  | anewarray idx => exact am_wC_newq h hw hs
  | ldc idx => exact am_wC_ldc h hw hs
  | ldc2_w idx => exact am_wC_ldc2 h hw hs
  | _ => cases h
/-- what a call may be taken to keep -/
def am_keeps (call : Nat → List Value → am_H → Option (Option Value × am_H)) : Prop := ∀ (j : Nat) (as : List Value) (H H' : am_H) (r : Option Value), call j as H = some (r, H') → am_hw H → am_ws H.length as → am_gro H H' ∧ ∀ v, r = some v → am_vw H'.length v
theorem am_out_inv {r st' : List Value} {x : Option (Option Value × am_H)} {H' : am_H} (h : am_out r x = some (st', H')) : ∃ v, x = some (v, H') ∧ st' = v.toList ++ r := by
  unfold am_out at h
  split at h
  · cases h; exact ⟨_, rfl, rfl⟩
  · cases h
theorem am_ws_take {N : Nat} {st : List Value} (k : Nat) (hs : am_ws N st) : am_ws N (st.take k).reverse := fun v hv => hs v (List.mem_of_mem_take (List.mem_reverse.mp hv))
theorem am_ws_drop {N : Nat} {st : List Value} (k : Nat) (hs : am_ws N st) : am_ws N (st.drop k) := fun v hv => hs v (List.mem_of_mem_drop hv)
theorem am_ws_ret {N : Nat} {v : Option Value} {r : List Value} (hv : ∀ x, v = some x → am_vw N x) (hr : am_ws N r) : am_ws N (v.toList ++ r) := by
  intro x hx
  rcases List.mem_append.mp hx with h | h
  · cases v with
    | none => cases h
    | some y => rw [List.mem_singleton.mp h]; exact hv y rfl
  · exact hr x h
theorem am_cv_inv {G : am_G} {call : Nat → List Value → am_H → Option (Option Value × am_H)} {j n : Nat} {chk : Bool} {st st' : List Value} {H H' : am_H} (h : am_cv G call j n chk st H = some (st', H')) : ∃ (M : am_M) (b : Nat) (r : List Value) (v : Option Value), G.2.2.2.1[j]? = some M ∧ st.drop M.2.2.2.2.1 = .ref b :: r ∧ n = 3 ∧ M.2.2.2.2.1 ≤ st.length ∧ (r.map fun v => v.category).sum ≤ 8 ∧ (chk = true → am_isC G H b M.1.cls = true) ∧ call j (.ref b :: (st.take M.2.2.2.2.1).reverse) H = some (v, H') ∧ st' = v.toList ++ r := by
  unfold am_cv at h
  split at h
  · rename_i M hM
    split at h
    · rename_i b r hr
      split at h
      · rename_i hc
        obtain ⟨v, h1, h2⟩ := am_out_inv h
        exact ⟨M, b, r, v, hM, hr, hc.1, hc.2.1, hc.2.2.1, hc.2.2.2, h1, h2⟩
      · cases h
    · cases h
  · cases h
theorem am_cs_inv {G : am_G} {call : Nat → List Value → am_H → Option (Option Value × am_H)} {j n : Nat} {st st' : List Value} {H H' : am_H} (h : am_cs G call j n st H = some (st', H')) : ∃ (M : am_M) (v : Option Value), G.2.2.2.1[j]? = some M ∧ n = 3 ∧ M.2.2.2.2.1 ≤ st.length ∧ ((st.drop M.2.2.2.2.1).map fun v => v.category).sum ≤ 8 ∧ call j (st.take M.2.2.2.2.1).reverse H = some (v, H') ∧ st' = v.toList ++ st.drop M.2.2.2.2.1 := by
  unfold am_cs at h
  split at h
  · rename_i M hM
    split at h
    · rename_i hc
      obtain ⟨v, h1, h2⟩ := am_out_inv h
      exact ⟨M, v, hM, hc.1, hc.2.1, hc.2.2, h1, h2⟩
    · cases h
  · cases h
theorem am_wcv {G : am_G} {call : Nat → List Value → am_H → Option (Option Value × am_H)} (hk : am_keeps call) {j n : Nat} {chk : Bool} {st st' : List Value} {H H' : am_H} (h : am_cv G call j n chk st H = some (st', H')) (hw : am_hw H) (hs : am_ws H.length st) : am_gro H H' ∧ am_ws H'.length st' := by
  obtain ⟨M, b, r, v, hM, hd, -, -, -, -, hc, rfl⟩ := am_cv_inv h
  have h1 := am_ws_drop M.2.2.2.2.1 hs
  rw [hd] at h1
  obtain ⟨g1, g2⟩ := hk j _ H H' v hc hw (am_ws_cons.mpr ⟨(am_ws_cons.mp h1).1, am_ws_take _ hs⟩)
  exact ⟨g1, am_ws_ret g2 (am_ws_mono g1.2.1 (am_ws_cons.mp h1).2)⟩
theorem am_wcs {G : am_G} {call : Nat → List Value → am_H → Option (Option Value × am_H)} (hk : am_keeps call) {j n : Nat} {st st' : List Value} {H H' : am_H} (h : am_cs G call j n st H = some (st', H')) (hw : am_hw H) (hs : am_ws H.length st) : am_gro H H' ∧ am_ws H'.length st' := by
  obtain ⟨M, v, hM, -, -, -, hc, rfl⟩ := am_cs_inv h
  obtain ⟨g1, g2⟩ := hk j _ H H' v hc hw (am_ws_take _ hs)
  exact ⟨g1, am_ws_ret g2 (am_ws_mono g1.2.1 (am_ws_drop _ hs))⟩
set_option maxHeartbeats 4000000 in
theorem am_wcpy {n : Nat} {st st' : List Value} {H H' : am_H} (h : am_cpy n st H = some (st', H')) (hw : am_hw H) (hs : am_ws H.length st) : am_gro H H' ∧ am_ws H'.length st' := by
  unfold am_cpy at h
  split at h
  · rename_i w dp a sp a0 r
    have hr : am_ws H.length r := (am_ws_cons.mp (am_ws_cons.mp (am_ws_cons.mp (am_ws_cons.mp (am_ws_cons.mp hs).2).2).2).2).2
    split at h
    · rename_i h0 h1
      split at h
      · cases h; exact ⟨am_gro_set hw h1 rfl trivial, by rw [List.length_set]; exact hr⟩
      · cases h
    · rename_i h0 h1
      split at h
      · cases h; exact ⟨am_gro_set hw h1 rfl trivial, by rw [List.length_set]; exact hr⟩
      · cases h
    · cases h
  · cases h
set_option maxHeartbeats 4000000 in
theorem am_wD {G : am_G} {call : Nat → List Value → am_H → Option (Option Value × am_H)} (hk : am_keeps call) {own : String} {n : Nat} {i : Instr} {st st' : List Value} {H H' : am_H} (h : am_stD G call own i n st H = some (st', H')) (hw : am_hw H) (hs : am_ws H.length st) : am_gro H H' ∧ am_ws H'.length st' := by
  cases i with
  | invokevirtual idx =>
    dsimp only [am_stD] at h
    split at h
    · exact am_wcv hk h hw hs
    · cases h
  | invokespecial idx =>
    dsimp only [am_stD] at h
    split at h
    · exact am_wcv hk h hw hs
    · exact am_wcv hk h hw hs
    · split at h
      · split at h
        · cases h; exact ⟨am_gro_rf hw, (am_ws_cons.mp hs).2⟩
        · cases h
      · cases h
    · cases h
  | invokestatic idx =>
    dsimp only [am_stD] at h
    split at h
    · exact am_wcs hk h hw hs
    · exact am_wcs hk h hw hs
    · exact am_wcpy h hw hs
    · cases h
  | _ => cases h
set_option maxHeartbeats 4000000 in
theorem am_wret {ret : Option FieldType} {i : Instr} {n N : Nat} {st : List Value} {r : Option Value} (h : am_ret ret i n st = some r) (hs : am_ws N st) : ∀ v, r = some v → am_vw N v := by
  cases i with
  | return_ =>
    dsimp only [am_ret] at h
    split at h
    · split at h
      · cases h; exact fun v hv => by cases hv
      · cases h
    · cases h
  | ireturn =>
    dsimp only [am_ret] at h
    split at h
    · split at h
      · cases h; exact fun v hv => by cases hv; exact am_vw_i _ _
      · cases h
    · cases h
  | lreturn =>
    dsimp only [am_ret] at h
    split at h
    · split at h
      · cases h; exact fun v hv => by cases hv; exact am_vw_l _ _
      · cases h
    · cases h
  | areturn =>
    dsimp only [am_ret] at h
    split at h
    · split at h
      · cases h; exact fun v hv => by cases hv; exact (am_ws_cons.mp hs).1
      · cases h
    · split at h
      · cases h; exact fun v hv => by cases hv; exact (am_ws_cons.mp hs).1
      · cases h
    · cases h
  | _ => cases h
theorem am_lvargs_w {N : Nat} : ∀ (as : List Value) (k : Nat), am_ws N as → am_wl N (lv_args k as)
  | [], k, _ => fun q hq => by cases hq
  | v :: as, k, h => by
    intro q hq
    rcases List.mem_cons.mp (show q ∈ (k, v) :: lv_args _ as from hq) with rfl | h2
    · exact (am_ws_cons.mp h).1
    · exact am_lvargs_w as _ (am_ws_cons.mp h).2 q h2
theorem am_wexec {G : am_G} {call : Nat → List Value → am_H → Option (Option Value × am_H)} (hk : am_keeps call) {M : am_M} : ∀ (f pc : Nat) (lv : am_L) (st : List Value) (H H' : am_H) (r : Option Value), am_exec G call M f pc lv st H = some (r, H') → am_hw H → am_wl H.length lv → am_ws H.length st → am_gro H H' ∧ ∀ v, r = some v → am_vw H'.length v := by
  intro f
  induction f with
  | zero => intro pc lv st H H' r h; cases h
  | succ f ih =>
    intro pc lv st H H' r h hw hl hs
    unfold am_exec at h
    split at h
    · rename_i i n hrow
      split at h
      · rename_i pc1 lv1 st1 H1 h1
        unfold am_one at h1
        split at h1
        · rename_i hA
          cases h1
          obtain ⟨a1, a2⟩ := am_wA hA hl hs
          exact ih _ _ _ _ _ _ h hw a1 a2
        · split at h1
          · rename_i hB
            cases h1
            exact ih _ _ _ _ _ _ h hw hl (am_wB hB hs)
          · split at h1
            · rename_i hC
              cases h1
              obtain ⟨a1, a2⟩ := am_wC hC hw hs
              obtain ⟨b1, b2⟩ := ih _ _ _ _ _ _ h a1.1 (am_wl_mono a1.2.1 hl) a2
              exact ⟨am_gro_tr a1 b1, b2⟩
            · split at h1
              · rename_i hD
                cases h1
                obtain ⟨a1, a2⟩ := am_wD hk hD hw hs
                obtain ⟨b1, b2⟩ := ih _ _ _ _ _ _ h a1.1 (am_wl_mono a1.2.1 hl) a2
                exact ⟨am_gro_tr a1 b1, b2⟩
              · split at h1
                · cases h1
                · cases h1
      · rename_i h1
        cases h
        unfold am_one at h1
        split at h1
        · cases h1
        · split at h1
          · cases h1
          · split at h1
            · cases h1
            · split at h1
              · cases h1
              · split at h1
                · rename_i hR
                  cases h1
                  exact ⟨am_gro_rf hw, am_wret hR hs⟩
                · cases h1
      · cases h
    · cases h
theorem am_wcall (G : am_G) (fuel : Nat) : ∀ d, am_keeps (am_call G fuel d) := by
  intro d
  induction d with
  | zero => intro j as H H' r h; cases h
  | succ d ih =>
    intro j as H H' r h hw hs
    unfold am_call at h
    split at h
    · split at h
      · exact am_wexec ih _ _ _ _ _ _ _ h hw (am_lvargs_w as 0 hs) (am_ws_nil _)
      · cases h
    · cases h
end
section
/-- what the methods and the calls are, in the tables' words -/
def am_okm (G : am_G) (Ts nst : List Cond) : Prop :=
  (∀ (j : Nat) (M : am_M), G.2.2.2.1[j]? = some M → Cond.code M.1 M.2.1 M.2.2.1 M.2.2.2.1 ∈ Ts ∧ Cond.initialized M.1.cls ∈ Ts ∧ (M.1.cls ≠ "java/lang/invoke/MethodHandle" ∧ M.1.cls ≠ "java/lang/invoke/VarHandle" ∧ (parseMethodDescriptor M.1.desc).map (fun d => d.parameters.length) = some M.2.2.2.2.1) ∧ plainName M.1.cls = true ∧ ∀ q ∈ M.2.2.2.2.2, decode M.2.1 q.1 = .ok q.2)
  ∧ (∀ own idx j z M, G.2.2.1 own idx = some (1, j, 0, z) → G.2.2.2.1[j]? = some M → Cond.methodLink own idx M.1 ∈ Ts ∧ Cond.instanceMethod M.1 ∈ Ts ∧ Cond.selects M.1.cls M.1 M.1 ∈ Ts)
  ∧ (∀ own idx j z M, G.2.2.1 own idx = some (1, j, 1, z) → G.2.2.2.1[j]? = some M → Cond.methodLink own idx M.1 ∈ Ts ∧ Cond.instanceMethod M.1 ∈ Ts ∧ M.1.name = "<init>" ∧ M.2.2.2.1 = none)
  ∧ (∀ own idx j z M, G.2.2.1 own idx = some (1, j, 2, z) → G.2.2.2.1[j]? = some M → (∃ host, Cond.methodLinkNest own idx M.1 host ∈ nst) ∧ Cond.instanceMethod M.1 ∈ Ts ∧ M.1.name = "<init>" ∧ M.2.2.2.1 = none)
  ∧ (∀ own idx j z M, G.2.2.1 own idx = some (1, j, 3, z) → G.2.2.2.1[j]? = some M → Cond.methodLink own idx M.1 ∈ Ts ∧ Cond.static M.1 ∈ Ts)
  ∧ (∀ own idx j z M, G.2.2.1 own idx = some (1, j, 4, z) → G.2.2.2.1[j]? = some M → (∃ host, Cond.methodLinkNest own idx M.1 host ∈ nst) ∧ Cond.static M.1 ∈ Ts)
  ∧ (∀ own idx j k z, G.2.2.1 own idx = some (5, j, k, z) → Cond.methodLink own idx Lib.objectInit ∈ Ts ∧ Cond.instanceMethod Lib.objectInit ∈ Ts ∧ Cond.code Lib.objectInit ⟨#[0xb1]⟩ 1 none ∈ Ts)
  ∧ (∀ own idx j k z, G.2.2.1 own idx = some (4, j, k, z) → Cond.methodLink own idx arraycopyName ∈ Ts ∧ Cond.native arraycopyName ∈ Ts ∧ Cond.static arraycopyName ∈ Ts ∧ Cond.initialized "java/lang/System" ∈ Ts)
  ∧ (∀ w ∈ Ts, goodWord w = true)
  ∧ (∀ w ∈ nst, ∃ a i y h, w = Cond.methodLinkNest a i y h)
def am_env2 (G : am_G) (nst : List Cond) (D : va_G) (ca : FieldType → ClassId) (s : State) : Prop := am_env G D ca s ∧ ∀ w ∈ nst, va_Nw w s
def am_rm (d mc ms : Nat) : Room := { frames := d, cells := mc, slots := ms, locals := d * 64 }
def am_Pc (G : am_G) (nst : List Cond) (D : va_G) (ca : FieldType → ClassId) (ad : Nat → Nat) (sz : Nat) (as : List Value) (AH : am_H) : Array Value → State → Prop :=
  va_Pc (as.map (am_v ad)) (fun U => U.heap.size = sz ∧ va_P D G.1 (am_w ad ca AH) U.heap ∧ am_env2 G nst D ca U ∧ va_D (fun _ => True) (am_w ad ca AH))
def am_Qc (G : am_G) (D : va_G) (ca : FieldType → ClassId) (ad : Nat → Nat) (sz : Nat) (r : Option Value) (AH AH' : am_H) : Array Value → State → Outcome → State → Prop := fun _ st oc t =>
  (∃ ad' : Nat → Nat, am_agree AH.length ad ad' ∧ oc = .returned (r.map (am_v ad')) ∧ va_P D G.1 (am_w ad' ca AH') t.heap ∧ va_D (va_A (am_w ad ca AH) sz) (am_w ad' ca AH')) ∧ va_F (va_A (am_w ad ca AH) sz) st t
theorem am_env2_warm {G : am_G} {nst : List Cond} {D : va_G} {ca : FieldType → ClassId} {s U : State} (hn : ∀ w ∈ nst, ∃ a i y h, w = Cond.methodLinkNest a i y h) (hW : s.WarmedH U.vm) (h : am_env2 G nst D ca s) : am_env2 G nst D ca U :=
  ⟨⟨va_K.moved hW.alike h.1.1, fun C hC => va_AO.moved hW.alike (h.1.2 C hC)⟩, fun w hw => by
    obtain ⟨a, i, y, hh, rfl⟩ := hn w hw
    exact va_Nw.warmM hW (h.2 _ hw)⟩
theorem am_env2_same {G : am_G} {nst : List Cond} {D : va_G} {ca : FieldType → ClassId} {s U : State} (hn : ∀ w ∈ nst, ∃ a i y h, w = Cond.methodLinkNest a i y h) (e : s.vm = U.vm) (h : am_env2 G nst D ca s) : am_env2 G nst D ca U :=
  ⟨⟨va_K.moved (by rw [e]; exact Vm.Alike.refl _) h.1.1, fun C hC => va_AO.moved (by rw [e]; exact Vm.Alike.refl _) (h.1.2 C hC)⟩, fun w hw => by
    obtain ⟨a, i, y, hh, rfl⟩ := hn w hw
    exact va_Nw.same rfl e (h.2 _ hw)⟩
theorem am_blind {G : am_G} {nst : List Cond} {D : va_G} {ca : FieldType → ClassId} {ad : Nat → Nat} {sz : Nat} {as : List Value} {AH : am_H} (hn : ∀ w ∈ nst, ∃ a i y h, w = Cond.methodLinkNest a i y h) : FrameBlind (am_Pc G nst D ca ad sz as AH) := fun a U g mk q => by
  obtain ⟨q0, q1, qP, qE, qD⟩ := q
  exact ⟨q0, q1, qP, am_env2_same (s := U) (U := U.calling g mk a) hn rfl qE, qD⟩
section AME
variable {p : Program} {l : Launch} {e : Env} {R : Room} {s : State} {m : MethodId} {args : Array Value} {below : List Frame} {meth : Method} {c : Code} {H : Heap} {locs : List Loc} {cells slots : Nat} {Q : State → Prop}
variable {cc : ByteArray} {pc : Nat} {ls : Array Slot} {ad : Nat → Nat} {G : am_G} {Ts nst : List Cond} {D : va_G} {ca : FieldType → ClassId} {A : Nat → Prop} {H0 : Heap} {own : String}
theorem am_AA {AH : am_H} (hD : va_D A (am_w ad ca AH)) (hS : va_S A H0 H locs) (hA : ∀ q, H0.size ≤ q → A q) : ∀ q, va_A (am_w ad ca AH) H.size q → A q := by
  intro q h
  rcases h with ⟨k, e, h⟩ | h
  · exact hD.2 k (q, e) h
  · exact hA q (Nat.le_trans hS.1 h)
/-- behind a call -/
theorem am_goon {AH AH' : am_H} {r : Option Value} {mc ms : Nat} {st0 rest : List Value} {a : Array Value} (hr : va_Run p l e R s m args below meth c H locs cells slots mc ms (F0 m pc ls st0) rest (am_Qc G D ca ad H.size r AH AH' a) (va_A (am_w ad ca AH) H.size))
    (hD : va_D A (am_w ad ca AH)) (hS : va_S A H0 H locs) (hA : ∀ q, H0.size ≤ q → A q)
    (kk : ∀ (ad' : Nat → Nat) (H1 : Heap) (locs1 : List Loc), am_agree AH.length ad ad' → va_P D G.1 (am_w ad' ca AH') H1 → va_D A (am_w ad' ca AH') → va_S A H0 H1 locs1 → W p l e R s m args below meth c H1 locs1 (cells + mc) (slots + ms) Q (F0 m (pc + 3) ls ((r.map (am_v ad')).toList ++ rest))) :
    W p l e R s m args below meth c H locs cells slots Q (F0 m pc ls st0) := by
  have hAA := am_AA hD hS hA
  intro T hT X
  obtain ⟨v, st₀, t, T', L, h0, X', hL, e1, e2, ⟨⟨ad', hag, hv, hp, hd⟩, hz, hk⟩, st⟩ := hr T hT X
  cases hv
  rw [h0] at hz hk
  obtain ⟨t2, a1, b1⟩ := kk ad' T'.heap (locs ++ L) hag (by rw [e1]; exact hp) (hd.weaken (fun k q _ h => hAA q.1 h))
    ⟨Nat.le_trans hS.1 (by rw [e1]; exact hz), fun q h1 h2 => by rw [e1, hk q (Nat.lt_of_lt_of_le h1 hS.1) (fun z => h2 (hAA q z))]; exact hS.2.1 q h1 h2, fun q hq => by
      rcases List.mem_append.mp hq with h | h
      · exact hS.2.2 q h
      · exact hAA _ (hL q h)⟩ T' rfl X'
  exact ⟨t2, st t2 a1, b1⟩
theorem am_call_M {fuel d j : Nat} {as : List Value} {AH : am_H} {x : Option Value × am_H} {M : am_M} (h : am_call G fuel d j as AH = some x) (hM : G.2.2.2.1[j]? = some M) : M.2.2.1 ≤ 45 := by
  cases d with
  | zero => cases h
  | succ d =>
    unfold am_call at h
    rw [hM] at h
    dsimp only at h
    split at h
    · rename_i hc; exact hc.2
    · cases h
theorem am_stk (ad : Nat → Nat) {st r : List Value} {k : Nat} {v : Value} (h : st.drop k = v :: r) : st.map (am_v ad) = (((st.take k).reverse).map (am_v ad)).reverse ++ am_v ad v :: r.map (am_v ad) := by
  conv => lhs; rw [← List.take_append_drop k st, h]
  rw [List.map_append, List.map_cons, List.map_reverse, List.reverse_reverse]
theorem am_stk2 (ad : Nat → Nat) {st : List Value} (k : Nat) : st.map (am_v ad) = (((st.take k).reverse).map (am_v ad)).reverse ++ (st.drop k).map (am_v ad) := by
  conv => lhs; rw [← List.take_append_drop k st]
  rw [List.map_append, List.map_reverse, List.reverse_reverse]
theorem am_cats (ad : Nat → Nat) (r : List Value) : ((r.map (am_v ad)).map fun v => v.category).sum = (r.map fun v => v.category).sum := by
  rw [List.map_map]
  congr 1
  apply List.map_congr_left
  intro v _
  exact am_v_cat ad v
theorem am_kret {AH' : am_H} {v : Option Value} {r : List Value} {n : Nat} {ad' : Nat → Nat} {N : Nat} (hag : am_agree N ad ad') (hr : am_ws N r) (hv : (v.toList ++ r).map (am_v ad') = (v.map (am_v ad')).toList ++ r.map (am_v ad)) : True := trivial
theorem am_tl (ad ad' : Nat → Nat) (v : Option Value) (r : List Value) (h : r.map (am_v ad') = r.map (am_v ad)) : (v.toList ++ r).map (am_v ad') = (v.map (am_v ad')).toList ++ r.map (am_v ad) := by
  rw [List.map_append, h]
  cases v <;> rfl
/-- contracts of all calls at a depth -/
def am_snd (l : Launch) (G : am_G) (Ts nst : List Cond) (D : va_G) (ca : FieldType → ClassId) (fuel d : Nat) : Prop := ∀ (j : Nat) (as : List Value) (AH AH' : am_H) (r : Option Value) (M : am_M), am_call G fuel d j as AH = some (r, AH') → G.2.2.2.1[j]? = some M → am_hw AH → am_ws AH.length as → ∀ (ad : Nat → Nat) (sz : Nat),
  Met l M.1 (Cond.code M.1 M.2.1 M.2.2.1 M.2.2.2.1 :: Ts) (am_rm d (AH'.length - AH.length) (am_sz AH' - am_sz AH)) (am_Pc G nst D ca ad sz as AH) (am_Qc G D ca ad sz r AH AH') (AH'.length - AH.length) (am_sz AH' - am_sz AH) (va_A (am_w ad ca AH) sz)
theorem am_good {M : am_M} (hm : am_okm G Ts nst) {j : Nat} (hM : G.2.2.2.1[j]? = some M) : GoodIn Ts (Cond.code M.1 M.2.1 M.2.2.1 M.2.2.2.1 :: Ts) := by
  have hg := hm.2.2.2.2.2.2.2.2.1
  intro w hw
  rcases List.mem_cons.mp hw with rfl | h
  · exact ⟨(hm.1 j M hM).1, good_of_word (hg _ (hm.1 j M hM).1)⟩
  · exact ⟨h, good_of_word (hg w h)⟩
theorem am_isC_inv {AH : am_H} {b : Nat} {C : String} (h : am_isC G AH b C = true) : ∃ ci fs q, AH[b]? = some (.inr (ci, fs)) ∧ G.1[ci]? = some q ∧ q.1 = C := by
  unfold am_isC at h
  split at h
  · split at h
    · exact ⟨_, _, _, by assumption, by assumption, by simpa using h⟩
    · cases h
  · cases h
set_option maxHeartbeats 4000000 in
/-- the machine follows: a call -/
theorem am_sD {fuel d nL n : Nat} {i : Instr} {st st' : List Value} {AH AH' : am_H} (hsnd : am_snd l G Ts nst D ca fuel d) (hok : am_ok G Ts) (hm : am_okm G Ts nst) (h : am_stD G (am_call G fuel d) own i n st AH = some (st', AH')) (hx : p.tables.exec = Jvm.exec) (hb : c.code = cc) (hml : c.maxLocals = nL) (hlsz : ls.size = nL) (hdg : decode cc pc = .ok (i, n)) (hown : s.vm.findClass own = some m.cls) (hts : ∀ w ∈ Ts, w.before args s = true) (henv : am_env2 G nst D ca s)
    (hP : va_P D G.1 (am_w ad ca AH) H) (hD : va_D A (am_w ad ca AH)) (hS : va_S A H0 H locs) (hA : ∀ q, H0.size ≤ q → A q) (hw : am_hw AH) (hsv : am_ws AH.length st) (hcl : cells + (AH'.length - AH.length) ≤ R.cells) (hsl : slots + (am_sz AH' - am_sz AH) ≤ R.slots) (hRf : d + 1 ≤ R.frames) (hRl : (d + 1) * 64 ≤ R.locals)
    (kk : ∀ (ad' : Nat → Nat) (H1 : Heap) (locs1 : List Loc), am_agree AH.length ad ad' → va_P D G.1 (am_w ad' ca AH') H1 → va_D A (am_w ad' ca AH') → va_S A H0 H1 locs1 → W p l e R s m args below meth c H1 locs1 (cells + (AH'.length - AH.length)) (slots + (am_sz AH' - am_sz AH)) Q (F0 m (pc + n) ls (st'.map (am_v ad')))) :
    W p l e R s m args below meth c H locs cells slots Q (F0 m pc ls (st.map (am_v ad))) := by
  have hroom : ∀ {j : Nat} {as : List Value} {x : Option Value × am_H} {M : am_M}, am_call G fuel d j as AH = some x → G.2.2.2.1[j]? = some M → (am_rm d (AH'.length - AH.length) (am_sz AH' - am_sz AH)).frames + 1 ≤ R.frames ∧ 8 + (M.2.2.1 + 11) + (am_rm d (AH'.length - AH.length) (am_sz AH' - am_sz AH)).locals ≤ R.locals := by
    intro j as x M h1 h2
    have h3 := am_call_M h1 h2
    refine ⟨hRf, ?_⟩
    show 8 + (M.2.2.1 + 11) + d * 64 ≤ R.locals
    omega
  have hnst := hm.2.2.2.2.2.2.2.2.2
  have hpre : ∀ (as : List Value), PreS s H (am_Pc G nst D ca ad H.size as AH) (as.map (am_v ad)) := fun as => ⟨am_blind hnst, fun U hU hW => ⟨rfl, by rw [hU], by rw [hU]; exact hP, am_env2_warm hnst hW henv, hD.weaken (fun _ _ _ _ => trivial)⟩⟩
  cases i with
  | invokevirtual idx =>
    dsimp only [am_stD] at h
    split at h
    · rename_i j z hk
      obtain ⟨M, b, r, v, hM, hdr, rfl, hnp, hcat, hchk, hcl1, rfl⟩ := am_cv_inv h
      obtain ⟨hcode, hini, hd3, hpl, -⟩ := hm.1 j M hM
      obtain ⟨hlk, hin, hsel⟩ := hm.2.1 own idx j z M hk hM
      have hwr := am_ws_drop M.2.2.2.2.1 hsv
      rw [hdr] at hwr
      have hMet := hsnd j _ AH AH' v M hcl1 hM hw (am_ws_cons.mpr ⟨(am_ws_cons.mp hwr).1, am_ws_take _ hsv⟩) ad H.size
      have cb : CallW R s args own M.1.cls idx M.1 M.2.1 M.2.2.1 M.2.2.2.1 (Cond.code M.1 M.2.1 M.2.2.1 M.2.2.2.1 :: Ts) (am_rm d (AH'.length - AH.length) (am_sz AH' - am_sz AH)) (AH'.length - AH.length) (am_sz AH' - am_sz AH) M.2.2.2.2.1 :=
        ⟨callB_of M.2.2.2.2.1 hts (am_good hm hM) rfl rfl rfl (hts _ hini) (hts _ hlk) hd3 (hroom hcl1 hM), hts _ hin, hts _ hsel⟩
      obtain ⟨ci, fs, q, hb1, hb2, hb3⟩ := am_isC_inv (hchk rfl)
      have hrec := va_recv henv.1.1 hP hb2 (am_w_get (ad := ad) (ca := ca) hb1)
      rw [hb3] at hrec
      have hpv : PreV s H M.1.cls (ad b) (am_Pc G nst D ca ad H.size (.ref b :: (st.take M.2.2.2.2.1).reverse) AH) (((st.take M.2.2.2.2.1).reverse).map (am_v ad)) := ⟨am_blind hnst, hrec, (hpre (.ref b :: (st.take M.2.2.2.2.1).reverse)).2⟩
      have hrun := va_runV (p := p) (e := e) (below := below) (meth := meth) (locs := locs) (cells := cells) (slots := slots) (rest := r.map (am_v ad)) (g := F0 m pc ls (st.map (am_v ad))) ⟨hx, hb, hml, hown, hts⟩ hMet cb hpv rfl (by rw [List.length_map, List.length_reverse, List.length_take]; omega) hlsz (am_stk ad hdr) (lv_room (by rw [am_cats]; exact hcat)) hdg ⟨hcl, hsl⟩
      refine am_goon hrun hD hS hA (fun ad' H1 locs1 hag hP1 hD1 hS1 => ?_)
      have k1 := kk ad' H1 locs1 hag hP1 hD1 hS1
      rw [am_tl ad ad' v r (am_st_agree hag (am_ws_cons.mp hwr).2)] at k1
      exact k1
    · cases h
  | invokespecial idx =>
    dsimp only [am_stD] at h
    split at h
    · rename_i j z hk
      obtain ⟨M, b, r, v, hM, hdr, rfl, hnp, hcat, hchk, hcl1, rfl⟩ := am_cv_inv h
      obtain ⟨hcode, hini, hd3, hpl, -⟩ := hm.1 j M hM
      obtain ⟨hlk, hin, hnm, hret⟩ := hm.2.2.1 own idx j z M hk hM
      have hwr := am_ws_drop M.2.2.2.2.1 hsv
      rw [hdr] at hwr
      have hMet := hsnd j _ AH AH' v M hcl1 hM hw (am_ws_cons.mpr ⟨(am_ws_cons.mp hwr).1, am_ws_take _ hsv⟩) ad H.size
      have cb := callB_of (own := own) (index := idx) M.2.2.2.2.1 hts (am_good hm hM) rfl rfl rfl (hts _ hini) (hts _ hlk) hd3 (hroom hcl1 hM)
      rw [hret] at hMet cb
      have hrun := va_runI (p := p) (e := e) (below := below) (meth := meth) (locs := locs) (cells := cells) (slots := slots) (b := ad b) (As := ((st.take M.2.2.2.2.1).reverse).map (am_v ad)) (rest := r.map (am_v ad)) (g := F0 m pc ls (st.map (am_v ad))) ⟨hx, hb, hml, hown, hts⟩ hMet ⟨cb, hnm, hts _ hin⟩ (hpre (.ref b :: (st.take M.2.2.2.2.1).reverse)) rfl (by rw [List.length_map, List.length_reverse, List.length_take]; omega) hlsz (am_stk ad hdr) (lv_room (by rw [am_cats]; exact hcat)) hdg ⟨hcl, hsl⟩
      refine am_goon hrun hD hS hA (fun ad' H1 locs1 hag hP1 hD1 hS1 => ?_)
      have k1 := kk ad' H1 locs1 hag hP1 hD1 hS1
      rw [am_tl ad ad' v r (am_st_agree hag (am_ws_cons.mp hwr).2)] at k1
      exact k1
    · rename_i j z hk
      obtain ⟨M, b, r, v, hM, hdr, rfl, hnp, hcat, hchk, hcl1, rfl⟩ := am_cv_inv h
      obtain ⟨hcode, hini, hd3, hpl, -⟩ := hm.1 j M hM
      obtain ⟨⟨host, hlk⟩, hin, hnm, hret⟩ := hm.2.2.2.1 own idx j z M hk hM
      have hwr := am_ws_drop M.2.2.2.2.1 hsv
      rw [hdr] at hwr
      have hMet := hsnd j _ AH AH' v M hcl1 hM hw (am_ws_cons.mpr ⟨(am_ws_cons.mp hwr).1, am_ws_take _ hsv⟩) ad H.size
      have cb := va_cnB (own := own) (index := idx) (host := host) M.2.2.2.2.1 hts (am_good hm hM) rfl rfl rfl (henv.2 _ hlk) (hts _ hini) hd3 (hroom hcl1 hM)
      rw [hret] at hMet cb
      have hrun := va_runIN (p := p) (e := e) (below := below) (meth := meth) (locs := locs) (cells := cells) (slots := slots) (b := ad b) (As := ((st.take M.2.2.2.2.1).reverse).map (am_v ad)) (rest := r.map (am_v ad)) (g := F0 m pc ls (st.map (am_v ad))) ⟨hx, hb, hml, hown, hts⟩ hMet ⟨cb, hnm, hts _ hin⟩ (hpre (.ref b :: (st.take M.2.2.2.2.1).reverse)) rfl (by rw [List.length_map, List.length_reverse, List.length_take]; omega) hlsz (am_stk ad hdr) (lv_room (by rw [am_cats]; exact hcat)) hdg ⟨hcl, hsl⟩
      refine am_goon hrun hD hS hA (fun ad' H1 locs1 hag hP1 hD1 hS1 => ?_)
      have k1 := kk ad' H1 locs1 hag hP1 hD1 hS1
      rw [am_tl ad ad' v r (am_st_agree hag (am_ws_cons.mp hwr).2)] at k1
      exact k1
    · rename_i j k z hk
      split at h
      · rename_i a r
        split at h
        · rename_i hc
          obtain ⟨rfl, hcat⟩ := hc
          cases h
          obtain ⟨h1, h2, h3⟩ := hm.2.2.2.2.2.2.1 own idx j k z hk
          refine W.objInit (a := ad a) (rest := st'.map (am_v ad)) hx hb hown (hts _ h1) (hts _ h2) (hts _ h3) rfl (by rw [hml]; exact hlsz) rfl hdg (by omega) (by show 2 * 0 + _ + 12 ≤ _; rw [am_cats]; omega) ?_
          exact am_kid (st' := st') (n := 3) hP hD hS kk
        · cases h
      · cases h
    · cases h
  | invokestatic idx =>
    dsimp only [am_stD] at h
    split at h
    · rename_i j z hk
      obtain ⟨M, v, hM, rfl, hnp, hcat, hcl1, rfl⟩ := am_cs_inv h
      obtain ⟨hcode, hini, hd3, hpl, -⟩ := hm.1 j M hM
      obtain ⟨hlk, hstt⟩ := hm.2.2.2.2.1 own idx j z M hk hM
      have hwr := am_ws_drop M.2.2.2.2.1 hsv
      have hMet := hsnd j _ AH AH' v M hcl1 hM hw (am_ws_take _ hsv) ad H.size
      have cb := callB_of (own := own) (index := idx) M.2.2.2.2.1 hts (am_good hm hM) rfl rfl rfl (hts _ hini) (hts _ hlk) hd3 (hroom hcl1 hM)
      have hrun := va_runS (p := p) (e := e) (below := below) (meth := meth) (locs := locs) (cells := cells) (slots := slots) (As := ((st.take M.2.2.2.2.1).reverse).map (am_v ad)) (rest := (st.drop M.2.2.2.2.1).map (am_v ad)) (g := F0 m pc ls (st.map (am_v ad))) ⟨hx, hb, hml, hown, hts⟩ hMet ⟨cb, hts _ hstt⟩ (hpre (st.take M.2.2.2.2.1).reverse) rfl (by rw [List.length_map, List.length_reverse, List.length_take]; omega) hlsz (am_stk2 ad _) (lv_room (by rw [am_cats]; exact hcat)) hdg ⟨hcl, hsl⟩
      refine am_goon hrun hD hS hA (fun ad' H1 locs1 hag hP1 hD1 hS1 => ?_)
      have k1 := kk ad' H1 locs1 hag hP1 hD1 hS1
      rw [am_tl ad ad' v _ (am_st_agree hag hwr)] at k1
      exact k1
    · rename_i j z hk
      obtain ⟨M, v, hM, rfl, hnp, hcat, hcl1, rfl⟩ := am_cs_inv h
      obtain ⟨hcode, hini, hd3, hpl, -⟩ := hm.1 j M hM
      obtain ⟨⟨host, hlk⟩, hstt⟩ := hm.2.2.2.2.2.1 own idx j z M hk hM
      have hwr := am_ws_drop M.2.2.2.2.1 hsv
      have hMet := hsnd j _ AH AH' v M hcl1 hM hw (am_ws_take _ hsv) ad H.size
      have cb := va_cnB (own := own) (index := idx) (host := host) M.2.2.2.2.1 hts (am_good hm hM) rfl rfl rfl (henv.2 _ hlk) (hts _ hini) hd3 (hroom hcl1 hM)
      have hrun := va_runSN (p := p) (e := e) (below := below) (meth := meth) (locs := locs) (cells := cells) (slots := slots) (As := ((st.take M.2.2.2.2.1).reverse).map (am_v ad)) (rest := (st.drop M.2.2.2.2.1).map (am_v ad)) (g := F0 m pc ls (st.map (am_v ad))) ⟨hx, hb, hml, hown, hts⟩ hMet ⟨cb, hts _ hstt, trivial⟩ (hpre (st.take M.2.2.2.2.1).reverse) rfl (by rw [List.length_map, List.length_reverse, List.length_take]; omega) hlsz (am_stk2 ad _) (lv_room (by rw [am_cats]; exact hcat)) hdg ⟨hcl, hsl⟩
      refine am_goon hrun hD hS hA (fun ad' H1 locs1 hag hP1 hD1 hS1 => ?_)
      have k1 := kk ad' H1 locs1 hag hP1 hD1 hS1
      rw [am_tl ad ad' v _ (am_st_agree hag hwr)] at k1
      exact k1
    · rename_i j k z hk
      obtain ⟨h1, h2, h3, h4⟩ := hm.2.2.2.2.2.2.2.1 own idx j k z hk
      have hnw : nativeFrameWords "java/lang/System" "arraycopy" 5 + 11 ≤ 56 := by decide +kernel
      unfold am_cpy at h
      split at h
      · rename_i w dp a sp a0 r
        split at h
        · rename_i n0 f n1 g hf0 hf1
          split at h
          · rename_i hc
            obtain ⟨rfl, hcat, c1, c2, c3, c4, c5⟩ := hc
            cases h
            obtain ⟨t0, ht⟩ := am_ty (ca := ca) hok.2.2.2.2.2.2.1.1
            exact va_copyi hx hb (by rw [hml, hlsz]) hown (hts _ h1) (hts _ h2) (hts _ h3) (hts _ h4) henv.1.1 hP hD hS a0 a t0 t0 (am_w_get hf0) (am_w_get hf1) ht ht rfl c1 c2 c3 c4 c5 (fun _ _ => rfl) (by omega) (by rw [am_cats]; omega) hdg (am_kset (c1 := .inl (.int, n1, .inl (va_cpy f g sp.toNatClampNeg dp.toNatClampNeg w.toNatClampNeg))) (n := 3) hf1 rfl kk)
          · cases h
        · rename_i n0 f n1 g hf0 hf1
          split at h
          · rename_i hc
            obtain ⟨rfl, hcat, c1, c2, c3, c4, c5⟩ := hc
            cases h
            obtain ⟨t0, ht⟩ := am_ty (ca := ca) hok.2.2.2.2.2.2.1.2.1
            exact va_copyl hx hb (by rw [hml, hlsz]) hown (hts _ h1) (hts _ h2) (hts _ h3) (hts _ h4) henv.1.1 hP hD hS a0 a t0 t0 (am_w_get hf0) (am_w_get hf1) ht ht rfl c1 c2 c3 c4 c5 (fun _ _ => rfl) (by omega) (by rw [am_cats]; omega) hdg (am_kset (c1 := .inl (.long, n1, .inr (.inl (va_cpy f g sp.toNatClampNeg dp.toNatClampNeg w.toNatClampNeg)))) (n := 3) hf1 rfl kk)
          · cases h
        · cases h
      · cases h
    · cases h
  | _ => cases h
end AME
end
section
section AMF
variable {p : Program} {l : Launch} {e : Env} {R : Room} {s : State} {m : MethodId} {args : Array Value} {below : List Frame} {meth : Method} {c : Code} {H : Heap} {locs : List Loc} {cells slots : Nat} {Q : State → Prop}
variable {cc : ByteArray} {pc : Nat} {ls : Array Slot} {ad : Nat → Nat} {G : am_G} {Ts nst : List Cond} {D : va_G} {ca : FieldType → ClassId} {A : Nat → Prop} {H0 : Heap} {own : String} {isI : Bool}
set_option maxHeartbeats 4000000 in
theorem am_sC {n : Nat} {i : Instr} {st st' : List Value} {AH AH' : am_H} (hok : am_ok G Ts) (h : am_stC G own isI i n st AH = some (st', AH')) (hx : p.tables.exec = Jvm.exec) (hb : c.code = cc) (hdg : decode cc pc = .ok (i, n)) (hown : s.vm.findClass own = some m.cls) (hts : ∀ w ∈ Ts, w.before args s = true) (hI : isI = true → meth.name = "<init>") (henv : am_env G D ca s)
    (hP : va_P D G.1 (am_w ad ca AH) H) (hD : va_D A (am_w ad ca AH)) (hS : va_S A H0 H locs) (hA : ∀ q, H0.size ≤ q → A q) (hw : am_hw AH) (hsv : am_ws AH.length st) (hcl : cells + (AH'.length - AH.length) ≤ R.cells) (hsl : slots + (am_sz AH' - am_sz AH) ≤ R.slots)
    (kk : ∀ (ad' : Nat → Nat) (H1 : Heap) (locs1 : List Loc), am_agree AH.length ad ad' → va_P D G.1 (am_w ad' ca AH') H1 → va_D A (am_w ad' ca AH') → va_S A H0 H1 locs1 → W p l e R s m args below meth c H1 locs1 (cells + (AH'.length - AH.length)) (slots + (am_sz AH' - am_sz AH)) Q (F0 m (pc + n) ls (st'.map (am_v ad')))) :
    W p l e R s m args below meth c H locs cells slots Q (F0 m pc ls (st.map (am_v ad))) := by
  cases i with
  | getfield idx => exact am_sC_get hok h hx hb hdg hown hts henv hP hD hS kk
  | putfield idx => exact am_sC_put hok h hx hb hdg hown hts hI henv hP hD hS kk
  | iaload => exact am_sC_iald hok h hx hb hdg henv hP hD hS kk
  | baload => exact am_sC_zald hok h hx hb hdg henv hP hD hS kk
  | laload => exact am_sC_lald hok h hx hb hdg henv hP hD hS kk
  | aaload => exact am_sC_aald hok h hx hb hdg henv hP hD hS kk
  | iastore => exact am_sC_iast hok h hx hb hdg henv hP hD hS kk
  | bastore => exact am_sC_zast hok h hx hb hdg henv hP hD hS kk
  | lastore => exact am_sC_last hok h hx hb hdg henv hP hD hS kk
  | aastore => exact am_sC_aast hok h hx hb hdg henv hP hD hS kk
  | arraylength => exact am_sC_alen hok h hx hb hdg henv hP hD hS kk
  | new idx => exact am_sC_new hok h hx hb hdg hown hts henv hA hw hsv hcl hsl hP hD hS kk
  | newarray aty => exact am_sC_newa hok h hx hb hdg hown hts henv hA hw hsv hcl hsl hP hD hS kk
  | anewarray idx => exact am_sC_newq hok h hx hb hdg hown hts henv hA hw hsv hcl hsl hP hD hS kk
  | ldc idx => exact am_sC_ldc hok h hx hb hdg hown hts hP hD hS kk
  | ldc2_w idx => exact am_sC_ldc2 hok h hx hb hdg hown hts hP hD hS kk
  | _ => cases h
set_option maxHeartbeats 4000000 in
theorem am_sR {n : Nat} {i : Instr} {ret : Option FieldType} {st : List Value} {r : Option Value} {Qc : Array Value → State → Outcome → State → Prop} {free : Addr → Prop} (h : am_ret ret i n st = some r) (hx : p.tables.exec = Jvm.exec) (hb : c.code = cc) (hr : meth.sig.returnType = ret) (hlocks : meth.locks = false) (hdg : decode cc pc = .ok (i, n))
    (hq : ∀ t : State, t.heap = H → s.WarmedH t.vm → Qc args s (.returned (r.map (am_v ad))) t) (hf : ∀ q ∈ locs, free q.base) : W p l e R s m args below meth c H locs cells slots (MQ below Qc args s cells slots free) (F0 m pc ls (st.map (am_v ad))) := by
  cases i with
  | return_ =>
    dsimp only [am_ret] at h
    split at h
    · split at h
      · rename_i h1
        subst h1
        cases h
        exact W.vret hx hb hr hq hf hdg hlocks
      · cases h
    · cases h
  | ireturn =>
    dsimp only [am_ret] at h
    split at h
    · split at h
      · rename_i h1
        obtain ⟨rfl, h2⟩ := h1
        cases h
        exact W.zret hx hb hr h2 hq hf hdg hlocks
      · cases h
    · cases h
  | lreturn =>
    dsimp only [am_ret] at h
    split at h
    · split at h
      · rename_i h1
        subst h1
        cases h
        exact W.lret hx hb hr hq hf hdg hlocks
      · cases h
    · cases h
  | areturn =>
    dsimp only [am_ret] at h
    split at h
    · split at h
      · rename_i h1
        subst h1
        cases h
        exact W.aret hx hb hr (Or.inl ⟨_, rfl⟩) (Or.inr ⟨_, rfl⟩) hq hf hdg hlocks
      · cases h
    · split at h
      · rename_i h1
        subst h1
        cases h
        exact W.aret hx hb hr (Or.inr ⟨_, rfl⟩) (Or.inr ⟨_, rfl⟩) hq hf hdg hlocks
      · cases h
    · cases h
  | _ => cases h
theorem am_row_in {M : am_M} {pc : Nat} {q : Instr × Nat} (h : am_row M pc = some q) : (pc, q) ∈ M.2.2.2.2.2 := by
  unfold am_row at h
  cases hf : M.2.2.2.2.2.find? (fun q => q.1 == pc) with
  | none => rw [hf] at h; cases h
  | some x =>
    rw [hf] at h
    cases h
    have h1 := List.mem_of_find?_eq_some hf
    have h2 : x.1 = pc := by simpa using List.find?_some hf
    rw [← h2]
    exact h1
set_option maxHeartbeats 4000000 in
/-- a method's body, from any of its places -/
theorem am_sx {fuel d j mc ms : Nat} {M : am_M} {AH0 AH' : am_H} {ad0 : Nat → Nat} {sz : Nat} {r : Option Value} (hsnd : am_snd l G Ts nst D ca fuel d) (hok : am_ok G Ts) (hm : am_okm G Ts nst) (hM : G.2.2.2.1[j]? = some M)
    (hx : p.tables.exec = Jvm.exec) (hb : c.code = M.2.1) (hml : c.maxLocals = M.2.2.1) (hr : meth.sig.returnType = M.2.2.2.1) (hlocks : meth.locks = false) (hown : s.vm.findClass M.1.cls = some m.cls) (hnm : meth.name = M.1.name) (hts : ∀ w ∈ Ts, w.before args s = true) (henv : am_env2 G nst D ca s) (hA : ∀ q, s.heap.size ≤ q → va_A (am_w ad0 ca AH0) sz q) (hRc : R.cells = mc) (hRs : R.slots = ms) (hRf : d + 1 ≤ R.frames) (hRl : (d + 1) * 64 ≤ R.locals) (emc : mc = AH'.length - AH0.length) (ems : ms = am_sz AH' - am_sz AH0) :
    ∀ (f pc : Nat) (lv : am_L) (st : List Value) (AH : am_H) (H : Heap) (ls : Array Slot) (locs : List Loc) (cells slots : Nat) (ad : Nat → Nat), am_exec G (am_call G fuel d) M f pc lv st AH = some (r, AH') → am_hw AH → am_wl AH.length lv → am_ws AH.length st → lv_has ls M.2.2.1 (lv.map (am_q ad)) → va_P D G.1 (am_w ad ca AH) H → va_D (va_A (am_w ad0 ca AH0) sz) (am_w ad ca AH) → va_S (va_A (am_w ad0 ca AH0) sz) s.heap H locs → am_agree AH0.length ad0 ad → AH0.length ≤ AH.length → am_sz AH0 ≤ am_sz AH → cells = AH.length - AH0.length → slots = am_sz AH - am_sz AH0 →
      W p l e R s m args below meth c H locs cells slots (MQ below (am_Qc G D ca ad0 sz r AH0 AH') args s mc ms (va_A (am_w ad0 ca AH0) sz)) (F0 m pc ls (st.map (am_v ad))) := by
  have hkeep := am_wcall G fuel d
  intro f
  induction f with
  | zero => intro pc lv st AH H ls locs cells slots ad h; cases h
  | succ f ih =>
    intro pc lv st AH H ls locs cells slots ad h hw hwl hws hl hP hD hS hag hle hlz ec es
    unfold am_exec at h
    split at h
    · rename_i i n hrow
      have hdg := (hm.1 j M hM).2.2.2.2 (pc, (i, n)) (am_row_in hrow)
      dsimp only at hdg
      split at h
      · rename_i pc1 lv1 st1 AH1 h1
        unfold am_one at h1
        split at h1
        · rename_i hA1
          cases h1
          obtain ⟨a1, a2⟩ := am_wA hA1 hwl hws
          exact am_sA hA1 hx hb hdg hl (fun ls' hl' => ih _ _ _ _ _ _ _ _ _ _ h hw a1 a2 hl' hP hD hS hag hle hlz ec es)
        · split at h1
          · rename_i hB1
            cases h1
            exact am_sB hB1 hx hb hdg (ih _ _ _ _ _ _ _ _ _ _ h hw hwl (am_wB hB1 hws) hl hP hD hS hag hle hlz ec es)
          · split at h1
            · rename_i hC1
              cases h1
              obtain ⟨a1, a2⟩ := am_wC hC1 hw hws
              have g1 := (am_wexec hkeep _ _ _ _ _ _ _ h a1.1 (am_wl_mono a1.2.1 hwl) a2).1
              have x1 := a1.2.1
              have x2 := a1.2.2
              have x3 := g1.2.1
              have x4 := g1.2.2
              refine am_sC hok hC1 hx hb hdg hown hts (fun hi => by rw [hnm]; simpa using hi) henv.1 hP hD hS hA hw hws (by omega) (by omega) (fun ad' H1 locs1 hag1 hP1 hD1 hS1 => ?_)
              refine ih _ _ _ _ _ _ _ _ _ _ h a1.1 (am_wl_mono a1.2.1 hwl) a2 (by rw [am_lv_agree hag1 hwl]; exact hl) hP1 hD1 hS1 (fun k hk => (hag1 k (by omega)).trans (hag k hk)) (by omega) (by omega) (by omega) (by omega)
            · split at h1
              · rename_i hD1
                cases h1
                obtain ⟨a1, a2⟩ := am_wD hkeep hD1 hw hws
                have g1 := (am_wexec hkeep _ _ _ _ _ _ _ h a1.1 (am_wl_mono a1.2.1 hwl) a2).1
                have x1 := a1.2.1
                have x2 := a1.2.2
                have x3 := g1.2.1
                have x4 := g1.2.2
                refine am_sD hsnd hok hm hD1 hx hb hml hl.1 hdg hown hts henv hP hD hS hA hw hws (by omega) (by omega) hRf hRl (fun ad' H1 locs1 hag1 hP1 hD1 hS1 => ?_)
                refine ih _ _ _ _ _ _ _ _ _ _ h a1.1 (am_wl_mono a1.2.1 hwl) a2 (by rw [am_lv_agree hag1 hwl]; exact hl) hP1 hD1 hS1 (fun k hk => (hag1 k (by omega)).trans (hag k hk)) (by omega) (by omega) (by omega) (by omega)
              · split at h1
                · cases h1
                · cases h1
      · rename_i h1
        cases h
        unfold am_one at h1
        split at h1
        · cases h1
        · split at h1
          · cases h1
          · split at h1
            · cases h1
            · split at h1
              · cases h1
              · split at h1
                · rename_i hR
                  cases h1
                  have e1 : cells = mc := by omega
                  have e2 : slots = ms := by omega
                  subst e1
                  subst e2
                  exact am_sR hR hx hb hr hlocks hdg (fun t ht hW => ⟨⟨ad, hag, rfl, by rw [ht]; exact hP, hD⟩, hS.F ht⟩) hS.2.2
                · cases h1
      · cases h
    · cases h
theorem am_lvargs_map (ad : Nat → Nat) : ∀ (as : List Value) (k : Nat), lv_args k (as.map (am_v ad)) = (lv_args k as).map (am_q ad)
  | [], k => rfl
  | v :: as, k => by
    rw [List.map_cons]
    unfold lv_args
    rw [am_v_cat, am_lvargs_map ad as, List.map_cons]
    rfl
theorem am_sl_len (ad : Nat → Nat) (as : List Value) : (lg_sl (as.map (am_v ad))).length = (lg_sl as).length := by
  unfold lg_sl
  induction as with
  | nil => rfl
  | cons v as ih =>
    rw [List.map_cons, List.flatMap_cons, List.flatMap_cons, List.length_append, List.length_append, ih, am_v_cat]
    by_cases h : v.category = 2
    · rw [if_pos h, if_pos h]; rfl
    · rw [if_neg h, if_neg h]; rfl
set_option maxHeartbeats 4000000 in
/-- THE MACHINE FOLLOWS THE ABSTRACT ONE -/
theorem am_sound (l : Launch) (hok : am_ok G Ts) (hm : am_okm G Ts nst) (fuel : Nat) : ∀ d, am_snd l G Ts nst D ca fuel d := by
  intro d
  induction d with
  | zero => intro j as AH AH' r M h; cases h
  | succ d ih =>
    intro j as AH AH' r M h hM hw hws ad sz
    unfold am_call at h
    rw [hM] at h
    dsimp only at h
    split at h
    · rename_i hlen
      obtain ⟨-, -, -, hpl, -⟩ := hm.1 j M hM
      refine Met.ofW (cc := M.2.1) (maxL := M.2.2.1) (ret := M.2.2.2.1) hpl rfl ?_
      intro p e s m args below meth c s₁ B hml hv
      obtain ⟨rfl, hsz, hP, henv, hD0⟩ := hv
      have hts0 := atoms_spec (ws := Cond.code M.1 M.2.1 M.2.2.1 M.2.2.2.1 :: Ts) B.pre
      have hown : s.vm.findClass M.1.cls = some m.cls := findClass_of_methodNamed B.named
      subst hsz
      have hl := lv_entry (as.map (am_v ad)) (n := M.2.2.1) (by rw [am_sl_len]; exact hlen.1)
      rw [lg_entry_eq]
      rw [am_lvargs_map] at hl
      exact am_sx (j := j) ih hok hm hM B.exec B.bytes hml B.returns B.notSynchronized hown (name_of_methodNamed B.named B.method).1 (fun w hw => hts0 w (List.mem_cons_of_mem _ hw)) henv (fun q hq => Or.inr hq) rfl rfl (Nat.le_refl _) (Nat.le_refl _) rfl rfl fuel 0 (lv_args 0 as) [] AH s.heap _ [] 0 0 ad h hw (am_lvargs_w as 0 hws) (am_ws_nil _) hl hP hD0.self va_S.rf (fun _ _ => rfl) (Nat.le_refl _) (Nat.le_refl _) (Nat.sub_self _).symm (Nat.sub_self _).symm
    · cases h
end AMF
end
