def am_ld (lv : am_L) (i : Nat) : Option Value := (lv.find? (fun q => q.1 == i)).map (fun q => q.2)
def am_s1 (lv : am_L) (i : Nat) (v : Value) : am_L := (i, v) :: lv.filter (fun q => !(q.1 == i) && !(q.1 + 1 == i && q.2.category == 2))
def am_s2 (lv : am_L) (i : Nat) (v : Value) : am_L := (i, v) :: lv.filter (fun q => !(q.1 == i) && (!(q.1 == i + 1) && !(q.1 + 1 == i && q.2.category == 2)))
/-- from places to addresses; an address that is none of the world's (the law's script) stands as it is, as .retAddr -/
def am_v (ad : Nat → Nat) : Value → Value
  | .ref i => .ref (ad i)
  | .retAddr a => .ref a
  | v => v
def am_q (ad : Nat → Nat) (q : Nat × Value) : Nat × Value := (q.1, am_v ad q.2)
def am_a (ad : Nat → Nat) (a : vp_A) : vp_A := match a with
  | (n, .inr (.inr (.inr (.inr f)))) => (n, .inr (.inr (.inr (.inr (fun j => (f j).map ad)))))
  | x => x
def am_c (ad : Nat → Nat) (ca : FieldType → ClassId) : am_C → va_E
  | .inl (ty, a) => .inl (ca ty, am_a ad a)
  | .inr (ci, fs) => .inr (ci, fs.map (am_v ad))
def am_w (ad : Nat → Nat) (ca : FieldType → ClassId) (H : am_H) : va_W := H.mapIdx (fun i c => (ad i, am_c ad ca c))
/-! stack and locals -/
def am_ps (lv : am_L) (n m : Nat) (v : Value) (st : List Value) : Option (am_L × List Value) := if n = m then some (lv, v :: st) else none
def am_gi (lv : am_L) (n m k : Nat) (st : List Value) : Option (am_L × List Value) := match am_ld lv k with
  | some (.int x) => am_ps lv n m (.int x) st
  | _ => none
def am_gl (lv : am_L) (n m k : Nat) (st : List Value) : Option (am_L × List Value) := match am_ld lv k with
  | some (.long x) => am_ps lv n m (.long x) st
  | _ => none
def am_ga (lv : am_L) (n m k : Nat) (st : List Value) : Option (am_L × List Value) := match am_ld lv k with
  | some (.ref x) => am_ps lv n m (.ref x) st
  | some .null => am_ps lv n m .null st
  | some (.retAddr x) => am_ps lv n m (.retAddr x) st
  | _ => none
def am_pi (lv : am_L) (nL n m k : Nat) (st : List Value) : Option (am_L × List Value) := match st with
  | .int x :: r => if n = m ∧ k < nL then some (am_s1 lv k (.int x), r) else none
  | _ => none
def am_pl (lv : am_L) (nL n m k : Nat) (st : List Value) : Option (am_L × List Value) := match st with
  | .long x :: r => if n = m ∧ k + 1 < nL then some (am_s2 lv k (.long x), r) else none
  | _ => none
def am_pa (lv : am_L) (nL n m k : Nat) (st : List Value) : Option (am_L × List Value) := match st with
  | .ref x :: r => if n = m ∧ k < nL then some (am_s1 lv k (.ref x), r) else none
  | .null :: r => if n = m ∧ k < nL then some (am_s1 lv k .null, r) else none
  | _ => none
def am_inc (lv : am_L) (nL n k : Nat) (d : Int) (st : List Value) : Option (am_L × List Value) := match am_ld lv k with
  | some (.int x) => if n = 3 ∧ k < nL then some (am_s1 lv k (.int (x + Int32.ofInt d)), st) else none
  | _ => none
def am_i2 (lv : am_L) (n : Nat) (f : Int32 → Int32 → Option Int32) (st : List Value) : Option (am_L × List Value) := match st with
  | .int y :: .int x :: r => match f x y with
    | some z => if n = 1 then some (lv, .int z :: r) else none
    | none => none
  | _ => none
def am_l2 (lv : am_L) (n : Nat) (f : Int64 → Int64 → Int64) (st : List Value) : Option (am_L × List Value) := match st with
  | .long y :: .long x :: r => if n = 1 then some (lv, .long (f x y) :: r) else none
  | _ => none
def am_il (lv : am_L) (n : Nat) (f : Int64 → Int32 → Int64) (st : List Value) : Option (am_L × List Value) := match st with
  | .int y :: .long x :: r => if n = 1 then some (lv, .long (f x y) :: r) else none
  | _ => none
def am_u (lv : am_L) (n : Nat) (f : Value → Option Value) (st : List Value) : Option (am_L × List Value) := match st with
  | v :: r => match f v with
    | some w => if n = 1 then some (lv, w :: r) else none
    | none => none
  | _ => none
def am_dup (lv : am_L) (n : Nat) (st : List Value) : Option (am_L × List Value) := match st with
  | v :: r => if n = 1 ∧ v.category = 1 then some (lv, v :: v :: r) else none
  | _ => none
def am_pop (lv : am_L) (n : Nat) (st : List Value) : Option (am_L × List Value) := match st with
  | v :: r => if n = 1 ∧ v.category = 1 then some (lv, r) else none
  | _ => none
def am_pop2 (lv : am_L) (n : Nat) (st : List Value) : Option (am_L × List Value) := match st with
  | v :: r => if n = 1 ∧ v.category = 2 then some (lv, r) else none
  | _ => none
def am_dup2 (lv : am_L) (n : Nat) (st : List Value) : Option (am_L × List Value) := match st with
  | v :: w :: r => if n = 1 ∧ v.category = 1 ∧ w.category = 1 then some (lv, v :: w :: v :: w :: r) else none
  | _ => none
/-- one instruction on locals and stack alone -/
def am_stA (nL : Nat) (i : Instr) (n : Nat) (lv : am_L) (st : List Value) : Option (am_L × List Value) := match i with
  | .iconst v => am_ps lv n 1 (.int (Int32.ofInt v)) st
  | .bipush v => am_ps lv n 2 (.int (Int8.ofInt v).toInt32) st
  | .sipush v => am_ps lv n 3 (.int (Int16.ofInt v).toInt32) st
  | .lconst v => am_ps lv n 1 (.long (Int64.ofNat (v : Nat))) st
  | .aconst_null => am_ps lv n 1 .null st
  | .iload_n k => am_gi lv n 1 k st
  | .iload k => am_gi lv n 2 k st
  | .lload_n k => am_gl lv n 1 k st
  | .lload k => am_gl lv n 2 k st
  | .aload_n k => am_ga lv n 1 k st
  | .aload k => am_ga lv n 2 k st
  | .istore_n k => am_pi lv nL n 1 k st
  | .istore k => am_pi lv nL n 2 k st
  | .lstore_n k => am_pl lv nL n 1 k st
  | .lstore k => am_pl lv nL n 2 k st
  | .astore_n k => am_pa lv nL n 1 k st
  | .astore k => am_pa lv nL n 2 k st
  | .iinc k d => am_inc lv nL n k d st
  | .iadd => am_i2 lv n (fun x y => some (x + y)) st
  | .isub => am_i2 lv n (fun x y => some (x - y)) st
  | .imul => am_i2 lv n (fun x y => some (x * y)) st
  | .iand => am_i2 lv n (fun x y => some (x &&& y)) st
  | .ior => am_i2 lv n (fun x y => some (x ||| y)) st
  | .ixor => am_i2 lv n (fun x y => some (x ^^^ y)) st
  | .idiv => am_i2 lv n (fun x y => if y = 0 then none else some (x / y)) st
  | .irem => am_i2 lv n (fun x y => if y = 0 then none else some (x - x / y * y)) st
  | .ishl => am_i2 lv n (fun x y => some (x <<< (y &&& 31))) st
  | .ishr => am_i2 lv n (fun x y => some (x >>> (y &&& 31))) st
  | .iushr => am_i2 lv n (fun x y => some (x.toUInt32 >>> (y.toUInt32 &&& Int32.toUInt32 31)).toInt32) st
  | .ladd => am_l2 lv n (fun x y => x + y) st
  | .lsub => am_l2 lv n (fun x y => x - y) st
  | .lmul => am_l2 lv n (fun x y => x * y) st
  | .land => am_l2 lv n (fun x y => x &&& y) st
  | .lor => am_l2 lv n (fun x y => x ||| y) st
  | .lxor => am_l2 lv n (fun x y => x ^^^ y) st
  | .lshl => am_il lv n (fun x y => x <<< (y.toInt64 &&& 63)) st
  | .lshr => am_il lv n (fun x y => x >>> (y.toInt64 &&& 63)) st
  | .lushr => am_il lv n (fun x y => (x.toUInt64 >>> (y.toInt64.toUInt64 &&& Int64.toUInt64 63)).toInt64) st
  | .ineg => am_u lv n (fun v => match v with | .int x => some (.int (-x)) | _ => none) st
  | .i2l => am_u lv n (fun v => match v with | .int x => some (.long x.toInt64) | _ => none) st
  | .l2i => am_u lv n (fun v => match v with | .long x => some (.int x.toInt32) | _ => none) st
  | .lcmp => match st with
    | .long y :: .long x :: r => if n = 1 then some (lv, .int (lg_cmp x y) :: r) else none
    | _ => none
  | .dup => am_dup lv n st
  | .pop => am_pop lv n st
  | .pop2 => am_pop2 lv n st
  | .dup2 => am_dup2 lv n st
  | _ => none
/-! what the helpers say -/
theorem am_ps_inv {lv lv' : am_L} {n m : Nat} {v : Value} {st st' : List Value} (h : am_ps lv n m v st = some (lv', st')) : n = m ∧ lv' = lv ∧ st' = v :: st := by
  unfold am_ps at h
  split at h
  · cases h; exact ⟨by assumption, rfl, rfl⟩
  · cases h
theorem am_ld_mem {lv : am_L} {k : Nat} {v : Value} (h : am_ld lv k = some v) : (k, v) ∈ lv := by
  unfold am_ld at h
  cases hf : lv.find? (fun q => q.1 == k) with
  | none => rw [hf] at h; cases h
  | some q =>
    rw [hf] at h
    cases h
    have h1 := List.mem_of_find?_eq_some hf
    have h2 := List.find?_some hf
    have h3 : q.1 = k := by simpa using h2
    rw [← h3]
    exact h1
theorem am_ld_at {lv : am_L} {k : Nat} {v : Value} {ad : Nat → Nat} {ls : Array Slot} {nL : Nat} (h : am_ld lv k = some v) (hl : lv_has ls nL (lv.map (am_q ad))) : ls[k]? = some (.val (am_v ad v)) :=
  hl.2.2 (k, am_v ad v) (List.mem_map.mpr ⟨(k, v), am_ld_mem h, rfl⟩)
theorem am_v_cat (ad : Nat → Nat) (v : Value) : (am_v ad v).category = v.category := by cases v <;> rfl
theorem am_s1_map (ad : Nat → Nat) (lv : am_L) (i : Nat) (v : Value) : (i, am_v ad v) :: (lv.map (am_q ad)).filter (fun q => !(q.1 == i) && !(q.1 + 1 == i && q.2.category == 2)) = (am_s1 lv i v).map (am_q ad) := by
  unfold am_s1
  rw [List.map_cons, List.filter_map]
  congr 2
  apply List.filter_congr
  intro q _
  simp [am_q, am_v_cat]
theorem am_s2_map (ad : Nat → Nat) (lv : am_L) (i : Nat) (v : Value) : (i, am_v ad v) :: (lv.map (am_q ad)).filter (fun q => !(q.1 == i) && (!(q.1 == i + 1) && !(q.1 + 1 == i && q.2.category == 2))) = (am_s2 lv i v).map (am_q ad) := by
  unfold am_s2
  rw [List.map_cons, List.filter_map]
  congr 2
  apply List.filter_congr
  intro q _
  simp [am_q, am_v_cat]
theorem am_gi_inv {lv lv' : am_L} {n m k : Nat} {st st' : List Value} (h : am_gi lv n m k st = some (lv', st')) : ∃ x : Int32, am_ld lv k = some (.int x) ∧ n = m ∧ lv' = lv ∧ st' = .int x :: st := by
  unfold am_gi at h
  split at h
  · exact ⟨_, by assumption, am_ps_inv h⟩
  · cases h
theorem am_gl_inv {lv lv' : am_L} {n m k : Nat} {st st' : List Value} (h : am_gl lv n m k st = some (lv', st')) : ∃ x : Int64, am_ld lv k = some (.long x) ∧ n = m ∧ lv' = lv ∧ st' = .long x :: st := by
  unfold am_gl at h
  split at h
  · exact ⟨_, by assumption, am_ps_inv h⟩
  · cases h
theorem am_ga_inv {lv lv' : am_L} {n m k : Nat} {st st' : List Value} (h : am_ga lv n m k st = some (lv', st')) : (∃ x : Nat, am_ld lv k = some (.ref x) ∧ n = m ∧ lv' = lv ∧ st' = .ref x :: st) ∨ (am_ld lv k = some .null ∧ n = m ∧ lv' = lv ∧ st' = .null :: st) ∨ (∃ x : Nat, am_ld lv k = some (.retAddr x) ∧ n = m ∧ lv' = lv ∧ st' = .retAddr x :: st) := by
  unfold am_ga at h
  split at h
  · exact Or.inl ⟨_, by assumption, am_ps_inv h⟩
  · exact Or.inr (Or.inl ⟨by assumption, am_ps_inv h⟩)
  · exact Or.inr (Or.inr ⟨_, by assumption, am_ps_inv h⟩)
  · cases h
theorem am_pi_inv {lv lv' : am_L} {nL n m k : Nat} {st st' : List Value} (h : am_pi lv nL n m k st = some (lv', st')) : ∃ x : Int32, st = .int x :: st' ∧ n = m ∧ k < nL ∧ lv' = am_s1 lv k (.int x) := by
  unfold am_pi at h
  split at h
  · split at h
    · rename_i hc
      cases h; exact ⟨_, rfl, hc.1, hc.2, rfl⟩
    · cases h
  · cases h
theorem am_pl_inv {lv lv' : am_L} {nL n m k : Nat} {st st' : List Value} (h : am_pl lv nL n m k st = some (lv', st')) : ∃ x : Int64, st = .long x :: st' ∧ n = m ∧ k + 1 < nL ∧ lv' = am_s2 lv k (.long x) := by
  unfold am_pl at h
  split at h
  · split at h
    · rename_i hc
      cases h; exact ⟨_, rfl, hc.1, hc.2, rfl⟩
    · cases h
  · cases h
theorem am_pa_inv {lv lv' : am_L} {nL n m k : Nat} {st st' : List Value} (h : am_pa lv nL n m k st = some (lv', st')) : (∃ x : Nat, st = .ref x :: st' ∧ n = m ∧ k < nL ∧ lv' = am_s1 lv k (.ref x)) ∨ (st = .null :: st' ∧ n = m ∧ k < nL ∧ lv' = am_s1 lv k .null) := by
  unfold am_pa at h
  split at h
  · split at h
    · rename_i hc
      cases h; exact Or.inl ⟨_, rfl, hc.1, hc.2, rfl⟩
    · cases h
  · split at h
    · rename_i hc
      cases h; exact Or.inr ⟨rfl, hc.1, hc.2, rfl⟩
    · cases h
  · cases h
theorem am_inc_inv {lv lv' : am_L} {nL n k : Nat} {d : Int} {st st' : List Value} (h : am_inc lv nL n k d st = some (lv', st')) : ∃ x : Int32, am_ld lv k = some (.int x) ∧ n = 3 ∧ k < nL ∧ lv' = am_s1 lv k (.int (x + Int32.ofInt d)) ∧ st' = st := by
  unfold am_inc at h
  split at h
  · split at h
    · rename_i hc
      cases h; exact ⟨_, by assumption, hc.1, hc.2, rfl, rfl⟩
    · cases h
  · cases h
theorem am_i2_inv {lv lv' : am_L} {n : Nat} {f : Int32 → Int32 → Option Int32} {st st' : List Value} (h : am_i2 lv n f st = some (lv', st')) : ∃ (x y z : Int32) (r : List Value), f x y = some z ∧ st = .int y :: .int x :: r ∧ n = 1 ∧ lv' = lv ∧ st' = .int z :: r := by
  unfold am_i2 at h
  split at h
  · split at h
    · split at h
      · cases h; exact ⟨_, _, _, _, by assumption, rfl, by assumption, rfl, rfl⟩
      · cases h
    · cases h
  · cases h
theorem am_l2_inv {lv lv' : am_L} {n : Nat} {f : Int64 → Int64 → Int64} {st st' : List Value} (h : am_l2 lv n f st = some (lv', st')) : ∃ (x y : Int64) (r : List Value), st = .long y :: .long x :: r ∧ n = 1 ∧ lv' = lv ∧ st' = .long (f x y) :: r := by
  unfold am_l2 at h
  split at h
  · split at h
    · cases h; exact ⟨_, _, _, rfl, by assumption, rfl, rfl⟩
    · cases h
  · cases h
theorem am_il_inv {lv lv' : am_L} {n : Nat} {f : Int64 → Int32 → Int64} {st st' : List Value} (h : am_il lv n f st = some (lv', st')) : ∃ (x : Int64) (y : Int32) (r : List Value), st = .int y :: .long x :: r ∧ n = 1 ∧ lv' = lv ∧ st' = .long (f x y) :: r := by
  unfold am_il at h
  split at h
  · split at h
    · cases h; exact ⟨_, _, _, rfl, by assumption, rfl, rfl⟩
    · cases h
  · cases h
theorem am_u_inv {lv lv' : am_L} {n : Nat} {f : Value → Option Value} {st st' : List Value} (h : am_u lv n f st = some (lv', st')) : ∃ (v w : Value) (r : List Value), f v = some w ∧ st = v :: r ∧ n = 1 ∧ lv' = lv ∧ st' = w :: r := by
  unfold am_u at h
  split at h
  · split at h
    · split at h
      · cases h; exact ⟨_, _, _, by assumption, rfl, by assumption, rfl, rfl⟩
      · cases h
    · cases h
  · cases h
theorem am_dup_inv {lv lv' : am_L} {n : Nat} {st st' : List Value} (h : am_dup lv n st = some (lv', st')) : ∃ (v : Value) (r : List Value), v.category = 1 ∧ st = v :: r ∧ n = 1 ∧ lv' = lv ∧ st' = v :: v :: r := by
  unfold am_dup at h
  split at h
  · split at h
    · rename_i hc
      cases h; exact ⟨_, _, hc.2, rfl, hc.1, rfl, rfl⟩
    · cases h
  · cases h
theorem am_pop_inv {lv lv' : am_L} {n : Nat} {st st' : List Value} (h : am_pop lv n st = some (lv', st')) : ∃ (v : Value), v.category = 1 ∧ st = v :: st' ∧ n = 1 ∧ lv' = lv := by
  unfold am_pop at h
  split at h
  · split at h
    · rename_i hc
      cases h; exact ⟨_, hc.2, rfl, hc.1, rfl⟩
    · cases h
  · cases h
theorem am_pop2_inv {lv lv' : am_L} {n : Nat} {st st' : List Value} (h : am_pop2 lv n st = some (lv', st')) : ∃ (v : Value), v.category = 2 ∧ st = v :: st' ∧ n = 1 ∧ lv' = lv := by
  unfold am_pop2 at h
  split at h
  · split at h
    · rename_i hc
      cases h; exact ⟨_, hc.2, rfl, hc.1, rfl⟩
    · cases h
  · cases h
theorem am_dup2_inv {lv lv' : am_L} {n : Nat} {st st' : List Value} (h : am_dup2 lv n st = some (lv', st')) : ∃ (v w : Value) (r : List Value), v.category = 1 ∧ w.category = 1 ∧ st = v :: w :: r ∧ n = 1 ∧ lv' = lv ∧ st' = v :: w :: v :: w :: r := by
  unfold am_dup2 at h
  split at h
  · split at h
    · rename_i hc
      cases h; exact ⟨_, _, _, hc.2.1, hc.2.2, rfl, hc.1, rfl, rfl⟩
    · cases h
  · cases h
section AMA
variable {p : Program} {l : Launch} {e : Env} {R : Room} {s : State} {m : MethodId} {args : Array Value} {below : List Frame} {meth : Method} {c : Code} {H : Heap} {locs : List Loc} {cells slots : Nat} {Q : State → Prop}
variable {cc : ByteArray} {pc : Nat} {ls : Array Slot} {ad : Nat → Nat}
set_option maxHeartbeats 4000000 in
/-- the machine follows: instructions on locals and stack alone -/
theorem am_sA {nL n : Nat} {i : Instr} {lv lv' : am_L} {st st' : List Value} (h : am_stA nL i n lv st = some (lv', st')) (hx : p.tables.exec = Jvm.exec) (hb : c.code = cc) (hdg : decode cc pc = .ok (i, n)) (hl : lv_has ls nL (lv.map (am_q ad)))
    (kk : ∀ ls' : Array Slot, lv_has ls' nL (lv'.map (am_q ad)) → W p l e R s m args below meth c H locs cells slots Q (F0 m (pc + n) ls' (st'.map (am_v ad)))) : W p l e R s m args below meth c H locs cells slots Q (F0 m pc ls (st.map (am_v ad))) := by
  cases i with
  | iconst v => obtain ⟨rfl, rfl, rfl⟩ := am_ps_inv h; exact lv_iconst hx hb hdg rfl (kk ls hl)
  | bipush v => obtain ⟨rfl, rfl, rfl⟩ := am_ps_inv h; exact lv_bipush hx hb hdg rfl (kk ls hl)
  | sipush v => obtain ⟨rfl, rfl, rfl⟩ := am_ps_inv h; exact lv_sipush hx hb hdg rfl (kk ls hl)
  | lconst v => obtain ⟨rfl, rfl, rfl⟩ := am_ps_inv h; exact lv_lconst hx hb hdg rfl (kk ls hl)
  | aconst_null => obtain ⟨rfl, rfl, rfl⟩ := am_ps_inv h; exact lv_null hx hb hdg (kk ls hl)
  | iload_n k => obtain ⟨x, h1, rfl, rfl, rfl⟩ := am_gi_inv h; exact lv_iload_n hx hb hdg rfl (am_ld_at h1 hl) (kk ls hl)
  | iload k => obtain ⟨x, h1, rfl, rfl, rfl⟩ := am_gi_inv h; exact lv_iload hx hb hdg (am_ld_at h1 hl) (kk ls hl)
  | lload_n k => obtain ⟨x, h1, rfl, rfl, rfl⟩ := am_gl_inv h; exact lv_lload_n hx hb hdg rfl (am_ld_at h1 hl) (kk ls hl)
  | lload k => obtain ⟨x, h1, rfl, rfl, rfl⟩ := am_gl_inv h; exact lv_lload hx hb hdg (am_ld_at h1 hl) (kk ls hl)
  | aload_n k =>
    rcases am_ga_inv h with ⟨x, h1, rfl, rfl, rfl⟩ | ⟨h1, rfl, rfl, rfl⟩ | ⟨x, h1, rfl, rfl, rfl⟩
    · exact lv_aload_n hx hb hdg rfl (am_ld_at h1 hl) (kk ls hl)
    · exact lv_aload_nN hx hb hdg rfl (am_ld_at h1 hl) (kk ls hl)
    · exact lv_aload_n hx hb hdg rfl (am_ld_at h1 hl) (kk ls hl)
  | aload k =>
    rcases am_ga_inv h with ⟨x, h1, rfl, rfl, rfl⟩ | ⟨h1, rfl, rfl, rfl⟩ | ⟨x, h1, rfl, rfl, rfl⟩
    · exact lv_aload hx hb hdg (am_ld_at h1 hl) (kk ls hl)
    · exact lv_aloadN hx hb hdg (am_ld_at h1 hl) (kk ls hl)
    · exact lv_aload hx hb hdg (am_ld_at h1 hl) (kk ls hl)
  | istore_n k => obtain ⟨x, rfl, rfl, hk, rfl⟩ := am_pi_inv h; exact lv_istore_n hx hb hdg rfl hl hk (am_s1_map ad lv k (.int x)) kk
  | istore k => obtain ⟨x, rfl, rfl, hk, rfl⟩ := am_pi_inv h; exact lv_istore hx hb hdg hl hk (am_s1_map ad lv k (.int x)) kk
  | lstore_n k => obtain ⟨x, rfl, rfl, hk, rfl⟩ := am_pl_inv h; exact lv_lstore_n hx hb hdg rfl hl hk (am_s2_map ad lv k (.long x)) kk
  | lstore k => obtain ⟨x, rfl, rfl, hk, rfl⟩ := am_pl_inv h; exact lv_lstore hx hb hdg hl hk (am_s2_map ad lv k (.long x)) kk
  | astore_n k =>
    rcases am_pa_inv h with ⟨x, rfl, rfl, hk, rfl⟩ | ⟨rfl, rfl, hk, rfl⟩
    · exact lv_astore_n hx hb hdg rfl hl hk (am_s1_map ad lv k (.ref x)) kk
    · exact lv_astore_nN hx hb hdg rfl hl hk (am_s1_map ad lv k .null) kk
  | astore k =>
    rcases am_pa_inv h with ⟨x, rfl, rfl, hk, rfl⟩ | ⟨rfl, rfl, hk, rfl⟩
    · exact lv_astore hx hb hdg hl hk (am_s1_map ad lv k (.ref x)) kk
    · exact lv_astoreN hx hb hdg hl hk (am_s1_map ad lv k .null) kk
  | iinc k d =>
    obtain ⟨x, h1, rfl, hk, rfl, rfl⟩ := am_inc_inv h
    obtain ⟨j, hj⟩ := List.getElem?_of_mem (List.mem_map.mpr ⟨(k, Value.int x), am_ld_mem h1, rfl⟩ : am_q ad (k, Value.int x) ∈ lv.map (am_q ad))
    exact lv_iinc hx hb hdg hl hj rfl hk (am_s1_map ad lv k (.int (x + Int32.ofInt d))) kk
  | iadd => obtain ⟨x, y, z, r, hz, rfl, rfl, rfl, rfl⟩ := am_i2_inv (show am_i2 lv n (fun x y => some (x + y)) st = some (lv', st') from h); cases hz; exact lv_iadd hx hb hdg (kk ls hl)
  | isub => obtain ⟨x, y, z, r, hz, rfl, rfl, rfl, rfl⟩ := am_i2_inv (show am_i2 lv n (fun x y => some (x - y)) st = some (lv', st') from h); cases hz; exact lv_isub hx hb hdg (kk ls hl)
  | imul => obtain ⟨x, y, z, r, hz, rfl, rfl, rfl, rfl⟩ := am_i2_inv (show am_i2 lv n (fun x y => some (x * y)) st = some (lv', st') from h); cases hz; exact lv_imul hx hb hdg (kk ls hl)
  | iand => obtain ⟨x, y, z, r, hz, rfl, rfl, rfl, rfl⟩ := am_i2_inv (show am_i2 lv n (fun x y => some (x &&& y)) st = some (lv', st') from h); cases hz; exact lv_iand hx hb hdg (kk ls hl)
  | ior => obtain ⟨x, y, z, r, hz, rfl, rfl, rfl, rfl⟩ := am_i2_inv (show am_i2 lv n (fun x y => some (x ||| y)) st = some (lv', st') from h); cases hz; exact lv_ior hx hb hdg (kk ls hl)
  | ixor => obtain ⟨x, y, z, r, hz, rfl, rfl, rfl, rfl⟩ := am_i2_inv (show am_i2 lv n (fun x y => some (x ^^^ y)) st = some (lv', st') from h); cases hz; exact lv_ixor hx hb hdg (kk ls hl)
  | idiv =>
    obtain ⟨x, y, z, r, hz, rfl, rfl, rfl, rfl⟩ := am_i2_inv h
    by_cases h0 : y = 0
    · rw [if_pos h0] at hz; cases hz
    · rw [if_neg h0] at hz; cases hz; exact lv_idiv hx hb hdg h0 (kk ls hl)
  | irem =>
    obtain ⟨x, y, z, r, hz, rfl, rfl, rfl, rfl⟩ := am_i2_inv h
    by_cases h0 : y = 0
    · rw [if_pos h0] at hz; cases hz
    · rw [if_neg h0] at hz; cases hz; exact lv_irem hx hb hdg h0 (kk ls hl)
  | ishl => obtain ⟨x, y, z, r, hz, rfl, rfl, rfl, rfl⟩ := am_i2_inv (show am_i2 lv n (fun x y => some (x <<< (y &&& 31))) st = some (lv', st') from h); cases hz; exact lv_ishl hx hb hdg (kk ls hl)
  | ishr => obtain ⟨x, y, z, r, hz, rfl, rfl, rfl, rfl⟩ := am_i2_inv (show am_i2 lv n (fun x y => some (x >>> (y &&& 31))) st = some (lv', st') from h); cases hz; exact lv_ishr hx hb hdg (kk ls hl)
  | iushr => obtain ⟨x, y, z, r, hz, rfl, rfl, rfl, rfl⟩ := am_i2_inv (show am_i2 lv n (fun x y => some (x.toUInt32 >>> (y.toUInt32 &&& Int32.toUInt32 31)).toInt32) st = some (lv', st') from h); cases hz; exact lv_iushr hx hb hdg rfl (kk ls hl)
  | ladd => obtain ⟨x, y, r, rfl, rfl, rfl, rfl⟩ := am_l2_inv (show am_l2 lv n (fun x y => x + y) st = some (lv', st') from h); exact lv_ladd hx hb hdg (kk ls hl)
  | lsub => obtain ⟨x, y, r, rfl, rfl, rfl, rfl⟩ := am_l2_inv (show am_l2 lv n (fun x y => x - y) st = some (lv', st') from h); exact lv_lsub hx hb hdg (kk ls hl)
  | lmul => obtain ⟨x, y, r, rfl, rfl, rfl, rfl⟩ := am_l2_inv (show am_l2 lv n (fun x y => x * y) st = some (lv', st') from h); exact lv_lmul hx hb hdg (kk ls hl)
  | land => obtain ⟨x, y, r, rfl, rfl, rfl, rfl⟩ := am_l2_inv (show am_l2 lv n (fun x y => x &&& y) st = some (lv', st') from h); exact lv_land hx hb hdg (kk ls hl)
  | lor => obtain ⟨x, y, r, rfl, rfl, rfl, rfl⟩ := am_l2_inv (show am_l2 lv n (fun x y => x ||| y) st = some (lv', st') from h); exact lv_lor hx hb hdg (kk ls hl)
  | lxor => obtain ⟨x, y, r, rfl, rfl, rfl, rfl⟩ := am_l2_inv (show am_l2 lv n (fun x y => x ^^^ y) st = some (lv', st') from h); exact lv_lxor hx hb hdg (kk ls hl)
  | lshl => obtain ⟨x, y, r, rfl, rfl, rfl, rfl⟩ := am_il_inv h; exact lv_lshl hx hb hdg rfl (kk ls hl)
  | lshr => obtain ⟨x, y, r, rfl, rfl, rfl, rfl⟩ := am_il_inv h; exact lv_lshr hx hb hdg rfl (kk ls hl)
  | lushr => obtain ⟨x, y, r, rfl, rfl, rfl, rfl⟩ := am_il_inv h; exact lv_lushr hx hb hdg rfl (kk ls hl)
  | ineg =>
    obtain ⟨v, w, r, hw, rfl, rfl, rfl, rfl⟩ := am_u_inv h
    cases v <;> cases hw
    exact lv_ineg hx hb hdg (kk ls hl)
  | i2l =>
    obtain ⟨v, w, r, hw, rfl, rfl, rfl, rfl⟩ := am_u_inv h
    cases v <;> cases hw
    exact lv_i2l hx hb hdg rfl (kk ls hl)
  | l2i =>
    obtain ⟨v, w, r, hw, rfl, rfl, rfl, rfl⟩ := am_u_inv h
    cases v <;> cases hw
    exact lv_l2i hx hb hdg rfl (kk ls hl)
  | lcmp =>
    dsimp only [am_stA] at h
    split at h
    · split at h
      · rename_i h1
        subst h1
        cases h
        exact W.lcmp hx hb hdg (kk ls hl)
      · cases h
    · cases h
  | dup => obtain ⟨v, r, hc, rfl, rfl, rfl, rfl⟩ := am_dup_inv h; exact lv_dup hx hb hdg (by rw [am_v_cat]; exact hc) (kk ls hl)
  | pop => obtain ⟨v, hc, rfl, rfl, rfl⟩ := am_pop_inv h; exact lv_pop hx hb hdg (by rw [am_v_cat]; exact hc) (kk ls hl)
  | pop2 => obtain ⟨v, hc, rfl, rfl, rfl⟩ := am_pop2_inv h; exact lv_pop2_2 hx hb hdg (by rw [am_v_cat]; exact hc) (kk ls hl)
  | dup2 => obtain ⟨v, w, r, h1, h2, rfl, rfl, rfl, rfl⟩ := am_dup2_inv h; exact lv_dup2_11 hx hb hdg (by rw [am_v_cat]; exact h1) (by rw [am_v_cat]; exact h2) (kk ls hl)
  | _ => cases h
end AMA
