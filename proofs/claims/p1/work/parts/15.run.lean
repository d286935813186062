/-! calls, returns, runs -/
def am_ent (H : am_H) (b ci : Nat) : Bool := match H[b]? with
  | some (.inr (c, _)) => c == ci
  | _ => false
def am_isC (G : am_G) (H : am_H) (b : Nat) (C : String) : Bool := match H[b]? with
  | some (.inr (ci, _)) => match G.1[ci]? with
    | some q => q.1 == C
    | none => false
  | _ => false
def am_out (r : List Value) (x : Option (Option Value × am_H)) : Option (List Value × am_H) := match x with
  | some (v, H') => some (v.toList ++ r, H')
  | none => none
def am_cpy (n : Nat) (st : List Value) (H : am_H) : Option (List Value × am_H) := match st with
  | .int w :: .int dp :: .ref a :: .int sp :: .ref a0 :: r => match H[a0]?, H[a]? with
    | some (.inl (.int, n0, .inl f)), some (.inl (.int, n1, .inl g)) => if n = 3 ∧ (r.map fun v => v.category).sum ≤ 8 ∧ ¬ sp < 0 ∧ ¬ dp < 0 ∧ ¬ w < 0 ∧ sp.toNatClampNeg + w.toNatClampNeg ≤ n0 ∧ dp.toNatClampNeg + w.toNatClampNeg ≤ n1 then some (r, H.set a (.inl (.int, n1, .inl (va_cpy f g sp.toNatClampNeg dp.toNatClampNeg w.toNatClampNeg)))) else none
    | some (.inl (.long, n0, .inr (.inl f))), some (.inl (.long, n1, .inr (.inl g))) => if n = 3 ∧ (r.map fun v => v.category).sum ≤ 8 ∧ ¬ sp < 0 ∧ ¬ dp < 0 ∧ ¬ w < 0 ∧ sp.toNatClampNeg + w.toNatClampNeg ≤ n0 ∧ dp.toNatClampNeg + w.toNatClampNeg ≤ n1 then some (r, H.set a (.inl (.long, n1, .inr (.inl (va_cpy f g sp.toNatClampNeg dp.toNatClampNeg w.toNatClampNeg))))) else none
    | _, _ => none
  | _ => none
/-- a call: of a method of an object, or of a class -/
def am_cv (G : am_G) (call : Nat → List Value → am_H → Option (Option Value × am_H)) (j n : Nat) (chk : Bool) (st : List Value) (H : am_H) : Option (List Value × am_H) := match G.2.2.2.1[j]? with
  | some M => match st.drop M.2.2.2.2.1 with
    | .ref b :: r => if n = 3 ∧ M.2.2.2.2.1 ≤ st.length ∧ (r.map fun v => v.category).sum ≤ 8 ∧ (chk = true → am_isC G H b M.1.cls = true) then am_out r (call j (.ref b :: (st.take M.2.2.2.2.1).reverse) H) else none
    | _ => none
  | none => none
def am_cs (G : am_G) (call : Nat → List Value → am_H → Option (Option Value × am_H)) (j n : Nat) (st : List Value) (H : am_H) : Option (List Value × am_H) := match G.2.2.2.1[j]? with
  | some M => if n = 3 ∧ M.2.2.2.2.1 ≤ st.length ∧ ((st.drop M.2.2.2.2.1).map fun v => v.category).sum ≤ 8 then am_out (st.drop M.2.2.2.2.1) (call j (st.take M.2.2.2.2.1).reverse H) else none
  | none => none
def am_stD (G : am_G) (call : Nat → List Value → am_H → Option (Option Value × am_H)) (own : String) (i : Instr) (n : Nat) (st : List Value) (H : am_H) : Option (List Value × am_H) := match i with
  | .invokevirtual idx => match G.2.2.1 own idx with
    | some (1, j, 0, _) => am_cv G call j n true st H
    | _ => none
  | .invokespecial idx => match G.2.2.1 own idx with
    | some (1, j, 1, _) => am_cv G call j n false st H
    | some (1, j, 2, _) => am_cv G call j n false st H
    | some (5, _, _, _) => match st with
      | .ref _ :: r => if n = 3 ∧ (r.map fun v => v.category).sum ≤ 8 then some (r, H) else none
      | _ => none
    | _ => none
  | .invokestatic idx => match G.2.2.1 own idx with
    | some (1, j, 3, _) => am_cs G call j n st H
    | some (1, j, 4, _) => am_cs G call j n st H
    | some (4, _, _, _) => am_cpy n st H
    | some (8, _, _, _) => match st with
      | .int y :: .int x :: r => if n = 3 ∧ (r.map fun v => v.category).sum ≤ 8 then some (.int (if x < y then y else x) :: r, H) else none
      | _ => none
    | some (9, _, _, _) => match st with
      | .int y :: .int x :: r => if n = 3 ∧ (r.map fun v => v.category).sum ≤ 8 then some (.int (if y < x then y else x) :: r, H) else none
      | _ => none
    | _ => none
  | _ => none
def am_ret (ret : Option FieldType) (i : Instr) (n : Nat) (st : List Value) : Option (Option Value) := match i with
  | .return_ => match st, ret with
    | [], none => if n = 1 then some none else none
    | _, _ => none
  | .ireturn => match st, ret with
    | [.int v], some ty => if n = 1 ∧ am_okv ty (.int v) = true then some (some (.int v)) else none
    | _, _ => none
  | .lreturn => match st, ret with
    | [.long v], some .long => if n = 1 then some (some (.long v)) else none
    | _, _ => none
  | .areturn => match st, ret with
    | [.ref a], some (.object _) => if n = 1 then some (some (.ref a)) else none
    | [.ref a], some (.array _) => if n = 1 then some (some (.ref a)) else none
    | _, _ => none
  | _ => none
def am_row (M : am_M) (pc : Nat) : Option (Instr × Nat) := (M.2.2.2.2.2.find? (fun q => q.1 == pc)).map (fun q => q.2)
/-- one instruction: on we go, or the answer -/
def am_one (G : am_G) (call : Nat → List Value → am_H → Option (Option Value × am_H)) (M : am_M) (i : Instr) (n pc : Nat) (lv : am_L) (st : List Value) (H : am_H) : Option ((Nat × am_L × List Value × am_H) ⊕ (Option Value × am_H)) :=
  match am_stA M.2.2.1 i n lv st with
  | some (lv', st') => some (.inl (pc + n, lv', st', H))
  | none => match am_stB i n pc st with
    | some (pc', st') => some (.inl (pc', lv, st', H))
    | none => match am_stC G M.1.cls (M.1.name == "<init>") i n st H with
      | some (st', H') => some (.inl (pc + n, lv, st', H'))
      | none => match am_stD G call M.1.cls i n st H with
        | some (st', H') => some (.inl (pc + n, lv, st', H'))
        | none => match am_ret M.2.2.2.1 i n st with
          | some v => some (.inr (v, H))
          | none => none
def am_exec (G : am_G) (call : Nat → List Value → am_H → Option (Option Value × am_H)) (M : am_M) : Nat → Nat → am_L → List Value → am_H → Option (Option Value × am_H)
  | 0, _, _, _, _ => none
  | f + 1, pc, lv, st, H => match am_row M pc with
    | some (i, n) => match am_one G call M i n pc lv st H with
      | some (.inl (pc', lv', st', H')) => am_exec G call M f pc' lv' st' H'
      | some (.inr r) => some r
      | none => none
    | none => none
def am_call (G : am_G) (fuel : Nat) : Nat → Nat → List Value → am_H → Option (Option Value × am_H)
  | 0, _, _, _ => none
  | d + 1, j, as, H => match G.2.2.2.1[j]? with
    | some M => if (lg_sl as).length ≤ M.2.2.1 ∧ M.2.2.1 ≤ 45 then am_exec G (am_call G fuel d) M fuel 0 (lv_args 0 as) [] H else none
    | none => none
/-! references stay within; the heap grows -/
def am_ws (N : Nat) (st : List Value) : Prop := ∀ v ∈ st, am_vw N v
def am_wl (N : Nat) (lv : am_L) : Prop := ∀ q ∈ lv, am_vw N q.2
theorem am_vw_i (N : Nat) (x : Int32) : am_vw N (.int x) := fun i h => by cases h
theorem am_vw_l (N : Nat) (x : Int64) : am_vw N (.long x) := fun i h => by cases h
theorem am_vw_n (N : Nat) : am_vw N .null := fun i h => by cases h
theorem am_vw_mono {N N' : Nat} (h : N ≤ N') {v : Value} (hv : am_vw N v) : am_vw N' v := fun i hi => Nat.lt_of_lt_of_le (hv i hi) h
theorem am_ws_mono {N N' : Nat} (h : N ≤ N') {st : List Value} (hv : am_ws N st) : am_ws N' st := fun v hx => am_vw_mono h (hv v hx)
theorem am_wl_mono {N N' : Nat} (h : N ≤ N') {lv : am_L} (hv : am_wl N lv) : am_wl N' lv := fun q hx => am_vw_mono h (hv q hx)
theorem am_ws_cons {N : Nat} {v : Value} {st : List Value} : am_ws N (v :: st) ↔ am_vw N v ∧ am_ws N st := List.forall_mem_cons
theorem am_ws_nil (N : Nat) : am_ws N [] := fun v h => by cases h
theorem am_cw_mono {N N' : Nat} (h : N ≤ N') {c : am_C} (hc : am_cw N c) : am_cw N' c := by
  cases c with
  | inl x =>
    obtain ⟨ty, w, f | f | f | f | f⟩ := x
    · exact trivial
    · exact trivial
    · exact trivial
    · exact trivial
    · exact fun j i hj => Nat.lt_of_lt_of_le ((show ∀ j i, f j = some i → i < N from hc) j i hj) h
  | inr x => exact fun v hv => am_vw_mono h ((show ∀ v ∈ x.2, am_vw N v from hc) v hv)
theorem am_hw_set {H : am_H} {a : Nat} {c : am_C} (hw : am_hw H) (hc : am_cw H.length c) : am_hw (H.set a c) := by
  intro x hx
  rw [List.length_set]
  rcases List.mem_or_eq_of_mem_set hx with h | h
  · exact hw x h
  · rw [h]; exact hc
theorem am_hw_app {H : am_H} {c : am_C} (hw : am_hw H) (hc : am_cw H.length c) : am_hw (H ++ [c]) := by
  intro x hx
  have hl : H.length ≤ (H ++ [c]).length := by simp
  rcases List.mem_append.mp hx with h | h
  · exact am_cw_mono hl (hw x h)
  · rw [List.mem_singleton.mp h]; exact am_cw_mono hl hc
theorem am_wl_s1 {N : Nat} {lv : am_L} {k : Nat} {v : Value} (hl : am_wl N lv) (hv : am_vw N v) : am_wl N (am_s1 lv k v) := by
  intro q hq
  rcases List.mem_cons.mp hq with rfl | h
  · exact hv
  · exact hl q (List.mem_filter.mp h).1
theorem am_wl_s2 {N : Nat} {lv : am_L} {k : Nat} {v : Value} (hl : am_wl N lv) (hv : am_vw N v) : am_wl N (am_s2 lv k v) := by
  intro q hq
  rcases List.mem_cons.mp hq with rfl | h
  · exact hv
  · exact hl q (List.mem_filter.mp h).1
theorem am_wl_ld {N : Nat} {lv : am_L} {k : Nat} {v : Value} (hl : am_wl N lv) (h : am_ld lv k = some v) : am_vw N v := hl (k, v) (am_ld_mem h)
set_option maxHeartbeats 4000000 in
theorem am_wA {N nL n : Nat} {i : Instr} {lv lv' : am_L} {st st' : List Value} (h : am_stA nL i n lv st = some (lv', st')) (hl : am_wl N lv) (hs : am_ws N st) : am_wl N lv' ∧ am_ws N st' := by
  have i2 : ∀ f, am_i2 lv n f st = some (lv', st') → am_wl N lv' ∧ am_ws N st' := fun f h => by
    obtain ⟨x, y, z, r, hz, rfl, rfl, rfl, rfl⟩ := am_i2_inv h
    exact ⟨hl, am_ws_cons.mpr ⟨am_vw_i N z, (am_ws_cons.mp (am_ws_cons.mp hs).2).2⟩⟩
  have l2 : ∀ f, am_l2 lv n f st = some (lv', st') → am_wl N lv' ∧ am_ws N st' := fun f h => by
    obtain ⟨x, y, r, rfl, rfl, rfl, rfl⟩ := am_l2_inv h
    exact ⟨hl, am_ws_cons.mpr ⟨am_vw_l N _, (am_ws_cons.mp (am_ws_cons.mp hs).2).2⟩⟩
  have il : ∀ f, am_il lv n f st = some (lv', st') → am_wl N lv' ∧ am_ws N st' := fun f h => by
    obtain ⟨x, y, r, rfl, rfl, rfl, rfl⟩ := am_il_inv h
    exact ⟨hl, am_ws_cons.mpr ⟨am_vw_l N _, (am_ws_cons.mp (am_ws_cons.mp hs).2).2⟩⟩
  have ps : ∀ m v, am_vw N v → am_ps lv n m v st = some (lv', st') → am_wl N lv' ∧ am_ws N st' := fun m v hv h => by
    obtain ⟨rfl, rfl, rfl⟩ := am_ps_inv h
    exact ⟨hl, am_ws_cons.mpr ⟨hv, hs⟩⟩
  have gi : ∀ m k, am_gi lv n m k st = some (lv', st') → am_wl N lv' ∧ am_ws N st' := fun m k h => by
    obtain ⟨x, h1, rfl, rfl, rfl⟩ := am_gi_inv h
    exact ⟨hl, am_ws_cons.mpr ⟨am_vw_i N x, hs⟩⟩
  have gl : ∀ m k, am_gl lv n m k st = some (lv', st') → am_wl N lv' ∧ am_ws N st' := fun m k h => by
    obtain ⟨x, h1, rfl, rfl, rfl⟩ := am_gl_inv h
    exact ⟨hl, am_ws_cons.mpr ⟨am_vw_l N x, hs⟩⟩
  have ga : ∀ m k, am_ga lv n m k st = some (lv', st') → am_wl N lv' ∧ am_ws N st' := fun m k h => by
    rcases am_ga_inv h with ⟨x, h1, rfl, rfl, rfl⟩ | ⟨h1, rfl, rfl, rfl⟩ | ⟨x, h1, rfl, rfl, rfl⟩
    · exact ⟨hl, am_ws_cons.mpr ⟨am_wl_ld hl h1, hs⟩⟩
    · exact ⟨hl, am_ws_cons.mpr ⟨am_vw_n N, hs⟩⟩
    · exact ⟨hl, am_ws_cons.mpr ⟨am_wl_ld hl h1, hs⟩⟩
  have pi : ∀ m k, am_pi lv nL n m k st = some (lv', st') → am_wl N lv' ∧ am_ws N st' := fun m k h => by
    obtain ⟨x, rfl, rfl, hk, rfl⟩ := am_pi_inv h
    exact ⟨am_wl_s1 hl (am_vw_i N x), (am_ws_cons.mp hs).2⟩
  have pl : ∀ m k, am_pl lv nL n m k st = some (lv', st') → am_wl N lv' ∧ am_ws N st' := fun m k h => by
    obtain ⟨x, rfl, rfl, hk, rfl⟩ := am_pl_inv h
    exact ⟨am_wl_s2 hl (am_vw_l N x), (am_ws_cons.mp hs).2⟩
  have pa : ∀ m k, am_pa lv nL n m k st = some (lv', st') → am_wl N lv' ∧ am_ws N st' := fun m k h => by
    rcases am_pa_inv h with ⟨x, rfl, rfl, hk, rfl⟩ | ⟨rfl, rfl, hk, rfl⟩
    · exact ⟨am_wl_s1 hl (am_ws_cons.mp hs).1, (am_ws_cons.mp hs).2⟩
    · exact ⟨am_wl_s1 hl (am_vw_n N), (am_ws_cons.mp hs).2⟩
  cases i with
  | iconst v => exact ps _ _ (am_vw_i N _) h
  | bipush v => exact ps _ _ (am_vw_i N _) h
  | sipush v => exact ps _ _ (am_vw_i N _) h
  | lconst v => exact ps _ _ (am_vw_l N _) h
  | aconst_null => exact ps _ _ (am_vw_n N) h
  | iload_n k => exact gi _ _ h
  | iload k => exact gi _ _ h
  | lload_n k => exact gl _ _ h
  | lload k => exact gl _ _ h
  | aload_n k => exact ga _ _ h
  | aload k => exact ga _ _ h
  | istore_n k => exact pi _ _ h
  | istore k => exact pi _ _ h
  | lstore_n k => exact pl _ _ h
  | lstore k => exact pl _ _ h
  | astore_n k => exact pa _ _ h
  | astore k => exact pa _ _ h
  | iinc k d =>
    obtain ⟨x, h1, rfl, hk, rfl, rfl⟩ := am_inc_inv h
    exact ⟨am_wl_s1 hl (am_vw_i N _), hs⟩
  | iadd => exact i2 (fun x y => some (x + y)) h
  | isub => exact i2 (fun x y => some (x - y)) h
  | imul => exact i2 (fun x y => some (x * y)) h
  | iand => exact i2 (fun x y => some (x &&& y)) h
  | ior => exact i2 (fun x y => some (x ||| y)) h
  | ixor => exact i2 (fun x y => some (x ^^^ y)) h
  | idiv => exact i2 (fun x y => if y = 0 then none else some (x / y)) h
  | irem => exact i2 (fun x y => if y = 0 then none else some (x - x / y * y)) h
  | ishl => exact i2 (fun x y => some (x <<< (y &&& 31))) h
  | ishr => exact i2 (fun x y => some (x >>> (y &&& 31))) h
  | iushr => exact i2 (fun x y => some (x.toUInt32 >>> (y.toUInt32 &&& Int32.toUInt32 31)).toInt32) h
  | ladd => exact l2 (fun x y => x + y) h
  | lsub => exact l2 (fun x y => x - y) h
  | lmul => exact l2 (fun x y => x * y) h
  | land => exact l2 (fun x y => x &&& y) h
  | lor => exact l2 (fun x y => x ||| y) h
  | lxor => exact l2 (fun x y => x ^^^ y) h
  | lshl => exact il (fun x y => x <<< (y.toInt64 &&& 63)) h
  | lshr => exact il (fun x y => x >>> (y.toInt64 &&& 63)) h
  | lushr => exact il (fun x y => (x.toUInt64 >>> (y.toInt64.toUInt64 &&& Int64.toUInt64 63)).toInt64) h
  | ineg =>
    obtain ⟨v, w, r, hw, rfl, rfl, rfl, rfl⟩ := am_u_inv h
    cases v <;> cases hw
    exact ⟨hl, am_ws_cons.mpr ⟨am_vw_i N _, (am_ws_cons.mp hs).2⟩⟩
  | i2l =>
    obtain ⟨v, w, r, hw, rfl, rfl, rfl, rfl⟩ := am_u_inv h
    cases v <;> cases hw
    exact ⟨hl, am_ws_cons.mpr ⟨am_vw_l N _, (am_ws_cons.mp hs).2⟩⟩
  | l2i =>
    obtain ⟨v, w, r, hw, rfl, rfl, rfl, rfl⟩ := am_u_inv h
    cases v <;> cases hw
    exact ⟨hl, am_ws_cons.mpr ⟨am_vw_i N _, (am_ws_cons.mp hs).2⟩⟩
  | lcmp =>
    dsimp only [am_stA] at h
    split at h
    · split at h
      · cases h
        exact ⟨hl, am_ws_cons.mpr ⟨am_vw_i N _, (am_ws_cons.mp (am_ws_cons.mp hs).2).2⟩⟩
      · cases h
    · cases h
  | dup => obtain ⟨v, r, hc, rfl, rfl, rfl, rfl⟩ := am_dup_inv h; exact ⟨hl, am_ws_cons.mpr ⟨(am_ws_cons.mp hs).1, hs⟩⟩
  | pop => obtain ⟨v, hc, rfl, rfl, rfl⟩ := am_pop_inv h; exact ⟨hl, (am_ws_cons.mp hs).2⟩
  | pop2 => obtain ⟨v, hc, rfl, rfl, rfl⟩ := am_pop2_inv h; exact ⟨hl, (am_ws_cons.mp hs).2⟩
  | dup2 => obtain ⟨v, w, r, h1, h2, rfl, rfl, rfl, rfl⟩ := am_dup2_inv h; exact ⟨hl, am_ws_cons.mpr ⟨(am_ws_cons.mp hs).1, am_ws_cons.mpr ⟨(am_ws_cons.mp (am_ws_cons.mp hs).2).1, hs⟩⟩⟩
  | _ => cases h
set_option maxHeartbeats 4000000 in
theorem am_wB {N n pc pc' : Nat} {i : Instr} {st st' : List Value} (h : am_stB i n pc st = some (pc', st')) (hs : am_ws N st) : am_ws N st' := by
  cases i with
  | ifCond k off =>
    dsimp only [am_stB] at h
    split at h
    · obtain ⟨rfl, rfl, t, ht, rfl⟩ := am_br_inv h; exact (am_ws_cons.mp hs).2
    · cases h
  | if_icmp k off =>
    dsimp only [am_stB] at h
    split at h
    · obtain ⟨rfl, rfl, t, ht, rfl⟩ := am_br_inv h; exact (am_ws_cons.mp (am_ws_cons.mp hs).2).2
    · cases h
  | ifnull off =>
    dsimp only [am_stB] at h
    split at h
    · obtain ⟨rfl, rfl, t, ht, rfl⟩ := am_br_inv h; exact (am_ws_cons.mp hs).2
    · obtain ⟨rfl, rfl, t, ht, rfl⟩ := am_br_inv h; exact (am_ws_cons.mp hs).2
    · cases h
  | ifnonnull off =>
    dsimp only [am_stB] at h
    split at h
    · obtain ⟨rfl, rfl, t, ht, rfl⟩ := am_br_inv h; exact (am_ws_cons.mp hs).2
    · obtain ⟨rfl, rfl, t, ht, rfl⟩ := am_br_inv h; exact (am_ws_cons.mp hs).2
    · cases h
  | goto off =>
    obtain ⟨rfl, rfl, t, ht, rfl⟩ := am_br_inv (show am_br n pc off true st = some (pc', st') from h)
    exact hs
  | tableswitch dflt lo hi offs =>
    dsimp only [am_stB] at h
    split at h
    · split at h
      · obtain ⟨rfl, ht⟩ := am_jmp_inv h; exact (am_ws_cons.mp hs).2
      · split at h
        · obtain ⟨rfl, ht⟩ := am_jmp_inv h; exact (am_ws_cons.mp hs).2
        · cases h
    · cases h
  | lookupswitch dflt ps =>
    dsimp only [am_stB] at h
    split at h
    · split at h
      · obtain ⟨rfl, ht⟩ := am_jmp_inv h; exact (am_ws_cons.mp hs).2
      · cases h
    · cases h
  | _ => cases h
