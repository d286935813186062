/-! the heap -/
def am_cz : am_C → Nat
  | .inl (_, a) => a.1
  | .inr (_, fs) => fs.length
def am_sz (H : am_H) : Nat := (H.map am_cz).sum
def am_fld (G : am_G) (own : String) (idx : Nat) : Option (Nat × Nat) := match G.2.2.1 own idx with
  | some (0, ci, k, _) => some (ci, k)
  | _ => none
def am_getf (H : am_H) (ci k a : Nat) : Option Value := match H[a]? with
  | some (.inr (ci', fs)) => if ci' = ci then fs[k]? else none
  | _ => none
/-- a value that a field or an answer of this type can be, as it stands -/
def am_okv : FieldType → Value → Bool
  | .int, .int _ => true
  | .long, .long _ => true
  | .boolean, .int x => x == 0 || x == 1
  | .object _, .ref _ => true
  | .object _, .null => true
  | .array _, .ref _ => true
  | .array _, .null => true
  | _, _ => false
theorem am_okv_inv {ty : FieldType} {v : Value} (h : am_okv ty v = true) : narrow ty v = v ∧ fits ty v = true := by
  unfold am_okv at h
  split at h
  · exact ⟨rfl, rfl⟩
  · exact ⟨rfl, rfl⟩
  · rename_i x
    rw [Bool.or_eq_true, beq_iff_eq, beq_iff_eq] at h
    rcases h with rfl | rfl
    · exact ⟨by decide +kernel, by decide +kernel⟩
    · exact ⟨by decide +kernel, by decide +kernel⟩
  · exact ⟨rfl, rfl⟩
  · exact ⟨rfl, rfl⟩
  · exact ⟨rfl, rfl⟩
  · exact ⟨rfl, rfl⟩
  · cases h
def am_canput (G : am_G) (own : String) (isI : Bool) (ci k : Nat) (v : Value) : Bool := match G.1[ci]? with
  | some (_, T, _) => am_okv (G.2.1 ci k) v && ((T k).2.2.2 == false || (isI && (T k).1 == own))
  | none => false
def am_putf (G : am_G) (own : String) (isI : Bool) (H : am_H) (ci k a : Nat) (v : Value) : Option am_H := match H[a]? with
  | some (.inr (ci', fs)) => if ci' = ci ∧ k < fs.length ∧ am_canput G own isI ci k v = true then some (H.set a (.inr (ci, fs.set k v))) else none
  | _ => none
def am_zero (ty : FieldType) (n : Nat) : Option vp_A := match ty with
  | .int => some (n, .inl (fun _ => 0))
  | .boolean => some (n, .inl (fun _ => 0))
  | .long => some (n, .inr (.inl (fun _ => 0)))
  | _ => none
def am_rf : Option Nat → Value
  | some a => .ref a
  | none => .null
def am_inb (i : Int32) (n : Nat) : Bool := decide (¬ (i < 0 ∨ n ≤ i.toNatClampNeg))
def am_new (G : am_G) (H : am_H) (ci : Nat) : Option am_H := match G.1[ci]? with
  | some (_, _, N) => some (H ++ [.inr (ci, (List.range N).map (fun k => defaultValue (G.2.1 ci k)))])
  | none => none
def am_newa (G : am_G) (H : am_H) (ty : FieldType) (n : Int32) : Option am_H := match am_zero ty n.toNatClampNeg with
  | some a => if ¬ n < 0 ∧ n.toNatClampNeg * componentBytes ty ≤ 536870912 ∧ ty ∈ G.2.2.2.2 then some (H ++ [.inl (ty, a)]) else none
  | none => none
def am_newq (G : am_G) (H : am_H) (ci : Nat) (n : Int32) : Option am_H := match G.1[ci]? with
  | some (C, _, _) => if ¬ n < 0 ∧ n.toNatClampNeg * 4 ≤ 536870912 ∧ FieldType.object C ∈ G.2.2.2.2 then some (H ++ [.inl (.object C, n.toNatClampNeg, .inr (.inr (.inr (.inr (fun _ => none)))))]) else none
  | none => none
/-- one instruction on the heap: the stack and the heap behind it -/
def am_stC (G : am_G) (own : String) (isI : Bool) (i : Instr) (n : Nat) (st : List Value) (H : am_H) : Option (List Value × am_H) := match i with
  | .getfield idx => match st, am_fld G own idx with
    | .ref a :: r, some (ci, k) => match am_getf H ci k a with
      | some v => if n = 3 then some (v :: r, H) else none
      | none => none
    | _, _ => none
  | .putfield idx => match st, am_fld G own idx with
    | v :: .ref a :: r, some (ci, k) => match am_putf G own isI H ci k a v with
      | some H' => if n = 3 then some (r, H') else none
      | none => none
    | _, _ => none
  | .iaload => match st with
    | .int j :: .ref a :: r => match H[a]? with
      | some (.inl (.int, w, .inl f)) => if n = 1 ∧ am_inb j w = true then some (.int (f j.toNatClampNeg) :: r, H) else none
      | _ => none
    | _ => none
  | .baload => match st with
    | .int j :: .ref a :: r => match H[a]? with
      | some (.inl (.boolean, w, .inl f)) => if n = 1 ∧ am_inb j w = true then some (.int (f j.toNatClampNeg) :: r, H) else none
      | _ => none
    | _ => none
  | .laload => match st with
    | .int j :: .ref a :: r => match H[a]? with
      | some (.inl (.long, w, .inr (.inl f))) => if n = 1 ∧ am_inb j w = true then some (.long (f j.toNatClampNeg) :: r, H) else none
      | _ => none
    | _ => none
  | .aaload => match st with
    | .int j :: .ref a :: r => match H[a]? with
      | some (.inl (.object C, w, .inr (.inr (.inr (.inr f))))) => if n = 1 ∧ am_inb j w = true ∧ FieldType.object C ∈ G.2.2.2.2 then some (am_rf (f j.toNatClampNeg) :: r, H) else none
      | _ => none
    | _ => none
  | .iastore => match st with
    | .int x :: .int j :: .ref a :: r => match H[a]? with
      | some (.inl (.int, w, .inl f)) => if n = 1 ∧ am_inb j w = true then some (r, H.set a (.inl (.int, w, .inl (upd f j.toNatClampNeg x)))) else none
      | _ => none
    | _ => none
  | .bastore => match st with
    | .int x :: .int j :: .ref a :: r => match H[a]? with
      | some (.inl (.boolean, w, .inl f)) => if n = 1 ∧ am_inb j w = true then some (r, H.set a (.inl (.boolean, w, .inl (upd f j.toNatClampNeg (vp_nar .boolean x))))) else none
      | _ => none
    | _ => none
  | .lastore => match st with
    | .long x :: .int j :: .ref a :: r => match H[a]? with
      | some (.inl (.long, w, .inr (.inl f))) => if n = 1 ∧ am_inb j w = true then some (r, H.set a (.inl (.long, w, .inr (.inl (vp_updL f j.toNatClampNeg x))))) else none
      | _ => none
    | _ => none
  | .aastore => match st with
    | .ref v :: .int j :: .ref a :: r => match H[a]?, H[v]? with
      | some (.inl (.object C, w, .inr (.inr (.inr (.inr f))))), some (.inr (ci, _)) => if n = 1 ∧ am_inb j w = true ∧ FieldType.object C ∈ G.2.2.2.2 ∧ (G.1[ci]?).map (fun q => q.1) = some C then some (r, H.set a (.inl (.object C, w, .inr (.inr (.inr (.inr (va_up f j.toNatClampNeg (some v)))))))) else none
      | _, _ => none
    | _ => none
  | .arraylength => match st with
    | .ref a :: r => match H[a]? with
      | some (.inl (ty, w, _)) => if n = 1 ∧ ty ∈ G.2.2.2.2 then some (.int (Int32.ofNat w) :: r, H) else none
      | _ => none
    | _ => none
  | .new idx => match G.2.2.1 own idx with
    | some (2, ci, _, _) => match am_new G H ci with
      | some H' => if n = 3 then some (.ref H.length :: st, H') else none
      | none => none
    | _ => none
  | .newarray aty => match st with
    | .int w :: r => match am_newa G H (newarray.typeOf aty) w with
      | some H' => if n = 2 then some (.ref H.length :: r, H') else none
      | none => none
    | _ => none
  | .anewarray idx => match st, G.2.2.1 own idx with
    | .int w :: r, some (2, ci, _, _) => match am_newq G H ci w with
      | some H' => if n = 3 then some (.ref H.length :: r, H') else none
      | none => none
    | _, _ => none
  | .ldc idx => match G.2.2.1 own idx with
    | some (6, _, _, v) => if n = 2 then some (.int v.toInt32 :: st, H) else none
    | _ => none
  | .ldc2_w idx => match G.2.2.1 own idx with
    | some (7, _, _, v) => if n = 3 then some (.long v :: st, H) else none
    | _ => none
  | _ => none
/-! worlds of abstract heaps -/
theorem am_w_at (ad : Nat → Nat) (ca : FieldType → ClassId) (H : am_H) (i : Nat) : (am_w ad ca H)[i]? = (H[i]?).map (fun c => (ad i, am_c ad ca c)) := by
  unfold am_w
  rw [List.getElem?_mapIdx]
theorem am_w_get {ad : Nat → Nat} {ca : FieldType → ClassId} {H : am_H} {i : Nat} {c : am_C} (h : H[i]? = some c) : (am_w ad ca H)[i]? = some (ad i, am_c ad ca c) := by
  rw [am_w_at, h]; rfl
theorem am_w_set (ad : Nat → Nat) (ca : FieldType → ClassId) (H : am_H) (i : Nat) (c : am_C) : (am_w ad ca H).set i (ad i, am_c ad ca c) = am_w ad ca (H.set i c) := by
  apply List.ext_getElem?
  intro j
  rw [am_w_at, List.getElem?_set, List.getElem?_set, am_w_at]
  have hl : (am_w ad ca H).length = H.length := by unfold am_w; simp
  rw [hl]
  by_cases hij : i = j
  · subst hij
    simp only [if_true]
    by_cases hi : i < H.length
    · simp [hi]
    · simp [hi]
  · simp [hij]
theorem am_w_app (ad : Nat → Nat) (ca : FieldType → ClassId) (H : am_H) (c : am_C) : am_w ad ca (H ++ [c]) = am_w ad ca H ++ [(ad H.length, am_c ad ca c)] := by
  unfold am_w
  rw [List.mapIdx_append]
  simp
theorem am_w_len (ad : Nat → Nat) (ca : FieldType → ClassId) (H : am_H) : (am_w ad ca H).length = H.length := by unfold am_w; simp
/-! references within -/
def am_vw (n : Nat) (v : Value) : Prop := ∀ i, v = .ref i → i < n
def am_cw (n : Nat) : am_C → Prop
  | .inl (_, _, .inr (.inr (.inr (.inr f)))) => ∀ j i, f j = some i → i < n
  | .inl _ => True
  | .inr (_, fs) => ∀ v ∈ fs, am_vw n v
def am_hw (H : am_H) : Prop := ∀ c ∈ H, am_cw H.length c
def am_ext (ad : Nat → Nat) (n q : Nat) : Nat → Nat := fun i => if i = n then q else ad i
def am_agree (n : Nat) (ad ad' : Nat → Nat) : Prop := ∀ i, i < n → ad' i = ad i
theorem am_ext_agree (ad : Nat → Nat) (n q : Nat) : am_agree n ad (am_ext ad n q) := fun i hi => by
  unfold am_ext
  rw [if_neg (Nat.ne_of_lt hi)]
theorem am_ext_self (ad : Nat → Nat) (n q : Nat) : am_ext ad n q n = q := by unfold am_ext; rw [if_pos rfl]
theorem am_v_agree {n : Nat} {ad ad' : Nat → Nat} (h : am_agree n ad ad') {v : Value} (hv : am_vw n v) : am_v ad' v = am_v ad v := by
  cases v with
  | ref i => show Value.ref (ad' i) = Value.ref (ad i); rw [h i (hv i rfl)]
  | _ => rfl
theorem am_c_agree {n : Nat} {ad ad' : Nat → Nat} {ca : FieldType → ClassId} (h : am_agree n ad ad') {c : am_C} (hc : am_cw n c) : am_c ad' ca c = am_c ad ca c := by
  cases c with
  | inl x =>
    obtain ⟨ty, w, f | f | f | f | f⟩ := x
    · rfl
    · rfl
    · rfl
    · rfl
    · have hc : ∀ j i, f j = some i → i < n := hc
      have e : (fun j => (f j).map ad') = (fun j => (f j).map ad) := by
        funext j
        cases hj : f j with
        | none => rfl
        | some i => show some (ad' i) = some (ad i); rw [h i (hc j i hj)]
      show (Sum.inl (ca ty, (w, .inr (.inr (.inr (.inr (fun j => (f j).map ad')))))) : va_E) = Sum.inl (ca ty, (w, .inr (.inr (.inr (.inr (fun j => (f j).map ad))))))
      rw [e]
  | inr x =>
    obtain ⟨ci, fs⟩ := x
    have hc : ∀ v ∈ fs, am_vw n v := hc
    show (Sum.inr (ci, fs.map (am_v ad')) : va_E) = Sum.inr (ci, fs.map (am_v ad))
    rw [List.map_congr_left (fun v hv => am_v_agree h (hc v hv))]
theorem am_w_agree {ad ad' : Nat → Nat} {ca : FieldType → ClassId} {H : am_H} (h : am_agree H.length ad ad') (hw : am_hw H) : am_w ad' ca H = am_w ad ca H := by
  apply List.ext_getElem?
  intro i
  rw [am_w_at, am_w_at]
  cases hc : H[i]? with
  | none => rfl
  | some c =>
    have hi : i < H.length := (List.getElem?_eq_some_iff.mp hc).1
    show some (ad' i, am_c ad' ca c) = some (ad i, am_c ad ca c)
    rw [h i hi, am_c_agree h (hw c (List.mem_of_getElem? hc))]
theorem am_st_agree {n : Nat} {ad ad' : Nat → Nat} (h : am_agree n ad ad') {st : List Value} (hv : ∀ v ∈ st, am_vw n v) : st.map (am_v ad') = st.map (am_v ad) := List.map_congr_left (fun v hx => am_v_agree h (hv v hx))
theorem am_lv_agree {n : Nat} {ad ad' : Nat → Nat} (h : am_agree n ad ad') {lv : am_L} (hv : ∀ q ∈ lv, am_vw n q.2) : lv.map (am_q ad') = lv.map (am_q ad) := List.map_congr_left (fun q hx => by
  show (q.1, am_v ad' q.2) = (q.1, am_v ad q.2)
  rw [am_v_agree h (hv q hx)])
theorem am_sz_set {H : am_H} {i : Nat} {c c' : am_C} (h : H[i]? = some c) (hz : am_cz c' = am_cz c) : am_sz (H.set i c') = am_sz H := by
  unfold am_sz
  congr 1
  apply List.ext_getElem?
  intro j
  rw [List.getElem?_map, List.getElem?_map, List.getElem?_set]
  by_cases hij : i = j
  · subst hij
    have hi : i < H.length := (List.getElem?_eq_some_iff.mp h).1
    rw [if_pos rfl, if_pos hi, h]
    show some (am_cz c') = some (am_cz c)
    rw [hz]
  · rw [if_neg hij]
theorem am_sz_app (H : am_H) (c : am_C) : am_sz (H ++ [c]) = am_sz H + am_cz c := by
  unfold am_sz
  simp
