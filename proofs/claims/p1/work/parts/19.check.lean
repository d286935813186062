/-! the data against the tables, by program -/
def am_at (B : List Cond) (k : Nat) (w : Cond) : Bool := decide (B[k]? = some w) && goodWord w
theorem am_at_in {B : List Cond} {k : Nat} {w : Cond} (h : am_at B k w = true) : w ∈ B.filter goodWord := by
  unfold am_at at h
  rw [Bool.and_eq_true, decide_eq_true_eq] at h
  exact List.mem_filter.mpr ⟨List.mem_of_getElem? h.1, h.2⟩
def am_isNest : Cond → Bool
  | .methodLinkNest _ _ _ _ => true
  | _ => false
def am_nestAt (B : List Cond) (k : Nat) (own : String) (idx : Nat) (y : MethodName) : Bool := match B[k]? with
  | some (.methodLinkNest a i z _) => decide (a = own) && decide (i = idx) && decide (z = y)
  | _ => false
theorem am_nestAt_in {B : List Cond} {k idx : Nat} {own : String} {y : MethodName} (h : am_nestAt B k own idx y = true) : ∃ host, Cond.methodLinkNest own idx y host ∈ B.filter am_isNest := by
  unfold am_nestAt at h
  split at h
  · rename_i a i z hh hk
    simp only [Bool.and_eq_true, decide_eq_true_eq] at h
    obtain ⟨⟨rfl, rfl⟩, rfl⟩ := h
    exact ⟨hh, List.mem_filter.mpr ⟨List.mem_of_getElem? hk, rfl⟩⟩
  · cases h
def am_chkM1 (B : List Cond) (own : String) (idx : Nat) (M : am_M) (kind : Nat) (pl : List Nat) : Bool := match kind with
  | 0 => am_at B (pl.getD 0 0) (.methodLink own idx M.1) && am_at B (pl.getD 1 0) (.instanceMethod M.1) && am_at B (pl.getD 2 0) (.selects M.1.cls M.1 M.1)
  | 1 => am_at B (pl.getD 0 0) (.methodLink own idx M.1) && am_at B (pl.getD 1 0) (.instanceMethod M.1) && decide (M.1.name = "<init>") && M.2.2.2.1.isNone
  | 2 => am_nestAt B (pl.getD 0 0) own idx M.1 && am_at B (pl.getD 1 0) (.instanceMethod M.1) && decide (M.1.name = "<init>") && M.2.2.2.1.isNone
  | 3 => am_at B (pl.getD 0 0) (.methodLink own idx M.1) && am_at B (pl.getD 1 0) (.static M.1)
  | 4 => am_nestAt B (pl.getD 0 0) own idx M.1 && am_at B (pl.getD 1 0) (.static M.1)
  | _ => true
def am_chk (cl : List vw_C) (ms : List am_M) (B : List Cond) (own : String) (q : Nat × am_K × List Nat) : Bool := match q.2.1.1 with
  | 0 => match cl[q.2.1.2.1]? with
    | some (_, T, N) => decide (q.2.1.2.2.1 < N) && am_at B (q.2.2.getD 0 0) (.fieldLink own q.1 (T q.2.1.2.2.1).1 (T q.2.1.2.2.1).2.1 (T q.2.1.2.2.1).2.2.1)
    | none => false
  | 1 => match ms[q.2.1.2.1]? with
    | some M => am_chkM1 B own q.1 M q.2.1.2.2.1 q.2.2
    | none => false
  | 2 => match cl[q.2.1.2.1]? with
    | some (C, _, N) => am_at B (q.2.2.getD 0 0) (.classLink own q.1 C) && am_at B (q.2.2.getD 1 0) (.instantiable C N) && am_at B (q.2.2.getD 2 0) (.initialized C)
    | none => false
  | 3 => match cl[q.2.1.2.1]? with
    | some (C, _, _) => am_at B (q.2.2.getD 0 0) (.classLink own q.1 C)
    | none => false
  | 4 => am_at B (q.2.2.getD 0 0) (.methodLink own q.1 arraycopyName) && am_at B (q.2.2.getD 1 0) (.native arraycopyName) && am_at B (q.2.2.getD 2 0) (.static arraycopyName) && am_at B (q.2.2.getD 3 0) (.initialized "java/lang/System")
  | 5 => am_at B (q.2.2.getD 0 0) (.methodLink own q.1 Lib.objectInit) && am_at B (q.2.2.getD 1 0) (.instanceMethod Lib.objectInit) && am_at B (q.2.2.getD 2 0) (.code Lib.objectInit ⟨#[0xb1]⟩ 1 none)
  | 6 => am_at B (q.2.2.getD 0 0) (.constant own q.1 q.2.1.2.2.2.toInt32)
  | 7 => am_at B (q.2.2.getD 0 0) (.constantLong own q.1 q.2.1.2.2.2)
  | 8 => am_at B (q.2.2.getD 0 0) (.methodLink own q.1 Lib.Math.max.name) && am_at B (q.2.2.getD 1 0) (.static Lib.Math.max.name) && am_at B (q.2.2.getD 2 0) (.initialized "java/lang/Math") && am_at B (q.2.2.getD 3 0) (.code Lib.Math.max.name Lib.Math.max.code 2 (some .int))
  | 9 => am_at B (q.2.2.getD 0 0) (.methodLink own q.1 Lib.Math.min.name) && am_at B (q.2.2.getD 1 0) (.static Lib.Math.min.name) && am_at B (q.2.2.getD 2 0) (.initialized "java/lang/Math") && am_at B (q.2.2.getD 3 0) (.code Lib.Math.min.name Lib.Math.min.code 2 (some .int))
  | _ => true
def am_chkC (B : List Cond) (ty : Nat → FieldType) (C : String) (T : u_T) (N : Nat) (pl : List Nat) : Bool :=
  (List.range N).all (fun k => am_at B (pl.getD k 0) (u_lay C T k) && decide (parseFieldDescriptor (T k).2.2.1 = some (ty k))) && (List.range N).all (fun a => (List.range N).all (fun b => decide (a = b) || decide ((T a).2.1 ≠ (T b).2.1)))
def am_chkM (B : List Cond) (M : am_M) (pl : Nat × Nat) : Bool :=
  am_at B pl.2 (.initialized M.1.cls) && decide (M.1.cls ≠ "java/lang/invoke/MethodHandle" ∧ M.1.cls ≠ "java/lang/invoke/VarHandle" ∧ (parseMethodDescriptor M.1.desc).map (fun d => d.parameters.length) = some M.2.2.2.2.1) && plainName M.1.cls
def am_lkof (owns : List (String × List (Nat × am_K × List Nat))) (own : String) (idx : Nat) : Option am_K := match owns.find? (fun q => q.1 == own) with
  | some o => (o.2.find? (fun q => q.1 == idx)).map (fun q => q.2.1)
  | none => none
theorem am_lkof_in {owns : List (String × List (Nat × am_K × List Nat))} {own : String} {idx : Nat} {K : am_K} (h : am_lkof owns own idx = some K) : ∃ o ∈ owns, o.1 = own ∧ ∃ q ∈ o.2, q.1 = idx ∧ q.2.1 = K := by
  unfold am_lkof at h
  split at h
  · rename_i o ho
    cases hq : o.2.find? (fun q => q.1 == idx) with
    | none => rw [hq] at h; cases h
    | some q =>
      rw [hq] at h
      cases h
      exact ⟨o, List.mem_of_find?_eq_some ho, by simpa using List.find?_some ho, q, List.mem_of_find?_eq_some hq, by simpa using List.find?_some hq, rfl⟩
  · cases h
theorem am_ok_of {cl : List vw_C} {ty : Nat → Nat → FieldType} {owns : List (String × List (Nat × am_K × List Nat))} {ms : List am_M} {ats : List FieldType} {B : List Cond} {fps : List (List Nat)}
    (h1 : ∀ o ∈ owns, ∀ q ∈ o.2, am_chk cl ms B o.1 q = true) (h2 : ∀ (ci : Nat) (C : String) (T : u_T) (N : Nat), cl[ci]? = some (C, T, N) → am_chkC B (ty ci) C T N (fps.getD ci []) = true)
    (h3 : FieldType.int ∈ ats ∧ FieldType.long ∈ ats ∧ FieldType.boolean ∈ ats) (h4 : ∀ aty, newarray.typeOf aty ∈ ats → Cond.arrayClass (newarray.typeOf aty) ∈ B.filter goodWord) :
    am_ok (cl, ty, am_lkof owns, ms, ats) (B.filter goodWord) := by
  have key : ∀ own idx K, am_lkof owns own idx = some K → ∃ pl, am_chk cl ms B own (idx, K, pl) = true := by
    intro own idx K h
    obtain ⟨o, ho, rfl, q, hq, rfl, rfl⟩ := am_lkof_in h
    exact ⟨q.2.2, h1 o ho q hq⟩
  refine ⟨?_, ?_, ?_, ?_, ?_, ?_, h3, h4⟩
  · intro own idx ci k z h
    obtain ⟨pl, hc⟩ := key own idx _ h
    simp only [am_chk] at hc
    split at hc
    · rename_i C T N hcl
      rw [Bool.and_eq_true, decide_eq_true_eq] at hc
      exact ⟨C, T, N, hcl, hc.1, am_at_in hc.2⟩
    · cases hc
  · intro ci C T N hcl
    have hc := h2 ci C T N hcl
    unfold am_chkC at hc
    simp only [Bool.and_eq_true, List.all_eq_true, List.mem_range, decide_eq_true_eq, Bool.or_eq_true] at hc
    refine ⟨fun w hw => ?_, fun k hk => (hc.1 k hk).2, fun a ha b hb hab => ((hc.2 a ha b hb).resolve_left hab)⟩
    obtain ⟨k, hk, rfl⟩ := List.mem_map.mp hw
    exact am_at_in (hc.1 k (List.mem_range.mp hk)).1
  · intro own idx ci k z h
    obtain ⟨pl, hc⟩ := key own idx _ h
    simp only [am_chk] at hc
    split at hc
    · rename_i C T N hcl
      simp only [Bool.and_eq_true] at hc
      exact ⟨C, T, N, hcl, am_at_in hc.1.1, am_at_in hc.1.2, am_at_in hc.2⟩
    · cases hc
  · intro own idx ci k z h
    obtain ⟨pl, hc⟩ := key own idx _ h
    simp only [am_chk] at hc
    split at hc
    · rename_i C T N hcl
      exact ⟨C, T, N, hcl, am_at_in hc⟩
    · cases hc
  · intro own idx ci k z h
    obtain ⟨pl, hc⟩ := key own idx _ h
    exact am_at_in hc
  · intro own idx ci k z h
    obtain ⟨pl, hc⟩ := key own idx _ h
    exact am_at_in hc
theorem am_okm_of {cl : List vw_C} {ty : Nat → Nat → FieldType} {owns : List (String × List (Nat × am_K × List Nat))} {ms : List am_M} {ats : List FieldType} {B : List Cond} {mp : List (Nat × Nat)}
    (h1 : ∀ o ∈ owns, ∀ q ∈ o.2, am_chk cl ms B o.1 q = true) (h2 : (List.range ms.length).all (fun j => match ms[j]? with | some M => am_chkM B M (mp.getD j (0, 0)) | none => false) = true)
    (h3 : ∀ M ∈ ms, M.2.2.2.2.2.all (fun q => decide (decode M.2.1 q.1 = .ok q.2)) = true) (h4 : ∀ M ∈ ms, Cond.code M.1 M.2.1 M.2.2.1 M.2.2.2.1 ∈ B) :
    am_okm (cl, ty, am_lkof owns, ms, ats) (B.filter goodWord) (B.filter am_isNest) := by
  have key : ∀ own idx K, am_lkof owns own idx = some K → ∃ pl, am_chk cl ms B own (idx, K, pl) = true := by
    intro own idx K h
    obtain ⟨o, ho, rfl, q, hq, rfl, rfl⟩ := am_lkof_in h
    exact ⟨q.2.2, h1 o ho q hq⟩
  have kM : ∀ own idx j kind z (M : am_M), am_lkof owns own idx = some (1, j, kind, z) → ms[j]? = some M → ∃ pl, am_chkM1 B own idx M kind pl = true := by
    intro own idx j kind z M h hM
    obtain ⟨pl, hc⟩ := key own idx _ h
    unfold am_chk at hc
    dsimp only at hc
    rw [hM] at hc
    exact ⟨pl, hc⟩
  refine ⟨?_, ?_, ?_, ?_, ?_, ?_, ?_, ?_, ?_, ?_, ?_, ?_⟩
  · intro j M hM
    have hM : ms[j]? = some M := hM
    have hj : j < ms.length := (List.getElem?_eq_some_iff.mp hM).1
    have hc := List.all_eq_true.mp h2 j (List.mem_range.mpr hj)
    rw [hM] at hc
    dsimp only at hc
    unfold am_chkM at hc
    simp only [Bool.and_eq_true, decide_eq_true_eq] at hc
    refine ⟨List.mem_filter.mpr ⟨h4 M (List.mem_of_getElem? hM), rfl⟩, am_at_in hc.1.1, hc.1.2, hc.2, fun q hq => ?_⟩
    exact of_decide_eq_true (List.all_eq_true.mp (h3 M (List.mem_of_getElem? hM)) q hq)
  · intro own idx j z M h hM
    obtain ⟨pl, hc⟩ := kM own idx j 0 z M h hM
    unfold am_chkM1 at hc
    simp only [Bool.and_eq_true] at hc
    exact ⟨am_at_in hc.1.1, am_at_in hc.1.2, am_at_in hc.2⟩
  · intro own idx j z M h hM
    obtain ⟨pl, hc⟩ := kM own idx j 1 z M h hM
    unfold am_chkM1 at hc
    simp only [Bool.and_eq_true, decide_eq_true_eq, Option.isNone_iff_eq_none] at hc
    exact ⟨am_at_in hc.1.1.1, am_at_in hc.1.1.2, hc.1.2, hc.2⟩
  · intro own idx j z M h hM
    obtain ⟨pl, hc⟩ := kM own idx j 2 z M h hM
    unfold am_chkM1 at hc
    simp only [Bool.and_eq_true, decide_eq_true_eq, Option.isNone_iff_eq_none] at hc
    exact ⟨am_nestAt_in hc.1.1.1, am_at_in hc.1.1.2, hc.1.2, hc.2⟩
  · intro own idx j z M h hM
    obtain ⟨pl, hc⟩ := kM own idx j 3 z M h hM
    unfold am_chkM1 at hc
    simp only [Bool.and_eq_true] at hc
    exact ⟨am_at_in hc.1, am_at_in hc.2⟩
  · intro own idx j z M h hM
    obtain ⟨pl, hc⟩ := kM own idx j 4 z M h hM
    unfold am_chkM1 at hc
    simp only [Bool.and_eq_true] at hc
    exact ⟨am_nestAt_in hc.1, am_at_in hc.2⟩
  · intro own idx j k z h
    obtain ⟨pl, hc⟩ := key own idx _ h
    unfold am_chk at hc
    simp only [Bool.and_eq_true] at hc
    exact ⟨am_at_in hc.1.1, am_at_in hc.1.2, am_at_in hc.2⟩
  · intro own idx j k z h
    obtain ⟨pl, hc⟩ := key own idx _ h
    unfold am_chk at hc
    simp only [Bool.and_eq_true] at hc
    exact ⟨am_at_in hc.1.1.1, am_at_in hc.1.1.2, am_at_in hc.1.2, am_at_in hc.2⟩
  · intro w hw
    exact (List.mem_filter.mp hw).2
  · intro w hw
    have hn := (List.mem_filter.mp hw).2
    unfold am_isNest at hn
    split at hn
    · exact ⟨_, _, _, _, rfl⟩
    · cases hn
  · intro own idx j k z h
    obtain ⟨pl, hc⟩ := key own idx _ h
    unfold am_chk at hc
    simp only [Bool.and_eq_true] at hc
    exact ⟨am_at_in hc.1.1.1, am_at_in hc.1.1.2, am_at_in hc.1.2, am_at_in hc.2⟩
  · intro own idx j k z h
    obtain ⟨pl, hc⟩ := key own idx _ h
    unfold am_chk at hc
    simp only [Bool.and_eq_true] at hc
    exact ⟨am_at_in hc.1.1.1, am_at_in hc.1.1.2, am_at_in hc.1.2, am_at_in hc.2⟩
