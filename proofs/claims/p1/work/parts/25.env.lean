/-! the world at a start -/
theorem am_arrP {args : Array Value} {s : State} {ty : FieldType} (hp : ∀ C, ty ≠ .object C) (h : (Cond.arrayClass ty).before args s = true) : ∃ cA : ClassId, ArrOfT s cA ty ∧ va_RA s cA ty := by
  obtain ⟨cA, kA, comp, h1, h2, h3⟩ := Cond.arrayClass_spec h
  refine ⟨cA, fun n z => ⟨fun k h => (by cases h), kA, h2, comp, h3⟩, ?_⟩
  cases ty with
  | object C => exact absurd rfl (hp C)
  | _ => exact h1
theorem am_arrQ {args : Array Value} {s : State} {C : String} (h : (Cond.arrayOver (.object C)).before args s = true) : ∃ cA : ClassId, ArrOfT s cA (.object C) ∧ va_RA s cA (.object C) := by
  obtain ⟨comp, cA, kA, h1, -, h3, h4, h5⟩ := Cond.arrayOver_spec h
  exact ⟨cA, fun n z => ⟨fun k h => (by cases h), kA, h3, comp, h4⟩, kA, comp, h3, h4, h1, h5⟩
theorem am_caOf {s : State} {ats : List FieldType} (h : ∀ ty ∈ ats, ∃ cA : ClassId, ArrOfT s cA ty ∧ va_RA s cA ty) : ∃ ca : FieldType → ClassId, ∀ ty ∈ ats, ArrOfT s (ca ty) ty ∧ va_RA s (ca ty) ty := by
  have h' : ∀ ty, ∃ cA : ClassId, ty ∈ ats → ArrOfT s cA ty ∧ va_RA s cA ty := by
    intro ty
    by_cases hm : ty ∈ ats
    · obtain ⟨cA, hc⟩ := h ty hm
      exact ⟨cA, fun _ => hc⟩
    · exact ⟨0, fun q => absurd q hm⟩
  exact ⟨fun ty => Classical.choose (h' ty), fun ty hm => Classical.choose_spec (h' ty) hm⟩
theorem am_DOf {s : State} {cl : List vw_C} (h : ∀ (ci : Nat) (q : vw_C), cl[ci]? = some q → ∃ (c : ClassId) (i : Nat → Nat), u_Kn s q.1 q.2.1 q.2.2 c i) : ∃ D : va_G, ∀ (ci : Nat) (q : vw_C), cl[ci]? = some q → u_Kn s q.1 q.2.1 q.2.2 (D.1 ci) (D.2 ci) := by
  have h' : ∀ ci : Nat, ∃ y : ClassId × (Nat → Nat), ∀ q : vw_C, cl[ci]? = some q → u_Kn s q.1 q.2.1 q.2.2 y.1 y.2 := by
    intro ci
    cases hc : cl[ci]? with
    | none => exact ⟨(0, fun _ => 0), fun q hq => by cases hq⟩
    | some q =>
      obtain ⟨c, i, hk⟩ := h ci q hc
      exact ⟨(c, i), fun q' hq => by cases hq; exact hk⟩
  exact ⟨(fun ci => (Classical.choose (h' ci)).1, fun ci => (Classical.choose (h' ci)).2), fun ci q hq => Classical.choose_spec (h' ci) q hq⟩
/-- from the tables' words: the world's classes and arrays, as the machine has them -/
theorem am_start {cl : List vw_C} {ty : Nat → Nat → FieldType} {lk : String → Nat → Option am_K} {ms : List am_M} {ats : List FieldType} {B : List Cond} {args : Array Value} {s : State} (hts : ∀ w ∈ B, w.before args s = true) (hok : am_ok (cl, ty, lk, ms, ats) (B.filter goodWord)) (hin : ∀ (ci : Nat) (C : String) (T : u_T) (N : Nat), cl[ci]? = some (C, T, N) → Cond.instantiable C N ∈ B) (hat : ∀ t ∈ ats, (∀ C, t ≠ .object C) ∧ Cond.arrayClass t ∈ B ∨ ∃ C, t = .object C ∧ Cond.arrayOver (.object C) ∈ B) :
    ∃ (D : va_G) (ca : FieldType → ClassId), am_env2 (cl, ty, lk, ms, ats) (B.filter am_isNest) D ca s := by
  obtain ⟨ca, hca⟩ := am_caOf (s := s) (ats := ats) (fun t ht => by
    rcases hat t ht with ⟨h1, h2⟩ | ⟨C, rfl, h2⟩
    · exact am_arrP h1 (hts _ h2)
    · exact am_arrQ (hts _ h2))
  obtain ⟨D, hD⟩ := am_DOf (s := s) (cl := cl) (fun ci q hq => by
    obtain ⟨C, T, N⟩ := q
    exact u_known (fun w hw => hts w ((List.mem_filter.mp hw).1)) (hok.2.1 ci C T N hq).1 (hts _ (hin ci C T N hq)))
  refine ⟨D, ca, ⟨⟨hD, fun k q hk => ?_⟩, fun C hC => ?_⟩, fun w hw => ?_⟩
  · obtain ⟨t, ht, rfl⟩ := List.mem_map.mp (List.mem_of_getElem? hk)
    exact hca t ht
  · rcases hat _ hC with ⟨h1, -⟩ | ⟨C', hC', h2⟩
    · exact absurd rfl (h1 C)
    · cases hC'; exact va_AO.of (hts _ h2)
  · have h1 := List.mem_filter.mp hw
    refine va_Nw.of ?_ (hts w h1.1)
    have h2 := h1.2
    unfold am_isNest at h2
    split at h2
    · rfl
    · cases h2
