/-! a logic of runs: what holds for all fuel from some on -/
def am_le (call call' : Nat → List Value → am_H → Option (Option Value × am_H)) : Prop := ∀ (j : Nat) (as : List Value) (H : am_H) (r : Option Value × am_H), call j as H = some r → call' j as H = some r
theorem am_out_mono {r : List Value} {x x' : Option (Option Value × am_H)} {y : List Value × am_H} (h : am_out r x = some y) (hx : ∀ z, x = some z → x' = some z) : am_out r x' = some y := by
  cases x with
  | none => cases h
  | some z => rw [hx z rfl]; exact h
theorem am_cv_mono {G : am_G} {call call' : Nat → List Value → am_H → Option (Option Value × am_H)} (hle : am_le call call') {j n : Nat} {chk : Bool} {st : List Value} {H : am_H} {y : List Value × am_H} (h : am_cv G call j n chk st H = some y) : am_cv G call' j n chk st H = some y := by
  unfold am_cv at h ⊢
  cases hM : G.2.2.2.1[j]? with
  | none => rw [hM] at h; cases h
  | some M =>
    rw [hM] at h
    dsimp only at h ⊢
    cases hd : st.drop M.2.2.2.2.1 with
    | nil => rw [hd] at h; cases h
    | cons v r =>
      rw [hd] at h
      cases v with
      | ref b =>
        dsimp only at h ⊢
        split at h
        · rename_i hc; rw [if_pos hc]; exact am_out_mono h (fun z hz => hle _ _ _ _ hz)
        · cases h
      | _ => cases h
theorem am_cs_mono {G : am_G} {call call' : Nat → List Value → am_H → Option (Option Value × am_H)} (hle : am_le call call') {j n : Nat} {st : List Value} {H : am_H} {y : List Value × am_H} (h : am_cs G call j n st H = some y) : am_cs G call' j n st H = some y := by
  unfold am_cs at h ⊢
  cases hM : G.2.2.2.1[j]? with
  | none => rw [hM] at h; cases h
  | some M =>
    rw [hM] at h
    dsimp only at h ⊢
    split at h
    · rename_i hc; rw [if_pos hc]; exact am_out_mono h (fun z hz => hle _ _ _ _ hz)
    · cases h
set_option maxHeartbeats 4000000 in
theorem am_stD_mono {G : am_G} {call call' : Nat → List Value → am_H → Option (Option Value × am_H)} (hle : am_le call call') {own : String} {i : Instr} {n : Nat} {st : List Value} {H : am_H} {y : List Value × am_H} (h : am_stD G call own i n st H = some y) : am_stD G call' own i n st H = some y := by
  cases i with
  | invokevirtual idx =>
    dsimp only [am_stD] at h ⊢
    split at h
    · exact am_cv_mono hle h
    · cases h
  | invokespecial idx =>
    dsimp only [am_stD] at h ⊢
    split at h
    · exact am_cv_mono hle h
    · exact am_cv_mono hle h
    · exact h
    · cases h
  | invokestatic idx =>
    dsimp only [am_stD] at h ⊢
    split at h
    · exact am_cs_mono hle h
    · exact am_cs_mono hle h
    · exact h
    · exact h
    · exact h
    · cases h
  | _ => cases h
theorem am_stD_ret {G : am_G} {call : Nat → List Value → am_H → Option (Option Value × am_H)} {own : String} {ret : Option FieldType} {i : Instr} {n : Nat} {st : List Value} {H : am_H} {v : Option Value} (h : am_ret ret i n st = some v) : am_stD G call own i n st H = none := by
  cases i with
  | return_ => rfl
  | ireturn => rfl
  | lreturn => rfl
  | areturn => rfl
  | _ => cases h
theorem am_one_mono {G : am_G} {call call' : Nat → List Value → am_H → Option (Option Value × am_H)} (hle : am_le call call') {M : am_M} {i : Instr} {n pc : Nat} {lv : am_L} {st : List Value} {H : am_H} {y : (Nat × am_L × List Value × am_H) ⊕ (Option Value × am_H)} (h : am_one G call M i n pc lv st H = some y) : am_one G call' M i n pc lv st H = some y := by
  unfold am_one at h ⊢
  split at h
  · exact h
  · split at h
    · exact h
    · split at h
      · exact h
      · split at h
        · rename_i hD
          rw [am_stD_mono hle hD]
          exact h
        · split at h
          · rename_i hR
            rw [am_stD_ret hR]
            exact h
          · cases h
theorem am_exec_mono {G : am_G} {call call' : Nat → List Value → am_H → Option (Option Value × am_H)} (hle : am_le call call') {M : am_M} : ∀ (f f' pc : Nat) (lv : am_L) (st : List Value) (H : am_H) (r : Option Value × am_H), f ≤ f' → am_exec G call M f pc lv st H = some r → am_exec G call' M f' pc lv st H = some r := by
  intro f
  induction f with
  | zero => intro f' pc lv st H r _ h; cases h
  | succ f ih =>
    intro f' pc lv st H r hf h
    cases f' with
    | zero => omega
    | succ f' =>
      unfold am_exec at h ⊢
      cases hrow : am_row M pc with
      | none => rw [hrow] at h; cases h
      | some q =>
        obtain ⟨i, n⟩ := q
        rw [hrow] at h
        dsimp only at h ⊢
        cases h1 : am_one G call M i n pc lv st H with
        | none => rw [h1] at h; cases h
        | some y =>
          rw [h1] at h
          rw [am_one_mono hle h1]
          cases y with
          | inl z =>
            obtain ⟨pc1, lv1, st1, H1⟩ := z
            exact ih f' pc1 lv1 st1 H1 r (by omega) h
          | inr z => exact h
theorem am_call_mono {G : am_G} {fuel fuel' : Nat} (hf : fuel ≤ fuel') : ∀ (d d' : Nat), d ≤ d' → am_le (am_call G fuel d) (am_call G fuel' d') := by
  intro d
  induction d with
  | zero => intro d' _ j as H r h; cases h
  | succ d ih =>
    intro d' hd j as H r h
    cases d' with
    | zero => omega
    | succ d' =>
      unfold am_call at h ⊢
      cases hM : G.2.2.2.1[j]? with
      | none => rw [hM] at h; cases h
      | some M =>
        rw [hM] at h
        dsimp only at h ⊢
        split at h
        · rename_i hc
          rw [if_pos hc]
          exact am_exec_mono (ih d' (by omega)) _ _ _ _ _ _ _ hf h
        · cases h
/-- a call's answer and heap, whatever the fuel from some on -/
def am_R (G : am_G) (d j : Nat) (as : List Value) (H : am_H) (r : Option Value) (H' : am_H) : Prop := ∃ N, ∀ fuel, N ≤ fuel → am_call G fuel d j as H = some (r, H')
def am_X (G : am_G) (d : Nat) (M : am_M) (pc : Nat) (lv : am_L) (st : List Value) (H : am_H) (r : Option Value) (H' : am_H) : Prop := ∃ N, ∀ fuel f, N ≤ fuel → N ≤ f → am_exec G (am_call G fuel d) M f pc lv st H = some (r, H')
theorem am_R.of {G : am_G} {fuel d j : Nat} {as : List Value} {H H' : am_H} {r : Option Value} (h : am_call G fuel d j as H = some (r, H')) : am_R G d j as H r H' := ⟨fuel, fun fuel' hf => am_call_mono hf d d (Nat.le_refl _) _ _ _ _ h⟩
theorem am_R.deeper {G : am_G} {d d' j : Nat} {as : List Value} {H H' : am_H} {r : Option Value} (h : am_R G d j as H r H') (hd : d ≤ d') : am_R G d' j as H r H' := by
  obtain ⟨N, h⟩ := h
  exact ⟨N, fun fuel hf => am_call_mono (Nat.le_refl fuel) d d' hd _ _ _ _ (h fuel hf)⟩
theorem am_R.enter {G : am_G} {d j : Nat} {as : List Value} {H H' : am_H} {r : Option Value} {M : am_M} (hM : G.2.2.2.1[j]? = some M) (hc : (lg_sl as).length ≤ M.2.2.1 ∧ M.2.2.1 ≤ 45) (h : am_X G d M 0 (lv_args 0 as) [] H r H') : am_R G (d + 1) j as H r H' := by
  obtain ⟨N, h⟩ := h
  refine ⟨N, fun fuel hf => ?_⟩
  unfold am_call
  rw [hM]
  dsimp only
  rw [if_pos hc]
  exact h fuel fuel hf hf
theorem am_X.go {G : am_G} {d : Nat} {M : am_M} {pc pc' : Nat} {lv lv' : am_L} {st st' : List Value} {H H1 H' : am_H} {r : Option Value} {i : Instr} {n : Nat} (hrow : am_row M pc = some (i, n)) (h1 : ∀ call, am_one G call M i n pc lv st H = some (.inl (pc', lv', st', H1))) (k : am_X G d M pc' lv' st' H1 r H') : am_X G d M pc lv st H r H' := by
  obtain ⟨N, h⟩ := k
  refine ⟨N + 1, fun fuel f hf hf2 => ?_⟩
  cases f with
  | zero => omega
  | succ f =>
    unfold am_exec
    rw [hrow]
    dsimp only
    rw [h1]
    exact h fuel f (by omega) (by omega)
theorem am_X.goD {G : am_G} {d : Nat} {M : am_M} {pc pc' : Nat} {lv lv' : am_L} {st st' : List Value} {H H1 H' : am_H} {r : Option Value} {i : Instr} {n : Nat} (hrow : am_row M pc = some (i, n)) (h1 : ∃ N, ∀ fuel, N ≤ fuel → am_one G (am_call G fuel d) M i n pc lv st H = some (.inl (pc', lv', st', H1))) (k : am_X G d M pc' lv' st' H1 r H') : am_X G d M pc lv st H r H' := by
  obtain ⟨N, h⟩ := k
  obtain ⟨N1, h1⟩ := h1
  refine ⟨N + N1 + 1, fun fuel f hf hf2 => ?_⟩
  cases f with
  | zero => omega
  | succ f =>
    unfold am_exec
    rw [hrow]
    dsimp only
    rw [h1 fuel (by omega)]
    exact h fuel f (by omega) (by omega)
theorem am_X.ret {G : am_G} {d : Nat} {M : am_M} {pc : Nat} {lv : am_L} {st : List Value} {H : am_H} {r : Option Value} {i : Instr} {n : Nat} (hrow : am_row M pc = some (i, n)) (h1 : ∀ call, am_one G call M i n pc lv st H = some (.inr (r, H))) : am_X G d M pc lv st H r H := by
  refine ⟨1, fun fuel f hf hf2 => ?_⟩
  cases f with
  | zero => omega
  | succ f =>
    unfold am_exec
    rw [hrow]
    dsimp only
    rw [h1]
