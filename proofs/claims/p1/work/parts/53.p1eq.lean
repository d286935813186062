/-! p1: class and reference answer alike on fresh objects (all but build()), written by wip/p1eq.py -/
theorem p1_split (a : Int32) (N : Nat) (hN : N < 1000) : a.toInt < 0 ∨ (N : Int) < a.toInt ∨ ∃ k : Nat, k ≤ N ∧ a = nI k := by
  by_cases h1 : a.toInt < 0
  · exact Or.inl h1
  · by_cases h2 : (N : Int) < a.toInt
    · exact Or.inr (Or.inl h2)
    · refine Or.inr (Or.inr ⟨a.toInt.toNat, by omega, ?_⟩)
      rw [← Int32.toInt_inj, nI_toInt (by omega)]
      omega
theorem p1_l1 : (Int32.ofInt 1).toInt = 1 := by decide +kernel
theorem p1_l2 : (Int32.ofInt 2).toInt = 2 := by decide +kernel
theorem p1_l6 : (Int8.ofInt 6).toInt32.toInt = 6 := by decide +kernel
theorem p1_l8 : (Int8.ofInt 8).toInt32.toInt = 8 := by decide +kernel
theorem p1_e2 (a0 : Int32) : px2_f a0 = pm2_f a0 := by
  have out : (a0.toInt < 0 ∨ (1 : Int) < a0.toInt) → px2_f a0 = pm2_f a0 := by
    intro h
    have c1 : ∀ q : Nat, q ≤ 1 → ¬ a0 = nI q := fun q hq e => by rw [e, nI_toInt (by omega)] at h; omega
    unfold px2_f pm2_f am_if1 am_if2
    simp only [decide_eq_true_eq, Int32.lt_iff_toInt_lt, Int32.le_iff_toInt_le, p1_l1, p1_l2, p1_l6, p1_l8, Int32.toInt_zero]
    repeat' split
    all_goals first | rfl | (exfalso; omega) | (exfalso; exact c1 0 (by decide) (by simp_all; rfl)) | (exfalso; exact c1 1 (by decide) (by simp_all; decide +kernel)) | (exfalso; simp_all; done)
  rcases p1_split a0 1 (by decide) with h | h | ⟨k, hk, rfl⟩
  · exact out (Or.inl h)
  · exact out (Or.inr h)
  · rcases (show k = 0 ∨ k = 1 by omega) with rfl | rfl <;> decide +kernel
theorem p1_e3 (a0 : Int32) : px3_f a0 = pm3_f a0 := by rfl
theorem p1_e4 (a0 : Int32) (a1 : Int32) : px4_f a0 a1 = pm4_f a0 a1 := by rfl
theorem p1_e5 (a0 : Int32) (a1 : Int32) : px5_f a0 a1 = pm5_f a0 a1 := by rfl
theorem p1_e6 (a0 : Int32) : px6_f a0 = pm6_f a0 := by rfl
theorem p1_e7 (a0 : Int32) (a1 : Int32) : px7_f a0 a1 = pm7_f a0 a1 := by rfl
theorem p1_e8 (a0 : Int32) : px8_f a0 = pm8_f a0 := by
  have out : (a0.toInt < 0 ∨ (6 : Int) < a0.toInt) → px8_f a0 = pm8_f a0 := by
    intro h
    have c1 : ∀ q : Nat, q ≤ 6 → ¬ a0 = nI q := fun q hq e => by rw [e, nI_toInt (by omega)] at h; omega
    unfold px8_f pm8_f am_if1 am_if2
    simp only [decide_eq_true_eq, Int32.lt_iff_toInt_lt, Int32.le_iff_toInt_le, p1_l1, p1_l2, p1_l6, p1_l8, Int32.toInt_zero]
    repeat' split
    all_goals first | rfl | (exfalso; omega) | (exfalso; exact c1 0 (by decide) (by simp_all; rfl)) | (exfalso; exact c1 1 (by decide) (by simp_all; decide +kernel)) | (exfalso; simp_all; done)
  rcases p1_split a0 6 (by decide) with h | h | ⟨k, hk, rfl⟩
  · exact out (Or.inl h)
  · exact out (Or.inr h)
  · rcases (show k = 0 ∨ k = 1 ∨ k = 2 ∨ k = 3 ∨ k = 4 ∨ k = 5 ∨ k = 6 by omega) with rfl | rfl | rfl | rfl | rfl | rfl | rfl <;> decide +kernel
theorem p1_e9 (a0 : Int32) (a1 : Int32) : px9_f a0 a1 = pm9_f a0 a1 := by
  unfold px9_f pm9_f
  by_cases h : a0 < 0
  · rw [if_pos (show am_if1 .lt a0 = true from decide_eq_true h)]
  · rw [if_neg (show ¬ am_if1 .lt a0 = true from fun q => h (of_decide_eq_true q))]
    rw [if_pos (show am_if2 .ge a0 0 = true from decide_eq_true (Int32.not_lt.mp h))]
theorem p1_e10 (a0 : Int32) (a1 : Int32) : px10_f a0 a1 = pm10_f a0 a1 := by rfl
theorem p1_e11 (a0 : Int32) : px11_f a0 = pm11_f a0 := by rfl
theorem p1_e12 (a0 : Int64) (a1 : Int32) : px12_f a0 a1 = pm12_f a0 a1 := by rfl
theorem p1_e13  : px13_f  = pm13_f  := by rfl
theorem p1_e14  : px14_f  = pm14_f  := by rfl
theorem p1_e15 (a0 : Int32) : px15_f a0 = pm15_f a0 := by
  have out : (a0.toInt < 0 ∨ (6 : Int) < a0.toInt) → px15_f a0 = pm15_f a0 := by
    intro h
    have c1 : ∀ q : Nat, q ≤ 6 → ¬ a0 = nI q := fun q hq e => by rw [e, nI_toInt (by omega)] at h; omega
    unfold px15_f pm15_f am_if1 am_if2
    simp only [decide_eq_true_eq, Int32.lt_iff_toInt_lt, Int32.le_iff_toInt_le, p1_l1, p1_l2, p1_l6, p1_l8, Int32.toInt_zero]
    repeat' split
    all_goals first | rfl | (exfalso; omega) | (exfalso; exact c1 0 (by decide) (by simp_all; rfl)) | (exfalso; exact c1 1 (by decide) (by simp_all; decide +kernel)) | (exfalso; simp_all; done)
  rcases p1_split a0 6 (by decide) with h | h | ⟨k, hk, rfl⟩
  · exact out (Or.inl h)
  · exact out (Or.inr h)
  · rcases (show k = 0 ∨ k = 1 ∨ k = 2 ∨ k = 3 ∨ k = 4 ∨ k = 5 ∨ k = 6 by omega) with rfl | rfl | rfl | rfl | rfl | rfl | rfl <;> decide +kernel
theorem p1_e16 (a0 : Int32) (a1 : Int32) : px16_f a0 a1 = pm16_f a0 a1 := by
  unfold px16_f pm16_f
  by_cases h : a0 < 0
  · rw [if_pos (show am_if1 .lt a0 = true from decide_eq_true h)]
  · rw [if_neg (show ¬ am_if1 .lt a0 = true from fun q => h (of_decide_eq_true q))]
    rw [if_neg (show ¬ am_if2 .lt a0 0 = true from fun q => h (of_decide_eq_true q))]
theorem p1_e17 (a0 : Int32) (a1 : Int32) : px17_f a0 a1 = pm17_f a0 a1 := by
  unfold px17_f pm17_f
  by_cases h : a0 < 0
  · rw [if_pos (show am_if1 .lt a0 = true from decide_eq_true h)]
  · rw [if_neg (show ¬ am_if1 .lt a0 = true from fun q => h (of_decide_eq_true q))]
    rw [if_neg (show ¬ am_if2 .lt a0 0 = true from fun q => h (of_decide_eq_true q))]
theorem p1_e18 (a0 : Int32) : px18_f a0 = pm18_f a0 := by rfl
def p1_Inv (k : Nat) (H : am_H) : Prop := match k with
  | 0 => H = p1_H3
  | _ + 1 => p1_in H
theorem p1_H3_in : p1_in p1_H3 := by unfold p1_in; decide +kernel
theorem p1_H3_x : am_isC gx_G p1_H3 0 "GrammarStream" = true := by decide +kernel
theorem p1_H3_m : am_isC gx_G p1_H3 3 "GrammarStreamModel" = true := by decide +kernel
theorem p1_isC {H H' : am_H} {p : Nat} {C : String} (h : am_isC gx_G H p C = true) (e : H'[p]? = H[p]?) : am_isC gx_G H' p C = true := by
  unfold am_isC at h ⊢
  rw [e]
  exact h
/-- type() on fresh objects -/
theorem p1_type (w : Int64) (n : Int32) : lw_I 12 0 3 (p1_Inv 0) (p1_Inv 1) 1 137 [.long w, .int n] := by
  intro H hH
  have hH : H = p1_H3 := hH
  subst hH
  by_cases h : n < 1 ∨ ¬ n ≤ 8
  · exact ⟨_, p1_H3, p1_H3, p1_H3_x, p1_H3_m, (s_typeX_bad h).deeper (by decide), (s_typeM_bad h).deeper (by decide), p1_H3_in⟩
  · have h1 : ¬ n < 1 := fun q => h (Or.inl q)
    have h2 : n ≤ 8 := Classical.byContradiction fun q => h (Or.inr q)
    obtain ⟨m, hm, rfl⟩ : ∃ m : Nat, (1 ≤ m ∧ m ≤ 8) ∧ n = nI m := by
      rw [Int32.lt_iff_toInt_lt] at h1
      rw [Int32.le_iff_toInt_le] at h2
      have e1 : (1 : Int32).toInt = 1 := by decide +kernel
      have e8 : (8 : Int32).toInt = 8 := by decide +kernel
      rw [e1] at h1
      rw [e8] at h2
      exact ⟨n.toInt.toNat, by omega, by rw [← Int32.toInt_inj, nI_toInt (by omega)]; omega⟩
    obtain ⟨f1, H1, r1, a1, a2, a3, a4, a5, -⟩ := s_typeX (p := 0) (a := 1) (t := 0) (w := w) (H := p1_H3) m hm.1 hm.2 (by omega) rfl rfl
    have e3 : H1[3]? = p1_H3[3]? := a3 3 (by decide) (by decide)
    have e4 : H1[4]? = p1_H3[4]? := a3 4 (by decide) (by decide)
    obtain ⟨f2, H2, r2, b1, b2, b3, b4, b5, -⟩ := s_typeM (p := 3) (a := 4) (t := 0) (w := w) (H := H1) m hm.1 hm.2 (by omega) (by rw [e3]; rfl) (by rw [e4]; rfl)
    refine ⟨_, H1, H2, p1_H3_x, p1_isC p1_H3_m e3, r1.deeper (by decide), r2.deeper (by decide), ?_⟩
    exact ⟨by rw [b4, a4]; exact p1_H3_in.1, by rw [b5, a5]; exact p1_H3_in.2⟩
/-- all of the law's calls on fresh objects; build()'s is still owed: its hypothesis -/
theorem p1_steps_open (hb : lw_I 12 0 3 (p1_Inv 0) (p1_Inv 1) 3 138 []) : lw_steps 12 0 3 (p1_Inv 0) (p1_Inv 1) :=
  ⟨p1_type, hb, (fun a0 H hH => by have hH : H = p1_H3 := hH; subst hH; exact ⟨px2_f a0, p1_H3, p1_H3, p1_H3_x, p1_H3_m, (px2 a0).deeper (by decide), by rw [p1_e2 a0]; exact (pm2 a0).deeper (by decide), p1_H3_in⟩), (fun a0 H hH => by have hH : H = p1_H3 := hH; subst hH; exact ⟨px3_f a0, p1_H3, p1_H3, p1_H3_x, p1_H3_m, (px3 a0).deeper (by decide), by rw [p1_e3 a0]; exact (pm3 a0).deeper (by decide), p1_H3_in⟩), (fun a0 a1 H hH => by have hH : H = p1_H3 := hH; subst hH; exact ⟨px4_f a0 a1, p1_H3, p1_H3, p1_H3_x, p1_H3_m, (px4 a0 a1).deeper (by decide), by rw [p1_e4 a0 a1]; exact (pm4 a0 a1).deeper (by decide), p1_H3_in⟩), (fun a0 a1 H hH => by have hH : H = p1_H3 := hH; subst hH; exact ⟨px5_f a0 a1, p1_H3, p1_H3, p1_H3_x, p1_H3_m, (px5 a0 a1).deeper (by decide), by rw [p1_e5 a0 a1]; exact (pm5 a0 a1).deeper (by decide), p1_H3_in⟩), (fun a0 H hH => by have hH : H = p1_H3 := hH; subst hH; exact ⟨px6_f a0, p1_H3, p1_H3, p1_H3_x, p1_H3_m, (px6 a0).deeper (by decide), by rw [p1_e6 a0]; exact (pm6 a0).deeper (by decide), p1_H3_in⟩), (fun a0 a1 H hH => by have hH : H = p1_H3 := hH; subst hH; exact ⟨px7_f a0 a1, p1_H3, p1_H3, p1_H3_x, p1_H3_m, (px7 a0 a1).deeper (by decide), by rw [p1_e7 a0 a1]; exact (pm7 a0 a1).deeper (by decide), p1_H3_in⟩), (fun a0 H hH => by have hH : H = p1_H3 := hH; subst hH; exact ⟨px8_f a0, p1_H3, p1_H3, p1_H3_x, p1_H3_m, (px8 a0).deeper (by decide), by rw [p1_e8 a0]; exact (pm8 a0).deeper (by decide), p1_H3_in⟩), (fun a0 a1 H hH => by have hH : H = p1_H3 := hH; subst hH; exact ⟨px9_f a0 a1, p1_H3, p1_H3, p1_H3_x, p1_H3_m, (px9 a0 a1).deeper (by decide), by rw [p1_e9 a0 a1]; exact (pm9 a0 a1).deeper (by decide), p1_H3_in⟩), (fun a0 a1 H hH => by have hH : H = p1_H3 := hH; subst hH; exact ⟨px10_f a0 a1, p1_H3, p1_H3, p1_H3_x, p1_H3_m, (px10 a0 a1).deeper (by decide), by rw [p1_e10 a0 a1]; exact (pm10 a0 a1).deeper (by decide), p1_H3_in⟩), (fun a0 H hH => by have hH : H = p1_H3 := hH; subst hH; exact ⟨px11_f a0, p1_H3, p1_H3, p1_H3_x, p1_H3_m, (px11 a0).deeper (by decide), by rw [p1_e11 a0]; exact (pm11 a0).deeper (by decide), p1_H3_in⟩), (fun a0 a1 H hH => by have hH : H = p1_H3 := hH; subst hH; exact ⟨px12_f a0 a1, p1_H3, p1_H3, p1_H3_x, p1_H3_m, (px12 a0 a1).deeper (by decide), by rw [p1_e12 a0 a1]; exact (pm12 a0 a1).deeper (by decide), p1_H3_in⟩), (fun H hH => by have hH : H = p1_H3 := hH; subst hH; exact ⟨px13_f, p1_H3, p1_H3, p1_H3_x, p1_H3_m, (px13).deeper (by decide), by rw [p1_e13]; exact (pm13).deeper (by decide), p1_H3_in⟩), (fun H hH => by have hH : H = p1_H3 := hH; subst hH; exact ⟨px14_f, p1_H3, p1_H3, p1_H3_x, p1_H3_m, (px14).deeper (by decide), by rw [p1_e14]; exact (pm14).deeper (by decide), p1_H3_in⟩), (fun a0 H hH => by have hH : H = p1_H3 := hH; subst hH; exact ⟨px15_f a0, p1_H3, p1_H3, p1_H3_x, p1_H3_m, (px15 a0).deeper (by decide), by rw [p1_e15 a0]; exact (pm15 a0).deeper (by decide), p1_H3_in⟩), (fun a0 a1 H hH => by have hH : H = p1_H3 := hH; subst hH; exact ⟨px16_f a0 a1, p1_H3, p1_H3, p1_H3_x, p1_H3_m, (px16 a0 a1).deeper (by decide), by rw [p1_e16 a0 a1]; exact (pm16 a0 a1).deeper (by decide), p1_H3_in⟩), (fun a0 a1 H hH => by have hH : H = p1_H3 := hH; subst hH; exact ⟨px17_f a0 a1, p1_H3, p1_H3, p1_H3_x, p1_H3_m, (px17 a0 a1).deeper (by decide), by rw [p1_e17 a0 a1]; exact (pm17 a0 a1).deeper (by decide), p1_H3_in⟩), (fun a0 H hH => by have hH : H = p1_H3 := hH; subst hH; exact ⟨px18_f a0, p1_H3, p1_H3, p1_H3_x, p1_H3_m, (px18 a0).deeper (by decide), by rw [p1_e18 a0]; exact (pm18 a0).deeper (by decide), p1_H3_in⟩), fun H hH => by have hH : H = p1_H3 := hH; subst hH; exact p1_H3_in⟩
