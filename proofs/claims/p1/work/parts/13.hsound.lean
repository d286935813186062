/-- what the pool's entries, the classes and the arrays' types are, in the tables' words -/
def am_ok (G : am_G) (Ts : List Cond) : Prop :=
  (∀ own idx ci k z, G.2.2.1 own idx = some (0, ci, k, z) → ∃ C T N, G.1[ci]? = some (C, T, N) ∧ k < N ∧ Cond.fieldLink own idx (T k).1 (T k).2.1 (T k).2.2.1 ∈ Ts)
  ∧ (∀ (ci : Nat) (C : String) (T : u_T) (N : Nat), G.1[ci]? = some (C, T, N) → (∀ w ∈ u_ws C T N, w ∈ Ts) ∧ (∀ k, k < N → parseFieldDescriptor (T k).2.2.1 = some (G.2.1 ci k)) ∧ (∀ a, a < N → ∀ b, b < N → a ≠ b → (T a).2.1 ≠ (T b).2.1))
  ∧ (∀ own idx ci k z, G.2.2.1 own idx = some (2, ci, k, z) → ∃ C T N, G.1[ci]? = some (C, T, N) ∧ Cond.classLink own idx C ∈ Ts ∧ Cond.instantiable C N ∈ Ts ∧ Cond.initialized C ∈ Ts)
  ∧ (∀ own idx ci k z, G.2.2.1 own idx = some (3, ci, k, z) → ∃ C T N, G.1[ci]? = some (C, T, N) ∧ Cond.classLink own idx C ∈ Ts)
  ∧ (∀ own idx ci k z, G.2.2.1 own idx = some (6, ci, k, z) → Cond.constant own idx z.toInt32 ∈ Ts)
  ∧ (∀ own idx ci k z, G.2.2.1 own idx = some (7, ci, k, z) → Cond.constantLong own idx z ∈ Ts)
  ∧ (FieldType.int ∈ G.2.2.2.2 ∧ FieldType.long ∈ G.2.2.2.2 ∧ FieldType.boolean ∈ G.2.2.2.2)
  ∧ (∀ aty, newarray.typeOf aty ∈ G.2.2.2.2 → Cond.arrayClass (newarray.typeOf aty) ∈ Ts)
abbrev am_tys (G : am_G) (ca : FieldType → ClassId) : List (ClassId × FieldType) := G.2.2.2.2.map (fun ty => (ca ty, ty))
/-- what a state says of the tables -/
def am_env (G : am_G) (D : va_G) (ca : FieldType → ClassId) (s : State) : Prop := va_K D G.1 (am_tys G ca) s ∧ ∀ C, FieldType.object C ∈ G.2.2.2.2 → va_AO C s
theorem am_ty {G : am_G} {ca : FieldType → ClassId} {ty : FieldType} (h : ty ∈ G.2.2.2.2) : ∃ t0 : Nat, (am_tys G ca)[t0]? = some (ca ty, ty) :=
  List.getElem?_of_mem (List.mem_map.mpr ⟨ty, h, rfl⟩)
theorem am_RA_eq {s : State} {ty : FieldType} {a b : ClassId} (h1 : va_RA s a ty) (h2 : va_RA s b ty) : a = b := by
  cases ty with
  | object C =>
    obtain ⟨_, _, _, _, _, h3⟩ := h1
    obtain ⟨_, _, _, _, _, h4⟩ := h2
    exact Option.some.inj (h3.symm.trans h4)
  | _ => exact Option.some.inj ((show s.vm.findClass _ = some a from h1).symm.trans h2)
theorem am_fld_inv {G : am_G} {own : String} {idx ci k : Nat} (h : am_fld G own idx = some (ci, k)) : ∃ z, G.2.2.1 own idx = some (0, ci, k, z) := by
  unfold am_fld at h
  split at h
  · cases h; exact ⟨_, by assumption⟩
  · cases h
theorem am_getf_inv {H : am_H} {ci k a : Nat} {v : Value} (h : am_getf H ci k a = some v) : ∃ fs, H[a]? = some (.inr (ci, fs)) ∧ fs[k]? = some v := by
  unfold am_getf at h
  split at h
  · split at h
    · rename_i h1 h2
      subst h2
      exact ⟨_, h1, h⟩
    · cases h
  · cases h
theorem am_putf_inv {G : am_G} {own : String} {isI : Bool} {H H' : am_H} {ci k a : Nat} {v : Value} (h : am_putf G own isI H ci k a v = some H') : ∃ fs, H[a]? = some (.inr (ci, fs)) ∧ k < fs.length ∧ am_canput G own isI ci k v = true ∧ H' = H.set a (.inr (ci, fs.set k v)) := by
  unfold am_putf at h
  split at h
  · split at h
    · rename_i h1 h2
      obtain ⟨rfl, h3, h4⟩ := h2
      cases h
      exact ⟨_, h1, h3, h4, rfl⟩
    · cases h
  · cases h
theorem am_canput_inv {G : am_G} {own : String} {isI : Bool} {ci k : Nat} {v : Value} {C : String} {T : u_T} {N : Nat} (hc : G.1[ci]? = some (C, T, N)) (h : am_canput G own isI ci k v = true) : narrow (G.2.1 ci k) v = v ∧ fits (G.2.1 ci k) v = true ∧ ((T k).2.2.2 = false ∨ (isI = true ∧ (T k).1 = own)) := by
  unfold am_canput at h
  rw [hc] at h
  simp only [Bool.and_eq_true, Bool.or_eq_true, beq_iff_eq] at h
  exact ⟨(am_okv_inv h.1).1, (am_okv_inv h.1).2, h.2⟩
theorem am_nar (ad : Nat → Nat) {ty : FieldType} {v : Value} (h : narrow ty v = v) : narrow ty (am_v ad v) = am_v ad v := by
  cases v with
  | ref i => cases ty <;> rfl
  | retAddr i => cases ty <;> rfl
  | _ => exact h
theorem am_fits (ad : Nat → Nat) {ty : FieldType} {v : Value} (h : fits ty v = true) : fits ty (am_v ad v) = true := by
  cases v with
  | ref i => cases ty <;> first | exact h | (cases h)
  | retAddr i => cases ty <;> cases h
  | _ => exact h
theorem am_inb_in {i : Int32} {n : Nat} (h : am_inb i n = true) : vp_in i n := fun q => (of_decide_eq_true (show decide (¬ (i < 0 ∨ n ≤ i.toNatClampNeg)) = true from h)) q
theorem am_dv (ad : Nat → Nat) (ty : FieldType) : am_v ad (defaultValue ty) = defaultValue ty := by cases ty <;> rfl
theorem am_rf_v (ad : Nat → Nat) (x : Option Nat) : va_rf (x.map ad) = am_v ad (am_rf x) := by cases x <;> rfl
theorem am_up_map (ad : Nat → Nat) (f : Nat → Option Nat) (k v : Nat) : (fun j => (va_up f k (some v) j).map ad) = va_up (fun j => (f j).map ad) k (some (ad v)) := by
  funext j
  unfold va_up
  by_cases h : j = k
  · simp [h]
  · simp [h]
section AMC
variable {p : Program} {l : Launch} {e : Env} {R : Room} {s : State} {m : MethodId} {args : Array Value} {below : List Frame} {meth : Method} {c : Code} {H : Heap} {locs : List Loc} {cells slots : Nat} {Q : State → Prop}
variable {cc : ByteArray} {pc : Nat} {ls : Array Slot} {ad : Nat → Nat} {G : am_G} {Ts : List Cond} {D : va_G} {ca : FieldType → ClassId} {A : Nat → Prop} {H0 : Heap} {own : String} {isI : Bool}
/-- a place of the heap is set -/
theorem am_kset {AH : am_H} {a : Nat} {c0 c1 : am_C} {st' : List Value} {n : Nat} (hc0 : AH[a]? = some c0) (hz : am_cz c1 = am_cz c0)
    (kk : ∀ (ad' : Nat → Nat) (H1 : Heap) (locs1 : List Loc), am_agree AH.length ad ad' → va_P D G.1 (am_w ad' ca (AH.set a c1)) H1 → va_D A (am_w ad' ca (AH.set a c1)) → va_S A H0 H1 locs1 → W p l e R s m args below meth c H1 locs1 (cells + ((AH.set a c1).length - AH.length)) (slots + (am_sz (AH.set a c1) - am_sz AH)) Q (F0 m (pc + n) ls (st'.map (am_v ad')))) :
    ∀ (H1 : Heap) (locs1 : List Loc), va_P D G.1 ((am_w ad ca AH).set a (ad a, am_c ad ca c1)) H1 → va_D A ((am_w ad ca AH).set a (ad a, am_c ad ca c1)) → va_S A H0 H1 locs1 → W p l e R s m args below meth c H1 locs1 cells slots Q (F0 m (pc + n) ls (st'.map (am_v ad))) := by
  intro H1 locs1 hP hD hS
  rw [am_w_set] at hP hD
  have k1 := kk ad H1 locs1 (fun _ _ => rfl) hP hD hS
  rw [List.length_set, Nat.sub_self, Nat.add_zero, am_sz_set hc0 hz, Nat.sub_self, Nat.add_zero] at k1
  exact k1
theorem am_kid {AH : am_H} {st' : List Value} {n : Nat} (hP : va_P D G.1 (am_w ad ca AH) H) (hD : va_D A (am_w ad ca AH)) (hS : va_S A H0 H locs)
    (kk : ∀ (ad' : Nat → Nat) (H1 : Heap) (locs1 : List Loc), am_agree AH.length ad ad' → va_P D G.1 (am_w ad' ca AH) H1 → va_D A (am_w ad' ca AH) → va_S A H0 H1 locs1 → W p l e R s m args below meth c H1 locs1 (cells + (AH.length - AH.length)) (slots + (am_sz AH - am_sz AH)) Q (F0 m (pc + n) ls (st'.map (am_v ad')))) :
    W p l e R s m args below meth c H locs cells slots Q (F0 m (pc + n) ls (st'.map (am_v ad))) := by
  have k1 := kk ad H locs (fun _ _ => rfl) hP hD hS
  rw [Nat.sub_self, Nat.add_zero, Nat.sub_self, Nat.add_zero] at k1
  exact k1
/-- a cell more -/
theorem am_knew {AH : am_H} {c1 : am_C} {r : List Value} {n q : Nat} {E : va_E} {H1 : Heap} {locs1 : List Loc} (hw : am_hw AH) (hr : ∀ v ∈ r, am_vw AH.length v) (hE : ∀ ad' : Nat → Nat, am_c ad' ca c1 = E)
    (hP : va_P D G.1 (am_w ad ca AH ++ [(q, E)]) H1) (hD : va_D A (am_w ad ca AH ++ [(q, E)])) (hS : va_S A H0 H1 locs1)
    (kk : ∀ (ad' : Nat → Nat) (H1 : Heap) (locs1 : List Loc), am_agree AH.length ad ad' → va_P D G.1 (am_w ad' ca (AH ++ [c1])) H1 → va_D A (am_w ad' ca (AH ++ [c1])) → va_S A H0 H1 locs1 → W p l e R s m args below meth c H1 locs1 (cells + ((AH ++ [c1]).length - AH.length)) (slots + (am_sz (AH ++ [c1]) - am_sz AH)) Q (F0 m (pc + n) ls ((Value.ref AH.length :: r).map (am_v ad')))) :
    W p l e R s m args below meth c H1 locs1 (cells + 1) (slots + am_cz c1) Q (F0 m (pc + n) ls (.ref q :: r.map (am_v ad))) := by
  have hag := am_ext_agree ad AH.length q
  have e1 : am_w (am_ext ad AH.length q) ca (AH ++ [c1]) = am_w ad ca AH ++ [(q, E)] := by
    rw [am_w_app, am_w_agree hag hw, am_ext_self, hE]
  have k1 := kk (am_ext ad AH.length q) H1 locs1 hag (by rw [e1]; exact hP) (by rw [e1]; exact hD) hS
  have e2 : (AH ++ [c1]).length - AH.length = 1 := by simp
  have e3 : am_sz (AH ++ [c1]) - am_sz AH = am_cz c1 := by rw [am_sz_app]; omega
  have e4 : (Value.ref AH.length :: r).map (am_v (am_ext ad AH.length q)) = .ref q :: r.map (am_v ad) := by
    rw [List.map_cons, am_st_agree hag hr]
    show Value.ref (am_ext ad AH.length q AH.length) :: _ = _
    rw [am_ext_self]
  rw [e2, e3, e4] at k1
  exact k1
set_option maxHeartbeats 4000000 in
theorem am_sC_get {n idx : Nat} {st st' : List Value} {AH AH' : am_H} (hok : am_ok G Ts) (h : am_stC G own isI (.getfield idx) n st AH = some (st', AH')) (hx : p.tables.exec = Jvm.exec) (hb : c.code = cc) (hdg : decode cc pc = .ok (.getfield idx, n)) (hown : s.vm.findClass own = some m.cls) (hts : ∀ w ∈ Ts, w.before args s = true) (henv : am_env G D ca s)
    (hP : va_P D G.1 (am_w ad ca AH) H) (hD : va_D A (am_w ad ca AH)) (hS : va_S A H0 H locs)
    (kk : ∀ (ad' : Nat → Nat) (H1 : Heap) (locs1 : List Loc), am_agree AH.length ad ad' → va_P D G.1 (am_w ad' ca AH') H1 → va_D A (am_w ad' ca AH') → va_S A H0 H1 locs1 → W p l e R s m args below meth c H1 locs1 (cells + (AH'.length - AH.length)) (slots + (am_sz AH' - am_sz AH)) Q (F0 m (pc + n) ls (st'.map (am_v ad')))) :
    W p l e R s m args below meth c H locs cells slots Q (F0 m pc ls (st.map (am_v ad))) := by
  dsimp only [am_stC] at h
  split at h
  · rename_i a r ci k hf
    split at h
    · rename_i v hv
      split at h
      · rename_i h3
        subst h3
        cases h
        obtain ⟨z, hz⟩ := am_fld_inv hf
        obtain ⟨C, T, N, hc, hk, hl⟩ := hok.1 own idx ci k z hz
        obtain ⟨hin, hty, hnm⟩ := hok.2.1 ci C T N hc
        obtain ⟨fs, hfs, hvk⟩ := am_getf_inv hv
        exact va_get hx hb hts hin hown henv.1 hP a (am_w_get hfs) hc k hk (hts _ hl) (fun _ h9 => h9) (v := am_v ad v) (by rw [List.getElem?_map, hvk]; rfl) hdg (am_kid (st' := v :: r) hP hD hS kk)
      · cases h
    · cases h
  · cases h
set_option maxHeartbeats 4000000 in
theorem am_sC_put {n idx : Nat} {st st' : List Value} {AH AH' : am_H} (hok : am_ok G Ts) (h : am_stC G own isI (.putfield idx) n st AH = some (st', AH')) (hx : p.tables.exec = Jvm.exec) (hb : c.code = cc) (hdg : decode cc pc = .ok (.putfield idx, n)) (hown : s.vm.findClass own = some m.cls) (hts : ∀ w ∈ Ts, w.before args s = true) (hI : isI = true → meth.name = "<init>") (henv : am_env G D ca s)
    (hP : va_P D G.1 (am_w ad ca AH) H) (hD : va_D A (am_w ad ca AH)) (hS : va_S A H0 H locs)
    (kk : ∀ (ad' : Nat → Nat) (H1 : Heap) (locs1 : List Loc), am_agree AH.length ad ad' → va_P D G.1 (am_w ad' ca AH') H1 → va_D A (am_w ad' ca AH') → va_S A H0 H1 locs1 → W p l e R s m args below meth c H1 locs1 (cells + (AH'.length - AH.length)) (slots + (am_sz AH' - am_sz AH)) Q (F0 m (pc + n) ls (st'.map (am_v ad')))) :
    W p l e R s m args below meth c H locs cells slots Q (F0 m pc ls (st.map (am_v ad))) := by
  dsimp only [am_stC] at h
  split at h
  · rename_i v a r ci k hf
    split at h
    · rename_i H' hv
      split at h
      · rename_i h3
        subst h3
        cases h
        obtain ⟨z, hz⟩ := am_fld_inv hf
        obtain ⟨C, T, N, hc, hk, hl⟩ := hok.1 own idx ci k z hz
        obtain ⟨hin, hty, hnm⟩ := hok.2.1 ci C T N hc
        obtain ⟨fs, hfs, hkl, hcp, rfl⟩ := am_putf_inv hv
        obtain ⟨hn1, hn2, hn3⟩ := am_canput_inv hc hcp
        have hset : (fs.map (am_v ad)).set k (am_v ad v) = (fs.set k v).map (am_v ad) := by rw [List.map_set]
        have k2 := am_kset (c := c) (st' := st') (n := 3) (cells := cells) (slots := slots) hfs (show am_cz (.inr (ci, fs.set k v)) = am_cz (.inr (ci, fs)) from List.length_set ..) kk
        have k3 : ∀ (H1 : Heap) (locs1 : List Loc), va_P D G.1 ((am_w ad ca AH).set a (ad a, .inr (ci, (fs.map (am_v ad)).set k (am_v ad v)))) H1 → va_D A ((am_w ad ca AH).set a (ad a, .inr (ci, (fs.map (am_v ad)).set k (am_v ad v)))) → va_S A H0 H1 locs1 → W p l e R s m args below meth c H1 locs1 cells slots Q (F0 m (pc + 3) ls (st'.map (am_v ad))) := by
          rw [hset]; exact k2
        rcases hn3 with hfin | ⟨hi, hdc⟩
        · exact va_put hx hb hts hin (G.2.1 ci) hty hnm hown henv.1 hP hD hS a (am_w_get hfs) hc k hk (hts _ hl) (fun _ h9 => h9) hfin (hty k hk) (am_nar ad hn1) (am_fits ad hn2) (by rw [List.length_map]; exact hkl) hdg k3
        · by_cases hfin : (T k).2.2.2 = true
          · exact va_putF hx hb hts hin (G.2.1 ci) hty hnm hown henv.1 hP hD hS a (am_w_get hfs) hc k hk (hts _ hl) (fun _ h9 => h9) hfin (hI hi) hdc (hty k hk) (am_nar ad hn1) (am_fits ad hn2) (by rw [List.length_map]; exact hkl) hdg k3
          · exact va_put hx hb hts hin (G.2.1 ci) hty hnm hown henv.1 hP hD hS a (am_w_get hfs) hc k hk (hts _ hl) (fun _ h9 => h9) (by simpa using hfin) (hty k hk) (am_nar ad hn1) (am_fits ad hn2) (by rw [List.length_map]; exact hkl) hdg k3
      · cases h
    · cases h
  · cases h
end AMC
