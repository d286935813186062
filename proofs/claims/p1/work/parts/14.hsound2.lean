section AMD
variable {p : Program} {l : Launch} {e : Env} {R : Room} {s : State} {m : MethodId} {args : Array Value} {below : List Frame} {meth : Method} {c : Code} {H : Heap} {locs : List Loc} {cells slots : Nat} {Q : State → Prop}
variable {cc : ByteArray} {pc : Nat} {ls : Array Slot} {ad : Nat → Nat} {G : am_G} {Ts : List Cond} {D : va_G} {ca : FieldType → ClassId} {A : Nat → Prop} {H0 : Heap} {own : String} {isI : Bool}
set_option maxHeartbeats 4000000 in
theorem am_sC_iald {n : Nat} {st st' : List Value} {AH AH' : am_H} (hok : am_ok G Ts) (h : am_stC G own isI (.iaload) n st AH = some (st', AH')) (hx : p.tables.exec = Jvm.exec) (hb : c.code = cc) (hdg : decode cc pc = .ok (.iaload, n)) (henv : am_env G D ca s)
    (hP : va_P D G.1 (am_w ad ca AH) H) (hD : va_D A (am_w ad ca AH)) (hS : va_S A H0 H locs)
    (kk : ∀ (ad' : Nat → Nat) (H1 : Heap) (locs1 : List Loc), am_agree AH.length ad ad' → va_P D G.1 (am_w ad' ca AH') H1 → va_D A (am_w ad' ca AH') → va_S A H0 H1 locs1 → W p l e R s m args below meth c H1 locs1 (cells + (AH'.length - AH.length)) (slots + (am_sz AH' - am_sz AH)) Q (F0 m (pc + n) ls (st'.map (am_v ad')))) :
    W p l e R s m args below meth c H locs cells slots Q (F0 m pc ls (st.map (am_v ad))) := by
  dsimp only [am_stC] at h
  split at h
  · rename_i j a r
    split at h
    · rename_i w f hf
      split at h
      · rename_i hc
        obtain ⟨rfl, hj⟩ := hc
        cases h
        obtain ⟨t0, ht⟩ := am_ty (ca := ca) hok.2.2.2.2.2.2.1.1
        exact va_iald hx hb henv.1 hP a t0 (am_w_get hf) ht (am_inb_in hj) hdg (am_kid (st' := .int (f j.toNatClampNeg) :: r) hP hD hS kk)
      · cases h
    · cases h
  · cases h
set_option maxHeartbeats 4000000 in
theorem am_sC_zald {n : Nat} {st st' : List Value} {AH AH' : am_H} (hok : am_ok G Ts) (h : am_stC G own isI (.baload) n st AH = some (st', AH')) (hx : p.tables.exec = Jvm.exec) (hb : c.code = cc) (hdg : decode cc pc = .ok (.baload, n)) (henv : am_env G D ca s)
    (hP : va_P D G.1 (am_w ad ca AH) H) (hD : va_D A (am_w ad ca AH)) (hS : va_S A H0 H locs)
    (kk : ∀ (ad' : Nat → Nat) (H1 : Heap) (locs1 : List Loc), am_agree AH.length ad ad' → va_P D G.1 (am_w ad' ca AH') H1 → va_D A (am_w ad' ca AH') → va_S A H0 H1 locs1 → W p l e R s m args below meth c H1 locs1 (cells + (AH'.length - AH.length)) (slots + (am_sz AH' - am_sz AH)) Q (F0 m (pc + n) ls (st'.map (am_v ad')))) :
    W p l e R s m args below meth c H locs cells slots Q (F0 m pc ls (st.map (am_v ad))) := by
  dsimp only [am_stC] at h
  split at h
  · rename_i j a r
    split at h
    · rename_i w f hf
      split at h
      · rename_i hc
        obtain ⟨rfl, hj⟩ := hc
        cases h
        obtain ⟨t0, ht⟩ := am_ty (ca := ca) hok.2.2.2.2.2.2.1.2.2
        exact va_zald hx hb henv.1 hP a t0 (am_w_get hf) ht (am_inb_in hj) hdg (am_kid (st' := .int (f j.toNatClampNeg) :: r) hP hD hS kk)
      · cases h
    · cases h
  · cases h
set_option maxHeartbeats 4000000 in
theorem am_sC_lald {n : Nat} {st st' : List Value} {AH AH' : am_H} (hok : am_ok G Ts) (h : am_stC G own isI (.laload) n st AH = some (st', AH')) (hx : p.tables.exec = Jvm.exec) (hb : c.code = cc) (hdg : decode cc pc = .ok (.laload, n)) (henv : am_env G D ca s)
    (hP : va_P D G.1 (am_w ad ca AH) H) (hD : va_D A (am_w ad ca AH)) (hS : va_S A H0 H locs)
    (kk : ∀ (ad' : Nat → Nat) (H1 : Heap) (locs1 : List Loc), am_agree AH.length ad ad' → va_P D G.1 (am_w ad' ca AH') H1 → va_D A (am_w ad' ca AH') → va_S A H0 H1 locs1 → W p l e R s m args below meth c H1 locs1 (cells + (AH'.length - AH.length)) (slots + (am_sz AH' - am_sz AH)) Q (F0 m (pc + n) ls (st'.map (am_v ad')))) :
    W p l e R s m args below meth c H locs cells slots Q (F0 m pc ls (st.map (am_v ad))) := by
  dsimp only [am_stC] at h
  split at h
  · rename_i j a r
    split at h
    · rename_i w f hf
      split at h
      · rename_i hc
        obtain ⟨rfl, hj⟩ := hc
        cases h
        obtain ⟨t0, ht⟩ := am_ty (ca := ca) hok.2.2.2.2.2.2.1.2.1
        exact va_lald hx hb henv.1 hP a t0 (am_w_get hf) ht (am_inb_in hj) hdg (am_kid (st' := .long (f j.toNatClampNeg) :: r) hP hD hS kk)
      · cases h
    · cases h
  · cases h
set_option maxHeartbeats 4000000 in
theorem am_sC_aald {n : Nat} {st st' : List Value} {AH AH' : am_H} (hok : am_ok G Ts) (h : am_stC G own isI (.aaload) n st AH = some (st', AH')) (hx : p.tables.exec = Jvm.exec) (hb : c.code = cc) (hdg : decode cc pc = .ok (.aaload, n)) (henv : am_env G D ca s)
    (hP : va_P D G.1 (am_w ad ca AH) H) (hD : va_D A (am_w ad ca AH)) (hS : va_S A H0 H locs)
    (kk : ∀ (ad' : Nat → Nat) (H1 : Heap) (locs1 : List Loc), am_agree AH.length ad ad' → va_P D G.1 (am_w ad' ca AH') H1 → va_D A (am_w ad' ca AH') → va_S A H0 H1 locs1 → W p l e R s m args below meth c H1 locs1 (cells + (AH'.length - AH.length)) (slots + (am_sz AH' - am_sz AH)) Q (F0 m (pc + n) ls (st'.map (am_v ad')))) :
    W p l e R s m args below meth c H locs cells slots Q (F0 m pc ls (st.map (am_v ad))) := by
  dsimp only [am_stC] at h
  split at h
  · rename_i j a r
    split at h
    · rename_i C w f hf
      split at h
      · rename_i hc
        obtain ⟨rfl, hj, hm⟩ := hc
        cases h
        obtain ⟨t0, ht⟩ := am_ty (ca := ca) hm
        refine va_aldq hx hb henv.1 hP a t0 (am_w_get hf) ht (am_inb_in hj) hdg ?_
        rw [am_rf_v]
        exact am_kid (st' := am_rf (f j.toNatClampNeg) :: r) hP hD hS kk
      · cases h
    · cases h
  · cases h
set_option maxHeartbeats 4000000 in
theorem am_sC_iast {n : Nat} {st st' : List Value} {AH AH' : am_H} (hok : am_ok G Ts) (h : am_stC G own isI (.iastore) n st AH = some (st', AH')) (hx : p.tables.exec = Jvm.exec) (hb : c.code = cc) (hdg : decode cc pc = .ok (.iastore, n)) (henv : am_env G D ca s)
    (hP : va_P D G.1 (am_w ad ca AH) H) (hD : va_D A (am_w ad ca AH)) (hS : va_S A H0 H locs)
    (kk : ∀ (ad' : Nat → Nat) (H1 : Heap) (locs1 : List Loc), am_agree AH.length ad ad' → va_P D G.1 (am_w ad' ca AH') H1 → va_D A (am_w ad' ca AH') → va_S A H0 H1 locs1 → W p l e R s m args below meth c H1 locs1 (cells + (AH'.length - AH.length)) (slots + (am_sz AH' - am_sz AH)) Q (F0 m (pc + n) ls (st'.map (am_v ad')))) :
    W p l e R s m args below meth c H locs cells slots Q (F0 m pc ls (st.map (am_v ad))) := by
  dsimp only [am_stC] at h
  split at h
  · rename_i x j a r
    split at h
    · rename_i w f hf
      split at h
      · rename_i hc
        obtain ⟨rfl, hj⟩ := hc
        cases h
        obtain ⟨t0, ht⟩ := am_ty (ca := ca) hok.2.2.2.2.2.2.1.1
        exact va_iast hx hb henv.1 hP hD hS a t0 (am_w_get hf) ht (am_inb_in hj) hdg (am_kset (c1 := .inl (.int, w, .inl (upd f j.toNatClampNeg x))) (n := 1) hf rfl kk)
      · cases h
    · cases h
  · cases h
set_option maxHeartbeats 4000000 in
theorem am_sC_zast {n : Nat} {st st' : List Value} {AH AH' : am_H} (hok : am_ok G Ts) (h : am_stC G own isI (.bastore) n st AH = some (st', AH')) (hx : p.tables.exec = Jvm.exec) (hb : c.code = cc) (hdg : decode cc pc = .ok (.bastore, n)) (henv : am_env G D ca s)
    (hP : va_P D G.1 (am_w ad ca AH) H) (hD : va_D A (am_w ad ca AH)) (hS : va_S A H0 H locs)
    (kk : ∀ (ad' : Nat → Nat) (H1 : Heap) (locs1 : List Loc), am_agree AH.length ad ad' → va_P D G.1 (am_w ad' ca AH') H1 → va_D A (am_w ad' ca AH') → va_S A H0 H1 locs1 → W p l e R s m args below meth c H1 locs1 (cells + (AH'.length - AH.length)) (slots + (am_sz AH' - am_sz AH)) Q (F0 m (pc + n) ls (st'.map (am_v ad')))) :
    W p l e R s m args below meth c H locs cells slots Q (F0 m pc ls (st.map (am_v ad))) := by
  dsimp only [am_stC] at h
  split at h
  · rename_i x j a r
    split at h
    · rename_i w f hf
      split at h
      · rename_i hc
        obtain ⟨rfl, hj⟩ := hc
        cases h
        obtain ⟨t0, ht⟩ := am_ty (ca := ca) hok.2.2.2.2.2.2.1.2.2
        exact va_zast hx hb henv.1 hP hD hS a t0 (am_w_get hf) ht (am_inb_in hj) hdg (am_kset (c1 := .inl (.boolean, w, .inl (upd f j.toNatClampNeg (vp_nar .boolean x)))) (n := 1) hf rfl kk)
      · cases h
    · cases h
  · cases h
set_option maxHeartbeats 4000000 in
theorem am_sC_last {n : Nat} {st st' : List Value} {AH AH' : am_H} (hok : am_ok G Ts) (h : am_stC G own isI (.lastore) n st AH = some (st', AH')) (hx : p.tables.exec = Jvm.exec) (hb : c.code = cc) (hdg : decode cc pc = .ok (.lastore, n)) (henv : am_env G D ca s)
    (hP : va_P D G.1 (am_w ad ca AH) H) (hD : va_D A (am_w ad ca AH)) (hS : va_S A H0 H locs)
    (kk : ∀ (ad' : Nat → Nat) (H1 : Heap) (locs1 : List Loc), am_agree AH.length ad ad' → va_P D G.1 (am_w ad' ca AH') H1 → va_D A (am_w ad' ca AH') → va_S A H0 H1 locs1 → W p l e R s m args below meth c H1 locs1 (cells + (AH'.length - AH.length)) (slots + (am_sz AH' - am_sz AH)) Q (F0 m (pc + n) ls (st'.map (am_v ad')))) :
    W p l e R s m args below meth c H locs cells slots Q (F0 m pc ls (st.map (am_v ad))) := by
  dsimp only [am_stC] at h
  split at h
  · rename_i x j a r
    split at h
    · rename_i w f hf
      split at h
      · rename_i hc
        obtain ⟨rfl, hj⟩ := hc
        cases h
        obtain ⟨t0, ht⟩ := am_ty (ca := ca) hok.2.2.2.2.2.2.1.2.1
        exact va_last hx hb henv.1 hP hD hS a t0 (am_w_get hf) ht (am_inb_in hj) hdg (am_kset (c1 := .inl (.long, w, .inr (.inl (vp_updL f j.toNatClampNeg x)))) (n := 1) hf rfl kk)
      · cases h
    · cases h
  · cases h
set_option maxHeartbeats 4000000 in
theorem am_sC_aast {n : Nat} {st st' : List Value} {AH AH' : am_H} (hok : am_ok G Ts) (h : am_stC G own isI (.aastore) n st AH = some (st', AH')) (hx : p.tables.exec = Jvm.exec) (hb : c.code = cc) (hdg : decode cc pc = .ok (.aastore, n)) (henv : am_env G D ca s)
    (hP : va_P D G.1 (am_w ad ca AH) H) (hD : va_D A (am_w ad ca AH)) (hS : va_S A H0 H locs)
    (kk : ∀ (ad' : Nat → Nat) (H1 : Heap) (locs1 : List Loc), am_agree AH.length ad ad' → va_P D G.1 (am_w ad' ca AH') H1 → va_D A (am_w ad' ca AH') → va_S A H0 H1 locs1 → W p l e R s m args below meth c H1 locs1 (cells + (AH'.length - AH.length)) (slots + (am_sz AH' - am_sz AH)) Q (F0 m (pc + n) ls (st'.map (am_v ad')))) :
    W p l e R s m args below meth c H locs cells slots Q (F0 m pc ls (st.map (am_v ad))) := by
  dsimp only [am_stC] at h
  split at h
  · rename_i v j a r
    split at h
    · rename_i C w f ci fs hf hv
      split at h
      · rename_i hc
        obtain ⟨rfl, hj, hm, hC⟩ := hc
        cases h
        obtain ⟨t0, ht⟩ := am_ty (ca := ca) hm
        cases hq : G.1[ci]? with
        | none => rw [hq] at hC; cases hC
        | some q =>
          rw [hq] at hC
          cases hC
          have k2 := am_kset (c := c) (st' := st') (n := 1) (cells := cells) (slots := slots) (c1 := .inl (.object q.1, w, .inr (.inr (.inr (.inr (va_up f j.toNatClampNeg (some v))))))) hf rfl kk
          refine va_astq hx hb henv.1 hP hD hS a t0 v ci (am_w_get hf) ht (am_w_get hv) hq (am_inb_in hj) hdg (fun H1 locs1 hP1 hD1 hS1 => ?_)
          refine k2 H1 locs1 ?_ ?_ hS1
          · show va_P D G.1 ((am_w ad ca AH).set a (ad a, .inl (ca (.object q.1), w, .inr (.inr (.inr (.inr (fun i => (va_up f j.toNatClampNeg (some v) i).map ad))))))) H1
            rw [am_up_map]; exact hP1
          · show va_D A ((am_w ad ca AH).set a (ad a, .inl (ca (.object q.1), w, .inr (.inr (.inr (.inr (fun i => (va_up f j.toNatClampNeg (some v) i).map ad)))))))
            rw [am_up_map]; exact hD1
      · cases h
    · cases h
  · cases h
set_option maxHeartbeats 4000000 in
theorem am_sC_alen {n : Nat} {st st' : List Value} {AH AH' : am_H} (hok : am_ok G Ts) (h : am_stC G own isI (.arraylength) n st AH = some (st', AH')) (hx : p.tables.exec = Jvm.exec) (hb : c.code = cc) (hdg : decode cc pc = .ok (.arraylength, n)) (henv : am_env G D ca s)
    (hP : va_P D G.1 (am_w ad ca AH) H) (hD : va_D A (am_w ad ca AH)) (hS : va_S A H0 H locs)
    (kk : ∀ (ad' : Nat → Nat) (H1 : Heap) (locs1 : List Loc), am_agree AH.length ad ad' → va_P D G.1 (am_w ad' ca AH') H1 → va_D A (am_w ad' ca AH') → va_S A H0 H1 locs1 → W p l e R s m args below meth c H1 locs1 (cells + (AH'.length - AH.length)) (slots + (am_sz AH' - am_sz AH)) Q (F0 m (pc + n) ls (st'.map (am_v ad')))) :
    W p l e R s m args below meth c H locs cells slots Q (F0 m pc ls (st.map (am_v ad))) := by
  dsimp only [am_stC] at h
  split at h
  · rename_i a r
    split at h
    · rename_i ty w f hf
      split at h
      · rename_i hc
        obtain ⟨rfl, hm⟩ := hc
        cases h
        obtain ⟨t0, ht⟩ := am_ty (ca := ca) hm
        refine va_alen hx hb henv.1 hP a t0 (am_w_get hf) ht (v := Int32.ofNat w) ?_ hdg (am_kid (st' := .int (Int32.ofNat w) :: r) hP hD hS kk)
        rcases f with f | f | f | f | f <;> rfl
      · cases h
    · cases h
  · cases h
set_option maxHeartbeats 4000000 in
theorem am_sC_ldc {n idx : Nat} {st st' : List Value} {AH AH' : am_H} (hok : am_ok G Ts) (h : am_stC G own isI (.ldc idx) n st AH = some (st', AH')) (hx : p.tables.exec = Jvm.exec) (hb : c.code = cc) (hdg : decode cc pc = .ok (.ldc idx, n)) (hown : s.vm.findClass own = some m.cls) (hts : ∀ w ∈ Ts, w.before args s = true)
    (hP : va_P D G.1 (am_w ad ca AH) H) (hD : va_D A (am_w ad ca AH)) (hS : va_S A H0 H locs)
    (kk : ∀ (ad' : Nat → Nat) (H1 : Heap) (locs1 : List Loc), am_agree AH.length ad ad' → va_P D G.1 (am_w ad' ca AH') H1 → va_D A (am_w ad' ca AH') → va_S A H0 H1 locs1 → W p l e R s m args below meth c H1 locs1 (cells + (AH'.length - AH.length)) (slots + (am_sz AH' - am_sz AH)) Q (F0 m (pc + n) ls (st'.map (am_v ad')))) :
    W p l e R s m args below meth c H locs cells slots Q (F0 m pc ls (st.map (am_v ad))) := by
  dsimp only [am_stC] at h
  split at h
  · rename_i z1 z2 v hk
    split at h
    · rename_i h3
      subst h3
      cases h
      exact lv_ldc hx hb hown (hts _ (hok.2.2.2.2.1 own idx _ _ v hk)) hdg (am_kid (st' := .int v.toInt32 :: st) hP hD hS kk)
    · cases h
  · cases h
set_option maxHeartbeats 4000000 in
theorem am_sC_ldc2 {n idx : Nat} {st st' : List Value} {AH AH' : am_H} (hok : am_ok G Ts) (h : am_stC G own isI (.ldc2_w idx) n st AH = some (st', AH')) (hx : p.tables.exec = Jvm.exec) (hb : c.code = cc) (hdg : decode cc pc = .ok (.ldc2_w idx, n)) (hown : s.vm.findClass own = some m.cls) (hts : ∀ w ∈ Ts, w.before args s = true)
    (hP : va_P D G.1 (am_w ad ca AH) H) (hD : va_D A (am_w ad ca AH)) (hS : va_S A H0 H locs)
    (kk : ∀ (ad' : Nat → Nat) (H1 : Heap) (locs1 : List Loc), am_agree AH.length ad ad' → va_P D G.1 (am_w ad' ca AH') H1 → va_D A (am_w ad' ca AH') → va_S A H0 H1 locs1 → W p l e R s m args below meth c H1 locs1 (cells + (AH'.length - AH.length)) (slots + (am_sz AH' - am_sz AH)) Q (F0 m (pc + n) ls (st'.map (am_v ad')))) :
    W p l e R s m args below meth c H locs cells slots Q (F0 m pc ls (st.map (am_v ad))) := by
  dsimp only [am_stC] at h
  split at h
  · rename_i z1 z2 v hk
    split at h
    · rename_i h3
      subst h3
      cases h
      exact lv_ldc2 hx hb hown (hts _ (hok.2.2.2.2.2.1 own idx _ _ v hk)) hdg (am_kid (st' := .long v :: st) hP hD hS kk)
    · cases h
  · cases h
set_option maxHeartbeats 4000000 in
theorem am_sC_new {n idx : Nat} {st st' : List Value} {AH AH' : am_H} (hok : am_ok G Ts) (h : am_stC G own isI (.new idx) n st AH = some (st', AH')) (hx : p.tables.exec = Jvm.exec) (hb : c.code = cc) (hdg : decode cc pc = .ok (.new idx, n)) (hown : s.vm.findClass own = some m.cls) (hts : ∀ w ∈ Ts, w.before args s = true) (henv : am_env G D ca s) (hA : ∀ q, H0.size ≤ q → A q) (hw : am_hw AH) (hsv : ∀ v ∈ st, am_vw AH.length v) (hcl : cells + (AH'.length - AH.length) ≤ R.cells) (hsl : slots + (am_sz AH' - am_sz AH) ≤ R.slots)
    (hP : va_P D G.1 (am_w ad ca AH) H) (hD : va_D A (am_w ad ca AH)) (hS : va_S A H0 H locs)
    (kk : ∀ (ad' : Nat → Nat) (H1 : Heap) (locs1 : List Loc), am_agree AH.length ad ad' → va_P D G.1 (am_w ad' ca AH') H1 → va_D A (am_w ad' ca AH') → va_S A H0 H1 locs1 → W p l e R s m args below meth c H1 locs1 (cells + (AH'.length - AH.length)) (slots + (am_sz AH' - am_sz AH)) Q (F0 m (pc + n) ls (st'.map (am_v ad')))) :
    W p l e R s m args below meth c H locs cells slots Q (F0 m pc ls (st.map (am_v ad))) := by
  dsimp only [am_stC] at h
  split at h
  · rename_i ci z1 z2 hk
    split at h
    · rename_i H' hH
      split at h
      · rename_i h3
        subst h3
        cases h
        obtain ⟨C, T, N, hc, hlk, hin, hini⟩ := hok.2.2.1 own idx ci _ _ hk
        obtain ⟨hi1, hty, hnm⟩ := hok.2.1 ci C T N hc
        unfold am_new at hH
        rw [hc] at hH
        cases hH
        have e2 : (AH ++ [Sum.inr (ci, (List.range N).map (fun k => defaultValue (G.2.1 ci k)))]).length - AH.length = 1 := by simp
        have e3 : am_sz (AH ++ [Sum.inr (ci, (List.range N).map (fun k => defaultValue (G.2.1 ci k)))]) - am_sz AH = N := by rw [am_sz_app]; simp [am_cz]
        refine va_new (c0 := c) (fs := (List.range N).map (fun k => defaultValue (G.2.1 ci k))) hx hb hts hi1 (G.2.1 ci) hty hown (hts _ hlk) (hts _ hin) (hts _ hini) henv.1 hP hD hS hA hc (fun j hj => ?_) (by rw [e2] at hcl; exact hcl) (by rw [e3] at hsl; exact hsl) hdg (fun q H1 hP1 hD1 hS1 => ?_)
        · show _ = ((List.range N).map (fun k => defaultValue (G.2.1 ci k))).getD j .null
          simp [hj]
        · have hE : ∀ ad' : Nat → Nat, am_c ad' ca (Sum.inr (ci, (List.range N).map (fun k => defaultValue (G.2.1 ci k)))) = .inr (ci, (List.range N).map (fun k => defaultValue (G.2.1 ci k))) := by
            intro ad'
            show (Sum.inr (ci, ((List.range N).map (fun k => defaultValue (G.2.1 ci k))).map (am_v ad')) : va_E) = _
            rw [List.map_map]
            congr 2
            apply List.map_congr_left
            intro k _
            exact am_dv ad' _
          have k1 := am_knew (c := c) (n := 3) hw hsv hE hP1 hD1 hS1 kk
          have e4 : am_cz (Sum.inr (ci, (List.range N).map (fun k => defaultValue (G.2.1 ci k)))) = N := by simp [am_cz]
          rw [e4] at k1
          exact k1
      · cases h
    · cases h
  · cases h
set_option maxHeartbeats 4000000 in
theorem am_sC_newa {n : Nat} {aty : ArrayType} {st st' : List Value} {AH AH' : am_H} (hok : am_ok G Ts) (h : am_stC G own isI (.newarray aty) n st AH = some (st', AH')) (hx : p.tables.exec = Jvm.exec) (hb : c.code = cc) (hdg : decode cc pc = .ok (.newarray aty, n)) (hown : s.vm.findClass own = some m.cls) (hts : ∀ w ∈ Ts, w.before args s = true) (henv : am_env G D ca s) (hA : ∀ q, H0.size ≤ q → A q) (hw : am_hw AH) (hsv : ∀ v ∈ st, am_vw AH.length v) (hcl : cells + (AH'.length - AH.length) ≤ R.cells) (hsl : slots + (am_sz AH' - am_sz AH) ≤ R.slots)
    (hP : va_P D G.1 (am_w ad ca AH) H) (hD : va_D A (am_w ad ca AH)) (hS : va_S A H0 H locs)
    (kk : ∀ (ad' : Nat → Nat) (H1 : Heap) (locs1 : List Loc), am_agree AH.length ad ad' → va_P D G.1 (am_w ad' ca AH') H1 → va_D A (am_w ad' ca AH') → va_S A H0 H1 locs1 → W p l e R s m args below meth c H1 locs1 (cells + (AH'.length - AH.length)) (slots + (am_sz AH' - am_sz AH)) Q (F0 m (pc + n) ls (st'.map (am_v ad')))) :
    W p l e R s m args below meth c H locs cells slots Q (F0 m pc ls (st.map (am_v ad))) := by
  dsimp only [am_stC] at h
  split at h
  · rename_i w r
    split at h
    · rename_i H' hH
      split at h
      · rename_i h3
        subst h3
        cases h
        unfold am_newa at hH
        split at hH
        · rename_i a0 ha0
          split at hH
          · rename_i hc
            obtain ⟨hn0, hby, hm⟩ := hc
            cases hH
            have hz : a0.1 = w.toNatClampNeg ∧ (∀ ad' : Nat → Nat, am_a ad' a0 = a0) ∧ ∀ cA : ClassId, vp_cell cA a0 = arrV cA w.toNatClampNeg (fun _ => defaultValue (newarray.typeOf aty)) := by
              cases hty : newarray.typeOf aty <;> rw [hty] at ha0 <;> cases ha0 <;> exact ⟨rfl, fun _ => rfl, fun _ => rfl⟩
            have e2 : (AH ++ [Sum.inl (newarray.typeOf aty, a0)]).length - AH.length = 1 := by simp
            have e4 : am_cz (Sum.inl (newarray.typeOf aty, a0)) = w.toNatClampNeg := hz.1
            have e3 : am_sz (AH ++ [Sum.inl (newarray.typeOf aty, a0)]) - am_sz AH = w.toNatClampNeg := by rw [am_sz_app, e4]; omega
            refine va_newa hx hb (hts _ (hok.2.2.2.2.2.2.2 aty hm)) rfl henv.1 hP hD hS hA (a0 := a0) hz.2.2 hn0 rfl hby (by rw [e2] at hcl; exact hcl) (by rw [e3] at hsl; exact hsl) hdg (fun q cA H1 hK1 hP1 hD1 hS1 => ?_)
            have hcA : ca (newarray.typeOf aty) = cA := by
              obtain ⟨t0, ht⟩ := am_ty (ca := ca) hm
              have g1 := (henv.1.2 t0 _ ht).2
              have g2 := (hK1.2 (am_tys G ca).length (cA, newarray.typeOf aty) (by simp)).2
              exact am_RA_eq g1 g2
            have k1 := am_knew (c := c) (n := 2) (r := r) (E := .inl (cA, a0)) hw (fun v hv => hsv v (List.mem_cons_of_mem _ hv)) (fun ad' => by show (Sum.inl (ca (newarray.typeOf aty), am_a ad' a0) : va_E) = _; rw [hz.2.1, hcA]) hP1 hD1 hS1 kk
            rw [e4] at k1
            exact k1
          · cases hH
        · cases hH
      · cases h
    · cases h
  · cases h
set_option maxHeartbeats 4000000 in
theorem am_sC_newq {n idx : Nat} {st st' : List Value} {AH AH' : am_H} (hok : am_ok G Ts) (h : am_stC G own isI (.anewarray idx) n st AH = some (st', AH')) (hx : p.tables.exec = Jvm.exec) (hb : c.code = cc) (hdg : decode cc pc = .ok (.anewarray idx, n)) (hown : s.vm.findClass own = some m.cls) (hts : ∀ w ∈ Ts, w.before args s = true) (henv : am_env G D ca s) (hA : ∀ q, H0.size ≤ q → A q) (hw : am_hw AH) (hsv : ∀ v ∈ st, am_vw AH.length v) (hcl : cells + (AH'.length - AH.length) ≤ R.cells) (hsl : slots + (am_sz AH' - am_sz AH) ≤ R.slots)
    (hP : va_P D G.1 (am_w ad ca AH) H) (hD : va_D A (am_w ad ca AH)) (hS : va_S A H0 H locs)
    (kk : ∀ (ad' : Nat → Nat) (H1 : Heap) (locs1 : List Loc), am_agree AH.length ad ad' → va_P D G.1 (am_w ad' ca AH') H1 → va_D A (am_w ad' ca AH') → va_S A H0 H1 locs1 → W p l e R s m args below meth c H1 locs1 (cells + (AH'.length - AH.length)) (slots + (am_sz AH' - am_sz AH)) Q (F0 m (pc + n) ls (st'.map (am_v ad')))) :
    W p l e R s m args below meth c H locs cells slots Q (F0 m pc ls (st.map (am_v ad))) := by
  dsimp only [am_stC] at h
  split at h
  · rename_i w r ci z1 z2 hk
    split at h
    · rename_i H' hH
      split at h
      · rename_i h3
        subst h3
        cases h
        obtain ⟨C, T, N, hc, hlk, -, -⟩ := hok.2.2.1 own idx ci _ _ hk
        unfold am_newq at hH
        rw [hc] at hH
        dsimp only at hH
        split at hH
        · rename_i hcc
          obtain ⟨hn0, hby, hm⟩ := hcc
          cases hH
          have e2 : (AH ++ [(Sum.inl (FieldType.object C, w.toNatClampNeg, .inr (.inr (.inr (.inr (fun _ => none))))) : am_C)]).length - AH.length = 1 := by simp
          have e3 : am_sz (AH ++ [(Sum.inl (FieldType.object C, w.toNatClampNeg, .inr (.inr (.inr (.inr (fun _ => none))))) : am_C)]) - am_sz AH = w.toNatClampNeg := by rw [am_sz_app]; simp [am_cz]
          refine va_newq hx hb hown (hts _ hlk) (henv.2 C hm) henv.1 hP hD hS hA hn0 rfl hby (by rw [e2] at hcl; exact hcl) (by rw [e3] at hsl; exact hsl) hdg (fun q cA H1 hK1 hP1 hD1 hS1 => ?_)
          have hcA : ca (.object C) = cA := by
            obtain ⟨t0, ht⟩ := am_ty (ca := ca) hm
            have g1 := (henv.1.2 t0 _ ht).2
            have g2 := (hK1.2 (am_tys G ca).length (cA, .object C) (by simp)).2
            exact am_RA_eq g1 g2
          exact am_knew (c := c) (n := 3) (r := r) (c1 := .inl (FieldType.object C, w.toNatClampNeg, .inr (.inr (.inr (.inr (fun _ => none)))))) (E := .inl (cA, w.toNatClampNeg, .inr (.inr (.inr (.inr (fun _ => none)))))) hw (fun v hv => hsv v (List.mem_cons_of_mem _ hv)) (fun ad' => by rw [← hcA]; rfl) hP1 hD1 hS1 kk
        · cases hH
      · cases h
    · cases h
  · cases h
end AMD
