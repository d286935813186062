section AMF
variable {p : Program} {l : Launch} {e : Env} {R : Room} {s : State} {m : MethodId} {args : Array Value} {below : List Frame} {meth : Method} {c : Code} {H : Heap} {locs : List Loc} {cells slots : Nat} {Q : State → Prop}
variable {cc : ByteArray} {pc : Nat} {ls : Array Slot} {ad : Nat → Nat} {G : am_G} {Ts nst : List Cond} {D : va_G} {ca : FieldType → ClassId} {A : Nat → Prop} {H0 : Heap} {own : String} {isI : Bool}
set_option maxHeartbeats 4000000 in
theorem am_sC {n : Nat} {i : Instr} {st st' : List Value} {AH AH' : am_H} (hok : am_ok G Ts) (h : am_stC G own isI i n st AH = some (st', AH')) (hx : p.tables.exec = Jvm.exec) (hb : c.code = cc) (hdg : decode cc pc = .ok (i, n)) (hown : s.vm.findClass own = some m.cls) (hts : ∀ w ∈ Ts, w.before args s = true) (hI : isI = true → meth.name = "<init>") (henv : am_env G D ca s)
    (hP : va_P D G.1 (am_w ad ca AH) H) (hD : va_D A (am_w ad ca AH)) (hS : va_S A H0 H locs) (hA : ∀ q, H0.size ≤ q → A q) (hw : am_hw AH) (hsv : am_ws AH.length st) (hcl : cells + (AH'.length - AH.length) ≤ R.cells) (hsl : slots + (am_sz AH' - am_sz AH) ≤ R.slots)
    (kk : ∀ (ad' : Nat → Nat) (H1 : Heap) (locs1 : List Loc), am_agree AH.length ad ad' → va_P D G.1 (am_w ad' ca AH') H1 → va_D A (am_w ad' ca AH') → va_S A H0 H1 locs1 → W p l e R s m args below meth c H1 locs1 (cells + (AH'.length - AH.length)) (slots + (am_sz AH' - am_sz AH)) Q (F0 m (pc + n) ls (st'.map (am_v ad')))) :
    W p l e R s m args below meth c H locs cells slots Q (F0 m pc ls (st.map (am_v ad))) := by
  cases i with
  | getfield idx => exact am_sC_get hok h hx hb hdg hown hts henv hP hD hS kk
  | putfield idx => exact am_sC_put hok h hx hb hdg hown hts hI henv hP hD hS kk
  | iaload => exact am_sC_iald hok h hx hb hdg henv hP hD hS kk
  | baload => exact am_sC_zald hok h hx hb hdg henv hP hD hS kk
  | laload => exact am_sC_lald hok h hx hb hdg henv hP hD hS kk
  | aaload => exact am_sC_aald hok h hx hb hdg henv hP hD hS kk
  | iastore => exact am_sC_iast hok h hx hb hdg henv hP hD hS kk
  | bastore => exact am_sC_zast hok h hx hb hdg henv hP hD hS kk
  | lastore => exact am_sC_last hok h hx hb hdg henv hP hD hS kk
  | aastore => exact am_sC_aast hok h hx hb hdg henv hP hD hS kk
  | arraylength => exact am_sC_alen hok h hx hb hdg henv hP hD hS kk
  | new idx => exact am_sC_new hok h hx hb hdg hown hts henv hA hw hsv hcl hsl hP hD hS kk
  | newarray aty => exact am_sC_newa hok h hx hb hdg hown hts henv hA hw hsv hcl hsl hP hD hS kk
  | anewarray idx => exact am_sC_newq hok h hx hb hdg hown hts henv hA hw hsv hcl hsl hP hD hS kk
  | ldc idx => exact am_sC_ldc hok h hx hb hdg hown hts hP hD hS kk
  | ldc2_w idx => exact am_sC_ldc2 hok h hx hb hdg hown hts hP hD hS kk
  | _ => cases h
set_option maxHeartbeats 4000000 in
theorem am_sR {n : Nat} {i : Instr} {ret : Option FieldType} {st : List Value} {r : Option Value} {Qc : Array Value → State → Outcome → State → Prop} {free : Addr → Prop} (h : am_ret ret i n st = some r) (hx : p.tables.exec = Jvm.exec) (hb : c.code = cc) (hr : meth.sig.returnType = ret) (hlocks : meth.locks = false) (hdg : decode cc pc = .ok (i, n))
    (hq : ∀ t : State, t.heap = H → s.WarmedH t.vm → Qc args s (.returned (r.map (am_v ad))) t) (hf : ∀ q ∈ locs, free q.base) : W p l e R s m args below meth c H locs cells slots (MQ below Qc args s cells slots free) (F0 m pc ls (st.map (am_v ad))) := by
  cases i with
  | return_ =>
    dsimp only [am_ret] at h
    split at h
    · split at h
      · rename_i h1
        subst h1
        cases h
        exact W.vret hx hb hr hq hf hdg hlocks
      · cases h
    · cases h
  | ireturn =>
    dsimp only [am_ret] at h
    split at h
    · split at h
      · rename_i h1
        obtain ⟨rfl, h2⟩ := h1
        cases h
        exact W.zret hx hb hr (am_okv_inv h2).1 hq hf hdg hlocks
      · cases h
    · cases h
  | lreturn =>
    dsimp only [am_ret] at h
    split at h
    · split at h
      · rename_i h1
        subst h1
        cases h
        exact W.lret hx hb hr hq hf hdg hlocks
      · cases h
    · cases h
  | areturn =>
    dsimp only [am_ret] at h
    split at h
    · split at h
      · rename_i h1
        subst h1
        cases h
        exact W.aret hx hb hr (Or.inl ⟨_, rfl⟩) (Or.inr ⟨_, rfl⟩) hq hf hdg hlocks
      · cases h
    · split at h
      · rename_i h1
        subst h1
        cases h
        exact W.aret hx hb hr (Or.inr ⟨_, rfl⟩) (Or.inr ⟨_, rfl⟩) hq hf hdg hlocks
      · cases h
    · cases h
  | _ => cases h
theorem am_row_in {M : am_M} {pc : Nat} {q : Instr × Nat} (h : am_row M pc = some q) : (pc, q) ∈ M.2.2.2.2.2 := by
  unfold am_row at h
  cases hf : M.2.2.2.2.2.find? (fun q => q.1 == pc) with
  | none => rw [hf] at h; cases h
  | some x =>
    rw [hf] at h
    cases h
    have h1 := List.mem_of_find?_eq_some hf
    have h2 : x.1 = pc := by simpa using List.find?_some hf
    rw [← h2]
    exact h1
set_option maxHeartbeats 4000000 in
/-- a method's body, from any of its places -/
theorem am_sx {fuel d j mc ms : Nat} {M : am_M} {AH0 AH' : am_H} {ad0 : Nat → Nat} {sz : Nat} {r : Option Value} (hsnd : am_snd l G Ts nst D ca fuel d) (hok : am_ok G Ts) (hm : am_okm G Ts nst) (hM : G.2.2.2.1[j]? = some M)
    (hx : p.tables.exec = Jvm.exec) (hb : c.code = M.2.1) (hml : c.maxLocals = M.2.2.1) (hr : meth.sig.returnType = M.2.2.2.1) (hlocks : meth.locks = false) (hown : s.vm.findClass M.1.cls = some m.cls) (hnm : meth.name = M.1.name) (hts : ∀ w ∈ Ts, w.before args s = true) (henv : am_env2 G nst D ca s) (hA : ∀ q, s.heap.size ≤ q → va_A (am_w ad0 ca AH0) sz q) (hRc : R.cells = mc) (hRs : R.slots = ms) (hRf : d + 1 ≤ R.frames) (hRl : (d + 1) * 64 ≤ R.locals) (emc : mc = AH'.length - AH0.length) (ems : ms = am_sz AH' - am_sz AH0) :
    ∀ (f pc : Nat) (lv : am_L) (st : List Value) (AH : am_H) (H : Heap) (ls : Array Slot) (locs : List Loc) (cells slots : Nat) (ad : Nat → Nat), am_exec G (am_call G fuel d) M f pc lv st AH = some (r, AH') → am_hw AH → am_wl AH.length lv → am_ws AH.length st → lv_has ls M.2.2.1 (lv.map (am_q ad)) → va_P D G.1 (am_w ad ca AH) H → va_D (va_A (am_w ad0 ca AH0) sz) (am_w ad ca AH) → va_S (va_A (am_w ad0 ca AH0) sz) s.heap H locs → am_agree AH0.length ad0 ad → AH0.length ≤ AH.length → am_sz AH0 ≤ am_sz AH → cells = AH.length - AH0.length → slots = am_sz AH - am_sz AH0 →
      W p l e R s m args below meth c H locs cells slots (MQ below (am_Qc G D ca ad0 sz r AH0 AH') args s mc ms (va_A (am_w ad0 ca AH0) sz)) (F0 m pc ls (st.map (am_v ad))) := by
  have hkeep := am_wcall G fuel d
  intro f
  induction f with
  | zero => intro pc lv st AH H ls locs cells slots ad h; cases h
  | succ f ih =>
    intro pc lv st AH H ls locs cells slots ad h hw hwl hws hl hP hD hS hag hle hlz ec es
    unfold am_exec at h
    split at h
    · rename_i i n hrow
      have hdg := (hm.1 j M hM).2.2.2.2 (pc, (i, n)) (am_row_in hrow)
      dsimp only at hdg
      split at h
      · rename_i pc1 lv1 st1 AH1 h1
        unfold am_one at h1
        split at h1
        · rename_i hA1
          cases h1
          obtain ⟨a1, a2⟩ := am_wA hA1 hwl hws
          exact am_sA hA1 hx hb hdg hl (fun ls' hl' => ih _ _ _ _ _ _ _ _ _ _ h hw a1 a2 hl' hP hD hS hag hle hlz ec es)
        · split at h1
          · rename_i hB1
            cases h1
            exact am_sB hB1 hx hb hdg (ih _ _ _ _ _ _ _ _ _ _ h hw hwl (am_wB hB1 hws) hl hP hD hS hag hle hlz ec es)
          · split at h1
            · rename_i hC1
              cases h1
              obtain ⟨a1, a2⟩ := am_wC hC1 hw hws
              have g1 := (am_wexec hkeep _ _ _ _ _ _ _ h a1.1 (am_wl_mono a1.2.1 hwl) a2).1
              have x1 := a1.2.1
              have x2 := a1.2.2
              have x3 := g1.2.1
              have x4 := g1.2.2
              refine am_sC hok hC1 hx hb hdg hown hts (fun hi => by rw [hnm]; simpa using hi) henv.1 hP hD hS hA hw hws (by omega) (by omega) (fun ad' H1 locs1 hag1 hP1 hD1 hS1 => ?_)
              refine ih _ _ _ _ _ _ _ _ _ _ h a1.1 (am_wl_mono a1.2.1 hwl) a2 (by rw [am_lv_agree hag1 hwl]; exact hl) hP1 hD1 hS1 (fun k hk => (hag1 k (by omega)).trans (hag k hk)) (by omega) (by omega) (by omega) (by omega)
            · split at h1
              · rename_i hD1
                cases h1
                obtain ⟨a1, a2⟩ := am_wD hkeep hD1 hw hws
                have g1 := (am_wexec hkeep _ _ _ _ _ _ _ h a1.1 (am_wl_mono a1.2.1 hwl) a2).1
                have x1 := a1.2.1
                have x2 := a1.2.2
                have x3 := g1.2.1
                have x4 := g1.2.2
                refine am_sD hsnd hok hm hD1 hx hb hml hl.1 hdg hown hts henv hP hD hS hA hw hws (by omega) (by omega) hRf hRl (fun ad' H1 locs1 hag1 hP1 hD1 hS1 => ?_)
                refine ih _ _ _ _ _ _ _ _ _ _ h a1.1 (am_wl_mono a1.2.1 hwl) a2 (by rw [am_lv_agree hag1 hwl]; exact hl) hP1 hD1 hS1 (fun k hk => (hag1 k (by omega)).trans (hag k hk)) (by omega) (by omega) (by omega) (by omega)
              · split at h1
                · cases h1
                · cases h1
      · rename_i h1
        cases h
        unfold am_one at h1
        split at h1
        · cases h1
        · split at h1
          · cases h1
          · split at h1
            · cases h1
            · split at h1
              · cases h1
              · split at h1
                · rename_i hR
                  cases h1
                  have e1 : cells = mc := by omega
                  have e2 : slots = ms := by omega
                  subst e1
                  subst e2
                  exact am_sR hR hx hb hr hlocks hdg (fun t ht hW => ⟨⟨ad, hag, rfl, by rw [ht]; exact hP, hD⟩, hS.F ht⟩) hS.2.2
                · cases h1
      · cases h
    · cases h
theorem am_lvargs_map (ad : Nat → Nat) : ∀ (as : List Value) (k : Nat), lv_args k (as.map (am_v ad)) = (lv_args k as).map (am_q ad)
  | [], k => rfl
  | v :: as, k => by
    rw [List.map_cons]
    unfold lv_args
    rw [am_v_cat, am_lvargs_map ad as, List.map_cons]
    rfl
theorem am_sl_len (ad : Nat → Nat) (as : List Value) : (lg_sl (as.map (am_v ad))).length = (lg_sl as).length := by
  unfold lg_sl
  induction as with
  | nil => rfl
  | cons v as ih =>
    rw [List.map_cons, List.flatMap_cons, List.flatMap_cons, List.length_append, List.length_append, ih, am_v_cat]
    by_cases h : v.category = 2
    · rw [if_pos h, if_pos h]; rfl
    · rw [if_neg h, if_neg h]; rfl
set_option maxHeartbeats 4000000 in
/-- THE MACHINE FOLLOWS THE ABSTRACT ONE -/
theorem am_sound (l : Launch) (hok : am_ok G Ts) (hm : am_okm G Ts nst) (fuel : Nat) : ∀ d, am_snd l G Ts nst D ca fuel d := by
  intro d
  induction d with
  | zero => intro j as AH AH' r M h; cases h
  | succ d ih =>
    intro j as AH AH' r M h hM hw hws ad sz
    unfold am_call at h
    rw [hM] at h
    dsimp only at h
    split at h
    · rename_i hlen
      obtain ⟨-, -, -, hpl, -⟩ := hm.1 j M hM
      refine Met.ofW (cc := M.2.1) (maxL := M.2.2.1) (ret := M.2.2.2.1) hpl rfl ?_
      intro p e s m args below meth c s₁ B hml hv
      obtain ⟨rfl, hsz, hP, henv, hD0⟩ := hv
      have hts0 := atoms_spec (ws := Cond.code M.1 M.2.1 M.2.2.1 M.2.2.2.1 :: Ts) B.pre
      have hown : s.vm.findClass M.1.cls = some m.cls := findClass_of_methodNamed B.named
      subst hsz
      have hl := lv_entry (as.map (am_v ad)) (n := M.2.2.1) (by rw [am_sl_len]; exact hlen.1)
      rw [lg_entry_eq]
      rw [am_lvargs_map] at hl
      exact am_sx (j := j) ih hok hm hM B.exec B.bytes hml B.returns B.notSynchronized hown (name_of_methodNamed B.named B.method).1 (fun w hw => hts0 w (List.mem_cons_of_mem _ hw)) henv (fun q hq => Or.inr hq) rfl rfl (Nat.le_refl _) (Nat.le_refl _) rfl rfl fuel 0 (lv_args 0 as) [] AH s.heap _ [] 0 0 ad h hw (am_lvargs_w as 0 hws) (am_ws_nil _) hl hP hD0.self va_S.rf (fun _ _ => rfl) (Nat.le_refl _) (Nat.le_refl _) (Nat.sub_self _).symm (Nat.sub_self _).symm
    · cases h
end AMF
