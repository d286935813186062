/-- what the methods and the calls are, in the tables' words -/
def am_okm (G : am_G) (Ts nst : List Cond) : Prop :=
  (∀ (j : Nat) (M : am_M), G.2.2.2.1[j]? = some M → Cond.code M.1 M.2.1 M.2.2.1 M.2.2.2.1 ∈ Ts ∧ Cond.initialized M.1.cls ∈ Ts ∧ (M.1.cls ≠ "java/lang/invoke/MethodHandle" ∧ M.1.cls ≠ "java/lang/invoke/VarHandle" ∧ (parseMethodDescriptor M.1.desc).map (fun d => d.parameters.length) = some M.2.2.2.2.1) ∧ plainName M.1.cls = true ∧ ∀ q ∈ M.2.2.2.2.2, decode M.2.1 q.1 = .ok q.2)
  ∧ (∀ own idx j z M, G.2.2.1 own idx = some (1, j, 0, z) → G.2.2.2.1[j]? = some M → Cond.methodLink own idx M.1 ∈ Ts ∧ Cond.instanceMethod M.1 ∈ Ts ∧ Cond.selects M.1.cls M.1 M.1 ∈ Ts)
  ∧ (∀ own idx j z M, G.2.2.1 own idx = some (1, j, 1, z) → G.2.2.2.1[j]? = some M → Cond.methodLink own idx M.1 ∈ Ts ∧ Cond.instanceMethod M.1 ∈ Ts ∧ M.1.name = "<init>" ∧ M.2.2.2.1 = none)
  ∧ (∀ own idx j z M, G.2.2.1 own idx = some (1, j, 2, z) → G.2.2.2.1[j]? = some M → (∃ host, Cond.methodLinkNest own idx M.1 host ∈ nst) ∧ Cond.instanceMethod M.1 ∈ Ts ∧ M.1.name = "<init>" ∧ M.2.2.2.1 = none)
  ∧ (∀ own idx j z M, G.2.2.1 own idx = some (1, j, 3, z) → G.2.2.2.1[j]? = some M → Cond.methodLink own idx M.1 ∈ Ts ∧ Cond.static M.1 ∈ Ts)
  ∧ (∀ own idx j z M, G.2.2.1 own idx = some (1, j, 4, z) → G.2.2.2.1[j]? = some M → (∃ host, Cond.methodLinkNest own idx M.1 host ∈ nst) ∧ Cond.static M.1 ∈ Ts)
  ∧ (∀ own idx j k z, G.2.2.1 own idx = some (5, j, k, z) → Cond.methodLink own idx Lib.objectInit ∈ Ts ∧ Cond.instanceMethod Lib.objectInit ∈ Ts ∧ Cond.code Lib.objectInit ⟨#[0xb1]⟩ 1 none ∈ Ts)
  ∧ (∀ own idx j k z, G.2.2.1 own idx = some (4, j, k, z) → Cond.methodLink own idx arraycopyName ∈ Ts ∧ Cond.native arraycopyName ∈ Ts ∧ Cond.static arraycopyName ∈ Ts ∧ Cond.initialized "java/lang/System" ∈ Ts)
  ∧ (∀ w ∈ Ts, goodWord w = true)
  ∧ (∀ w ∈ nst, ∃ a i y h, w = Cond.methodLinkNest a i y h)
  ∧ (∀ own idx j k z, G.2.2.1 own idx = some (8, j, k, z) → Cond.methodLink own idx Lib.Math.max.name ∈ Ts ∧ Cond.static Lib.Math.max.name ∈ Ts ∧ Cond.initialized "java/lang/Math" ∈ Ts ∧ Cond.code Lib.Math.max.name Lib.Math.max.code 2 (some .int) ∈ Ts)
  ∧ (∀ own idx j k z, G.2.2.1 own idx = some (9, j, k, z) → Cond.methodLink own idx Lib.Math.min.name ∈ Ts ∧ Cond.static Lib.Math.min.name ∈ Ts ∧ Cond.initialized "java/lang/Math" ∈ Ts ∧ Cond.code Lib.Math.min.name Lib.Math.min.code 2 (some .int) ∈ Ts)
def am_env2 (G : am_G) (nst : List Cond) (D : va_G) (ca : FieldType → ClassId) (s : State) : Prop := am_env G D ca s ∧ ∀ w ∈ nst, va_Nw w s
def am_rm (d mc ms : Nat) : Room := { frames := d, cells := mc, slots := ms, locals := d * 64 }
def am_Pc (G : am_G) (nst : List Cond) (D : va_G) (ca : FieldType → ClassId) (ad : Nat → Nat) (sz : Nat) (as : List Value) (AH : am_H) : Array Value → State → Prop :=
  va_Pc (as.map (am_v ad)) (fun U => U.heap.size = sz ∧ va_P D G.1 (am_w ad ca AH) U.heap ∧ am_env2 G nst D ca U ∧ va_D (fun _ => True) (am_w ad ca AH))
def am_Qc (G : am_G) (D : va_G) (ca : FieldType → ClassId) (ad : Nat → Nat) (sz : Nat) (r : Option Value) (AH AH' : am_H) : Array Value → State → Outcome → State → Prop := fun _ st oc t =>
  (∃ ad' : Nat → Nat, am_agree AH.length ad ad' ∧ oc = .returned (r.map (am_v ad')) ∧ va_P D G.1 (am_w ad' ca AH') t.heap ∧ va_D (va_A (am_w ad ca AH) sz) (am_w ad' ca AH')) ∧ va_F (va_A (am_w ad ca AH) sz) st t
theorem am_env2_warm {G : am_G} {nst : List Cond} {D : va_G} {ca : FieldType → ClassId} {s U : State} (hn : ∀ w ∈ nst, ∃ a i y h, w = Cond.methodLinkNest a i y h) (hW : s.WarmedH U.vm) (h : am_env2 G nst D ca s) : am_env2 G nst D ca U :=
  ⟨⟨va_K.moved hW.alike h.1.1, fun C hC => va_AO.moved hW.alike (h.1.2 C hC)⟩, fun w hw => by
    obtain ⟨a, i, y, hh, rfl⟩ := hn w hw
    exact va_Nw.warmM hW (h.2 _ hw)⟩
theorem am_env2_same {G : am_G} {nst : List Cond} {D : va_G} {ca : FieldType → ClassId} {s U : State} (hn : ∀ w ∈ nst, ∃ a i y h, w = Cond.methodLinkNest a i y h) (e : s.vm = U.vm) (h : am_env2 G nst D ca s) : am_env2 G nst D ca U :=
  ⟨⟨va_K.moved (by rw [e]; exact Vm.Alike.refl _) h.1.1, fun C hC => va_AO.moved (by rw [e]; exact Vm.Alike.refl _) (h.1.2 C hC)⟩, fun w hw => by
    obtain ⟨a, i, y, hh, rfl⟩ := hn w hw
    exact va_Nw.same rfl e (h.2 _ hw)⟩
theorem am_blind {G : am_G} {nst : List Cond} {D : va_G} {ca : FieldType → ClassId} {ad : Nat → Nat} {sz : Nat} {as : List Value} {AH : am_H} (hn : ∀ w ∈ nst, ∃ a i y h, w = Cond.methodLinkNest a i y h) : FrameBlind (am_Pc G nst D ca ad sz as AH) := fun a U g mk q => by
  obtain ⟨q0, q1, qP, qE, qD⟩ := q
  exact ⟨q0, q1, qP, am_env2_same (s := U) (U := U.calling g mk a) hn rfl qE, qD⟩
section AME
variable {p : Program} {l : Launch} {e : Env} {R : Room} {s : State} {m : MethodId} {args : Array Value} {below : List Frame} {meth : Method} {c : Code} {H : Heap} {locs : List Loc} {cells slots : Nat} {Q : State → Prop}
variable {cc : ByteArray} {pc : Nat} {ls : Array Slot} {ad : Nat → Nat} {G : am_G} {Ts nst : List Cond} {D : va_G} {ca : FieldType → ClassId} {A : Nat → Prop} {H0 : Heap} {own : String}
theorem am_AA {AH : am_H} (hD : va_D A (am_w ad ca AH)) (hS : va_S A H0 H locs) (hA : ∀ q, H0.size ≤ q → A q) : ∀ q, va_A (am_w ad ca AH) H.size q → A q := by
  intro q h
  rcases h with ⟨k, e, h⟩ | h
  · exact hD.2 k (q, e) h
  · exact hA q (Nat.le_trans hS.1 h)
/-- behind a call -/
theorem am_goon {AH AH' : am_H} {r : Option Value} {mc ms : Nat} {st0 rest : List Value} {a : Array Value} (hr : va_Run p l e R s m args below meth c H locs cells slots mc ms (F0 m pc ls st0) rest (am_Qc G D ca ad H.size r AH AH' a) (va_A (am_w ad ca AH) H.size))
    (hD : va_D A (am_w ad ca AH)) (hS : va_S A H0 H locs) (hA : ∀ q, H0.size ≤ q → A q)
    (kk : ∀ (ad' : Nat → Nat) (H1 : Heap) (locs1 : List Loc), am_agree AH.length ad ad' → va_P D G.1 (am_w ad' ca AH') H1 → va_D A (am_w ad' ca AH') → va_S A H0 H1 locs1 → W p l e R s m args below meth c H1 locs1 (cells + mc) (slots + ms) Q (F0 m (pc + 3) ls ((r.map (am_v ad')).toList ++ rest))) :
    W p l e R s m args below meth c H locs cells slots Q (F0 m pc ls st0) := by
  have hAA := am_AA hD hS hA
  intro T hT X
  obtain ⟨v, st₀, t, T', L, h0, X', hL, e1, e2, ⟨⟨ad', hag, hv, hp, hd⟩, hz, hk⟩, st⟩ := hr T hT X
  cases hv
  rw [h0] at hz hk
  obtain ⟨t2, a1, b1⟩ := kk ad' T'.heap (locs ++ L) hag (by rw [e1]; exact hp) (hd.weaken (fun k q _ h => hAA q.1 h))
    ⟨Nat.le_trans hS.1 (by rw [e1]; exact hz), fun q h1 h2 => by rw [e1, hk q (Nat.lt_of_lt_of_le h1 hS.1) (fun z => h2 (hAA q z))]; exact hS.2.1 q h1 h2, fun q hq => by
      rcases List.mem_append.mp hq with h | h
      · exact hS.2.2 q h
      · exact hAA _ (hL q h)⟩ T' rfl X'
  exact ⟨t2, st t2 a1, b1⟩
theorem am_call_M {fuel d j : Nat} {as : List Value} {AH : am_H} {x : Option Value × am_H} {M : am_M} (h : am_call G fuel d j as AH = some x) (hM : G.2.2.2.1[j]? = some M) : M.2.2.1 ≤ 45 := by
  cases d with
  | zero => cases h
  | succ d =>
    unfold am_call at h
    rw [hM] at h
    dsimp only at h
    split at h
    · rename_i hc; exact hc.2
    · cases h
theorem am_stk (ad : Nat → Nat) {st r : List Value} {k : Nat} {v : Value} (h : st.drop k = v :: r) : st.map (am_v ad) = (((st.take k).reverse).map (am_v ad)).reverse ++ am_v ad v :: r.map (am_v ad) := by
  conv => lhs; rw [← List.take_append_drop k st, h]
  rw [List.map_append, List.map_cons, List.map_reverse, List.reverse_reverse]
theorem am_stk2 (ad : Nat → Nat) {st : List Value} (k : Nat) : st.map (am_v ad) = (((st.take k).reverse).map (am_v ad)).reverse ++ (st.drop k).map (am_v ad) := by
  conv => lhs; rw [← List.take_append_drop k st]
  rw [List.map_append, List.map_reverse, List.reverse_reverse]
theorem am_cats (ad : Nat → Nat) (r : List Value) : ((r.map (am_v ad)).map fun v => v.category).sum = (r.map fun v => v.category).sum := by
  rw [List.map_map]
  congr 1
  apply List.map_congr_left
  intro v _
  exact am_v_cat ad v
theorem am_kret {AH' : am_H} {v : Option Value} {r : List Value} {n : Nat} {ad' : Nat → Nat} {N : Nat} (hag : am_agree N ad ad') (hr : am_ws N r) (hv : (v.toList ++ r).map (am_v ad') = (v.map (am_v ad')).toList ++ r.map (am_v ad)) : True := trivial
theorem am_tl (ad ad' : Nat → Nat) (v : Option Value) (r : List Value) (h : r.map (am_v ad') = r.map (am_v ad)) : (v.toList ++ r).map (am_v ad') = (v.map (am_v ad')).toList ++ r.map (am_v ad) := by
  rw [List.map_append, h]
  cases v <;> rfl
/-- contracts of all calls at a depth -/
def am_snd (l : Launch) (G : am_G) (Ts nst : List Cond) (D : va_G) (ca : FieldType → ClassId) (fuel d : Nat) : Prop := ∀ (j : Nat) (as : List Value) (AH AH' : am_H) (r : Option Value) (M : am_M), am_call G fuel d j as AH = some (r, AH') → G.2.2.2.1[j]? = some M → am_hw AH → am_ws AH.length as → ∀ (ad : Nat → Nat) (sz : Nat),
  Met l M.1 (Cond.code M.1 M.2.1 M.2.2.1 M.2.2.2.1 :: Ts) (am_rm d (AH'.length - AH.length) (am_sz AH' - am_sz AH)) (am_Pc G nst D ca ad sz as AH) (am_Qc G D ca ad sz r AH AH') (AH'.length - AH.length) (am_sz AH' - am_sz AH) (va_A (am_w ad ca AH) sz)
theorem am_good {M : am_M} (hm : am_okm G Ts nst) {j : Nat} (hM : G.2.2.2.1[j]? = some M) : GoodIn Ts (Cond.code M.1 M.2.1 M.2.2.1 M.2.2.2.1 :: Ts) := by
  have hg := hm.2.2.2.2.2.2.2.2.1
  intro w hw
  rcases List.mem_cons.mp hw with rfl | h
  · exact ⟨(hm.1 j M hM).1, good_of_word (hg _ (hm.1 j M hM).1)⟩
  · exact ⟨h, good_of_word (hg w h)⟩
theorem am_isC_inv {AH : am_H} {b : Nat} {C : String} (h : am_isC G AH b C = true) : ∃ ci fs q, AH[b]? = some (.inr (ci, fs)) ∧ G.1[ci]? = some q ∧ q.1 = C := by
  unfold am_isC at h
  split at h
  · split at h
    · exact ⟨_, _, _, by assumption, by assumption, by simpa using h⟩
    · cases h
  · cases h
set_option maxHeartbeats 4000000 in
/-- the machine follows: a call -/
theorem am_sD {fuel d nL n : Nat} {i : Instr} {st st' : List Value} {AH AH' : am_H} (hsnd : am_snd l G Ts nst D ca fuel d) (hok : am_ok G Ts) (hm : am_okm G Ts nst) (h : am_stD G (am_call G fuel d) own i n st AH = some (st', AH')) (hx : p.tables.exec = Jvm.exec) (hb : c.code = cc) (hml : c.maxLocals = nL) (hlsz : ls.size = nL) (hdg : decode cc pc = .ok (i, n)) (hown : s.vm.findClass own = some m.cls) (hts : ∀ w ∈ Ts, w.before args s = true) (henv : am_env2 G nst D ca s)
    (hP : va_P D G.1 (am_w ad ca AH) H) (hD : va_D A (am_w ad ca AH)) (hS : va_S A H0 H locs) (hA : ∀ q, H0.size ≤ q → A q) (hw : am_hw AH) (hsv : am_ws AH.length st) (hcl : cells + (AH'.length - AH.length) ≤ R.cells) (hsl : slots + (am_sz AH' - am_sz AH) ≤ R.slots) (hRf : d + 1 ≤ R.frames) (hRl : (d + 1) * 64 ≤ R.locals)
    (kk : ∀ (ad' : Nat → Nat) (H1 : Heap) (locs1 : List Loc), am_agree AH.length ad ad' → va_P D G.1 (am_w ad' ca AH') H1 → va_D A (am_w ad' ca AH') → va_S A H0 H1 locs1 → W p l e R s m args below meth c H1 locs1 (cells + (AH'.length - AH.length)) (slots + (am_sz AH' - am_sz AH)) Q (F0 m (pc + n) ls (st'.map (am_v ad')))) :
    W p l e R s m args below meth c H locs cells slots Q (F0 m pc ls (st.map (am_v ad))) := by
  have hroom : ∀ {j : Nat} {as : List Value} {x : Option Value × am_H} {M : am_M}, am_call G fuel d j as AH = some x → G.2.2.2.1[j]? = some M → (am_rm d (AH'.length - AH.length) (am_sz AH' - am_sz AH)).frames + 1 ≤ R.frames ∧ 8 + (M.2.2.1 + 11) + (am_rm d (AH'.length - AH.length) (am_sz AH' - am_sz AH)).locals ≤ R.locals := by
    intro j as x M h1 h2
    have h3 := am_call_M h1 h2
    refine ⟨hRf, ?_⟩
    show 8 + (M.2.2.1 + 11) + d * 64 ≤ R.locals
    omega
  have hnst := hm.2.2.2.2.2.2.2.2.2.1
  have hpre : ∀ (as : List Value), PreS s H (am_Pc G nst D ca ad H.size as AH) (as.map (am_v ad)) := fun as => ⟨am_blind hnst, fun U hU hW => ⟨rfl, by rw [hU], by rw [hU]; exact hP, am_env2_warm hnst hW henv, hD.weaken (fun _ _ _ _ => trivial)⟩⟩
  cases i with
  | invokevirtual idx =>
    dsimp only [am_stD] at h
    split at h
    · rename_i j z hk
      obtain ⟨M, b, r, v, hM, hdr, rfl, hnp, hcat, hchk, hcl1, rfl⟩ := am_cv_inv h
      obtain ⟨hcode, hini, hd3, hpl, -⟩ := hm.1 j M hM
      obtain ⟨hlk, hin, hsel⟩ := hm.2.1 own idx j z M hk hM
      have hwr := am_ws_drop M.2.2.2.2.1 hsv
      rw [hdr] at hwr
      have hMet := hsnd j _ AH AH' v M hcl1 hM hw (am_ws_cons.mpr ⟨(am_ws_cons.mp hwr).1, am_ws_take _ hsv⟩) ad H.size
      have cb : CallW R s args own M.1.cls idx M.1 M.2.1 M.2.2.1 M.2.2.2.1 (Cond.code M.1 M.2.1 M.2.2.1 M.2.2.2.1 :: Ts) (am_rm d (AH'.length - AH.length) (am_sz AH' - am_sz AH)) (AH'.length - AH.length) (am_sz AH' - am_sz AH) M.2.2.2.2.1 :=
        ⟨callB_of M.2.2.2.2.1 hts (am_good hm hM) rfl rfl rfl (hts _ hini) (hts _ hlk) hd3 (hroom hcl1 hM), hts _ hin, hts _ hsel⟩
      obtain ⟨ci, fs, q, hb1, hb2, hb3⟩ := am_isC_inv (hchk rfl)
      have hrec := va_recv henv.1.1 hP hb2 (am_w_get (ad := ad) (ca := ca) hb1)
      rw [hb3] at hrec
      have hpv : PreV s H M.1.cls (ad b) (am_Pc G nst D ca ad H.size (.ref b :: (st.take M.2.2.2.2.1).reverse) AH) (((st.take M.2.2.2.2.1).reverse).map (am_v ad)) := ⟨am_blind hnst, hrec, (hpre (.ref b :: (st.take M.2.2.2.2.1).reverse)).2⟩
      have hrun := va_runV (p := p) (e := e) (below := below) (meth := meth) (locs := locs) (cells := cells) (slots := slots) (rest := r.map (am_v ad)) (g := F0 m pc ls (st.map (am_v ad))) ⟨hx, hb, hml, hown, hts⟩ hMet cb hpv rfl (by rw [List.length_map, List.length_reverse, List.length_take]; omega) hlsz (am_stk ad hdr) (lv_room (by rw [am_cats]; exact hcat)) hdg ⟨hcl, hsl⟩
      refine am_goon hrun hD hS hA (fun ad' H1 locs1 hag hP1 hD1 hS1 => ?_)
      have k1 := kk ad' H1 locs1 hag hP1 hD1 hS1
      rw [am_tl ad ad' v r (am_st_agree hag (am_ws_cons.mp hwr).2)] at k1
      exact k1
    · cases h
  | invokespecial idx =>
    dsimp only [am_stD] at h
    split at h
    · rename_i j z hk
      obtain ⟨M, b, r, v, hM, hdr, rfl, hnp, hcat, hchk, hcl1, rfl⟩ := am_cv_inv h
      obtain ⟨hcode, hini, hd3, hpl, -⟩ := hm.1 j M hM
      obtain ⟨hlk, hin, hnm, hret⟩ := hm.2.2.1 own idx j z M hk hM
      have hwr := am_ws_drop M.2.2.2.2.1 hsv
      rw [hdr] at hwr
      have hMet := hsnd j _ AH AH' v M hcl1 hM hw (am_ws_cons.mpr ⟨(am_ws_cons.mp hwr).1, am_ws_take _ hsv⟩) ad H.size
      have cb := callB_of (own := own) (index := idx) M.2.2.2.2.1 hts (am_good hm hM) rfl rfl rfl (hts _ hini) (hts _ hlk) hd3 (hroom hcl1 hM)
      rw [hret] at hMet cb
      have hrun := va_runI (p := p) (e := e) (below := below) (meth := meth) (locs := locs) (cells := cells) (slots := slots) (b := ad b) (As := ((st.take M.2.2.2.2.1).reverse).map (am_v ad)) (rest := r.map (am_v ad)) (g := F0 m pc ls (st.map (am_v ad))) ⟨hx, hb, hml, hown, hts⟩ hMet ⟨cb, hnm, hts _ hin⟩ (hpre (.ref b :: (st.take M.2.2.2.2.1).reverse)) rfl (by rw [List.length_map, List.length_reverse, List.length_take]; omega) hlsz (am_stk ad hdr) (lv_room (by rw [am_cats]; exact hcat)) hdg ⟨hcl, hsl⟩
      refine am_goon hrun hD hS hA (fun ad' H1 locs1 hag hP1 hD1 hS1 => ?_)
      have k1 := kk ad' H1 locs1 hag hP1 hD1 hS1
      rw [am_tl ad ad' v r (am_st_agree hag (am_ws_cons.mp hwr).2)] at k1
      exact k1
    · rename_i j z hk
      obtain ⟨M, b, r, v, hM, hdr, rfl, hnp, hcat, hchk, hcl1, rfl⟩ := am_cv_inv h
      obtain ⟨hcode, hini, hd3, hpl, -⟩ := hm.1 j M hM
      obtain ⟨⟨host, hlk⟩, hin, hnm, hret⟩ := hm.2.2.2.1 own idx j z M hk hM
      have hwr := am_ws_drop M.2.2.2.2.1 hsv
      rw [hdr] at hwr
      have hMet := hsnd j _ AH AH' v M hcl1 hM hw (am_ws_cons.mpr ⟨(am_ws_cons.mp hwr).1, am_ws_take _ hsv⟩) ad H.size
      have cb := va_cnB (own := own) (index := idx) (host := host) M.2.2.2.2.1 hts (am_good hm hM) rfl rfl rfl (henv.2 _ hlk) (hts _ hini) hd3 (hroom hcl1 hM)
      rw [hret] at hMet cb
      have hrun := va_runIN (p := p) (e := e) (below := below) (meth := meth) (locs := locs) (cells := cells) (slots := slots) (b := ad b) (As := ((st.take M.2.2.2.2.1).reverse).map (am_v ad)) (rest := r.map (am_v ad)) (g := F0 m pc ls (st.map (am_v ad))) ⟨hx, hb, hml, hown, hts⟩ hMet ⟨cb, hnm, hts _ hin⟩ (hpre (.ref b :: (st.take M.2.2.2.2.1).reverse)) rfl (by rw [List.length_map, List.length_reverse, List.length_take]; omega) hlsz (am_stk ad hdr) (lv_room (by rw [am_cats]; exact hcat)) hdg ⟨hcl, hsl⟩
      refine am_goon hrun hD hS hA (fun ad' H1 locs1 hag hP1 hD1 hS1 => ?_)
      have k1 := kk ad' H1 locs1 hag hP1 hD1 hS1
      rw [am_tl ad ad' v r (am_st_agree hag (am_ws_cons.mp hwr).2)] at k1
      exact k1
    · rename_i j k z hk
      split at h
      · rename_i a r
        split at h
        · rename_i hc
          obtain ⟨rfl, hcat⟩ := hc
          cases h
          obtain ⟨h1, h2, h3⟩ := hm.2.2.2.2.2.2.1 own idx j k z hk
          refine W.objInit (a := ad a) (rest := st'.map (am_v ad)) hx hb hown (hts _ h1) (hts _ h2) (hts _ h3) rfl (by rw [hml]; exact hlsz) rfl hdg (by omega) (by show 2 * 0 + _ + 12 ≤ _; rw [am_cats]; omega) ?_
          exact am_kid (st' := st') (n := 3) hP hD hS kk
        · cases h
      · cases h
    · cases h
  | invokestatic idx =>
    dsimp only [am_stD] at h
    split at h
    · rename_i j z hk
      obtain ⟨M, v, hM, rfl, hnp, hcat, hcl1, rfl⟩ := am_cs_inv h
      obtain ⟨hcode, hini, hd3, hpl, -⟩ := hm.1 j M hM
      obtain ⟨hlk, hstt⟩ := hm.2.2.2.2.1 own idx j z M hk hM
      have hwr := am_ws_drop M.2.2.2.2.1 hsv
      have hMet := hsnd j _ AH AH' v M hcl1 hM hw (am_ws_take _ hsv) ad H.size
      have cb := callB_of (own := own) (index := idx) M.2.2.2.2.1 hts (am_good hm hM) rfl rfl rfl (hts _ hini) (hts _ hlk) hd3 (hroom hcl1 hM)
      have hrun := va_runS (p := p) (e := e) (below := below) (meth := meth) (locs := locs) (cells := cells) (slots := slots) (As := ((st.take M.2.2.2.2.1).reverse).map (am_v ad)) (rest := (st.drop M.2.2.2.2.1).map (am_v ad)) (g := F0 m pc ls (st.map (am_v ad))) ⟨hx, hb, hml, hown, hts⟩ hMet ⟨cb, hts _ hstt⟩ (hpre (st.take M.2.2.2.2.1).reverse) rfl (by rw [List.length_map, List.length_reverse, List.length_take]; omega) hlsz (am_stk2 ad _) (lv_room (by rw [am_cats]; exact hcat)) hdg ⟨hcl, hsl⟩
      refine am_goon hrun hD hS hA (fun ad' H1 locs1 hag hP1 hD1 hS1 => ?_)
      have k1 := kk ad' H1 locs1 hag hP1 hD1 hS1
      rw [am_tl ad ad' v _ (am_st_agree hag hwr)] at k1
      exact k1
    · rename_i j z hk
      obtain ⟨M, v, hM, rfl, hnp, hcat, hcl1, rfl⟩ := am_cs_inv h
      obtain ⟨hcode, hini, hd3, hpl, -⟩ := hm.1 j M hM
      obtain ⟨⟨host, hlk⟩, hstt⟩ := hm.2.2.2.2.2.1 own idx j z M hk hM
      have hwr := am_ws_drop M.2.2.2.2.1 hsv
      have hMet := hsnd j _ AH AH' v M hcl1 hM hw (am_ws_take _ hsv) ad H.size
      have cb := va_cnB (own := own) (index := idx) (host := host) M.2.2.2.2.1 hts (am_good hm hM) rfl rfl rfl (henv.2 _ hlk) (hts _ hini) hd3 (hroom hcl1 hM)
      have hrun := va_runSN (p := p) (e := e) (below := below) (meth := meth) (locs := locs) (cells := cells) (slots := slots) (As := ((st.take M.2.2.2.2.1).reverse).map (am_v ad)) (rest := (st.drop M.2.2.2.2.1).map (am_v ad)) (g := F0 m pc ls (st.map (am_v ad))) ⟨hx, hb, hml, hown, hts⟩ hMet ⟨cb, hts _ hstt, trivial⟩ (hpre (st.take M.2.2.2.2.1).reverse) rfl (by rw [List.length_map, List.length_reverse, List.length_take]; omega) hlsz (am_stk2 ad _) (lv_room (by rw [am_cats]; exact hcat)) hdg ⟨hcl, hsl⟩
      refine am_goon hrun hD hS hA (fun ad' H1 locs1 hag hP1 hD1 hS1 => ?_)
      have k1 := kk ad' H1 locs1 hag hP1 hD1 hS1
      rw [am_tl ad ad' v _ (am_st_agree hag hwr)] at k1
      exact k1
    · rename_i j k z hk
      obtain ⟨h1, h2, h3, h4⟩ := hm.2.2.2.2.2.2.2.1 own idx j k z hk
      have hnw : nativeFrameWords "java/lang/System" "arraycopy" 5 + 11 ≤ 56 := by decide +kernel
      unfold am_cpy at h
      split at h
      · rename_i w dp a sp a0 r
        split at h
        · rename_i n0 f n1 g hf0 hf1
          split at h
          · rename_i hc
            obtain ⟨rfl, hcat, c1, c2, c3, c4, c5⟩ := hc
            cases h
            obtain ⟨t0, ht⟩ := am_ty (ca := ca) hok.2.2.2.2.2.2.1.1
            exact va_copyi hx hb (by rw [hml, hlsz]) hown (hts _ h1) (hts _ h2) (hts _ h3) (hts _ h4) henv.1.1 hP hD hS a0 a t0 t0 (am_w_get hf0) (am_w_get hf1) ht ht rfl c1 c2 c3 c4 c5 (fun _ _ => rfl) (by omega) (by rw [am_cats]; omega) hdg (am_kset (c1 := .inl (.int, n1, .inl (va_cpy f g sp.toNatClampNeg dp.toNatClampNeg w.toNatClampNeg))) (n := 3) hf1 rfl kk)
          · cases h
        · rename_i n0 f n1 g hf0 hf1
          split at h
          · rename_i hc
            obtain ⟨rfl, hcat, c1, c2, c3, c4, c5⟩ := hc
            cases h
            obtain ⟨t0, ht⟩ := am_ty (ca := ca) hok.2.2.2.2.2.2.1.2.1
            exact va_copyl hx hb (by rw [hml, hlsz]) hown (hts _ h1) (hts _ h2) (hts _ h3) (hts _ h4) henv.1.1 hP hD hS a0 a t0 t0 (am_w_get hf0) (am_w_get hf1) ht ht rfl c1 c2 c3 c4 c5 (fun _ _ => rfl) (by omega) (by rw [am_cats]; omega) hdg (am_kset (c1 := .inl (.long, n1, .inr (.inl (va_cpy f g sp.toNatClampNeg dp.toNatClampNeg w.toNatClampNeg)))) (n := 3) hf1 rfl kk)
          · cases h
        · cases h
      · cases h
    · rename_i j k z hk
      split at h
      · rename_i y x r
        split at h
        · rename_i hc
          obtain ⟨rfl, hcat⟩ := hc
          cases h
          obtain ⟨h1, h2, h3, h4⟩ := hm.2.2.2.2.2.2.2.2.2.2.1 own idx j k z hk
          exact va_mmax (rest := r.map (am_v ad)) hx hb (by rw [hml, hlsz]) hown (hts _ h1) (hts _ h2) (hts _ h3) (hts _ h4) (by omega) (by rw [am_cats]; omega) (by omega) (by omega) hdg (am_kid (st' := .int (if x < y then y else x) :: r) (n := 3) hP hD hS kk)
        · cases h
      · cases h
    · rename_i j k z hk
      split at h
      · rename_i y x r
        split at h
        · rename_i hc
          obtain ⟨rfl, hcat⟩ := hc
          cases h
          obtain ⟨h1, h2, h3, h4⟩ := hm.2.2.2.2.2.2.2.2.2.2.2 own idx j k z hk
          exact va_mmin (rest := r.map (am_v ad)) hx hb (by rw [hml, hlsz]) hown (hts _ h1) (hts _ h2) (hts _ h3) (hts _ h4) (by omega) (by rw [am_cats]; omega) (by omega) (by omega) hdg (am_kid (st' := .int (if y < x then y else x) :: r) (n := 3) hP hD hS kk)
        · cases h
      · cases h
    · cases h
  | _ => cases h
end AME
