/-! the law's own body, on the abstract machine: it reads the script too -/
def am_stS (b L : Nat) (xs : Nat → Int32) (i : Instr) (n : Nat) (st : List Value) : Option (List Value) := match i with
  | .iaload => match st with
    | .int j :: .retAddr a :: r => if a = b ∧ n = 1 ∧ am_inb j L = true then some (.int (xs j.toNatClampNeg) :: r) else none
    | _ => none
  | .arraylength => match st with
    | .retAddr a :: r => if a = b ∧ n = 1 then some (.int (Int32.ofNat L) :: r) else none
    | _ => none
  | _ => none
def am_execL (G : am_G) (call : Nat → List Value → am_H → Option (Option Value × am_H)) (M : am_M) (b L : Nat) (xs : Nat → Int32) : Nat → Nat → am_L → List Value → am_H → Option (Option Value × am_H)
  | 0, _, _, _, _ => none
  | f + 1, pc, lv, st, H => match am_row M pc with
    | some (i, n) => match am_stS b L xs i n st with
      | some st' => am_execL G call M b L xs f (pc + n) lv st' H
      | none => match am_one G call M i n pc lv st H with
        | some (.inl (pc', lv', st', H')) => am_execL G call M b L xs f pc' lv' st' H'
        | some (.inr r) => some r
        | none => none
    | none => none
theorem am_wS {b L : Nat} {xs : Nat → Int32} {i : Instr} {n N : Nat} {st st' : List Value} (h : am_stS b L xs i n st = some st') (hs : am_ws N st) : am_ws N st' := by
  cases i with
  | iaload =>
    dsimp only [am_stS] at h
    split at h
    · split at h
      · cases h; exact am_ws_cons.mpr ⟨am_vw_i _ _, (am_ws_cons.mp (am_ws_cons.mp hs).2).2⟩
      · cases h
    · cases h
  | arraylength =>
    dsimp only [am_stS] at h
    split at h
    · split at h
      · cases h; exact am_ws_cons.mpr ⟨am_vw_i _ _, (am_ws_cons.mp hs).2⟩
      · cases h
    · cases h
  | _ => cases h
theorem am_wexecL {G : am_G} {call : Nat → List Value → am_H → Option (Option Value × am_H)} (hk : am_keeps call) {M : am_M} {b L : Nat} {xs : Nat → Int32} : ∀ (f pc : Nat) (lv : am_L) (st : List Value) (H H' : am_H) (r : Option Value), am_execL G call M b L xs f pc lv st H = some (r, H') → am_hw H → am_wl H.length lv → am_ws H.length st → am_gro H H' := by
  intro f
  induction f with
  | zero => intro pc lv st H H' r h; cases h
  | succ f ih =>
    intro pc lv st H H' r h hw hl hs
    unfold am_execL at h
    split at h
    · rename_i i n hrow
      split at h
      · rename_i st1 hS
        exact ih _ _ _ _ _ _ h hw hl (am_wS hS hs)
      · split at h
        · rename_i pc1 lv1 st1 H1 h1
          unfold am_one at h1
          split at h1
          · rename_i hA
            cases h1
            obtain ⟨a1, a2⟩ := am_wA hA hl hs
            exact ih _ _ _ _ _ _ h hw a1 a2
          · split at h1
            · rename_i hB
              cases h1
              exact ih _ _ _ _ _ _ h hw hl (am_wB hB hs)
            · split at h1
              · rename_i hC
                cases h1
                obtain ⟨a1, a2⟩ := am_wC hC hw hs
                exact am_gro_tr a1 (ih _ _ _ _ _ _ h a1.1 (am_wl_mono a1.2.1 hl) a2)
              · split at h1
                · rename_i hD
                  cases h1
                  obtain ⟨a1, a2⟩ := am_wD hk hD hw hs
                  exact am_gro_tr a1 (ih _ _ _ _ _ _ h a1.1 (am_wl_mono a1.2.1 hl) a2)
                · split at h1
                  · cases h1
                  · cases h1
        · rename_i h1
          cases h
          unfold am_one at h1
          split at h1
          · cases h1
          · split at h1
            · cases h1
            · split at h1
              · cases h1
              · split at h1
                · cases h1
                · split at h1
                  · rename_i hR
                    cases h1
                    exact am_gro_rf hw
                  · cases h1
        · cases h
    · cases h
theorem am_ret1 {ret : Option FieldType} {i : Instr} {n : Nat} {st : List Value} {v : Int32} (h : am_ret ret i n st = some (some (.int v))) : i = .ireturn ∧ n = 1 ∧ st = [.int v] := by
  cases i with
  | return_ =>
    dsimp only [am_ret] at h
    split at h
    · split at h <;> cases h
    · cases h
  | ireturn =>
    dsimp only [am_ret] at h
    split at h
    · split at h
      · rename_i hc; cases h; exact ⟨rfl, hc.1, rfl⟩
      · cases h
    · cases h
  | lreturn =>
    dsimp only [am_ret] at h
    split at h
    · split at h <;> cases h
    · cases h
  | areturn =>
    dsimp only [am_ret] at h
    split at h
    · split at h <;> cases h
    · split at h <;> cases h
    · cases h
  | _ => cases h
section AML
variable {p : Program} {l : Launch} {e : Env} {s : State} {m : MethodId} {below : List Frame} {meth : Method} {c : Code} {G : am_G} {Ts nst : List Cond} {D : va_G} {ca : FieldType → ClassId}
set_option maxHeartbeats 4000000 in
theorem am_sxL {fuel d b L : Nat} {xs : Nat → Int32} {M : am_M} {AH' : am_H} (hsnd : am_snd l G Ts nst D ca fuel d) (hok : am_ok G Ts) (hm : am_okm G Ts nst) (hrows : ∀ q ∈ M.2.2.2.2.2, decode code q.1 = .ok q.2) (hnI : (M.1.name == "<init>") = false)
    (hx : p.tables.exec = Jvm.exec) (hb : c.code = code) (hml : c.maxLocals = M.2.2.1) (hr : meth.sig.returnType = ret) (hlocks : meth.locks = false) (hown : s.vm.findClass M.1.cls = some m.cls) (hts : ∀ w ∈ Ts, w.before #[Value.ref b] s = true) (henv : am_env2 G nst D ca s) (hX : va_X b L xs s s.heap) (hbl : b < s.heap.size) (hRf : d + 1 ≤ room_1.frames) (hRl : (d + 1) * 64 ≤ room_1.locals) (hc1 : AH'.length ≤ lw_cells) (hc2 : am_sz AH' ≤ lw_slots) :
    ∀ (f pc : Nat) (lv : am_L) (st : List Value) (AH : am_H) (H : Heap) (ls : Array Slot) (locs : List Loc) (ad : Nat → Nat), am_execL G (am_call G fuel d) M b L xs f pc lv st AH = some (some (.int 1), AH') → am_hw AH → am_wl AH.length lv → am_ws AH.length st → lv_has ls M.2.2.1 (lv.map (am_q ad)) → va_P D G.1 (am_w ad ca AH) H → va_D (fun q : Nat => s.heap.size ≤ q) (am_w ad ca AH) → va_S (fun q : Nat => s.heap.size ≤ q) s.heap H locs →
      W p l e room_1 s m #[Value.ref b] below meth c H locs AH.length (am_sz AH) (lw_Z below #[Value.ref b] s) (F0 m pc ls (st.map (am_v ad))) := by
  have hkeep := am_wcall G fuel d
  have hA : ∀ q : Nat, s.heap.size ≤ q → (fun q : Nat => s.heap.size ≤ q) q := fun _ h => h
  have hbA : ¬ (fun q : Nat => s.heap.size ≤ q) b := Nat.not_le.mpr hbl
  have hcR : room_1.cells = lw_cells := rfl
  have hsR : room_1.slots = lw_slots := rfl
  intro f
  induction f with
  | zero => intro pc lv st AH H ls locs ad h; cases h
  | succ f ih =>
    intro pc lv st AH H ls locs ad h hw hwl hws hl hP hD hS
    unfold am_execL at h
    split at h
    · rename_i i n hrow
      have hdg := hrows (pc, (i, n)) (am_row_in hrow)
      dsimp only at hdg
      split at h
      · rename_i st1 hS1
        have k0 := ih _ _ _ _ _ _ _ _ h hw hwl (am_wS hS1 hws) hl hP hD hS
        cases i with
        | iaload =>
          dsimp only [am_stS] at hS1
          split at hS1
          · split at hS1
            · rename_i hc
              obtain ⟨rfl, rfl, hj⟩ := hc
              cases hS1
              exact va_sld hx hb hX hbl hbA hS (am_inb_in hj) hdg k0
            · cases hS1
          · cases hS1
        | arraylength =>
          dsimp only [am_stS] at hS1
          split at hS1
          · split at hS1
            · rename_i hc
              obtain ⟨rfl, rfl⟩ := hc
              cases hS1
              exact va_slen hx hb hX hbl hbA hS hdg k0
            · cases hS1
          · cases hS1
        | _ => cases hS1
      · split at h
        · rename_i pc1 lv1 st1 AH1 h1
          unfold am_one at h1
          split at h1
          · rename_i hA1
            cases h1
            obtain ⟨a1, a2⟩ := am_wA hA1 hwl hws
            exact am_sA hA1 hx hb hdg hl (fun ls' hl' => ih _ _ _ _ _ _ _ _ h hw a1 a2 hl' hP hD hS)
          · split at h1
            · rename_i hB1
              cases h1
              exact am_sB hB1 hx hb hdg (ih _ _ _ _ _ _ _ _ h hw hwl (am_wB hB1 hws) hl hP hD hS)
            · split at h1
              · rename_i hC1
                cases h1
                obtain ⟨a1, a2⟩ := am_wC hC1 hw hws
                have g1 := am_wexecL hkeep _ _ _ _ _ _ _ h a1.1 (am_wl_mono a1.2.1 hwl) a2
                have x1 := a1.2.1
                have x2 := a1.2.2
                have x3 := g1.2.1
                have x4 := g1.2.2
                refine am_sC hok hC1 hx hb hdg hown hts (fun hi => by rw [hnI] at hi; cases hi) henv.1 hP hD hS hA hw hws (by omega) (by omega) (fun ad' H1 locs1 hag1 hP1 hD1 hS1 => ?_)
                have k0 := ih _ _ _ _ _ _ _ _ h a1.1 (am_wl_mono a1.2.1 hwl) a2 (by rw [am_lv_agree hag1 hwl]; exact hl) hP1 hD1 hS1
                rw [show AH.length + (AH1.length - AH.length) = AH1.length by omega, show am_sz AH + (am_sz AH1 - am_sz AH) = am_sz AH1 by omega]
                exact k0
              · split at h1
                · rename_i hD1
                  cases h1
                  obtain ⟨a1, a2⟩ := am_wD hkeep hD1 hw hws
                  have g1 := am_wexecL hkeep _ _ _ _ _ _ _ h a1.1 (am_wl_mono a1.2.1 hwl) a2
                  have x1 := a1.2.1
                  have x2 := a1.2.2
                  have x3 := g1.2.1
                  have x4 := g1.2.2
                  refine am_sD hsnd hok hm hD1 hx hb hml hl.1 hdg hown hts henv hP hD hS hA hw hws (by omega) (by omega) hRf hRl (fun ad' H1 locs1 hag1 hP1 hD1 hS1 => ?_)
                  have k0 := ih _ _ _ _ _ _ _ _ h a1.1 (am_wl_mono a1.2.1 hwl) a2 (by rw [am_lv_agree hag1 hwl]; exact hl) hP1 hD1 hS1
                  rw [show AH.length + (AH1.length - AH.length) = AH1.length by omega, show am_sz AH + (am_sz AH1 - am_sz AH) = am_sz AH1 by omega]
                  exact k0
                · split at h1
                  · cases h1
                  · cases h1
        · rename_i h1
          cases h
          unfold am_one at h1
          split at h1
          · cases h1
          · split at h1
            · cases h1
            · split at h1
              · cases h1
              · split at h1
                · cases h1
                · split at h1
                  · rename_i hR
                    cases h1
                    obtain ⟨rfl, rfl, rfl⟩ := am_ret1 hR
                    refine va_forget (fun q hq => hS.2.2 q hq) ?_
                    refine W.widen (k := lw_cells) (n := lw_slots) hc1 hc2 ?_
                    exact lw_ret hx hb hr hlocks hdg
                  · cases h1
        · cases h
    · cases h
end AML
