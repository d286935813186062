/-! the claim, out of a pure statement on the abstract machine -/
def gx_ML : am_M := (x, code, 4, ret, 1, gx_rL)
theorem gx_inst : ∀ (ci : Nat) (C : String) (T : u_T) (N : Nat), gx_cl[ci]? = some (C, T, N) → Cond.instantiable C N ∈ lw_tbl := by
  intro ci C T N h
  have h1 : ∀ q ∈ gx_cl, decide (Cond.instantiable q.1 q.2.2 ∈ lw_tbl) = true := by
    have h2 : gx_cl.all (fun q => decide (Cond.instantiable q.1 q.2.2 ∈ lw_tbl)) = true := by decide +kernel
    exact List.all_eq_true.mp h2
  exact of_decide_eq_true (h1 _ (List.mem_of_getElem? h))
theorem gx_hat : ∀ t ∈ gx_ats, (∀ C, t ≠ .object C) ∧ Cond.arrayClass t ∈ lw_tbl ∨ ∃ C, t = .object C ∧ Cond.arrayOver (.object C) ∈ lw_tbl := by
  intro t ht
  rcases List.mem_cons.mp ht with rfl | ht
  · exact Or.inl ⟨fun C h => (by cases h), by decide +kernel⟩
  rcases List.mem_cons.mp ht with rfl | ht
  · exact Or.inl ⟨fun C h => (by cases h), by decide +kernel⟩
  rcases List.mem_cons.mp ht with rfl | ht
  · exact Or.inl ⟨fun C h => (by cases h), by decide +kernel⟩
  rcases List.mem_cons.mp ht with rfl | ht
  · exact Or.inr ⟨_, rfl, by decide +kernel⟩
  cases ht
/-- what is to be shown of the abstract machine: on this script the law comes to true, within the room -/
def gx_good (b L : Nat) (xs : Nat → Int32) : Prop := ∃ (fuel d f : Nat) (AH' : am_H), d ≤ 1000 ∧ am_execL gx_G (am_call gx_G fuel d) gx_ML b L xs f 0 [(0, .retAddr b)] [] [] = some (some (.int 1), AH') ∧ AH'.length ≤ lw_cells ∧ am_sz AH' ≤ lw_slots
set_option maxHeartbeats 4000000 in
theorem gx_whole {p : Program} {e : Env} {s : State} {m : MethodId} {below : List Frame} {meth : Method} {c : Code} (l : Launch) {b L : Nat} {xs : Nat → Int32} (hg : gx_good b L xs) (C0 : lw_At p s m meth c b L xs) : W p l e room_1 s m #[Value.ref b] below meth c s.heap [] 0 0 (lw_Z below #[Value.ref b] s) (entryFrame m ([Value.ref b] : List Value).toArray 4) := by
  obtain ⟨hx, hb, hr, hml, hown, hts, hX, hbl, hlocks, hgv⟩ := id C0
  obtain ⟨fuel, d, f, AH', hd, hex, hc1, hc2⟩ := hg
  obtain ⟨D, ca, henv⟩ := am_start (args := #[Value.ref b]) hts gx_ok gx_inst gx_hat
  have hl := lv_entry ([.ref b]) (n := 4) (Nat.le_of_ble_eq_true rfl)
  rw [lg_entry_eq]
  have hfr : room_1.frames = 2048 := rfl
  have hlo : room_1.locals = 84000 := rfl
  exact am_sxL (G := gx_G) (Ts := lw_tbl.filter goodWord) (nst := lw_tbl.filter am_isNest) (D := D) (ca := ca) (M := gx_ML) (am_sound l gx_ok gx_okm fuel d) gx_ok gx_okm (fun q hq => of_decide_eq_true (List.all_eq_true.mp gx_dL q hq)) (by decide +kernel) hx hb hml hr hlocks hown (fun w hw => hts w (List.mem_filter.mp hw).1) henv hX hbl (by omega) (by omega) hc1 hc2 f 0 [(0, .retAddr b)] [] [] s.heap _ [] (fun _ => 0) hex (fun c hc => by cases hc) (fun q hq => by rcases List.mem_cons.mp hq with rfl | h; exact fun i hi => (by cases hi); cases h) (am_ws_nil _) hl (fun k q h => by simp [am_w] at h) ⟨fun i j p q h => by simp [am_w] at h, fun k q h => by simp [am_w] at h⟩ va_S.rf
