/-! branches -/
def am_jp (pc : Nat) (off : Int) : Option Nat := if 0 ≤ (pc : Int) + off then some ((pc : Int) + off).toNat else none
def am_br (n pc : Nat) (off : Int) (b : Bool) (st : List Value) : Option (Nat × List Value) := match am_jp pc off with
  | some t => if n = 3 then some (if b = true then t else pc + 3, st) else none
  | none => none
def am_if1 (k : ClassFile.Cond) (x : Int32) : Bool := match k with
  | .eq => decide (x = 0)
  | .ne => decide (¬ x = 0)
  | .lt => decide (x < 0)
  | .ge => decide (0 ≤ x)
  | .gt => decide (0 < x)
  | .le => decide (x ≤ 0)
def am_if2 (k : ClassFile.Cond) (x y : Int32) : Bool := match k with
  | .eq => decide (x = y)
  | .ne => decide (¬ x = y)
  | .lt => decide (x < y)
  | .ge => decide (y ≤ x)
  | .gt => decide (y < x)
  | .le => decide (x ≤ y)
def am_jmp (pc : Nat) (off : Int) (st : List Value) : Option (Nat × List Value) := match am_jp pc off with
  | some t => some (t, st)
  | none => none
def am_stB (i : Instr) (n pc : Nat) (st : List Value) : Option (Nat × List Value) := match i with
  | .ifCond k off => match st with
    | .int x :: r => am_br n pc off (am_if1 k x) r
    | _ => none
  | .if_icmp k off => match st with
    | .int y :: .int x :: r => am_br n pc off (am_if2 k x y) r
    | _ => none
  | .ifnull off => match st with
    | .null :: r => am_br n pc off true r
    | .ref _ :: r => am_br n pc off false r
    | _ => none
  | .ifnonnull off => match st with
    | .null :: r => am_br n pc off false r
    | .ref _ :: r => am_br n pc off true r
    | _ => none
  | .goto off => am_br n pc off true st
  | .tableswitch dflt lo hi offs => match st with
    | .int x :: r => if x.toInt < lo ∨ hi < x.toInt then am_jmp pc dflt r else match offs[(x.toInt - lo).toNat]? with
      | some off => am_jmp pc off r
      | none => none
    | _ => none
  | .lookupswitch dflt ps => match st with
    | .int x :: r => if (ps.toList.zip (ps.toList.drop 1)).all (fun (a, next) => a.1 < next.1) = true then am_jmp pc (Op.lookupswitch.offset ps.toList dflt x.toInt) r else none
    | _ => none
  | _ => none
theorem am_jp_inv {pc t : Nat} {off : Int} (h : am_jp pc off = some t) : (pc : Int) + off = (t : Int) := by
  unfold am_jp at h
  split at h
  · cases h; omega
  · cases h
theorem am_br_inv {n pc pc' : Nat} {off : Int} {b : Bool} {st st' : List Value} (h : am_br n pc off b st = some (pc', st')) : n = 3 ∧ st' = st ∧ ∃ t : Nat, (pc : Int) + off = (t : Int) ∧ pc' = (if b = true then t else pc + 3) := by
  unfold am_br at h
  split at h
  · split at h
    · cases h; exact ⟨by assumption, rfl, _, am_jp_inv (by assumption), rfl⟩
    · cases h
  · cases h
theorem am_jmp_inv {pc pc' : Nat} {off : Int} {st st' : List Value} (h : am_jmp pc off st = some (pc', st')) : st' = st ∧ (pc : Int) + off = (pc' : Int) := by
  unfold am_jmp at h
  split at h
  · cases h; exact ⟨rfl, am_jp_inv (by assumption)⟩
  · cases h
section AMB
variable {p : Program} {l : Launch} {e : Env} {R : Room} {s : State} {m : MethodId} {args : Array Value} {below : List Frame} {meth : Method} {c : Code} {H : Heap} {locs : List Loc} {cells slots : Nat} {Q : State → Prop}
variable {cc : ByteArray} {pc : Nat} {ls : Array Slot} {ad : Nat → Nat}
theorem am_t {P : Prop} {hP : Decidable P} {t u : Nat} {rest : List Value} (h : P) (kk : W p l e R s m args below meth c H locs cells slots Q (F0 m (if decide P = true then t else u) ls rest)) : W p l e R s m args below meth c H locs cells slots Q (F0 m t ls rest) := by
  rw [if_pos (by simpa using h)] at kk; exact kk
theorem am_f {P : Prop} {hP : Decidable P} {t u : Nat} {rest : List Value} (h : ¬ P) (kk : W p l e R s m args below meth c H locs cells slots Q (F0 m (if decide P = true then t else u) ls rest)) : W p l e R s m args below meth c H locs cells slots Q (F0 m u ls rest) := by
  rw [if_neg (by simpa using h)] at kk; exact kk
set_option maxHeartbeats 4000000 in
theorem am_sB {n pc' : Nat} {i : Instr} {st st' : List Value} (h : am_stB i n pc st = some (pc', st')) (hx : p.tables.exec = Jvm.exec) (hb : c.code = cc) (hdg : decode cc pc = .ok (i, n))
    (kk : W p l e R s m args below meth c H locs cells slots Q (F0 m pc' ls (st'.map (am_v ad)))) : W p l e R s m args below meth c H locs cells slots Q (F0 m pc ls (st.map (am_v ad))) := by
  cases i with
  | ifCond k off =>
    dsimp only [am_stB] at h
    split at h
    · obtain ⟨rfl, rfl, t, ht, rfl⟩ := am_br_inv h
      cases k
      · exact lv_if_eq hx hb hdg ht (fun hc => am_t hc kk) (fun hc => am_f hc kk)
      · exact lv_if_ne hx hb hdg ht (fun hc => am_t hc kk) (fun hc => am_f (fun q => q hc) kk)
      · exact lv_if_lt hx hb hdg ht (fun hc => am_t hc kk) (fun hc => am_f hc kk)
      · exact lv_if_ge hx hb hdg ht (fun hc => am_t hc kk) (fun hc => am_f hc kk)
      · exact lv_if_gt hx hb hdg ht (fun hc => am_t hc kk) (fun hc => am_f hc kk)
      · exact lv_if_le hx hb hdg ht (fun hc => am_t hc kk) (fun hc => am_f hc kk)
    · cases h
  | if_icmp k off =>
    dsimp only [am_stB] at h
    split at h
    · obtain ⟨rfl, rfl, t, ht, rfl⟩ := am_br_inv h
      cases k
      · exact lv_icmp_eq hx hb hdg ht (fun hc => am_t hc kk) (fun hc => am_f hc kk)
      · exact lv_icmp_ne hx hb hdg ht (fun hc => am_t hc kk) (fun hc => am_f (fun q => q hc) kk)
      · exact lv_icmp_lt hx hb hdg ht (fun hc => am_t hc kk) (fun hc => am_f hc kk)
      · exact lv_icmp_ge hx hb hdg ht (fun hc => am_t hc kk) (fun hc => am_f hc kk)
      · exact lv_icmp_gt hx hb hdg ht (fun hc => am_t hc kk) (fun hc => am_f hc kk)
      · exact lv_icmp_le hx hb hdg ht (fun hc => am_t hc kk) (fun hc => am_f hc kk)
    · cases h
  | ifnull off =>
    dsimp only [am_stB] at h
    split at h
    · obtain ⟨rfl, rfl, t, ht, rfl⟩ := am_br_inv h
      exact lv_ifnullN hx hb hdg ht kk
    · obtain ⟨rfl, rfl, t, ht, rfl⟩ := am_br_inv h
      exact lv_ifnull hx hb hdg kk
    · cases h
  | ifnonnull off =>
    dsimp only [am_stB] at h
    split at h
    · obtain ⟨rfl, rfl, t, ht, rfl⟩ := am_br_inv h
      exact lv_ifnonnullN hx hb hdg kk
    · obtain ⟨rfl, rfl, t, ht, rfl⟩ := am_br_inv h
      exact lv_ifnonnull hx hb hdg ht kk
    · cases h
  | goto off =>
    obtain ⟨rfl, rfl, t, ht, rfl⟩ := am_br_inv (show am_br n pc off true st = some (pc', st') from h)
    exact lv_goto hx hb hdg ht kk
  | tableswitch dflt lo hi offs =>
    dsimp only [am_stB] at h
    split at h
    · split at h
      · rename_i hc
        obtain ⟨rfl, ht⟩ := am_jmp_inv h
        exact lv_tableOut hx hb hdg hc ht kk
      · rename_i hc
        split at h
        · rename_i off ho
          obtain ⟨rfl, ht⟩ := am_jmp_inv h
          exact lv_tableIn hx hb hdg (fun q => hc (Or.inl q)) (fun q => hc (Or.inr q)) ho ht kk
        · cases h
    · cases h
  | lookupswitch dflt ps =>
    dsimp only [am_stB] at h
    split at h
    · split at h
      · rename_i hp
        obtain ⟨rfl, ht⟩ := am_jmp_inv h
        exact lv_lookup hx hb hdg hp rfl ht kk
      · cases h
    · cases h
  | _ => cases h
end AMB
