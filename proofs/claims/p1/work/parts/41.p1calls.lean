def px2_f (a0 : Int32) : Int32 := (if am_if1 .lt a0 = true then (Int32.ofInt (-1)) else (if am_if2 .le a0 (Int32.ofInt (1)) = true then (Int32.ofInt (0)) else (Int32.ofInt (-1))))
set_option maxHeartbeats 4000000 in
set_option maxRecDepth 100000 in
theorem px2 (a0 : Int32) : am_R gx_G 1 95 [.ref 0, .int a0] p1_H3 (some (.int (px2_f a0))) p1_H3 := by
  refine am_R.enter (M := gx_m95) rfl ⟨Nat.le_of_ble_eq_true rfl, Nat.le_of_ble_eq_true rfl⟩ ?_
  unfold px2_f
  show am_X gx_G 0 gx_m95 0 [(0, .ref 0), (1, .int a0)] [] p1_H3 _ p1_H3
  refine am_X.blk 1 (pc' := 1) (lv' := [(0, .ref 0), (1, .int a0)]) (st' := [.int a0]) (H1 := p1_H3) (fun _ _ => rfl) ?_
  refine am_X.br1 (off := 8) (t := 9) (by decide +kernel) (by decide +kernel) (fun hb0 => ?_) (fun hb0 => ?_)
  · exact am_X.done 2 (fun _ _ => rfl)
  · refine am_X.blk 2 (pc' := 6) (lv' := [(0, .ref 0), (1, .int a0)]) (st' := [.int (Int32.ofInt (1)), .int a0]) (H1 := p1_H3) (fun _ _ => rfl) ?_
    refine am_X.br2 (off := 5) (t := 11) (by decide +kernel) (by decide +kernel) (fun hb1 => ?_) (fun hb1 => ?_)
    · exact am_X.done 5 (fun _ _ => rfl)
    · exact am_X.done 2 (fun _ _ => rfl)
def pm2_f (a0 : Int32) : Int32 := (if am_if1 .ne a0 = true then (if am_if2 .ne a0 (Int32.ofInt (1)) = true then (Int32.ofInt (-1)) else 0) else 0)
set_option maxHeartbeats 4000000 in
set_option maxRecDepth 100000 in
theorem pm2 (a0 : Int32) : am_R gx_G 1 184 [.ref 3, .int a0] p1_H3 (some (.int (pm2_f a0))) p1_H3 := by
  refine am_R.enter (M := gx_m184) rfl ⟨Nat.le_of_ble_eq_true rfl, Nat.le_of_ble_eq_true rfl⟩ ?_
  unfold pm2_f
  show am_X gx_G 0 gx_m184 0 [(0, .ref 3), (1, .int a0)] [] p1_H3 _ p1_H3
  refine am_X.blk 1 (pc' := 1) (lv' := [(0, .ref 3), (1, .int a0)]) (st' := [.int a0]) (H1 := p1_H3) (fun _ _ => rfl) ?_
  refine am_X.br1 (off := 10) (t := 11) (by decide +kernel) (by decide +kernel) (fun hb0 => ?_) (fun hb0 => ?_)
  · refine am_X.blk 2 (pc' := 13) (lv' := [(0, .ref 3), (1, .int a0)]) (st' := [.int (Int32.ofInt (1)), .int a0]) (H1 := p1_H3) (fun _ _ => rfl) ?_
    refine am_X.br2 (off := 10) (t := 23) (by decide +kernel) (by decide +kernel) (fun hb1 => ?_) (fun hb1 => ?_)
    · exact am_X.done 2 (fun _ _ => rfl)
    · exact am_X.done 4 (fun _ _ => rfl)
  · exact am_X.done 4 (fun _ _ => rfl)
def px3_f (a0 : Int32) : Int32 := (Int32.ofInt (-1))
set_option maxHeartbeats 4000000 in
set_option maxRecDepth 100000 in
theorem px3 (a0 : Int32) : am_R gx_G 1 96 [.ref 0, .int a0] p1_H3 (some (.int (px3_f a0))) p1_H3 := by
  refine am_R.enter (M := gx_m96) rfl ⟨Nat.le_of_ble_eq_true rfl, Nat.le_of_ble_eq_true rfl⟩ ?_
  unfold px3_f
  show am_X gx_G 0 gx_m96 0 [(0, .ref 0), (1, .int a0)] [] p1_H3 _ p1_H3
  exact am_X.done 5 (fun _ _ => rfl)
def pm3_f (a0 : Int32) : Int32 := (Int32.ofInt (-1))
set_option maxHeartbeats 4000000 in
set_option maxRecDepth 100000 in
theorem pm3 (a0 : Int32) : am_R gx_G 1 185 [.ref 3, .int a0] p1_H3 (some (.int (pm3_f a0))) p1_H3 := by
  refine am_R.enter (M := gx_m185) rfl ⟨Nat.le_of_ble_eq_true rfl, Nat.le_of_ble_eq_true rfl⟩ ?_
  unfold pm3_f
  show am_X gx_G 0 gx_m185 0 [(0, .ref 3), (1, .int a0)] [] p1_H3 _ p1_H3
  exact am_X.done 5 (fun _ _ => rfl)
def px4_f (a0 : Int32) (a1 : Int32) : Int32 := (Int32.ofInt (0))
set_option maxHeartbeats 4000000 in
set_option maxRecDepth 100000 in
theorem px4 (a0 : Int32) (a1 : Int32) : am_R gx_G 1 97 [.ref 0, .int a0, .int a1] p1_H3 (some (.int (px4_f a0 a1))) p1_H3 := by
  refine am_R.enter (M := gx_m97) rfl ⟨Nat.le_of_ble_eq_true rfl, Nat.le_of_ble_eq_true rfl⟩ ?_
  unfold px4_f
  show am_X gx_G 0 gx_m97 0 [(0, .ref 0), (1, .int a0), (2, .int a1)] [] p1_H3 _ p1_H3
  exact am_X.done 5 (fun _ _ => rfl)
def pm4c187_0_f (v0 : Int32) : Int32 := (Int32.ofInt (0))
set_option maxHeartbeats 4000000 in
set_option maxRecDepth 100000 in
theorem pm4c187_0 (v0 : Int32) : am_R gx_G 1 187 [.ref 3, .int v0] p1_H3 (some (.int (pm4c187_0_f v0))) p1_H3 := by
  refine am_R.enter (M := gx_m187) rfl ⟨Nat.le_of_ble_eq_true rfl, Nat.le_of_ble_eq_true rfl⟩ ?_
  unfold pm4c187_0_f
  show am_X gx_G 0 gx_m187 0 [(0, .ref 3), (1, .int v0)] [] p1_H3 _ p1_H3
  exact am_X.done 5 (fun _ _ => rfl)
def pm4_f (a0 : Int32) (a1 : Int32) : Int32 := (Int32.ofInt (0))
set_option maxHeartbeats 4000000 in
set_option maxRecDepth 100000 in
theorem pm4 (a0 : Int32) (a1 : Int32) : am_R gx_G 2 186 [.ref 3, .int a0, .int a1] p1_H3 (some (.int (pm4_f a0 a1))) p1_H3 := by
  refine am_R.enter (M := gx_m186) rfl ⟨Nat.le_of_ble_eq_true rfl, Nat.le_of_ble_eq_true rfl⟩ ?_
  unfold pm4_f
  show am_X gx_G 1 gx_m186 0 [(0, .ref 3), (1, .int a0), (2, .int a1)] [] p1_H3 _ p1_H3
  refine am_X.blk 2 (pc' := 2) (lv' := [(0, .ref 3), (1, .int a0), (2, .int a1)]) (st' := [.int a0, .ref 3]) (H1 := p1_H3) (fun _ _ => rfl) ?_
  refine am_X.goD (i := .invokevirtual 457) (n := 3) (pc' := 5) (lv' := [(0, .ref 3), (1, .int a0), (2, .int a1)]) (st' := [.int (Int32.ofInt (0))]) (H1 := p1_H3) (by decide +kernel) (am_oneV (own := "") (j := 187) (z := 0) (Mj := gx_m187) (as := [.int a0]) (p := 3) (rest := []) (v := some (.int (Int32.ofInt (0)))) rfl rfl rfl (by decide +kernel) rfl rfl rfl (Nat.le_of_ble_eq_true rfl) (by decide +kernel) ((pm4c187_0 a0).deeper (by decide))) ?_
  exact am_X.done 3 (fun _ _ => rfl)
def px5_f (a0 : Int32) (a1 : Int32) : Int32 := (Int32.ofInt (0))
set_option maxHeartbeats 4000000 in
set_option maxRecDepth 100000 in
theorem px5 (a0 : Int32) (a1 : Int32) : am_R gx_G 1 100 [.ref 0, .int a0, .int a1] p1_H3 (some (.int (px5_f a0 a1))) p1_H3 := by
  refine am_R.enter (M := gx_m100) rfl ⟨Nat.le_of_ble_eq_true rfl, Nat.le_of_ble_eq_true rfl⟩ ?_
  unfold px5_f
  show am_X gx_G 0 gx_m100 0 [(0, .ref 0), (1, .int a0), (2, .int a1)] [] p1_H3 _ p1_H3
  exact am_X.done 5 (fun _ _ => rfl)
def pm5c187_0_f (v0 : Int32) : Int32 := (Int32.ofInt (0))
set_option maxHeartbeats 4000000 in
set_option maxRecDepth 100000 in
theorem pm5c187_0 (v0 : Int32) : am_R gx_G 1 187 [.ref 3, .int v0] p1_H3 (some (.int (pm5c187_0_f v0))) p1_H3 := by
  refine am_R.enter (M := gx_m187) rfl ⟨Nat.le_of_ble_eq_true rfl, Nat.le_of_ble_eq_true rfl⟩ ?_
  unfold pm5c187_0_f
  show am_X gx_G 0 gx_m187 0 [(0, .ref 3), (1, .int v0)] [] p1_H3 _ p1_H3
  exact am_X.done 5 (fun _ _ => rfl)
def pm5_f (a0 : Int32) (a1 : Int32) : Int32 := (Int32.ofInt (0))
set_option maxHeartbeats 4000000 in
set_option maxRecDepth 100000 in
theorem pm5 (a0 : Int32) (a1 : Int32) : am_R gx_G 2 189 [.ref 3, .int a0, .int a1] p1_H3 (some (.int (pm5_f a0 a1))) p1_H3 := by
  refine am_R.enter (M := gx_m189) rfl ⟨Nat.le_of_ble_eq_true rfl, Nat.le_of_ble_eq_true rfl⟩ ?_
  unfold pm5_f
  show am_X gx_G 1 gx_m189 0 [(0, .ref 3), (1, .int a0), (2, .int a1)] [] p1_H3 _ p1_H3
  refine am_X.blk 2 (pc' := 2) (lv' := [(0, .ref 3), (1, .int a0), (2, .int a1)]) (st' := [.int a0, .ref 3]) (H1 := p1_H3) (fun _ _ => rfl) ?_
  refine am_X.goD (i := .invokevirtual 457) (n := 3) (pc' := 5) (lv' := [(0, .ref 3), (1, .int a0), (2, .int a1)]) (st' := [.int (Int32.ofInt (0))]) (H1 := p1_H3) (by decide +kernel) (am_oneV (own := "") (j := 187) (z := 0) (Mj := gx_m187) (as := [.int a0]) (p := 3) (rest := []) (v := some (.int (Int32.ofInt (0)))) rfl rfl rfl (by decide +kernel) rfl rfl rfl (Nat.le_of_ble_eq_true rfl) (by decide +kernel) ((pm5c187_0 a0).deeper (by decide))) ?_
  exact am_X.done 3 (fun _ _ => rfl)
def px6_f (a0 : Int32) : Int32 := (Int32.ofInt (0))
set_option maxHeartbeats 4000000 in
set_option maxRecDepth 100000 in
theorem px6 (a0 : Int32) : am_R gx_G 1 102 [.ref 0, .int a0] p1_H3 (some (.int (px6_f a0))) p1_H3 := by
  refine am_R.enter (M := gx_m102) rfl ⟨Nat.le_of_ble_eq_true rfl, Nat.le_of_ble_eq_true rfl⟩ ?_
  unfold px6_f
  show am_X gx_G 0 gx_m102 0 [(0, .ref 0), (1, .int a0)] [] p1_H3 _ p1_H3
  exact am_X.done 5 (fun _ _ => rfl)
def pm6c187_0_f (v0 : Int32) : Int32 := (Int32.ofInt (0))
set_option maxHeartbeats 4000000 in
set_option maxRecDepth 100000 in
theorem pm6c187_0 (v0 : Int32) : am_R gx_G 1 187 [.ref 3, .int v0] p1_H3 (some (.int (pm6c187_0_f v0))) p1_H3 := by
  refine am_R.enter (M := gx_m187) rfl ⟨Nat.le_of_ble_eq_true rfl, Nat.le_of_ble_eq_true rfl⟩ ?_
  unfold pm6c187_0_f
  show am_X gx_G 0 gx_m187 0 [(0, .ref 3), (1, .int v0)] [] p1_H3 _ p1_H3
  exact am_X.done 5 (fun _ _ => rfl)
def pm6_f (a0 : Int32) : Int32 := (Int32.ofInt (0))
set_option maxHeartbeats 4000000 in
set_option maxRecDepth 100000 in
theorem pm6 (a0 : Int32) : am_R gx_G 2 191 [.ref 3, .int a0] p1_H3 (some (.int (pm6_f a0))) p1_H3 := by
  refine am_R.enter (M := gx_m191) rfl ⟨Nat.le_of_ble_eq_true rfl, Nat.le_of_ble_eq_true rfl⟩ ?_
  unfold pm6_f
  show am_X gx_G 1 gx_m191 0 [(0, .ref 3), (1, .int a0)] [] p1_H3 _ p1_H3
  refine am_X.blk 2 (pc' := 2) (lv' := [(0, .ref 3), (1, .int a0)]) (st' := [.int a0, .ref 3]) (H1 := p1_H3) (fun _ _ => rfl) ?_
  refine am_X.goD (i := .invokevirtual 457) (n := 3) (pc' := 5) (lv' := [(0, .ref 3), (1, .int a0)]) (st' := [.int (Int32.ofInt (0))]) (H1 := p1_H3) (by decide +kernel) (am_oneV (own := "") (j := 187) (z := 0) (Mj := gx_m187) (as := [.int a0]) (p := 3) (rest := []) (v := some (.int (Int32.ofInt (0)))) rfl rfl rfl (by decide +kernel) rfl rfl rfl (Nat.le_of_ble_eq_true rfl) (by decide +kernel) ((pm6c187_0 a0).deeper (by decide))) ?_
  exact am_X.done 3 (fun _ _ => rfl)
def px7_f (a0 : Int32) (a1 : Int32) : Int32 := (Int32.ofInt (-1))
set_option maxHeartbeats 4000000 in
set_option maxRecDepth 100000 in
theorem px7 (a0 : Int32) (a1 : Int32) : am_R gx_G 1 103 [.ref 0, .int a0, .int a1] p1_H3 (some (.int (px7_f a0 a1))) p1_H3 := by
  refine am_R.enter (M := gx_m103) rfl ⟨Nat.le_of_ble_eq_true rfl, Nat.le_of_ble_eq_true rfl⟩ ?_
  unfold px7_f
  show am_X gx_G 0 gx_m103 0 [(0, .ref 0), (1, .int a0), (2, .int a1)] [] p1_H3 _ p1_H3
  exact am_X.done 5 (fun _ _ => rfl)
def pm7c187_0_f (v0 : Int32) : Int32 := (Int32.ofInt (0))
set_option maxHeartbeats 4000000 in
set_option maxRecDepth 100000 in
theorem pm7c187_0 (v0 : Int32) : am_R gx_G 1 187 [.ref 3, .int v0] p1_H3 (some (.int (pm7c187_0_f v0))) p1_H3 := by
  refine am_R.enter (M := gx_m187) rfl ⟨Nat.le_of_ble_eq_true rfl, Nat.le_of_ble_eq_true rfl⟩ ?_
  unfold pm7c187_0_f
  show am_X gx_G 0 gx_m187 0 [(0, .ref 3), (1, .int v0)] [] p1_H3 _ p1_H3
  exact am_X.done 5 (fun _ _ => rfl)
def pm7_f (a0 : Int32) (a1 : Int32) : Int32 := (Int32.ofInt (-1))
set_option maxHeartbeats 4000000 in
set_option maxRecDepth 100000 in
theorem pm7 (a0 : Int32) (a1 : Int32) : am_R gx_G 2 192 [.ref 3, .int a0, .int a1] p1_H3 (some (.int (pm7_f a0 a1))) p1_H3 := by
  refine am_R.enter (M := gx_m192) rfl ⟨Nat.le_of_ble_eq_true rfl, Nat.le_of_ble_eq_true rfl⟩ ?_
  unfold pm7_f
  show am_X gx_G 1 gx_m192 0 [(0, .ref 3), (1, .int a0), (2, .int a1)] [] p1_H3 _ p1_H3
  refine am_X.blk 2 (pc' := 2) (lv' := [(0, .ref 3), (1, .int a0), (2, .int a1)]) (st' := [.int a0, .ref 3]) (H1 := p1_H3) (fun _ _ => rfl) ?_
  refine am_X.goD (i := .invokevirtual 457) (n := 3) (pc' := 5) (lv' := [(0, .ref 3), (1, .int a0), (2, .int a1)]) (st' := [.int (Int32.ofInt (0))]) (H1 := p1_H3) (by decide +kernel) (am_oneV (own := "") (j := 187) (z := 0) (Mj := gx_m187) (as := [.int a0]) (p := 3) (rest := []) (v := some (.int (Int32.ofInt (0)))) rfl rfl rfl (by decide +kernel) rfl rfl rfl (Nat.le_of_ble_eq_true rfl) (by decide +kernel) ((pm7c187_0 a0).deeper (by decide))) ?_
  exact am_X.done 3 (fun _ _ => rfl)
def px8_f (a0 : Int32) : Int32 := (if am_if1 .lt a0 = true then (Int32.ofInt (-1)) else (if am_if2 .le a0 (Int8.ofInt (6)).toInt32 = true then (if am_if2 .ne a0 (Int8.ofInt (6)).toInt32 = true then (Int32.ofInt (0)) else (Int32.ofInt (0))) else (Int32.ofInt (-1))))
set_option maxHeartbeats 4000000 in
set_option maxRecDepth 100000 in
theorem px8 (a0 : Int32) : am_R gx_G 1 105 [.ref 0, .int a0] p1_H3 (some (.int (px8_f a0))) p1_H3 := by
  refine am_R.enter (M := gx_m105) rfl ⟨Nat.le_of_ble_eq_true rfl, Nat.le_of_ble_eq_true rfl⟩ ?_
  unfold px8_f
  show am_X gx_G 0 gx_m105 0 [(0, .ref 0), (1, .int a0)] [] p1_H3 _ p1_H3
  refine am_X.blk 1 (pc' := 1) (lv' := [(0, .ref 0), (1, .int a0)]) (st' := [.int a0]) (H1 := p1_H3) (fun _ _ => rfl) ?_
  refine am_X.br1 (off := 9) (t := 10) (by decide +kernel) (by decide +kernel) (fun hb0 => ?_) (fun hb0 => ?_)
  · exact am_X.done 2 (fun _ _ => rfl)
  · refine am_X.blk 2 (pc' := 7) (lv' := [(0, .ref 0), (1, .int a0)]) (st' := [.int (Int8.ofInt (6)).toInt32, .int a0]) (H1 := p1_H3) (fun _ _ => rfl) ?_
    refine am_X.br2 (off := 5) (t := 12) (by decide +kernel) (by decide +kernel) (fun hb1 => ?_) (fun hb1 => ?_)
    · refine am_X.blk 2 (pc' := 15) (lv' := [(0, .ref 0), (1, .int a0)]) (st' := [.int (Int8.ofInt (6)).toInt32, .int a0]) (H1 := p1_H3) (fun _ _ => rfl) ?_
      refine am_X.br2 (off := 8) (t := 23) (by decide +kernel) (by decide +kernel) (fun hb2 => ?_) (fun hb2 => ?_)
      · exact am_X.done 5 (fun _ _ => rfl)
      · exact am_X.done 3 (fun _ _ => rfl)
    · exact am_X.done 2 (fun _ _ => rfl)
def pm8_f (a0 : Int32) : Int32 := (if (a0).toInt < 0 ∨ 6 < (a0).toInt then (Int32.ofInt (-1)) else (fun q => ([0, 0, 0, 0, 0, 0, 0] : List Int32).getD q 0) (a0).toInt.toNat)
set_option maxHeartbeats 4000000 in
set_option maxRecDepth 100000 in
theorem pm8 (a0 : Int32) : am_R gx_G 1 193 [.ref 3, .int a0] p1_H3 (some (.int (pm8_f a0))) p1_H3 := by
  refine am_R.enter (M := gx_m193) rfl ⟨Nat.le_of_ble_eq_true rfl, Nat.le_of_ble_eq_true rfl⟩ ?_
  unfold pm8_f
  show am_X gx_G 0 gx_m193 0 [(0, .ref 3), (1, .int a0)] [] p1_H3 _ p1_H3
  refine am_X.blk 1 (pc' := 1) (lv' := [(0, .ref 3), (1, .int a0)]) (st' := [.int a0]) (H1 := p1_H3) (fun _ _ => rfl) ?_
  refine am_X.sw (n := 43) (N := 6) (dflt := 78) (hi := 6) (offs := #[43, 48, 53, 58, 63, 68, 73]) (rs := (fun q => ([0, 0, 0, 0, 0, 0, 0] : List Int32).getD q 0)) (tq := fun q => ([44, 49, 54, 59, 64, 69, 74] : List Nat).getD q 0) (t := 79) (by decide +kernel) rfl (fun q hq => ?_) (by decide +kernel) (fun q hq => ?_) ?_
  · rcases (show q = 0 ∨ q = 1 ∨ q = 2 ∨ q = 3 ∨ q = 4 ∨ q = 5 ∨ q = 6 by omega) with rfl | rfl | rfl | rfl | rfl | rfl | rfl <;> exact ⟨_, rfl, by decide +kernel⟩
  · rcases (show q = 0 ∨ q = 1 ∨ q = 2 ∨ q = 3 ∨ q = 4 ∨ q = 5 ∨ q = 6 by omega) with rfl | rfl | rfl | rfl | rfl | rfl | rfl
    · exact am_X.done 3 (fun _ _ => rfl)
    · exact am_X.done 3 (fun _ _ => rfl)
    · exact am_X.done 3 (fun _ _ => rfl)
    · exact am_X.done 3 (fun _ _ => rfl)
    · exact am_X.done 3 (fun _ _ => rfl)
    · exact am_X.done 3 (fun _ _ => rfl)
    · exact am_X.done 3 (fun _ _ => rfl)
  · exact am_X.done 2 (fun _ _ => rfl)
def px9_f (a0 : Int32) (a1 : Int32) : Int32 := (Int32.ofInt (-1))
set_option maxHeartbeats 4000000 in
set_option maxRecDepth 100000 in
theorem px9 (a0 : Int32) (a1 : Int32) : am_R gx_G 1 106 [.ref 0, .int a0, .int a1] p1_H3 (some (.int (px9_f a0 a1))) p1_H3 := by
  refine am_R.enter (M := gx_m106) rfl ⟨Nat.le_of_ble_eq_true rfl, Nat.le_of_ble_eq_true rfl⟩ ?_
  unfold px9_f
  show am_X gx_G 0 gx_m106 0 [(0, .ref 0), (1, .int a0), (2, .int a1)] [] p1_H3 _ p1_H3
  exact am_X.done 5 (fun _ _ => rfl)
def pm9_f (a0 : Int32) (a1 : Int32) : Int32 := (if am_if1 .lt a0 = true then (Int32.ofInt (-1)) else (if am_if2 .ge a0 0 = true then (Int32.ofInt (-1)) else (if am_if1 .lt a1 = true then (Int32.ofInt (-1)) else (if am_if2 .le a1 (Int32.ofInt (1)) = true then (if am_if1 .ne a1 = true then (if am_if2 .ne a1 (Int32.ofInt (1)) = true then (Int32.ofInt (0)) else (Int32.ofInt (0))) else (Int32.ofInt (0))) else (Int32.ofInt (0))))))
set_option maxHeartbeats 4000000 in
set_option maxRecDepth 100000 in
theorem pm9 (a0 : Int32) (a1 : Int32) : am_R gx_G 1 194 [.ref 3, .int a0, .int a1] p1_H3 (some (.int (pm9_f a0 a1))) p1_H3 := by
  refine am_R.enter (M := gx_m194) rfl ⟨Nat.le_of_ble_eq_true rfl, Nat.le_of_ble_eq_true rfl⟩ ?_
  unfold pm9_f
  show am_X gx_G 0 gx_m194 0 [(0, .ref 3), (1, .int a0), (2, .int a1)] [] p1_H3 _ p1_H3
  refine am_X.blk 1 (pc' := 1) (lv' := [(0, .ref 3), (1, .int a0), (2, .int a1)]) (st' := [.int a0]) (H1 := p1_H3) (fun _ _ => rfl) ?_
  refine am_X.br1 (off := 32) (t := 33) (by decide +kernel) (by decide +kernel) (fun hb0 => ?_) (fun hb0 => ?_)
  · exact am_X.done 2 (fun _ _ => rfl)
  · refine am_X.blk 3 (pc' := 9) (lv' := [(0, .ref 3), (1, .int a0), (2, .int a1)]) (st' := [.int 0, .int a0]) (H1 := p1_H3) (fun _ _ => rfl) ?_
    refine am_X.br2 (off := 24) (t := 33) (by decide +kernel) (by decide +kernel) (fun hb1 => ?_) (fun hb1 => ?_)
    · exact am_X.done 2 (fun _ _ => rfl)
    · refine am_X.blk 1 (pc' := 13) (lv' := [(0, .ref 3), (1, .int a0), (2, .int a1)]) (st' := [.int a1]) (H1 := p1_H3) (fun _ _ => rfl) ?_
      refine am_X.br1 (off := 20) (t := 33) (by decide +kernel) (by decide +kernel) (fun hb2 => ?_) (fun hb2 => ?_)
      · exact am_X.done 2 (fun _ _ => rfl)
      · refine am_X.blk 2 (pc' := 18) (lv' := [(0, .ref 3), (1, .int a0), (2, .int a1)]) (st' := [.int (Int32.ofInt (1)), .int a1]) (H1 := p1_H3) (fun _ _ => rfl) ?_
        refine am_X.br2 (off := 17) (t := 35) (by decide +kernel) (by decide +kernel) (fun hb3 => ?_) (fun hb3 => ?_)
        · refine am_X.blk 1 (pc' := 36) (lv' := [(0, .ref 3), (1, .int a0), (2, .int a1)]) (st' := [.int a1]) (H1 := p1_H3) (fun _ _ => rfl) ?_
          refine am_X.br1 (off := 12) (t := 48) (by decide +kernel) (by decide +kernel) (fun hb4 => ?_) (fun hb4 => ?_)
          · refine am_X.blk 2 (pc' := 50) (lv' := [(0, .ref 3), (1, .int a0), (2, .int a1)]) (st' := [.int (Int32.ofInt (1)), .int a1]) (H1 := p1_H3) (fun _ _ => rfl) ?_
            refine am_X.br2 (off := 12) (t := 62) (by decide +kernel) (by decide +kernel) (fun hb5 => ?_) (fun hb5 => ?_)
            · exfalso
              simp only [am_if1, am_if2, decide_eq_true_eq, decide_eq_false_iff_not, Int32.lt_iff_toInt_lt, Int32.le_iff_toInt_le, Int32.toInt_zero, show (Int32.ofInt (1) : Int32).toInt = (1) by decide +kernel] at hb0 hb1 hb2 hb3 hb4 hb5
              omega
            · exfalso
              simp only [am_if1, am_if2, decide_eq_true_eq, decide_eq_false_iff_not, Int32.lt_iff_toInt_lt, Int32.le_iff_toInt_le, Int32.toInt_zero, show (Int32.ofInt (1) : Int32).toInt = (1) by decide +kernel] at hb0 hb1 hb2 hb3 hb4 hb5
              omega
          · exfalso
            simp only [am_if1, am_if2, decide_eq_true_eq, decide_eq_false_iff_not, Int32.lt_iff_toInt_lt, Int32.le_iff_toInt_le, Int32.toInt_zero, show (Int32.ofInt (1) : Int32).toInt = (1) by decide +kernel] at hb0 hb1 hb2 hb3 hb4
            omega
        · exfalso
          simp only [am_if1, am_if2, decide_eq_true_eq, decide_eq_false_iff_not, Int32.lt_iff_toInt_lt, Int32.le_iff_toInt_le, Int32.toInt_zero, show (Int32.ofInt (1) : Int32).toInt = (1) by decide +kernel] at hb0 hb1 hb2 hb3
          omega
def px10_f (a0 : Int32) (a1 : Int32) : Int32 := (Int32.ofInt (-1))
set_option maxHeartbeats 4000000 in
set_option maxRecDepth 100000 in
theorem px10 (a0 : Int32) (a1 : Int32) : am_R gx_G 1 107 [.ref 0, .int a0, .int a1] p1_H3 (some (.int (px10_f a0 a1))) p1_H3 := by
  refine am_R.enter (M := gx_m107) rfl ⟨Nat.le_of_ble_eq_true rfl, Nat.le_of_ble_eq_true rfl⟩ ?_
  unfold px10_f
  show am_X gx_G 0 gx_m107 0 [(0, .ref 0), (1, .int a0), (2, .int a1)] [] p1_H3 _ p1_H3
  exact am_X.done 5 (fun _ _ => rfl)
def pm10c188_0_f (v0 : Int32) : Int32 := (Int32.ofInt (0))
set_option maxHeartbeats 4000000 in
set_option maxRecDepth 100000 in
theorem pm10c188_0 (v0 : Int32) : am_R gx_G 1 188 [.ref 3, .int v0] p1_H3 (some (.int (pm10c188_0_f v0))) p1_H3 := by
  refine am_R.enter (M := gx_m188) rfl ⟨Nat.le_of_ble_eq_true rfl, Nat.le_of_ble_eq_true rfl⟩ ?_
  unfold pm10c188_0_f
  show am_X gx_G 0 gx_m188 0 [(0, .ref 3), (1, .int v0)] [] p1_H3 _ p1_H3
  exact am_X.done 5 (fun _ _ => rfl)
def pm10_f (a0 : Int32) (a1 : Int32) : Int32 := (Int32.ofInt (-1))
set_option maxHeartbeats 4000000 in
set_option maxRecDepth 100000 in
theorem pm10 (a0 : Int32) (a1 : Int32) : am_R gx_G 2 195 [.ref 3, .int a0, .int a1] p1_H3 (some (.int (pm10_f a0 a1))) p1_H3 := by
  refine am_R.enter (M := gx_m195) rfl ⟨Nat.le_of_ble_eq_true rfl, Nat.le_of_ble_eq_true rfl⟩ ?_
  unfold pm10_f
  show am_X gx_G 1 gx_m195 0 [(0, .ref 3), (1, .int a0), (2, .int a1)] [] p1_H3 _ p1_H3
  refine am_X.blk 2 (pc' := 2) (lv' := [(0, .ref 3), (1, .int a0), (2, .int a1)]) (st' := [.int a0, .ref 3]) (H1 := p1_H3) (fun _ _ => rfl) ?_
  refine am_X.goD (i := .invokevirtual 460) (n := 3) (pc' := 5) (lv' := [(0, .ref 3), (1, .int a0), (2, .int a1)]) (st' := [.int (Int32.ofInt (0))]) (H1 := p1_H3) (by decide +kernel) (am_oneV (own := "") (j := 188) (z := 0) (Mj := gx_m188) (as := [.int a0]) (p := 3) (rest := []) (v := some (.int (Int32.ofInt (0)))) rfl rfl rfl (by decide +kernel) rfl rfl rfl (Nat.le_of_ble_eq_true rfl) (by decide +kernel) ((pm10c188_0 a0).deeper (by decide))) ?_
  exact am_X.done 3 (fun _ _ => rfl)
def px11_f (a0 : Int32) : Int64 := (-1)
set_option maxHeartbeats 4000000 in
set_option maxRecDepth 100000 in
theorem px11 (a0 : Int32) : am_R gx_G 1 108 [.ref 0, .int a0] p1_H3 (some (.long (px11_f a0))) p1_H3 := by
  refine am_R.enter (M := gx_m108) rfl ⟨Nat.le_of_ble_eq_true rfl, Nat.le_of_ble_eq_true rfl⟩ ?_
  unfold px11_f
  show am_X gx_G 0 gx_m108 0 [(0, .ref 0), (1, .int a0)] [] p1_H3 _ p1_H3
  exact am_X.done 5 (fun _ _ => rfl)
def pm11_f (a0 : Int32) : Int64 := (-1)
set_option maxHeartbeats 4000000 in
set_option maxRecDepth 100000 in
theorem pm11 (a0 : Int32) : am_R gx_G 1 196 [.ref 3, .int a0] p1_H3 (some (.long (pm11_f a0))) p1_H3 := by
  refine am_R.enter (M := gx_m196) rfl ⟨Nat.le_of_ble_eq_true rfl, Nat.le_of_ble_eq_true rfl⟩ ?_
  unfold pm11_f
  show am_X gx_G 0 gx_m196 0 [(0, .ref 3), (1, .int a0)] [] p1_H3 _ p1_H3
  exact am_X.done 5 (fun _ _ => rfl)
def px12_f (a0 : Int64) (a1 : Int32) : Int32 := (if am_if2 .lt a1 (Int32.ofInt (1)) = true then (Int32.ofInt (-1)) else (if am_if2 .gt a1 (Int8.ofInt (8)).toInt32 = true then (Int32.ofInt (-1)) else (Int32.ofInt (-1))))
set_option maxHeartbeats 4000000 in
set_option maxRecDepth 100000 in
theorem px12 (a0 : Int64) (a1 : Int32) : am_R gx_G 1 117 [.ref 0, .long a0, .int a1] p1_H3 (some (.int (px12_f a0 a1))) p1_H3 := by
  refine am_R.enter (M := gx_m117) rfl ⟨Nat.le_of_ble_eq_true rfl, Nat.le_of_ble_eq_true rfl⟩ ?_
  unfold px12_f
  show am_X gx_G 0 gx_m117 0 [(0, .ref 0), (1, .long a0), (3, .int a1)] [] p1_H3 _ p1_H3
  refine am_X.blk 2 (pc' := 2) (lv' := [(0, .ref 0), (1, .long a0), (3, .int a1)]) (st' := [.int (Int32.ofInt (1)), .int a1]) (H1 := p1_H3) (fun _ _ => rfl) ?_
  refine am_X.br2 (off := 26) (t := 28) (by decide +kernel) (by decide +kernel) (fun hb0 => ?_) (fun hb0 => ?_)
  · exact am_X.done 2 (fun _ _ => rfl)
  · refine am_X.blk 2 (pc' := 8) (lv' := [(0, .ref 0), (1, .long a0), (3, .int a1)]) (st' := [.int (Int8.ofInt (8)).toInt32, .int a1]) (H1 := p1_H3) (fun _ _ => rfl) ?_
    refine am_X.br2 (off := 20) (t := 28) (by decide +kernel) (by decide +kernel) (fun hb1 => ?_) (fun hb1 => ?_)
    · exact am_X.done 2 (fun _ _ => rfl)
    · exact am_X.done 5 (fun _ _ => rfl)
def pm12_f (a0 : Int64) (a1 : Int32) : Int32 := (if am_if2 .lt a1 (Int32.ofInt (1)) = true then (Int32.ofInt (-1)) else (if am_if2 .gt a1 (Int8.ofInt (8)).toInt32 = true then (Int32.ofInt (-1)) else (Int32.ofInt (-1))))
set_option maxHeartbeats 4000000 in
set_option maxRecDepth 100000 in
theorem pm12 (a0 : Int64) (a1 : Int32) : am_R gx_G 1 199 [.ref 3, .long a0, .int a1] p1_H3 (some (.int (pm12_f a0 a1))) p1_H3 := by
  refine am_R.enter (M := gx_m199) rfl ⟨Nat.le_of_ble_eq_true rfl, Nat.le_of_ble_eq_true rfl⟩ ?_
  unfold pm12_f
  show am_X gx_G 0 gx_m199 0 [(0, .ref 3), (1, .long a0), (3, .int a1)] [] p1_H3 _ p1_H3
  refine am_X.blk 2 (pc' := 2) (lv' := [(0, .ref 3), (1, .long a0), (3, .int a1)]) (st' := [.int (Int32.ofInt (1)), .int a1]) (H1 := p1_H3) (fun _ _ => rfl) ?_
  refine am_X.br2 (off := 23) (t := 25) (by decide +kernel) (by decide +kernel) (fun hb0 => ?_) (fun hb0 => ?_)
  · exact am_X.done 2 (fun _ _ => rfl)
  · refine am_X.blk 2 (pc' := 8) (lv' := [(0, .ref 3), (1, .long a0), (3, .int a1)]) (st' := [.int (Int8.ofInt (8)).toInt32, .int a1]) (H1 := p1_H3) (fun _ _ => rfl) ?_
    refine am_X.br2 (off := 17) (t := 25) (by decide +kernel) (by decide +kernel) (fun hb1 => ?_) (fun hb1 => ?_)
    · exact am_X.done 2 (fun _ _ => rfl)
    · exact am_X.done 5 (fun _ _ => rfl)
def px13_f  : Int32 := (Int32.ofInt (-1))
set_option maxHeartbeats 4000000 in
set_option maxRecDepth 100000 in
theorem px13  : am_R gx_G 1 128 [.ref 0] p1_H3 (some (.int (px13_f ))) p1_H3 := by
  refine am_R.enter (M := gx_m128) rfl ⟨Nat.le_of_ble_eq_true rfl, Nat.le_of_ble_eq_true rfl⟩ ?_
  unfold px13_f
  show am_X gx_G 0 gx_m128 0 [(0, .ref 0)] [] p1_H3 _ p1_H3
  exact am_X.done 5 (fun _ _ => rfl)
def pm13_f  : Int32 := (Int32.ofInt (-1))
set_option maxHeartbeats 4000000 in
set_option maxRecDepth 100000 in
theorem pm13  : am_R gx_G 1 203 [.ref 3] p1_H3 (some (.int (pm13_f ))) p1_H3 := by
  refine am_R.enter (M := gx_m203) rfl ⟨Nat.le_of_ble_eq_true rfl, Nat.le_of_ble_eq_true rfl⟩ ?_
  unfold pm13_f
  show am_X gx_G 0 gx_m203 0 [(0, .ref 3)] [] p1_H3 _ p1_H3
  exact am_X.done 5 (fun _ _ => rfl)
def px14_f  : Int32 := (Int32.ofInt (-1))
set_option maxHeartbeats 4000000 in
set_option maxRecDepth 100000 in
theorem px14  : am_R gx_G 1 130 [.ref 0] p1_H3 (some (.int (px14_f ))) p1_H3 := by
  refine am_R.enter (M := gx_m130) rfl ⟨Nat.le_of_ble_eq_true rfl, Nat.le_of_ble_eq_true rfl⟩ ?_
  unfold px14_f
  show am_X gx_G 0 gx_m130 0 [(0, .ref 0)] [] p1_H3 _ p1_H3
  exact am_X.done 5 (fun _ _ => rfl)
def pm14_f  : Int32 := (Int32.ofInt (-1))
set_option maxHeartbeats 4000000 in
set_option maxRecDepth 100000 in
theorem pm14  : am_R gx_G 1 204 [.ref 3] p1_H3 (some (.int (pm14_f ))) p1_H3 := by
  refine am_R.enter (M := gx_m204) rfl ⟨Nat.le_of_ble_eq_true rfl, Nat.le_of_ble_eq_true rfl⟩ ?_
  unfold pm14_f
  show am_X gx_G 0 gx_m204 0 [(0, .ref 3)] [] p1_H3 _ p1_H3
  exact am_X.done 5 (fun _ _ => rfl)
def px15_f (a0 : Int32) : Int32 := (if am_if1 .lt a0 = true then (Int32.ofInt (-1)) else (if am_if2 .le a0 (Int8.ofInt (6)).toInt32 = true then (if am_if2 .ne a0 (Int32.ofInt (2)) = true then (Int32.ofInt (0)) else (Int32.ofInt (-1))) else (Int32.ofInt (-1))))
set_option maxHeartbeats 4000000 in
set_option maxRecDepth 100000 in
theorem px15 (a0 : Int32) : am_R gx_G 1 131 [.ref 0, .int a0] p1_H3 (some (.int (px15_f a0))) p1_H3 := by
  refine am_R.enter (M := gx_m131) rfl ⟨Nat.le_of_ble_eq_true rfl, Nat.le_of_ble_eq_true rfl⟩ ?_
  unfold px15_f
  show am_X gx_G 0 gx_m131 0 [(0, .ref 0), (1, .int a0)] [] p1_H3 _ p1_H3
  refine am_X.blk 1 (pc' := 1) (lv' := [(0, .ref 0), (1, .int a0)]) (st' := [.int a0]) (H1 := p1_H3) (fun _ _ => rfl) ?_
  refine am_X.br1 (off := 9) (t := 10) (by decide +kernel) (by decide +kernel) (fun hb0 => ?_) (fun hb0 => ?_)
  · exact am_X.done 2 (fun _ _ => rfl)
  · refine am_X.blk 2 (pc' := 7) (lv' := [(0, .ref 0), (1, .int a0)]) (st' := [.int (Int8.ofInt (6)).toInt32, .int a0]) (H1 := p1_H3) (fun _ _ => rfl) ?_
    refine am_X.br2 (off := 5) (t := 12) (by decide +kernel) (by decide +kernel) (fun hb1 => ?_) (fun hb1 => ?_)
    · refine am_X.blk 5 (pc' := 21) (lv' := [(0, .ref 0), (1, .int a0)]) (st' := [.int (Int32.ofInt (2)), .int a0]) (H1 := p1_H3) (fun _ _ => rfl) ?_
      refine am_X.br2 (off := 7) (t := 28) (by decide +kernel) (by decide +kernel) (fun hb2 => ?_) (fun hb2 => ?_)
      · exact am_X.done 2 (fun _ _ => rfl)
      · exact am_X.done 3 (fun _ _ => rfl)
    · exact am_X.done 2 (fun _ _ => rfl)
def pm15_f (a0 : Int32) : Int32 := (if (a0).toInt < 0 ∨ 6 < (a0).toInt then (Int32.ofInt (-1)) else (fun q => ([0, 0, (Int32.ofInt (-1)), (Int32.ofInt (0)), 0, 0, 0] : List Int32).getD q 0) (a0).toInt.toNat)
set_option maxHeartbeats 4000000 in
set_option maxRecDepth 100000 in
theorem pm15 (a0 : Int32) : am_R gx_G 1 205 [.ref 3, .int a0] p1_H3 (some (.int (pm15_f a0))) p1_H3 := by
  refine am_R.enter (M := gx_m205) rfl ⟨Nat.le_of_ble_eq_true rfl, Nat.le_of_ble_eq_true rfl⟩ ?_
  unfold pm15_f
  show am_X gx_G 0 gx_m205 0 [(0, .ref 3), (1, .int a0)] [] p1_H3 _ p1_H3
  refine am_X.blk 1 (pc' := 1) (lv' := [(0, .ref 3), (1, .int a0)]) (st' := [.int a0]) (H1 := p1_H3) (fun _ _ => rfl) ?_
  refine am_X.sw (n := 43) (N := 6) (dflt := 97) (hi := 6) (offs := #[43, 48, 53, 69, 82, 87, 92]) (rs := (fun q => ([0, 0, (Int32.ofInt (-1)), (Int32.ofInt (0)), 0, 0, 0] : List Int32).getD q 0)) (tq := fun q => ([44, 49, 54, 70, 83, 88, 93] : List Nat).getD q 0) (t := 98) (by decide +kernel) rfl (fun q hq => ?_) (by decide +kernel) (fun q hq => ?_) ?_
  · rcases (show q = 0 ∨ q = 1 ∨ q = 2 ∨ q = 3 ∨ q = 4 ∨ q = 5 ∨ q = 6 by omega) with rfl | rfl | rfl | rfl | rfl | rfl | rfl <;> exact ⟨_, rfl, by decide +kernel⟩
  · rcases (show q = 0 ∨ q = 1 ∨ q = 2 ∨ q = 3 ∨ q = 4 ∨ q = 5 ∨ q = 6 by omega) with rfl | rfl | rfl | rfl | rfl | rfl | rfl
    · exact am_X.done 3 (fun _ _ => rfl)
    · exact am_X.done 3 (fun _ _ => rfl)
    · exact am_X.done 6 (fun _ _ => rfl)
    · exact am_X.done 5 (fun _ _ => rfl)
    · exact am_X.done 3 (fun _ _ => rfl)
    · exact am_X.done 3 (fun _ _ => rfl)
    · exact am_X.done 3 (fun _ _ => rfl)
  · exact am_X.done 2 (fun _ _ => rfl)
def px16_f (a0 : Int32) (a1 : Int32) : Int32 := (Int32.ofInt (-1))
set_option maxHeartbeats 4000000 in
set_option maxRecDepth 100000 in
theorem px16 (a0 : Int32) (a1 : Int32) : am_R gx_G 1 132 [.ref 0, .int a0, .int a1] p1_H3 (some (.int (px16_f a0 a1))) p1_H3 := by
  refine am_R.enter (M := gx_m132) rfl ⟨Nat.le_of_ble_eq_true rfl, Nat.le_of_ble_eq_true rfl⟩ ?_
  unfold px16_f
  show am_X gx_G 0 gx_m132 0 [(0, .ref 0), (1, .int a0), (2, .int a1)] [] p1_H3 _ p1_H3
  exact am_X.done 5 (fun _ _ => rfl)
def pm16_f (a0 : Int32) (a1 : Int32) : Int32 := (if am_if1 .lt a0 = true then (Int32.ofInt (-1)) else (if am_if2 .lt a0 0 = true then (if (a1).toInt < 0 ∨ 2 < (a1).toInt then (Int32.ofInt (-1)) else (fun q => ([(Int32.ofInt (0)), (Int32.ofInt (0)), (Int32.ofInt (0))] : List Int32).getD q 0) (a1).toInt.toNat) else (Int32.ofInt (-1))))
set_option maxHeartbeats 4000000 in
set_option maxRecDepth 100000 in
theorem pm16 (a0 : Int32) (a1 : Int32) : am_R gx_G 1 206 [.ref 3, .int a0, .int a1] p1_H3 (some (.int (pm16_f a0 a1))) p1_H3 := by
  refine am_R.enter (M := gx_m206) rfl ⟨Nat.le_of_ble_eq_true rfl, Nat.le_of_ble_eq_true rfl⟩ ?_
  unfold pm16_f
  show am_X gx_G 0 gx_m206 0 [(0, .ref 3), (1, .int a0), (2, .int a1)] [] p1_H3 _ p1_H3
  refine am_X.blk 1 (pc' := 1) (lv' := [(0, .ref 3), (1, .int a0), (2, .int a1)]) (st' := [.int a0]) (H1 := p1_H3) (fun _ _ => rfl) ?_
  refine am_X.br1 (off := 11) (t := 12) (by decide +kernel) (by decide +kernel) (fun hb0 => ?_) (fun hb0 => ?_)
  · exact am_X.done 2 (fun _ _ => rfl)
  · refine am_X.blk 3 (pc' := 9) (lv' := [(0, .ref 3), (1, .int a0), (2, .int a1)]) (st' := [.int 0, .int a0]) (H1 := p1_H3) (fun _ _ => rfl) ?_
    refine am_X.br2 (off := 5) (t := 14) (by decide +kernel) (by decide +kernel) (fun hb1 => ?_) (fun hb1 => ?_)
    · refine am_X.blk 1 (pc' := 15) (lv' := [(0, .ref 3), (1, .int a0), (2, .int a1)]) (st' := [.int a1]) (H1 := p1_H3) (fun _ _ => rfl) ?_
      refine am_X.sw (n := 25) (N := 2) (dflt := 46) (hi := 2) (offs := #[25, 32, 39]) (rs := (fun q => ([(Int32.ofInt (0)), (Int32.ofInt (0)), (Int32.ofInt (0))] : List Int32).getD q 0)) (tq := fun q => ([40, 47, 54] : List Nat).getD q 0) (t := 61) (by decide +kernel) rfl (fun q hq => ?_) (by decide +kernel) (fun q hq => ?_) ?_
      · rcases (show q = 0 ∨ q = 1 ∨ q = 2 by omega) with rfl | rfl | rfl <;> exact ⟨_, rfl, by decide +kernel⟩
      · rcases (show q = 0 ∨ q = 1 ∨ q = 2 by omega) with rfl | rfl | rfl
        · exfalso
          simp only [am_if1, am_if2, decide_eq_true_eq, decide_eq_false_iff_not, Int32.lt_iff_toInt_lt, Int32.le_iff_toInt_le, Int32.toInt_zero] at hb0 hb1
          omega
        · exfalso
          simp only [am_if1, am_if2, decide_eq_true_eq, decide_eq_false_iff_not, Int32.lt_iff_toInt_lt, Int32.le_iff_toInt_le, Int32.toInt_zero] at hb0 hb1
          omega
        · exfalso
          simp only [am_if1, am_if2, decide_eq_true_eq, decide_eq_false_iff_not, Int32.lt_iff_toInt_lt, Int32.le_iff_toInt_le, Int32.toInt_zero] at hb0 hb1
          omega
      · exact am_X.done 2 (fun _ _ => rfl)
    · exact am_X.done 2 (fun _ _ => rfl)
def px17_f (a0 : Int32) (a1 : Int32) : Int32 := (Int32.ofInt (-1))
set_option maxHeartbeats 4000000 in
set_option maxRecDepth 100000 in
theorem px17 (a0 : Int32) (a1 : Int32) : am_R gx_G 1 133 [.ref 0, .int a0, .int a1] p1_H3 (some (.int (px17_f a0 a1))) p1_H3 := by
  refine am_R.enter (M := gx_m133) rfl ⟨Nat.le_of_ble_eq_true rfl, Nat.le_of_ble_eq_true rfl⟩ ?_
  unfold px17_f
  show am_X gx_G 0 gx_m133 0 [(0, .ref 0), (1, .int a0), (2, .int a1)] [] p1_H3 _ p1_H3
  exact am_X.done 5 (fun _ _ => rfl)
def pm17_f (a0 : Int32) (a1 : Int32) : Int32 := (if am_if1 .lt a0 = true then (Int32.ofInt (-1)) else (if am_if2 .lt a0 0 = true then (if (a1).toInt < 0 ∨ 3 < (a1).toInt then (Int32.ofInt (-1)) else (fun q => ([(Int32.ofInt (0)), (Int32.ofInt (0)), (Int32.ofInt (0)), (Int32.ofInt (0))] : List Int32).getD q 0) (a1).toInt.toNat) else (Int32.ofInt (-1))))
set_option maxHeartbeats 4000000 in
set_option maxRecDepth 100000 in
theorem pm17 (a0 : Int32) (a1 : Int32) : am_R gx_G 1 207 [.ref 3, .int a0, .int a1] p1_H3 (some (.int (pm17_f a0 a1))) p1_H3 := by
  refine am_R.enter (M := gx_m207) rfl ⟨Nat.le_of_ble_eq_true rfl, Nat.le_of_ble_eq_true rfl⟩ ?_
  unfold pm17_f
  show am_X gx_G 0 gx_m207 0 [(0, .ref 3), (1, .int a0), (2, .int a1)] [] p1_H3 _ p1_H3
  refine am_X.blk 1 (pc' := 1) (lv' := [(0, .ref 3), (1, .int a0), (2, .int a1)]) (st' := [.int a0]) (H1 := p1_H3) (fun _ _ => rfl) ?_
  refine am_X.br1 (off := 11) (t := 12) (by decide +kernel) (by decide +kernel) (fun hb0 => ?_) (fun hb0 => ?_)
  · exact am_X.done 2 (fun _ _ => rfl)
  · refine am_X.blk 3 (pc' := 9) (lv' := [(0, .ref 3), (1, .int a0), (2, .int a1)]) (st' := [.int 0, .int a0]) (H1 := p1_H3) (fun _ _ => rfl) ?_
    refine am_X.br2 (off := 5) (t := 14) (by decide +kernel) (by decide +kernel) (fun hb1 => ?_) (fun hb1 => ?_)
    · refine am_X.blk 1 (pc' := 15) (lv' := [(0, .ref 3), (1, .int a0), (2, .int a1)]) (st' := [.int a1]) (H1 := p1_H3) (fun _ _ => rfl) ?_
      refine am_X.sw (n := 29) (N := 3) (dflt := 57) (hi := 3) (offs := #[29, 36, 43, 50]) (rs := (fun q => ([(Int32.ofInt (0)), (Int32.ofInt (0)), (Int32.ofInt (0)), (Int32.ofInt (0))] : List Int32).getD q 0)) (tq := fun q => ([44, 51, 58, 65] : List Nat).getD q 0) (t := 72) (by decide +kernel) rfl (fun q hq => ?_) (by decide +kernel) (fun q hq => ?_) ?_
      · rcases (show q = 0 ∨ q = 1 ∨ q = 2 ∨ q = 3 by omega) with rfl | rfl | rfl | rfl <;> exact ⟨_, rfl, by decide +kernel⟩
      · rcases (show q = 0 ∨ q = 1 ∨ q = 2 ∨ q = 3 by omega) with rfl | rfl | rfl | rfl
        · exfalso
          simp only [am_if1, am_if2, decide_eq_true_eq, decide_eq_false_iff_not, Int32.lt_iff_toInt_lt, Int32.le_iff_toInt_le, Int32.toInt_zero] at hb0 hb1
          omega
        · exfalso
          simp only [am_if1, am_if2, decide_eq_true_eq, decide_eq_false_iff_not, Int32.lt_iff_toInt_lt, Int32.le_iff_toInt_le, Int32.toInt_zero] at hb0 hb1
          omega
        · exfalso
          simp only [am_if1, am_if2, decide_eq_true_eq, decide_eq_false_iff_not, Int32.lt_iff_toInt_lt, Int32.le_iff_toInt_le, Int32.toInt_zero] at hb0 hb1
          omega
        · exfalso
          simp only [am_if1, am_if2, decide_eq_true_eq, decide_eq_false_iff_not, Int32.lt_iff_toInt_lt, Int32.le_iff_toInt_le, Int32.toInt_zero] at hb0 hb1
          omega
      · exact am_X.done 2 (fun _ _ => rfl)
    · exact am_X.done 2 (fun _ _ => rfl)
def px18_f (a0 : Int32) : Int32 := (Int32.ofInt (0))
set_option maxHeartbeats 4000000 in
set_option maxRecDepth 100000 in
theorem px18 (a0 : Int32) : am_R gx_G 1 134 [.ref 0, .int a0] p1_H3 (some (.int (px18_f a0))) p1_H3 := by
  refine am_R.enter (M := gx_m134) rfl ⟨Nat.le_of_ble_eq_true rfl, Nat.le_of_ble_eq_true rfl⟩ ?_
  unfold px18_f
  show am_X gx_G 0 gx_m134 0 [(0, .ref 0), (1, .int a0)] [] p1_H3 _ p1_H3
  exact am_X.done 5 (fun _ _ => rfl)
def pm18c190_0_f (v0 : Int32) : Int32 := (Int32.ofInt (0))
set_option maxHeartbeats 4000000 in
set_option maxRecDepth 100000 in
theorem pm18c190_0 (v0 : Int32) : am_R gx_G 1 190 [.ref 3, .int v0] p1_H3 (some (.int (pm18c190_0_f v0))) p1_H3 := by
  refine am_R.enter (M := gx_m190) rfl ⟨Nat.le_of_ble_eq_true rfl, Nat.le_of_ble_eq_true rfl⟩ ?_
  unfold pm18c190_0_f
  show am_X gx_G 0 gx_m190 0 [(0, .ref 3), (1, .int v0)] [] p1_H3 _ p1_H3
  exact am_X.done 5 (fun _ _ => rfl)
def pm18_f (a0 : Int32) : Int32 := (Int32.ofInt (0))
set_option maxHeartbeats 4000000 in
set_option maxRecDepth 100000 in
theorem pm18 (a0 : Int32) : am_R gx_G 2 208 [.ref 3, .int a0] p1_H3 (some (.int (pm18_f a0))) p1_H3 := by
  refine am_R.enter (M := gx_m208) rfl ⟨Nat.le_of_ble_eq_true rfl, Nat.le_of_ble_eq_true rfl⟩ ?_
  unfold pm18_f
  show am_X gx_G 1 gx_m208 0 [(0, .ref 3), (1, .int a0)] [] p1_H3 _ p1_H3
  refine am_X.blk 2 (pc' := 2) (lv' := [(0, .ref 3), (1, .int a0)]) (st' := [.int a0, .ref 3]) (H1 := p1_H3) (fun _ _ => rfl) ?_
  refine am_X.goD (i := .invokevirtual 463) (n := 3) (pc' := 5) (lv' := [(0, .ref 3), (1, .int a0)]) (st' := [.int (Int32.ofInt (0))]) (H1 := p1_H3) (by decide +kernel) (am_oneV (own := "") (j := 190) (z := 0) (Mj := gx_m190) (as := [.int a0]) (p := 3) (rest := []) (v := some (.int (Int32.ofInt (0)))) rfl rfl rfl (by decide +kernel) rfl rfl rfl (Nat.le_of_ble_eq_true rfl) (by decide +kernel) ((pm18c190_0 a0).deeper (by decide))) ?_
  exact am_X.done 3 (fun _ _ => rfl)
