/-! p1: build() on fresh objects: nothing is unknown, so it is run -/
def p1_bb : Bool := match p_callF 4000 12 3 [.ref 0] p1_H3 with
  | some (some (.int v), H1) => am_isC gx_G H1 3 "GrammarStreamModel" && (match am_call gx_G 4000 12 138 [.ref 3] H1 with
    | some (some (.int u), H2) => decide (u = v) && (decide (H2.length ≤ lw_cells) && decide (am_sz H2 ≤ lw_slots))
    | _ => false)
  | _ => false
set_option maxRecDepth 1000000 in
theorem p1_bb_ok : p1_bb = true := by decide +kernel
