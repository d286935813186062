/-- within the room -/
def p1_in (H : am_H) : Prop := H.length ≤ lw_cells ∧ am_sz H ≤ lw_slots
