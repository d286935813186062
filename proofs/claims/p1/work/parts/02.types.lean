/-! THE ABSTRACT MACHINE: a pure interpreter over decoded rows; references are places in a list of cells. -/
abbrev am_C : Type := (FieldType × vp_A) ⊕ (Nat × List Value)
abbrev am_H : Type := List am_C
abbrev am_L : Type := List (Nat × Value)
/-- a method: name, bytes, locals, what it answers, parameters (the receiver aside), decoded rows -/
abbrev am_M : Type := MethodName × ByteArray × Nat × Option FieldType × Nat × List (Nat × Instr × Nat)
/-- what an entry of the pool stands for: its kind, two numbers, a constant -/
abbrev am_K : Type := Nat × Nat × Nat × Int64
/-- the classes, the types of their fields, the pool's entries, the methods, the types of arrays' elements -/
abbrev am_G : Type := List vw_C × (Nat → Nat → FieldType) × (String → Nat → Option am_K) × List am_M × List FieldType
