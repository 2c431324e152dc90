/-! printed by gen01.py: arrays of ints and of booleans can be made -/
theorem ac_int : Cond.arrayClass .int ∈ tbl := (mt 100 (by decide +kernel) rfl)
theorem ac_bool : Cond.arrayClass .boolean ∈ tbl := (mt 578 (by decide +kernel) rfl)
