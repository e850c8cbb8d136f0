/-! Rows of the program that the pure functions read. -/
def gwA (i : Int32) : Option Int32 := if i < 0 ∨ 5 ≤ i.toNatClampNeg then none else some (ph_gw i.toNatClampNeg)
def chV (k : Nat) : Int32 := ((ph_lang.getD k 0 &&& 255).toUInt32 % 65536).toInt32
def chA (i : Int32) : Option Int32 := if i < 0 ∨ 144 ≤ i.toNatClampNeg then none else some (chV i.toNatClampNeg)
