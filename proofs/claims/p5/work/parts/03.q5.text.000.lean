/-! Any line, and all lines of a text, on both sides. -/
section Q39
variable {m v : Mem} {S : Int} {D : Nat}
end Q39
