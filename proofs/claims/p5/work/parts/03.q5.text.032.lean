/-! A text is told: both say the same, and belong together again. -/
section Q45
variable {m v : Mem} {S : Int} {D T : Nat}
end Q45
