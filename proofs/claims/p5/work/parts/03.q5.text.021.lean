/-! Both begin anew with a text. -/
section Q43
variable {m v w : Mem} {S : Int} {D : Nat}
end Q43
