/-! A text is told: both say the same, and belong together again. -/
section Q44
variable {m v : Mem} {S : Int} {D T : Nat}
theorem QT_K {b : Nat} {i : Int} (h : KT b i) : ¬ QT b i := by
  unfold KT at h
  unfold QT QX
  omega
end Q44
