section Q42
variable {m v : Mem} {S : Int} {D : Nat}
theorem KD.cop {c : Nat} {n : Int} {v0 v v' : Mem} (h : KD c v0 v) (hc : 4 ≤ c ∧ c ≤ 20) (hn : ∀ i, KT c i ↔ 0 ≤ i ∧ i < n) (hs : ∀ i, sh c i = n + i) (f : Fm (fun b i => b = c ∧ 0 ≤ i ∧ i < n) v v') (g : ∀ i, 0 ≤ i → i < n → v' c i = v c (n + i)) : KD (c + 1) v0 v' := by
  obtain ⟨h1, h2⟩ := h
  refine ⟨fun b i z1 z2 => ?_, (h2.mono (fun b i q => ⟨q.1, by first | decide | omega⟩)).tr (f.mono (fun b i q => ⟨by rw [q.1]; exact (hn i).mpr q.2, by first | decide | omega⟩))⟩
  by_cases c1 : b = c
  · subst c1
    have hi := (hn i).mp z1
    rw [g i hi.1 hi.2]
    show v b (n + i) = v0 b (sh b i)
    rw [hs, h2 b _ (fun q => by first | decide | omega)]
  · rw [f b i (by first | decide | omega)]; exact h1 b i z1 (by first | decide | omega)
end Q42
