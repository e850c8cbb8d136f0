/-! New objects belong together. -/
theorem okx0 : OKX hxF := by
  refine ⟨by decide +kernel, ?_, ?_⟩
  · unfold A8 ABy; decide +kernel
  · decide +kernel
theorem okm0 : OKM hmF := hmF_sk
theorem nf1 : (rd hxF 0 1 = 0 ∧ rd hxF 0 3 = 2 ∧ rd hxF 0 4 = 24 ∧ rd hxF 0 10 = 0 ∧ rd hxF 51 0 = 2 ∧ rd hxF 46 8 = 0 ∧ rd hxF 46 9 = -1) ∧ (rd hxF 2 0 = 6 ∧ rd hxF 2 1 = 4 ∧ rd hxF 2 2 = 0 ∧ rd hxF 2 3 = 0 ∧ rd hxF 2 6 = 0 ∧ rd hxF 2 7 = 0 ∧ rd hxF 2 8 = 0 ∧ rd hxF 2 9 = 0 ∧ rd hxF 2 10 = 0 ∧ rd hxF 2 13 = 0) ∧ (rd hxF 3 0 = 0 ∧ rd hxF 10 0 = 0 ∧ rd hxF 10 1 = 0) ∧ (rd hxF 18 1 = 0 ∧ rd hxF 18 2 = 0 ∧ rd hxF 20 1 = 0 ∧ rd hxF 20 2 = 0 ∧ rd hxF 22 1 = 0 ∧ rd hxF 22 2 = 0) ∧ (rd hxF 69 0 = 0 ∧ rd hxF 69 1 = 0 ∧ rd hxF 69 2 = 0 ∧ rd hxF 69 3 = 0 ∧ rd hxF 69 4 = 0) ∧ (rd hxF 90 0 = 0 ∧ rd hxF 90 1 = -1 ∧ rd hxF 96 0 = 0) := by decide +kernel
theorem nf2 : (rd hmF 0 1 = 0 ∧ rd hmF 0 4 = 0 ∧ rd hmF 0 5 = -1 ∧ rd hmF 0 12 = 6 ∧ rd hmF 0 13 = 4 ∧ rd hmF 0 14 = 0 ∧ rd hmF 0 15 = 0 ∧ rd hmF 0 16 = 0 ∧ rd hmF 0 17 = 0) ∧ (rd hmF 4 0 = 0 ∧ rd hmF 4 1 = 0 ∧ rd hmF 4 2 = 0 ∧ rd hmF 4 3 = 0 ∧ rd hmF 4 4 = 0 ∧ rd hmF 4 5 = 0 ∧ rd hmF 4 6 = 0) ∧ (rd hmF 15 0 = 0 ∧ rd hmF 15 1 = 0 ∧ rd hmF 15 2 = 0) ∧ (rd hmF 31 0 = 0 ∧ rd hmF 32 0 = 0 ∧ rd hmF 33 0 = 0) ∧ (rd hmF 0 64 = 0 ∧ rd hmF 0 65 = 0 ∧ rd hmF 0 66 = -1 ∧ rd hmF 0 74 = 0 ∧ rd hmF 0 75 = -1 ∧ rd hmF 0 78 = 0 ∧ rd hmF 0 80 = 0) := by decide +kernel
theorem nf3 : ∀ i : Nat, i < 24 → rd hxF 48 i = lgW.getD i 0 := by decide +kernel
theorem nf4 : ∀ i : Nat, i < 120 → rd hmF 2 i = wdM.getD i 0 := by decide +kernel
theorem nf5 : ∀ i : Nat, i < 280 → rd hxF 102 i = 0 := by decide +kernel
