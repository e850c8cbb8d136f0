/-! A closed heap's bounds by counting. -/
def bdB (h : PH) (x : Nat × Nat × Nat × Int × Int) : Bool := match gI h x.1 x.2.1 x.2.2.1 with
  | some v => decide (x.2.2.2.1 ≤ v.toInt) && decide (v.toInt ≤ x.2.2.2.2)
  | none => false
def brB (h : PH) (x : Nat × Nat × Nat × Int × Int) : Bool := match h[x.1]? with
  | some (.inl (_, n, .inl f)) => (List.range n).all (fun k => decide (x.2.2.2.1 ≤ (f k).toInt) && decide ((f k).toInt ≤ x.2.2.2.2))
  | _ => false
theorem bdB_spec {h : PH} {x : Nat × Nat × Nat × Int × Int} (e : bdB h x = true) : Bd h x := by
  unfold bdB at e
  split at e
  · rename_i v hv
    rw [Bool.and_eq_true] at e
    exact ⟨v, hv, of_decide_eq_true e.1, of_decide_eq_true e.2⟩
  · cases e
theorem brB_spec {h : PH} {x : Nat × Nat × Nat × Int × Int} (e : brB h x = true) : Br h x := by
  intro i v hv
  obtain ⟨n, f, h1, h2, h3⟩ := aI_spec hv
  unfold brB at e
  rw [h1] at e
  simp only at e
  have hlt : i.toNatClampNeg < n := Nat.not_le.mp fun q => h2 (Or.inr q)
  have := List.all_eq_true.mp e i.toNatClampNeg (List.mem_range.mpr hlt)
  rw [Bool.and_eq_true] at this
  subst h3
  exact ⟨of_decide_eq_true this.1, of_decide_eq_true this.2⟩
theorem iv_mk {S : List (Nat × Nat × List Nat)} {FB AB : List (Nat × Nat × Nat × Int × Int)} {h : PH} (e0 : Sk h = S) (e1 : FB.all (bdB h) = true) (e2 : AB.all (brB h) = true) : Iv S FB AB h := ⟨e0, fun x hx => bdB_spec (List.all_eq_true.mp e1 x hx), fun x hx => brB_spec (List.all_eq_true.mp e2 x hx)⟩
/-- the bounds of a told text at T -/
def tFB (T : Nat) : List (Nat × Nat × Nat × Int × Int) := [(T, 8, 0, 1, 8), (T, 8, 1, 1, 6), (T, 8, 2, 0, 7), (T, 8, 3, 0, 5), (T + 1, 1, 0, 0, 5), (T + 8, 10, 0, 0, 4), (T + 8, 10, 1, 0, 28), (T, 8, 6, 0, 20), (T, 8, 7, 0, 20), (T, 8, 8, 0, 9), (T, 8, 9, 0, 3), (T, 8, 10, 0, 99999), (T, 8, 12, 0, 701), (T, 8, 13, 0, 64), (T + 16, 2, 1, 0, 64), (T + 18, 2, 1, 0, 64), (T + 20, 2, 1, 0, 64)]
def tAB (T : Nat) : List (Nat × Nat × Nat × Int × Int) := [(T + 3, 0, 5, 0, 47), (T + 4, 0, 5, 0, 9), (T + 5, 0, 5, 0, 3), (T + 6, 0, 5, 0, 100), (T + 7, 0, 5, 0, 100), (T + 9, 0, 4, 0, 21), (T + 10, 0, 4, 0, 7), (T + 11, 0, 28, 0, 199), (T + 12, 0, 28, 0, 9), (T + 13, 0, 28, 0, 3), (T + 14, 0, 28, 0, 7)]
theorem fr_t2 : Iv SX (tFB 2) (tAB 2) hxF := iv_mk hxF_sk (by decide +kernel) (by decide +kernel)
theorem fr_t24 : Iv SX (tFB 24) (tAB 24) hxF := iv_mk hxF_sk (by decide +kernel) (by decide +kernel)
