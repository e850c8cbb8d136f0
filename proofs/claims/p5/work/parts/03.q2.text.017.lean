section Q28
variable {m v : Mem} {S : Int} {D : Nat}
/-- is the name told already -/
theorem l_has {a : Nat} {n x : Int} (ha : m a 0 = n) (hn : n ≤ 5) (he : ∀ j, 0 ≤ j → j < n → m (a + 1) j = v 5 (5 + j)) : ∀ (d k : Nat) (i : Int), (n - i).toNat = d → d < k → 0 ≤ i → (G1_hasName_2 k m a x i = some (0, m) ∧ G12_find_3 k v 5 n x i = some (-1, v)) ∨ (G1_hasName_2 k m a x i = some (1, m) ∧ ∃ r, 0 ≤ r ∧ G12_find_3 k v 5 n x i = some (r, v)) := by
  intro d
  induction d with
  | zero =>
    intro k i h1 h2 h3
    obtain ⟨k, rfl⟩ : ∃ j, k = j + 1 := ⟨k - 1, by first | decide | omega⟩
    rw [G1_hasName_2, G12_find_3, ha, if_pos (by first | decide | omega), if_pos (by first | decide | omega)]
    exact Or.inl ⟨rfl, rfl⟩
  | succ d ih =>
    intro k i h1 h2 h3
    obtain ⟨k, rfl⟩ : ∃ j, k = j + 1 := ⟨k - 1, by first | decide | omega⟩
    rw [G1_hasName_2, G12_find_3, ha]
    simp only [if_neg (show ¬ n ≤ i by first | decide | omega)]
    rw [gdx_t (by first | decide | omega), gdx_t (by first | decide | omega), he i h3 (by first | decide | omega)]
    by_cases c : v 5 (5 + i) = x
    · exact Or.inr ⟨by rw [if_pos c], i, h3, by rw [if_pos c]⟩
    · simp only [if_neg c]
      rw [gd3_t (by first | decide | omega), gd3_t (by first | decide | omega)]
      exact ih k (i + 1) (by first | decide | omega) (by first | decide | omega) (by first | decide | omega)
/-- what a surfer's line changes -/
def PSu (D : Nat) (n : Int) : Nat → Int → Prop := fun b i => Pk b i ∨ (b = 46 ∧ i = 7) ∨ (b = D + 1 ∧ i = 0) ∨ (D + 2 ≤ b ∧ b ≤ D + 7 ∧ i = n)
def QSu (n : Int) : Nat → Int → Prop := fun b i => Qk b i ∨ (b = 0 ∧ (i = 20 ∨ i = 24 ∨ i = 43)) ∨ (5 ≤ b ∧ b ≤ 10 ∧ i = 5 + n)
/-- the draft behind a surfer's line -/
theorem di_surf (hD : DI m v D) {m' v' : Mem} {n : Int} (hn : n = m (D + 1) 0 ∧ n < 5) (f : Fm (PSu D n) m m') (g : Fm (QSu n) v v') (h7 : m' 46 7 = 1 ∧ v' 0 24 = 1) (hs : m' (D + 1) 0 = n + 1 ∧ v' 0 20 = n + 1) (hv : v' 5 (5 + n) = m' (D + 2) n ∧ v' 6 (5 + n) = m' (D + 3) n ∧ v' 7 (5 + n) = m' (D + 4) n ∧ v' 8 (5 + n) = m' (D + 5) n ∧ v' 9 (5 + n) = m' (D + 6) n ∧ v' 10 (5 + n) = m' (D + 7) n) (hb : (0 ≤ m' (D + 3) n ∧ m' (D + 3) n < m D 0 * m D 1) ∧ (1 ≤ m' (D + 4) n ∧ m' (D + 4) n ≤ 9) ∧ (1 ≤ m' (D + 5) n ∧ m' (D + 5) n ≤ 3) ∧ (0 ≤ m' (D + 6) n ∧ m' (D + 6) n ≤ 100) ∧ (0 ≤ m' (D + 7) n ∧ m' (D + 7) n ≤ 100)) : DI m' v' D := by
  obtain ⟨h1, ⟨hS, hC, hT, hV, hL⟩, ⟨⟨a1, a2, a3, a4, a5, a6⟩, b, c, d, e, r1, r2, r3⟩, h4, h5, h6⟩ := hD
  have hDD := h1.1
  have e0 : sl 21 m' D 0 = sl 21 m D 0 := funext fun i => by rw [sl_e (Nat.zero_le _), sl_e (Nat.zero_le _)]; exact f D i (by unfold PSu Pk; first | decide | omega)
  have e8 : ∀ c : Nat, 8 ≤ c → sl 21 m' D c = sl 21 m D c := fun c hc => by
    funext i
    by_cases c21 : c ≤ 21
    · rw [sl_e c21, sl_e c21]; exact f (D + c) i (by unfold PSu Pk; first | decide | omega)
    · unfold sl; rw [if_neg c21, if_neg c21]
  have e1 : sl 21 m' D 1 0 = n + 1 := by rw [sl_e (by first | decide | omega)]; exact hs.1
  have e1' : sl 21 m D 1 0 = n := by rw [sl_e (by first | decide | omega)]; exact hn.1.symm
  have el : ∀ (c : Nat) i, 2 ≤ c → c ≤ 7 → i ≠ n → sl 21 m' D c i = sl 21 m D c i := fun c i p q r => by rw [sl_e (by first | decide | omega), sl_e (by first | decide | omega)]; exact f (D + c) i (by unfold PSu Pk; first | decide | omega)
  have en : ∀ (c : Nat), c ≤ 7 → sl 21 m' D c n = m' (D + c) n := fun c q => sl_e (by first | decide | omega) n
  have k0 : ∀ i, i + 6 ≠ 20 → i + 6 ≠ 24 → i + 6 ≠ 43 → ¬ Qk 0 (i + 6) → kd v' 0 i = kd v 0 i := fun i p q r s => by
    show v' 0 (i + 6) = v 0 (i + 6)
    exact g 0 _ (by unfold QSu; rintro (z | z | z); exact s z; omega; first | decide | omega)
  have k4 : kd v' 4 = kd v 4 := funext fun i => g 4 _ (by unfold QSu Qk; first | decide | omega)
  have kl : ∀ (c : Nat) i, 5 ≤ c → c ≤ 10 → i ≠ n → kd v' c i = kd v c i := fun c i p q r => by
    show v' c (sh c i) = v c (sh c i)
    have : sh c i = 5 + i := by unfold sh; rw [if_neg (by first | decide | omega), if_neg (by first | decide | omega), if_pos (by first | decide | omega)]
    rw [this]
    exact g c _ (by unfold QSu Qk; first | decide | omega)
  have k11 : ∀ c : Nat, 11 ≤ c → kd v' c = kd v c := fun c hc => funext fun i => g c _ (by unfold QSu Qk; first | decide | omega)
  refine ⟨⟨hDD, by rw [f 46 10 (by unfold PSu Pk; first | decide | omega)]; exact h1.2⟩, ⟨?_, ?_, ?_, ?_, ?_⟩, ⟨⟨?_, ?_, ?_, ?_, ?_, ?_⟩, ?_, ?_, ?_, ?_, ?_, ?_, ?_⟩, ⟨?_, ?_, ?_⟩, ?_, ?_⟩
  · unfold WS at hS ⊢
    rw [e0, e8 8 (by first | decide | omega), e1]
    rw [e1'] at hS
    omega
  · intro i p q
    rw [e1] at q
    rw [e0]
    by_cases c : i = n
    · rw [c, en 3 (by first | decide | omega), en 4 (by first | decide | omega), en 5 (by first | decide | omega), en 6 (by first | decide | omega), en 7 (by first | decide | omega), sl_e (by first | decide | omega), sl_e (by first | decide | omega)]
      exact hb
    · rw [el 3 i (by first | decide | omega) (by first | decide | omega) c, el 4 i (by first | decide | omega) (by first | decide | omega) c, el 5 i (by first | decide | omega) (by first | decide | omega) c, el 6 i (by first | decide | omega) (by first | decide | omega) c, el 7 i (by first | decide | omega) (by first | decide | omega) c]
      exact hC i p (by first | decide | omega)
  · unfold WT
    rw [e8 8 (by first | decide | omega), e8 9 (by first | decide | omega), e8 10 (by first | decide | omega)]; exact hT
  · unfold WV
    rw [e8 8 (by first | decide | omega), e8 9 (by first | decide | omega), e8 10 (by first | decide | omega), e8 11 (by first | decide | omega), e8 12 (by first | decide | omega), e8 13 (by first | decide | omega), e8 14 (by first | decide | omega)]; exact hV
  · unfold WLX
    rw [e8 16 (by first | decide | omega), e8 17 (by first | decide | omega), e8 18 (by first | decide | omega), e8 19 (by first | decide | omega), e8 20 (by first | decide | omega), e8 21 (by first | decide | omega)]; exact hL
  · rw [k0 12 (by first | decide | omega) (by first | decide | omega) (by first | decide | omega) (by unfold Qk; first | decide | omega), e0]; exact a1
  · rw [k0 13 (by first | decide | omega) (by first | decide | omega) (by first | decide | omega) (by unfold Qk; first | decide | omega), e0]; exact a2
  · rw [e1]; exact hs.2
  · rw [k0 15 (by first | decide | omega) (by first | decide | omega) (by first | decide | omega) (by unfold Qk; first | decide | omega), e8 8 (by first | decide | omega)]; exact a4
  · rw [k0 16 (by first | decide | omega) (by first | decide | omega) (by first | decide | omega) (by unfold Qk; first | decide | omega), e8 8 (by first | decide | omega)]; exact a5
  · rw [k0 17 (by first | decide | omega) (by first | decide | omega) (by first | decide | omega) (by unfold Qk; first | decide | omega), e0]; exact a6
  · rw [k4, e0]; exact b
  · intro i p q
    rw [e1] at q
    by_cases cc : i = n
    · rw [cc, en 2 (by first | decide | omega), en 3 (by first | decide | omega), en 4 (by first | decide | omega), en 5 (by first | decide | omega), en 6 (by first | decide | omega), en 7 (by first | decide | omega)]
      exact hv
    · rw [el 2 i (by first | decide | omega) (by first | decide | omega) cc, el 3 i (by first | decide | omega) (by first | decide | omega) cc, el 4 i (by first | decide | omega) (by first | decide | omega) cc, el 5 i (by first | decide | omega) (by first | decide | omega) cc, el 6 i (by first | decide | omega) (by first | decide | omega) cc, el 7 i (by first | decide | omega) (by first | decide | omega) cc, kl 5 i (by first | decide | omega) (by first | decide | omega) cc, kl 6 i (by first | decide | omega) (by first | decide | omega) cc, kl 7 i (by first | decide | omega) (by first | decide | omega) cc, kl 8 i (by first | decide | omega) (by first | decide | omega) cc, kl 9 i (by first | decide | omega) (by first | decide | omega) cc, kl 10 i (by first | decide | omega) (by first | decide | omega) cc]
      exact c i p (by first | decide | omega)
  · rw [k11 11 (by first | decide | omega), e8 8 (by first | decide | omega), e8 9 (by first | decide | omega)]; exact d
  · rw [k11 12 (by first | decide | omega), k11 13 (by first | decide | omega), k11 14 (by first | decide | omega), e8 8 (by first | decide | omega), e8 11 (by first | decide | omega), e8 12 (by first | decide | omega), e8 13 (by first | decide | omega)]; exact e
  · exact r1.fr3 (fun c p q => k11 c (by first | decide | omega)) (e8 16 (by first | decide | omega)) (e8 17 (by first | decide | omega))
  · exact r2.fr3 (fun c p q => k11 c (by first | decide | omega)) (e8 18 (by first | decide | omega)) (e8 19 (by first | decide | omega))
  · exact r3.fr3 (fun c p q => k11 c (by first | decide | omega)) (e8 20 (by first | decide | omega)) (e8 21 (by first | decide | omega))
  · exact Or.inr h7.1
  · rw [h7.1, h7.2]
  · intro q; rw [h7.1] at q; omega
  · unfold ONC
    rw [f 46 6 (by unfold PSu Pk; first | decide | omega), g.rw1 (b := 3) (fun i => by unfold QSu Qk; first | decide | omega)]; exact h5
  · exact ⟨by rw [g 0 49 (by unfold QSu Qk; first | decide | omega), e0]; exact h6.1, h6.2.f g (by intro b i q; unfold QSu Qk; first | decide | omega)⟩
/-- a number of the surfer that is written down at once -/
theorem st_row {lo hi : Int} {K : Mem → Int → Option (Int × Mem)} {R : Mem → Option (Int × Mem)} {row : Nat} {idx : Int} (hDD : D = 2 ∨ D = 24) (p : PreR m v S) (hb : 0 ≤ lo ∧ hi ≤ 99999) (hr : 5 ≤ row ∧ row ≤ 10) (hx : 5 ≤ idx ∧ idx < 10) (hK : ∀ m', K m' (-1) = some (0, m')) (hR : ∀ x m' v', lo ≤ x → x ≤ hi → Fm Pk m m' → Fm (fun b i => Qk b i ∨ (b = row ∧ i = idx)) v v' → v' row idx = x → PreR m' v' S → LOut (K m' x) ((R v').bind fun o => G12_lineRead_197 o.2 o.1) m' v' D S) : LOut ((G5_numberIn m lo hi).bind fun o => K o.2 o.1) (((G12_number v lo hi).bind fun o => if o.1 = 0 then some (0, o.2) else gdx idx 10 (wt (up o.2 row idx (o.2 0 11)) R)).bind fun o => G12_lineRead_197 o.2 o.1) m v D S := by
  obtain ⟨m3, v3, f3, g3, q3, k3⟩ := n_in p hb
  rcases k3 with ⟨x, x1, x2, e1, e2, e3, p3, _⟩ | ⟨e1, e2, e3⟩
  · rw [e1, e2, bs1, bs1]
    simp only [if_neg i10]
    rw [gdx_t (by first | decide | omega), wt_e, e3]
    have p4 : PreR m3 (up v3 row idx x) S := p3.f (P := fun _ _ => False) (Q := fun b i => b = row) Fm.rf (Fm.w1 rfl) (fun b i _ => id) (by intro b i q; first | decide | omega)
    have g4 : Fm (fun b i => Qk b i ∨ (b = row ∧ i = idx)) v (up v3 row idx x) := (g3.mono (fun b i q => Or.inl q)).w (Or.inr ⟨rfl, rfl⟩)
    exact lo_tr (hR x m3 _ x1 x2 f3 g4 up_e p4) (f3.mono Pk_x) (g4.mono (by intro b i q; rcases q with q | q; (exact Qk_x b i q); (unfold QX; first | decide | omega))) q3 (f3 D 12 (by unfold Pk; first | decide | omega))
  · rw [e1, e2, bs1, bs1, hK]
    simp only [if_true, bs1, r197]
    exact lo_flt ⟨m3, v3, f3, g3, q3, rfl, rfl, e3⟩
theorem Pk_s {n : Int} : ∀ b i, Pk b i → PSu D n b i := fun _ _ h => Or.inl h
theorem Qk_s {n : Int} : ∀ b i, Qk b i → QSu n b i := fun _ _ h => Or.inl h
theorem Qr_s {n : Int} {row : Nat} (hr : 5 ≤ row ∧ row ≤ 10) : ∀ b i, (Qk b i ∨ (b = row ∧ i = 5 + n)) → QSu n b i := by
  intro b i q
  rcases q with q | q
  · exact Or.inl q
  · unfold QSu; omega
theorem Ps_x {n : Int} : ∀ b i, PSu D n b i → PX D b i := by intro b i h; unfold PSu Pk at h; unfold PX; omega
theorem Qs_x {n : Int} (hn : 0 ≤ n) : ∀ b i, QSu n b i → QX b i := by intro b i h; unfold QSu Qk at h; unfold QX; omega
end Q28
