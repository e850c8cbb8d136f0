/-! The line of a surfer on both sides. -/
section Q28
variable {m v : Mem} {S : Int} {D : Nat}
/-- a surfer is laid behind the others -/
theorem c_addc {a : Nat} {x1 x2 x3 x4 x5 x6 : Int} (h : 0 ≤ m a 0 ∧ m a 0 < 5) : ∃ m', G1_add m a x1 x2 x3 x4 x5 x6 = some m' ∧ Fm (fun b i => (b = a ∧ i = 0) ∨ (a + 1 ≤ b ∧ b ≤ a + 6 ∧ i = m a 0)) m m' ∧ m' a 0 = m a 0 + 1 ∧ m' (a + 1) (m a 0) = x1 ∧ m' (a + 2) (m a 0) = x2 ∧ m' (a + 3) (m a 0) = x3 ∧ m' (a + 4) (m a 0) = x4 ∧ m' (a + 5) (m a 0) = x5 ∧ m' (a + 6) (m a 0) = x6 := by
  have e0 : m a 0 = m a 0 := rfl
  generalize hn : m a 0 = n at *
  have e1 : up m (a + 1) n x1 a 0 = n := by rw [up_a (by omega)]; exact hn
  have e2 : up (up m (a + 1) n x1) (a + 2) n x2 a 0 = n := by rw [up_a (by omega)]; exact e1
  have e3 : up (up (up m (a + 1) n x1) (a + 2) n x2) (a + 3) n x3 a 0 = n := by rw [up_a (by omega)]; exact e2
  have e4 : up (up (up (up m (a + 1) n x1) (a + 2) n x2) (a + 3) n x3) (a + 4) n x4 a 0 = n := by rw [up_a (by omega)]; exact e3
  have e5 : up (up (up (up (up m (a + 1) n x1) (a + 2) n x2) (a + 3) n x3) (a + 4) n x4) (a + 5) n x5 a 0 = n := by rw [up_a (by omega)]; exact e4
  have e6 : up (up (up (up (up (up m (a + 1) n x1) (a + 2) n x2) (a + 3) n x3) (a + 4) n x4) (a + 5) n x5) (a + 6) n x6 a 0 = n := by rw [up_a (by omega)]; exact e5
  unfold G1_add G1_add_0
  rw [hn, if_pos h.2, gdx_t h, wt_e, e1, gdx_t h, wt_e, e2, gdx_t h, wt_e, e3, gdx_t h, wt_e, e4, gdx_t h, wt_e, e5, gdx_t h, wt_e, e6, gd3_t (by omega), wt_e]
  refine ⟨_, rfl, ((((((Fm.w1 ?_).w ?_).w ?_).w ?_).w ?_).w ?_).w ?_, up_e, ?_, ?_, ?_, ?_, ?_, ?_⟩
  · omega
  · omega
  · omega
  · omega
  · omega
  · omega
  · omega
  · rw [up_a (by omega), up_a (by omega), up_a (by omega), up_a (by omega), up_a (by omega), up_a (by omega), up_e]
  · rw [up_a (by omega), up_a (by omega), up_a (by omega), up_a (by omega), up_a (by omega), up_e]
  · rw [up_a (by omega), up_a (by omega), up_a (by omega), up_a (by omega), up_e]
  · rw [up_a (by omega), up_a (by omega), up_a (by omega), up_e]
  · rw [up_a (by omega), up_a (by omega), up_e]
  · rw [up_a (by omega), up_e]
/-- is the name told already -/
theorem l_has {a : Nat} {n x : Int} (ha : m a 0 = n) (hn : n ≤ 5) (he : ∀ j, 0 ≤ j → j < n → m (a + 1) j = v 5 (5 + j)) : ∀ (d k : Nat) (i : Int), (n - i).toNat = d → d < k → 0 ≤ i → (G1_hasName_2 k m a x i = some (0, m) ∧ G12_find_3 k v 5 n x i = some (-1, v)) ∨ (G1_hasName_2 k m a x i = some (1, m) ∧ ∃ r, 0 ≤ r ∧ G12_find_3 k v 5 n x i = some (r, v)) := by
  intro d
  induction d with
  | zero =>
    intro k i h1 h2 h3
    obtain ⟨k, rfl⟩ : ∃ j, k = j + 1 := ⟨k - 1, by omega⟩
    rw [G1_hasName_2, G12_find_3, ha, if_pos (by omega), if_pos (by omega)]
    exact Or.inl ⟨rfl, rfl⟩
  | succ d ih =>
    intro k i h1 h2 h3
    obtain ⟨k, rfl⟩ : ∃ j, k = j + 1 := ⟨k - 1, by omega⟩
    rw [G1_hasName_2, G12_find_3, ha]
    simp only [if_neg (show ¬ n ≤ i by omega)]
    rw [gdx_t (by omega), gdx_t (by omega), he i h3 (by omega)]
    by_cases c : v 5 (5 + i) = x
    · exact Or.inr ⟨by rw [if_pos c], i, h3, by rw [if_pos c]⟩
    · simp only [if_neg c]
      rw [gd3_t (by omega), gd3_t (by omega)]
      exact ih k (i + 1) (by omega) (by omega) (by omega)
/-- what a surfer's line changes -/
def PSu (D : Nat) (n : Int) : Nat → Int → Prop := fun b i => Pk b i ∨ (b = 46 ∧ i = 7) ∨ (b = D + 1 ∧ i = 0) ∨ (D + 2 ≤ b ∧ b ≤ D + 7 ∧ i = n)
def QSu (n : Int) : Nat → Int → Prop := fun b i => Qk b i ∨ (b = 0 ∧ (i = 20 ∨ i = 24 ∨ i = 43)) ∨ (5 ≤ b ∧ b ≤ 10 ∧ i = 5 + n)
/-- the draft behind a surfer's line -/
theorem di_surf (hD : DI m v D) {m' v' : Mem} {n : Int} (hn : n = m (D + 1) 0 ∧ n < 5) (f : Fm (PSu D n) m m') (g : Fm (QSu n) v v') (h7 : m' 46 7 = 1 ∧ v' 0 24 = 1) (hs : m' (D + 1) 0 = n + 1 ∧ v' 0 20 = n + 1) (hv : v' 5 (5 + n) = m' (D + 2) n ∧ v' 6 (5 + n) = m' (D + 3) n ∧ v' 7 (5 + n) = m' (D + 4) n ∧ v' 8 (5 + n) = m' (D + 5) n ∧ v' 9 (5 + n) = m' (D + 6) n ∧ v' 10 (5 + n) = m' (D + 7) n) (hb : (0 ≤ m' (D + 3) n ∧ m' (D + 3) n < m D 0 * m D 1) ∧ (1 ≤ m' (D + 4) n ∧ m' (D + 4) n ≤ 9) ∧ (1 ≤ m' (D + 5) n ∧ m' (D + 5) n ≤ 3) ∧ (0 ≤ m' (D + 6) n ∧ m' (D + 6) n ≤ 100) ∧ (0 ≤ m' (D + 7) n ∧ m' (D + 7) n ≤ 100)) : DI m' v' D := by
  obtain ⟨h1, ⟨hS, hC, hT, hV, hL⟩, ⟨⟨a1, a2, a3, a4, a5, a6⟩, b, c, d, e, r1, r2, r3⟩, h4, h5, h6⟩ := hD
  have hDD := h1.1
  have e0 : sl 21 m' D 0 = sl 21 m D 0 := funext fun i => by rw [sl_e (Nat.zero_le _), sl_e (Nat.zero_le _)]; exact f D i (by unfold PSu Pk; omega)
  have e8 : ∀ c : Nat, 8 ≤ c → sl 21 m' D c = sl 21 m D c := fun c hc => by
    funext i
    by_cases c21 : c ≤ 21
    · rw [sl_e c21, sl_e c21]; exact f (D + c) i (by unfold PSu Pk; omega)
    · unfold sl; rw [if_neg c21, if_neg c21]
  have e1 : sl 21 m' D 1 0 = n + 1 := by rw [sl_e (by omega)]; exact hs.1
  have e1' : sl 21 m D 1 0 = n := by rw [sl_e (by omega)]; exact hn.1.symm
  have el : ∀ (c : Nat) i, 2 ≤ c → c ≤ 7 → i ≠ n → sl 21 m' D c i = sl 21 m D c i := fun c i p q r => by rw [sl_e (by omega), sl_e (by omega)]; exact f (D + c) i (by unfold PSu Pk; omega)
  have en : ∀ (c : Nat), c ≤ 7 → sl 21 m' D c n = m' (D + c) n := fun c q => sl_e (by omega) n
  have k0 : ∀ i, i + 6 ≠ 20 → i + 6 ≠ 24 → i + 6 ≠ 43 → ¬ Qk 0 (i + 6) → kd v' 0 i = kd v 0 i := fun i p q r s => by
    show v' 0 (i + 6) = v 0 (i + 6)
    exact g 0 _ (by unfold QSu; rintro (z | z | z); exact s z; omega; omega)
  have k4 : kd v' 4 = kd v 4 := funext fun i => g 4 _ (by unfold QSu Qk; omega)
  have kl : ∀ (c : Nat) i, 5 ≤ c → c ≤ 10 → i ≠ n → kd v' c i = kd v c i := fun c i p q r => by
    show v' c (sh c i) = v c (sh c i)
    have : sh c i = 5 + i := by unfold sh; rw [if_neg (by omega), if_neg (by omega), if_pos (by omega)]
    rw [this]
    exact g c _ (by unfold QSu Qk; omega)
  have k11 : ∀ c : Nat, 11 ≤ c → kd v' c = kd v c := fun c hc => funext fun i => g c _ (by unfold QSu Qk; omega)
  refine ⟨⟨hDD, by rw [f 46 10 (by unfold PSu Pk; omega)]; exact h1.2⟩, ⟨?_, ?_, ?_, ?_, ?_⟩, ⟨⟨?_, ?_, ?_, ?_, ?_, ?_⟩, ?_, ?_, ?_, ?_, ?_, ?_, ?_⟩, ⟨?_, ?_, ?_⟩, ?_, ?_⟩
  · unfold WS at hS ⊢
    rw [e0, e8 8 (by omega), e1]
    rw [e1'] at hS
    omega
  · intro i p q
    rw [e1] at q
    rw [e0]
    by_cases c : i = n
    · rw [c, en 3 (by omega), en 4 (by omega), en 5 (by omega), en 6 (by omega), en 7 (by omega), sl_e (by omega), sl_e (by omega)]
      exact hb
    · rw [el 3 i (by omega) (by omega) c, el 4 i (by omega) (by omega) c, el 5 i (by omega) (by omega) c, el 6 i (by omega) (by omega) c, el 7 i (by omega) (by omega) c]
      exact hC i p (by omega)
  · unfold WT
    rw [e8 8 (by omega), e8 9 (by omega), e8 10 (by omega)]; exact hT
  · unfold WV
    rw [e8 8 (by omega), e8 9 (by omega), e8 10 (by omega), e8 11 (by omega), e8 12 (by omega), e8 13 (by omega), e8 14 (by omega)]; exact hV
  · unfold WLX
    rw [e8 16 (by omega), e8 17 (by omega), e8 18 (by omega), e8 19 (by omega), e8 20 (by omega), e8 21 (by omega)]; exact hL
  · rw [k0 12 (by omega) (by omega) (by omega) (by unfold Qk; omega), e0]; exact a1
  · rw [k0 13 (by omega) (by omega) (by omega) (by unfold Qk; omega), e0]; exact a2
  · rw [e1]; exact hs.2
  · rw [k0 15 (by omega) (by omega) (by omega) (by unfold Qk; omega), e8 8 (by omega)]; exact a4
  · rw [k0 16 (by omega) (by omega) (by omega) (by unfold Qk; omega), e8 8 (by omega)]; exact a5
  · rw [k0 17 (by omega) (by omega) (by omega) (by unfold Qk; omega), e0]; exact a6
  · rw [k4, e0]; exact b
  · intro i p q
    rw [e1] at q
    by_cases cc : i = n
    · rw [cc, en 2 (by omega), en 3 (by omega), en 4 (by omega), en 5 (by omega), en 6 (by omega), en 7 (by omega)]
      exact hv
    · rw [el 2 i (by omega) (by omega) cc, el 3 i (by omega) (by omega) cc, el 4 i (by omega) (by omega) cc, el 5 i (by omega) (by omega) cc, el 6 i (by omega) (by omega) cc, el 7 i (by omega) (by omega) cc, kl 5 i (by omega) (by omega) cc, kl 6 i (by omega) (by omega) cc, kl 7 i (by omega) (by omega) cc, kl 8 i (by omega) (by omega) cc, kl 9 i (by omega) (by omega) cc, kl 10 i (by omega) (by omega) cc]
      exact c i p (by omega)
  · rw [k11 11 (by omega), e8 8 (by omega), e8 9 (by omega)]; exact d
  · rw [k11 12 (by omega), k11 13 (by omega), k11 14 (by omega), e8 8 (by omega), e8 11 (by omega), e8 12 (by omega), e8 13 (by omega)]; exact e
  · exact r1.fr3 (fun c p q => k11 c (by omega)) (e8 16 (by omega)) (e8 17 (by omega))
  · exact r2.fr3 (fun c p q => k11 c (by omega)) (e8 18 (by omega)) (e8 19 (by omega))
  · exact r3.fr3 (fun c p q => k11 c (by omega)) (e8 20 (by omega)) (e8 21 (by omega))
  · exact Or.inr h7.1
  · rw [h7.1, h7.2]
  · intro q; rw [h7.1] at q; omega
  · unfold ONC
    rw [f 46 6 (by unfold PSu Pk; omega), g.rw1 (b := 3) (fun i => by unfold QSu Qk; omega)]; exact h5
  · exact ⟨by rw [g 0 49 (by unfold QSu Qk; omega), e0]; exact h6.1, h6.2.f g (by intro b i q; unfold QSu Qk; omega)⟩
/-- a number of the surfer that is written down at once -/
theorem st_row {lo hi : Int} {K : Mem → Int → Option (Int × Mem)} {R : Mem → Option (Int × Mem)} {row : Nat} {idx : Int} (hDD : D = 2 ∨ D = 24) (p : PreR m v S) (hb : 0 ≤ lo ∧ hi ≤ 99999) (hr : 5 ≤ row ∧ row ≤ 10) (hx : 5 ≤ idx ∧ idx < 10) (hK : ∀ m', K m' (-1) = some (0, m')) (hR : ∀ x m' v', lo ≤ x → x ≤ hi → Fm Pk m m' → Fm (fun b i => Qk b i ∨ (b = row ∧ i = idx)) v v' → v' row idx = x → PreR m' v' S → LOut (K m' x) ((R v').bind fun o => G12_lineRead_197 o.2 o.1) m' v' D S) : LOut ((G5_numberIn m lo hi).bind fun o => K o.2 o.1) (((G12_number v lo hi).bind fun o => if o.1 = 0 then some (0, o.2) else gdx idx 10 (wt (up o.2 row idx (o.2 0 11)) R)).bind fun o => G12_lineRead_197 o.2 o.1) m v D S := by
  obtain ⟨m3, v3, f3, g3, q3, k3⟩ := n_in p hb
  rcases k3 with ⟨x, x1, x2, e1, e2, e3, p3, _⟩ | ⟨e1, e2, e3⟩
  · rw [e1, e2, bs1, bs1]
    simp only [if_neg i10]
    rw [gdx_t (by omega), wt_e, e3]
    have p4 : PreR m3 (up v3 row idx x) S := p3.f (P := fun _ _ => False) (Q := fun b i => b = row) Fm.rf (Fm.w1 rfl) (fun b i _ => id) (by intro b i q; omega)
    have g4 : Fm (fun b i => Qk b i ∨ (b = row ∧ i = idx)) v (up v3 row idx x) := (g3.mono (fun b i q => Or.inl q)).w (Or.inr ⟨rfl, rfl⟩)
    exact lo_tr (hR x m3 _ x1 x2 f3 g4 up_e p4) (f3.mono Pk_x) (g4.mono (by intro b i q; rcases q with q | q; (exact Qk_x b i q); (unfold QX; omega))) q3 (f3 D 12 (by unfold Pk; omega))
  · rw [e1, e2, bs1, bs1, hK]
    simp only [if_true, bs1, r197]
    exact lo_flt ⟨m3, v3, f3, g3, q3, rfl, rfl, e3⟩
theorem Pk_s {n : Int} : ∀ b i, Pk b i → PSu D n b i := fun _ _ h => Or.inl h
theorem Qk_s {n : Int} : ∀ b i, Qk b i → QSu n b i := fun _ _ h => Or.inl h
theorem Qr_s {n : Int} {row : Nat} (hr : 5 ≤ row ∧ row ≤ 10) : ∀ b i, (Qk b i ∨ (b = row ∧ i = 5 + n)) → QSu n b i := by
  intro b i q
  rcases q with q | q
  · exact Or.inl q
  · unfold QSu; omega
theorem Ps_x {n : Int} : ∀ b i, PSu D n b i → PX D b i := by intro b i h; unfold PSu Pk at h; unfold PX; omega
theorem Qs_x {n : Int} (hn : 0 ≤ n) : ∀ b i, QSu n b i → QX b i := by intro b i h; unfold QSu Qk at h; unfold QX; omega
/-- the surfer is laid on both sides, the line's stop -/
theorem s_end (hD : DI m v D) {m' v' : Mem} {n nm x y bd pc bo be : Int} (hn : n = m (D + 1) 0 ∧ 0 ≤ n ∧ n < 5) (f : Fm (PSu D n) m m') (g : Fm (QSu n) v v') (h7 : m' 46 7 = 1 ∧ v' 0 24 = 1) (hs : m' (D + 1) 0 = n ∧ v' 0 20 = n) (hv : v' 5 (5 + n) = nm ∧ v' 6 (5 + n) = m D 0 * y + x ∧ v' 7 (5 + n) = bd ∧ v' 8 (5 + n) = pc ∧ v' 9 (5 + n) = bo ∧ v' 10 (5 + n) = be) (hb : ((0 ≤ x ∧ x < m D 0) ∧ (0 ≤ y ∧ y < m D 1)) ∧ (1 ≤ bd ∧ bd ≤ 9) ∧ (1 ≤ pc ∧ pc ≤ 3) ∧ (0 ≤ bo ∧ bo ≤ 100) ∧ (0 ≤ be ∧ be ≤ 100)) (p : PreR m' v' S) : LOut (G5_readSurfer_195 m' nm x y bd pc bo be) ((gd3 (v' 0 20 + 1) (wt (up v' 0 20 (v' 0 20 + 1)) fun m79 => some (1, m79))).bind fun o => G12_lineRead_197 o.2 o.1) m' v' D S := by
  have hDD := hD.1.1
  have hw := hD.ws.2
  have e10 : m' 46 10 = (D : Int) := by rw [f 46 10 (by unfold PSu Pk; omega)]; exact hD.1.2
  have eD : m' D 0 = m D 0 := f D 0 (by unfold PSu Pk; omega)
  have hc : 0 ≤ y * m D 0 + x ∧ y * m D 0 + x < m D 0 * m D 1 ∧ m D 0 * m D 1 ≤ 48 := by
    obtain ⟨⟨⟨x1, x2⟩, y1, y2⟩, _⟩ := hb
    have t1 : 0 ≤ y * m D 0 := Int.mul_nonneg y1 (by omega)
    have t2 : (y + 1) * m D 0 ≤ m D 1 * m D 0 := Int.mul_le_mul_of_nonneg_right (by omega) (by omega)
    have t3 : m D 1 * m D 0 ≤ 6 * 8 := Int.mul_le_mul hw.2.2 hw.1.2 (by omega) (by omega)
    rw [Int.add_mul] at t2
    rw [Int.mul_comm (m D 0) (m D 1)]
    omega
  unfold G5_readSurfer_195
  rw [if_neg (show ¬ be = -1 by omega), e10, Int.toNat_natCast, eD, gd3_t (by omega)]
  obtain ⟨m2, a1, a2, a3, a4, a5, a6, a7, a8, a9⟩ := c_addc (m := m') (a := D + 1) (x1 := nm) (x2 := y * m D 0 + x) (x3 := bd) (x4 := pc) (x5 := bo) (x6 := be) (by omega)
  rw [hs.1] at a2 a3 a4 a5 a6 a7 a8 a9
  rw [a1, bs1, hs.2, gd3_t (by omega), wt_e, bs1]
  have f2 : Fm (PSu D n) m m2 := f.tr (a2.mono (by intro b i q; unfold PSu; omega))
  have g2 : Fm (QSu n) v (up v' 0 20 (n + 1)) := g.w (by unfold QSu; omega)
  have nr : ∀ (b : Nat), 5 ≤ b → up v' 0 20 (n + 1) b = v' b := fun b q => funext fun i => up_a (by omega)
  have hD2 : DI m2 (up v' 0 20 (n + 1)) D := by
    refine di_surf hD ⟨hn.1, hn.2.2⟩ f2 g2 ⟨by rw [a2 46 7 (by omega)]; exact h7.1, by rw [up_i (by omega)]; exact h7.2⟩ ⟨a3, up_e⟩ ?_ ?_
    · rw [nr 5 (by omega), nr 6 (by omega), nr 7 (by omega), nr 8 (by omega), nr 9 (by omega), nr 10 (by omega), hv.1, hv.2.1, hv.2.2.1, hv.2.2.2.1, hv.2.2.2.2.1, hv.2.2.2.2.2]
      exact ⟨a4.symm, by rw [Int.mul_comm]; exact a5.symm, a6.symm, a7.symm, a8.symm, a9.symm⟩
    · have b5 : m2 (D + 3) n = _ := a5
      have b6 : m2 (D + 4) n = _ := a6
      have b7 : m2 (D + 5) n = _ := a7
      have b8 : m2 (D + 6) n = _ := a8
      have b9 : m2 (D + 7) n = _ := a9
      rw [b5, b6, b7, b8, b9]
      exact ⟨⟨hc.1, hc.2.1⟩, hb.2⟩
  have p2 : PreR m2 (up v' 0 20 (n + 1)) S := p.f (Q := fun b i => b = 0 ∧ i = 20) a2 (Fm.w1 ⟨rfl, rfl⟩) (by intro b i q; omega) (by intro b i q; omega)
  exact lo_tr (lo_stop hD2 p2) (a2.mono (by intro b i q; unfold PX; omega)) (Fm.w1 (by unfold QX; omega)) (by rw [a2 47 3 (by omega)]; omega) (a2 D 12 (by omega))
theorem l_surf (hD : DI m v D) (h : PostR m v S) : LOut (G5_readSurfer m) ((G12_surferLine v).bind fun o => G12_lineRead_197 o.2 o.1) m v D S := by
  have hDD := hD.1.1
  have hN := hD.n
  have hw := hD.ws.2
  have hn5 : 0 ≤ m (D + 1) 0 ∧ m (D + 1) 0 ≤ 5 := by
    have := hD.2.1.1
    unfold WS at this
    rw [sl_e (by omega)] at this
    have e1 : sl 21 m D 1 0 = m (D + 1) 0 := sl_e (by omega) _
    omega
  have e20 : v 0 20 = m (D + 1) 0 := hN.2.2.1
  generalize hn : m (D + 1) 0 = n at *
  unfold G5_readSurfer G5_readSurfer_0 G12_surferLine G12_surferLine_0
  rw [hD.1.2, Int.toNat_natCast, hn, e20]
  by_cases c0 : n < 5
  · rw [if_pos c0, wt_e, if_neg (show ¬ n = 5 by omega)]
    have h1 : PostR (up m 46 7 1) v S := h.f (P := fun b i => b = 46 ∧ i = 7) (Q := fun _ _ => False) (Fm.w1 ⟨rfl, rfl⟩) Fm.rf (by intro b i q; omega) (fun b i _ => id)
    have f1 : Fm (PSu D n) m (up m 46 7 1) := Fm.w1 (by unfold PSu; omega)
    have e7 : up m 46 7 1 46 7 = 1 := up_e
    have k3 : m 47 3 = up m 46 7 1 47 3 := (up_a (by omega)).symm
    have e1N : up m 46 7 1 (D + 1) 0 = n := by rw [up_a (by omega)]; exact hn
    generalize up m 46 7 1 = m1 at h1 f1 e7 k3 e1N ⊢
    obtain ⟨v2, z1, z2, p2⟩ := h1.tok
    obtain ⟨m3, e3, f3, h3, q3, _⟩ := p2.adv
    rw [e3, z1, bs1, bs1]
    have f3' := f3.mono P47_k
    have g2 : Fm (QSu n) v v2 := (z2.mono Q7_k).mono Qk_s
    have F3 : Fm (PSu D n) m m3 := f1.tr (f3'.mono Pk_s)
    have e73 : m3 46 7 = 1 := by rw [f3 46 7 (by unfold P47; omega)]; exact e7
    refine lo_tr (m1 := m3) (v1 := v2) ?_ (F3.mono Ps_x) (g2.mono (Qs_x hn5.1)) (by omega) (F3 D 12 (by unfold PSu Pk; omega))
    have hk := h3.2.2.2.2.2.2.2
    by_cases c1 : m3 47 4 = 24
    · have hk2 : v2 0 8 = 2 ∧ v2 0 9 = m3 47 6 := by unfold KR SGN NumR at hk; omega
      have e20' : v2 0 20 = n := by rw [z2 0 20 (by unfold Q7; omega)]; exact e20
      have e10 : m3 46 10 = (D : Int) := by rw [F3 46 10 (by unfold PSu Pk; omega)]; exact hD.1.2
      have eN : m3 (D + 1) 0 = n := by rw [f3 (D + 1) 0 (by unfold P47; omega)]; exact e1N
      rw [if_pos c1, if_pos hk2.1, e10, Int.toNat_natCast, hk2.2, e20']
      unfold G1_hasName G1_hasName_0 G12_find G12_find_0
      have hsame : ∀ j, 0 ≤ j → j < n → m3 (D + 1 + 1) j = v2 5 (5 + j) := by
        intro j j1 j2
        have hc := (hD.2.2.1.2.2.1 j j1 (by rw [sl_e (by omega)]; omega)).1
        rw [sl_e (by omega)] at hc
        have hc' : v 5 (5 + j) = m (D + 2) j := hc
        rw [z2 5 (5 + j) (by unfold Q7; omega), hc', F3 (D + 1 + 1) j (by unfold PSu Pk; omega)]
      rcases l_has (m := m3) (v := v2) (a := D + 1) (n := n) (x := m3 47 6) eN hn5.2 hsame n.toNat 1024 0 (by omega) (by omega) (by omega) with ⟨q1, q2⟩ | ⟨q1, r, q3, q2⟩
      · rw [q1, q2, bs1, bs1]
        dsimp only
        have eD0 : m3 D 0 = m D 0 := F3 D 0 (by unfold PSu Pk; omega)
        have eD1 : m3 D 1 = m D 1 := F3 D 1 (by unfold PSu Pk; omega)
        rw [if_pos (show (0 : Int) = 0 from rfl), if_pos (show (-1 : Int) < 0 by omega), e10, Int.toNat_natCast, hk2.2, e20', gd3_t (by omega), gdx_t (by omega), wt_e]
        have h4 : PostR m3 (up v2 5 (5 + n) (m3 47 6)) S := h3.f (P := fun _ _ => False) (Q := fun b i => b = 5) Fm.rf (Fm.w1 rfl) (fun b i _ => id) (by intro b i q; omega)
        obtain ⟨v4, z4, z5, p4⟩ := h4.tok
        have G4 : Fm (QSu n) v v4 := (g2.w (by unfold QSu; omega)).tr ((z5.mono Q7_k).mono Qk_s)
        have k5 : v4 5 (5 + n) = m3 47 6 := by rw [z5 5 _ (by unfold Q7; omega), up_e]
        have k24 : Fm QX v2 v4 := (Fm.w1 (by unfold QX; omega)).tr ((z5.mono Q7_k).mono Qk_x)
        rw [z4, bs1]
        obtain ⟨m', v', f', g', q', w24, kk⟩ := n_cellw (m := m3) (v := v4) (D := D) ⟨by rw [G4 0 18 (by unfold QSu Qk; omega), eD0]; exact hN.1.1, by rw [G4 0 19 (by unfold QSu Qk; omega), eD1]; exact hN.1.2⟩ (by omega) p4
        have g'q : Fm (QSu n) v4 v' := g'.mono (by intro b i q; rcases q with q | q; (exact Or.inl q); (unfold QSu; omega))
        rcases kk with ⟨x, y, m4, x1, y1, b1, b2, b3, b4, b5, b6, p5⟩ | ⟨b1, b2, b3⟩ | ⟨x, m4, x1, b1, b2, b3, b4, b5⟩
        · have e10' : m4 46 10 = (D : Int) := by rw [b2 46 10 (by unfold Pk; omega)]; exact e10
          have e1D : m4 D 1 = m3 D 1 := b2 D 1 (by unfold Pk; omega)
          have e18 : v' 0 18 = m D 0 := by rw [g'q 0 18 (by unfold QSu Qk; omega), G4 0 18 (by unfold QSu Qk; omega)]; exact hN.1.1
          rw [eD0] at x1
          rw [eD1] at y1
          have hc : 0 ≤ m D 0 * y ∧ m D 0 * y ≤ 40 := by
            refine ⟨Int.mul_nonneg (by omega) (by omega), ?_⟩
            have : m D 0 * y ≤ 8 * 5 := Int.mul_le_mul hw.1.2 (by omega) (by omega) (by omega)
            omega
          rw [b1, b4, bs1, bs1]
          dsimp only
          rw [if_neg i10, if_neg (show ¬ x = -1 by omega), e10', Int.toNat_natCast, e1D, gd3_t (by omega), b3, bs1]
          unfold G5_readSurfer_122
          dsimp only
          rw [if_neg (show ¬ y = -1 by omega), gdx_t (by omega), e18, b5, b6, gd3_t (by omega), wt_e]
          have p6 : PreR m' (up v' 6 (5 + n) (m D 0 * y + x)) S := p5.f (P := fun _ _ => False) (Q := fun b i => b = 6) Fm.rf (Fm.w1 rfl) (fun b i _ => id) (by intro b i q; omega)
          have G6 : Fm (QSu n) v (up v' 6 (5 + n) (m D 0 * y + x)) := (G4.tr g'q).w (by unfold QSu; omega)
          have F6 : Fm (PSu D n) m m' := F3.tr (f'.mono Pk_s)
          have k5' : up v' 6 (5 + n) (m D 0 * y + x) 5 (5 + n) = m3 47 6 := by rw [up_a (by omega), g' 5 _ (by unfold Qc Qk; omega)]; exact k5
          have k6 : up v' 6 (5 + n) (m D 0 * y + x) 6 (5 + n) = m D 0 * y + x := up_e
          have w24' : up v' 6 (5 + n) (m D 0 * y + x) 0 24 = 1 := by rw [up_a (by omega)]; exact w24
          have w20 : up v' 6 (5 + n) (m D 0 * y + x) 0 20 = n := by rw [up_a (by omega), g' 0 20 (by unfold Qc Qk; omega), z5 0 20 (by unfold Q7; omega), up_a (by omega)]; exact e20'
          have e7' : m' 46 7 = 1 := by rw [f' 46 7 (by unfold Pk; omega)]; exact e73
          have eN' : m' (D + 1) 0 = n := by rw [f' (D + 1) 0 (by unfold Pk; omega)]; exact eN
          refine lo_tr (m1 := m') (v1 := up v' 6 (5 + n) (m D 0 * y + x)) ?_ (f'.mono Pk_x) ((k24.tr (g'.mono Qc_x)).w (by unfold QX; omega)) q' (f' D 12 (by unfold Pk; omega))
          generalize up v' 6 (5 + n) (m D 0 * y + x) = u at p6 G6 k5' k6 w24' w20 ⊢
          generalize m3 47 6 = nm at *
          refine st_row (K := fun m' b => G5_readSurfer_139 m' nm x y b) (row := 7) (idx := 5 + n) hDD p6 (by omega) (by omega) (by omega) ?_ ?_
          · intro u; unfold G5_readSurfer_139 G5_readSurfer_157 G5_readSurfer_176 G5_readSurfer_195; simp only [if_true]
          intro bd m5 v5 bd1 bd2 f5 g5 w7 p7
          unfold G5_readSurfer_139
          rw [if_neg (show ¬ bd = -1 by omega)]
          refine st_row (K := fun m' b => G5_readSurfer_157 m' nm x y bd b) (row := 8) (idx := 5 + n) hDD p7 (by omega) (by omega) (by omega) ?_ ?_
          · intro u; unfold G5_readSurfer_157 G5_readSurfer_176 G5_readSurfer_195; simp only [if_true]
          intro pc m6 v6 pc1 pc2 f6 g6 w8 p8
          unfold G5_readSurfer_157
          rw [if_neg (show ¬ pc = -1 by omega)]
          refine st_row (K := fun m' b => G5_readSurfer_176 m' nm x y bd pc b) (row := 9) (idx := 5 + n) hDD p8 (by omega) (by omega) (by omega) ?_ ?_
          · intro u; unfold G5_readSurfer_176 G5_readSurfer_195; simp only [if_true]
          intro bo m7 v7 bo1 bo2 f7 g7 w9 p9
          unfold G5_readSurfer_176
          rw [if_neg (show ¬ bo = -1 by omega)]
          refine st_row (K := fun m' b => G5_readSurfer_195 m' nm x y bd pc bo b) (row := 10) (idx := 5 + n) hDD p9 (by omega) (by omega) (by omega) ?_ ?_
          · intro u; unfold G5_readSurfer_195; simp only [if_true]
          intro be m8 v8 be1 be2 f8 g8 w10 p10
          have F8 : Fm Pk m' m8 := ((f5.tr f6).tr f7).tr f8
          have G8 : Fm (QSu n) v v8 := (((G6.tr (g5.mono (Qr_s (by omega)))).tr (g6.mono (Qr_s (by omega)))).tr (g7.mono (Qr_s (by omega)))).tr (g8.mono (Qr_s (by omega)))
          have vv : ∀ (b : Nat) i, ¬ Qk b i → b ≠ 7 → b ≠ 8 → b ≠ 9 → b ≠ 10 → v8 b i = u b i := fun b i a c1 c2 c3 c4 => by
            rw [g8 b i (by rintro (q | q); exact a q; omega), g7 b i (by rintro (q | q); exact a q; omega), g6 b i (by rintro (q | q); exact a q; omega), g5 b i (by rintro (q | q); exact a q; omega)]
          refine s_end hD ⟨hn.symm, hn5.1, c0⟩ (F6.tr (F8.mono Pk_s)) G8 ⟨by rw [F8 46 7 (by unfold Pk; omega)]; exact e7', by rw [vv 0 24 (by unfold Qk; omega) (by omega) (by omega) (by omega) (by omega)]; exact w24'⟩ ⟨by rw [F8 (D + 1) 0 (by unfold Pk; omega)]; exact eN', by rw [vv 0 20 (by unfold Qk; omega) (by omega) (by omega) (by omega) (by omega)]; exact w20⟩ ⟨?_, ?_, ?_, ?_, ?_, w10⟩ ⟨⟨x1, y1⟩, ⟨bd1, bd2⟩, ⟨pc1, pc2⟩, ⟨bo1, bo2⟩, ⟨be1, be2⟩⟩ p10
          · rw [vv 5 _ (by unfold Qk; omega) (by omega) (by omega) (by omega) (by omega)]; exact k5'
          · rw [vv 6 _ (by unfold Qk; omega) (by omega) (by omega) (by omega) (by omega)]; exact k6
          · rw [g8 7 _ (by unfold Qk; omega), g7 7 _ (by unfold Qk; omega), g6 7 _ (by unfold Qk; omega)]; exact w7
          · rw [g8 8 _ (by unfold Qk; omega), g7 8 _ (by unfold Qk; omega)]; exact w8
          · rw [g8 9 _ (by unfold Qk; omega)]; exact w9
        · rw [b1, b2, bs1, bs1]
          unfold G5_readSurfer_122 G5_readSurfer_139 G5_readSurfer_157 G5_readSurfer_176 G5_readSurfer_195
          simp only [if_true, bs1, r197]
          exact lo_fltx ⟨m', v', f'.mono Pk_x, k24.tr (g'.mono Qc_x), q', rfl, rfl, b3⟩
        · have e10' : m4 46 10 = (D : Int) := by rw [b2 46 10 (by unfold Pk; omega)]; exact e10
          have e1D : m4 D 1 = m3 D 1 := b2 D 1 (by unfold Pk; omega)
          rw [b1, b4, bs1, bs1]
          simp only [if_true, bs1, r197]
          rw [if_neg (show ¬ x = -1 by omega), e10', Int.toNat_natCast, e1D, gd3_t (by omega), b3, bs1]
          unfold G5_readSurfer_122 G5_readSurfer_139 G5_readSurfer_157 G5_readSurfer_176 G5_readSurfer_195
          simp only [if_true]
          exact lo_fltx ⟨m', v', f'.mono Pk_x, k24.tr (g'.mono Qc_x), q', rfl, rfl, b5⟩
      · rw [q1, q2, bs1, bs1]
        dsimp only
        rw [if_neg i10, if_neg (show ¬ r < 0 by omega), c_ref, bs1, r_wrong, bs1, gdb_t (by omega), gdb_t (by omega), bs1]
        dsimp only
        rw [r197]
        exact lo_ref h3 3 rfl rfl
    · have hk2 : ¬ v2 0 8 = 2 := by unfold KR SGN NumR at hk; omega
      rw [if_neg c1, if_neg hk2, c_ref, bs1, r_wrong, bs1, gdb_t (by omega), gdb_t (by omega), bs1]
      dsimp only
      rw [r197]
      exact lo_ref h3 1 rfl rfl
  · rw [if_neg c0, if_pos (show n = 5 by omega), c_ref, bs1, r_wrong, bs1, gdb_t (by omega), gdb_t (by omega), bs1]
    dsimp only
    rw [r197]
    exact lo_ref h 2 rfl rfl
end Q28
