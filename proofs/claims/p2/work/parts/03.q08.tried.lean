/-! What is tried otherwise. -/
section Q8
variable {m v w g n : Mem} {T : Nat}
theorem fill1 {s : Nat} (x : Int) : ∀ (d k : Nat) (i : Int) (m : Mem), 0 ≤ i → 5 - i = d → d < k → (∀ j, 0 ≤ j → j < i → m (s + 1) j = x) → ∃ m', G6_giveBoards_2 k m s x i = some m' ∧ Fr (fun b => b = s + 1) m m' ∧ ∀ j, 0 ≤ j → j < 5 → m' (s + 1) j = x := by
  intro d
  induction d with
  | zero =>
    intro k i m a1 a2 a3 h
    obtain ⟨k, rfl⟩ : ∃ j, k = j + 1 := ⟨k - 1, by omega⟩
    rw [G6_giveBoards_2, if_pos (by omega)]
    exact ⟨m, rfl, Fr.rf, fun j p q => h j p (by omega)⟩
  | succ d ih =>
    intro k i m a1 a2 a3 h
    obtain ⟨k, rfl⟩ : ∃ j, k = j + 1 := ⟨k - 1, by omega⟩
    rw [G6_giveBoards_2, if_neg (by omega), gdx_t (by omega), wt_e, gd3_t (by omega)]
    obtain ⟨m', e, f, q⟩ := ih k (i + 1) (up m (s + 1) i x) (by omega) (by omega) (by omega) (fun j p q => by
      by_cases z : j = i
      · subst z; rw [up_e]
      · rw [up_i z]; exact h j p (by omega))
    exact ⟨m', e, Fr.tr (Fr.up (P := fun b => b = s + 1) Fr.rf rfl) f, q⟩
theorem fill2 {s : Nat} : ∀ (d k : Nat) (i : Int) (m : Mem), 0 ≤ i → 5 - i = d → d < k → (∀ j, 0 ≤ j → j < i → m (s + 2) j = 0) → ∃ m', G6_makeNobodyBold_2 k m s i = some m' ∧ Fr (fun b => b = s + 2) m m' ∧ ∀ j, 0 ≤ j → j < 5 → m' (s + 2) j = 0 := by
  intro d
  induction d with
  | zero =>
    intro k i m a1 a2 a3 h
    obtain ⟨k, rfl⟩ : ∃ j, k = j + 1 := ⟨k - 1, by omega⟩
    rw [G6_makeNobodyBold_2, if_pos (by omega)]
    exact ⟨m, rfl, Fr.rf, fun j p q => h j p (by omega)⟩
  | succ d ih =>
    intro k i m a1 a2 a3 h
    obtain ⟨k, rfl⟩ : ∃ j, k = j + 1 := ⟨k - 1, by omega⟩
    rw [G6_makeNobodyBold_2, if_neg (by omega), gdx_t (by omega), wt_e, gd3_t (by omega)]
    obtain ⟨m', e, f, q⟩ := ih k (i + 1) (up m (s + 2) i 0) (by omega) (by omega) (by omega) (fun j p q => by
      by_cases z : j = i
      · subst z; rw [up_e]
      · rw [up_i z]; exact h j p (by omega))
    exact ⟨m', e, Fr.tr (Fr.up (P := fun b => b = s + 2) Fr.rf rfl) f, q⟩
theorem fill3 {s : Nat} (hs : s = 60) (hT : T = 2 ∨ T = 24) (x : Int) : ∀ (d k : Nat) (i : Int) (m : Mem), 0 ≤ i → 28 - i = d → d < k → m s 0 = (T : Int) → m T 2 = x → (∀ j, 0 ≤ j → j < i → m (s + 3) j = x) → ∃ m', G6_holdPeak_2 k m s i = some m' ∧ Fr (fun b => b = s + 3) m m' ∧ ∀ j, 0 ≤ j → j < 28 → m' (s + 3) j = x := by
  intro d
  induction d with
  | zero =>
    intro k i m a1 a2 a3 h0 h2 h
    obtain ⟨k, rfl⟩ : ∃ j, k = j + 1 := ⟨k - 1, by omega⟩
    rw [G6_holdPeak_2, if_pos (by omega)]
    exact ⟨m, rfl, Fr.rf, fun j p q => h j p (by omega)⟩
  | succ d ih =>
    intro k i m a1 a2 a3 h0 h2 h
    obtain ⟨k, rfl⟩ : ∃ j, k = j + 1 := ⟨k - 1, by omega⟩
    rw [G6_holdPeak_2, if_neg (by omega), gdx_t (by omega), h0, Int.toNat_natCast, h2, wt_e, gd3_t (by omega)]
    obtain ⟨m', e, f, q⟩ := ih k (i + 1) (up m (s + 3) i x) (by omega) (by omega) (by omega) (by rw [up_a (by omega)]; exact h0) (by rw [up_a (by omega)]; exact h2) (fun j p q => by
      by_cases z : j = i
      · subst z; rw [up_e]
      · rw [up_i z]; exact h j p (by omega))
    exact ⟨m', e, Fr.tr (Fr.up (P := fun b => b = s + 3) Fr.rf rfl) f, q⟩
theorem fillc {a : Nat} (x : Int) : ∀ (d k : Nat) (i : Int) (m : Mem), 0 ≤ i → 5 - i = d → d < k → (∀ j, 0 ≤ j → j < i → m (a + 1) j = x) → ∃ m', G4_seatAll_2 k m a x i = some m' ∧ Fr (fun b => b = a + 1) m m' ∧ ∀ j, 0 ≤ j → j < 5 → m' (a + 1) j = x := by
  intro d
  induction d with
  | zero =>
    intro k i m a1 a2 a3 h
    obtain ⟨k, rfl⟩ : ∃ j, k = j + 1 := ⟨k - 1, by omega⟩
    rw [G4_seatAll_2, if_pos (by omega)]
    exact ⟨m, rfl, Fr.rf, fun j p q => h j p (by omega)⟩
  | succ d ih =>
    intro k i m a1 a2 a3 h
    obtain ⟨k, rfl⟩ : ∃ j, k = j + 1 := ⟨k - 1, by omega⟩
    rw [G4_seatAll_2, if_neg (by omega), gdx_t (by omega), wt_e, gd3_t (by omega)]
    obtain ⟨m', e, f, q⟩ := ih k (i + 1) (up m (a + 1) i x) (by omega) (by omega) (by omega) (fun j p q => by
      by_cases z : j = i
      · subst z; rw [up_e]
      · rw [up_i z]; exact h j p (by omega))
    exact ⟨m', e, Fr.tr (Fr.up (P := fun b => b = a + 1) Fr.rf rfl) f, q⟩
/-- n'' is n' with what is tried: one left out, or all at one's cell -/
def TW (w n' n'' : Mem) (way one : Int) : Prop := n'' 0 = n' 0 ∧ n'' 2 = n' 2 ∧ n'' 3 = n' 3 ∧ n'' 6 = n' 6 ∧ (∀ i, 0 ≤ i → i < w 1 0 → n'' 1 i = if way = 4 then n' 1 one else n' 1 i) ∧ (∀ i, 0 ≤ i → i < w 1 0 → n'' 4 i = if way = 1 ∧ one = i then 2147483647 else n' 4 i)
/-- the surf of the class that is tried with -/
theorem c_chg (hc : CX m 60 T w g) (hW : WW w) (hn : NX m 76 n) (hE : GE w g (gM w (-1))) {x y : Int} (hx : 0 ≤ x ∧ x ≤ 4) (hy : 0 ≤ y ∧ y < 5) : ∃ m', G11_changeTrial m x y = some m' ∧ Fr PQ' m m' ∧ CX m' 60 T w (sl 3 m' 60) ∧ GE w (sl 3 m' 60) (gM w x) ∧ TW w n (sl 6 m' 76) x y := by
  have hw := hW.1
  unfold WS at hw
  have hT := hc.1.1
  have tw0 : ∀ m' : Mem, NX m' 76 n → ¬ x = 4 → ¬ x = 1 → TW w n (sl 6 m' 76) x y := fun m' h a b => by
    refine ⟨NX_u h 0 (by omega), NX_u h 2 (by omega), NX_u h 3 (by omega), NX_u h 6 (by omega), fun i _ _ => ?_, fun i _ _ => ?_⟩
    · rw [if_neg a, NX_u h 1 (by omega)]
    · rw [if_neg (fun q => b q.1), NX_u h 4 (by omega)]
  have same : ∀ m' : Mem, CX m' 60 T w g → CX m' 60 T w (sl 3 m' 60) ∧ (∀ c, 1 ≤ c → c ≤ 3 → sl 3 m' 60 c = g c) := fun m' h => ⟨⟨h.1, h.2.1, h.2.2.1, fun c i _ b => (sl_e b i).symm⟩, fun c a b => by funext i; rw [sl_e b]; exact h.2.2.2 c i a b⟩
  have bdn : ∀ way s : Int, ¬ way = 3 → bdM w way s = w 4 s := fun way s h => if_neg h
  have pxn : ∀ way mn : Int, ¬ way = 2 → pxM w way mn = pkX w mn := fun way mn h => if_neg h
  unfold G11_changeTrial G11_changeTrial_0
  by_cases x0 : x = 0
  · rw [if_pos x0]
    obtain ⟨m', e, f, q⟩ := fill2 (s := 60) 5 1024 0 m (by omega) (by omega) (by omega) (fun j p q => by omega)
    unfold G6_makeNobodyBold G6_makeNobodyBold_0
    rw [e, bs1]
    have fq : Fr PQ' m m' := f.mono (by intro b z; have : b = 60 + 2 := z; unfold PQ' PQ; omega)
    refine ⟨m', rfl, fq, ⟨hc.1.fr f (by intro b a c; show ¬ b = 62; omega), Or.inr rfl, by rw [f 60 0 (by show ¬ (60 : Nat) = 62; omega)]; exact hc.2.2.1, fun c i _ b => (sl_e b i).symm⟩, ⟨fun i p r => ?_, fun k p r => ?_⟩, tw0 m' (hn.fr f (by intro b a c; show ¬ b = 62; omega)) (by omega) (by omega)⟩
    · have h1 := hE.1 i p r
      rw [sl_e (by omega), sl_e (by omega), q i p (by omega), f (60 + 1) i (by show ¬ (61 : Nat) = 62; omega), hc.2.2.2 1 i (by omega) (by omega), h1.1]
      refine ⟨?_, ?_⟩
      · rw [gM1, gM1, bdn (-1) _ (by omega), bdn x _ (by omega)]
      · show (0 : Int) = if x = 0 then 0 else w 6 i
        rw [if_pos x0]
    · rw [sl_e (by omega), f (60 + 3) k (by show ¬ (63 : Nat) = 62; omega), hc.2.2.2 3 k (by omega) (by omega), hE.2 k p r, gM3, gM3, pxn (-1) _ (by omega), pxn x _ (by omega)]
  · rw [if_neg x0]
    by_cases x1 : x = 1
    · rw [if_pos x1]
      unfold G4_leaveOut G4_leaveOut_0
      rw [gdx_t hy, wt_e, bs1]
      have f : Fr (fun b => b = 76 + 4) m (up m (76 + 4) y 2147483647) := Fr.up Fr.rf rfl
      have hc' := hc.fr f (by intro b q; show ¬ b = 80; omega)
      obtain ⟨s1, s2⟩ := same _ hc'
      refine ⟨_, rfl, f.mono (by intro b z; have : b = 76 + 4 := z; unfold PQ' PQ; omega), s1, ⟨fun i p r => ?_, fun k p r => ?_⟩, ?_⟩
      · have h1 := hE.1 i p r
        rw [s2 1 (by omega) (by omega), s2 2 (by omega) (by omega), h1.1, h1.2]
        refine ⟨by rw [gM1, gM1, bdn (-1) _ (by omega), bdn x _ (by omega)], ?_⟩
        show (if (-1 : Int) = 0 then 0 else w 6 i) = if x = 0 then 0 else w 6 i
        rw [if_neg (by omega), if_neg x0]
      · rw [s2 3 (by omega) (by omega), hE.2 k p r, gM3, gM3, pxn (-1) _ (by omega), pxn x _ (by omega)]
      · have hn' := hn.up 4 (by omega) y 2147483647
        refine ⟨?_, ?_, ?_, ?_, fun i p r => ?_, fun i p r => ?_⟩
        · rw [NX_u hn' 0 (by omega), up_b (by omega)]
        · rw [NX_u hn' 2 (by omega), up_b (by omega)]
        · rw [NX_u hn' 3 (by omega), up_b (by omega)]
        · rw [NX_u hn' 6 (by omega), up_b (by omega)]
        · rw [NX_u hn' 1 (by omega), up_b (by omega), if_neg (by omega)]
        · rw [NX_u hn' 4 (by omega)]
          by_cases z : y = i
          · subst z; rw [up_e, if_pos ⟨x1, rfl⟩]
          · rw [up_i (fun q => z q.symm), if_neg (fun q => z q.2)]
    · rw [if_neg x1]
      by_cases x2 : x = 2
      · rw [if_pos x2]
        obtain ⟨m', e, f, q⟩ := fill3 (s := 60) rfl hT (w 0 2) 28 1024 0 m (by omega) (by omega) (by omega) hc.2.2.1 (hc.1.2.1 2) (fun j p q => by omega)
        unfold G6_holdPeak G6_holdPeak_0
        rw [e, bs1]
        refine ⟨m', rfl, f.mono (by intro b z; have : b = 60 + 3 := z; unfold PQ' PQ; omega), ⟨hc.1.fr f (by intro b a c; show ¬ b = 63; omega), Or.inr rfl, by rw [f 60 0 (by show ¬ (60 : Nat) = 63; omega)]; exact hc.2.2.1, fun c i _ b => (sl_e b i).symm⟩, ⟨fun i p r => ?_, fun k p r => ?_⟩, tw0 m' (hn.fr f (by intro b a c; show ¬ b = 63; omega)) (by omega) (by omega)⟩
        · have h1 := hE.1 i p r
          rw [sl_e (by omega), sl_e (by omega), f (60 + 1) i (by show ¬ (61 : Nat) = 63; omega), f (60 + 2) i (by show ¬ (62 : Nat) = 63; omega), hc.2.2.2 1 i (by omega) (by omega), hc.2.2.2 2 i (by omega) (by omega), h1.1, h1.2]
          refine ⟨by rw [gM1, gM1, bdn (-1) _ (by omega), bdn x _ (by omega)], ?_⟩
          show (if (-1 : Int) = 0 then 0 else w 6 i) = if x = 0 then 0 else w 6 i
          rw [if_neg (by omega), if_neg x0]
        · rw [sl_e (by omega), q k p (by omega), gM3]
          show w 0 2 = if x = 2 then w 0 2 else pkX w (w 11 k)
          rw [if_pos x2]
      · rw [if_neg x2]
        by_cases x3 : x = 3
        · rw [if_pos x3]
          obtain ⟨m', e, f, q⟩ := fill1 (s := 60) 9 5 1024 0 m (by omega) (by omega) (by omega) (fun j p q => by omega)
          unfold G6_giveBoards G6_giveBoards_0
          rw [e, bs1]
          refine ⟨m', rfl, f.mono (by intro b z; have : b = 60 + 1 := z; unfold PQ' PQ; omega), ⟨hc.1.fr f (by intro b a c; show ¬ b = 61; omega), Or.inr rfl, by rw [f 60 0 (by show ¬ (60 : Nat) = 61; omega)]; exact hc.2.2.1, fun c i _ b => (sl_e b i).symm⟩, ⟨fun i p r => ?_, fun k p r => ?_⟩, tw0 m' (hn.fr f (by intro b a c; show ¬ b = 61; omega)) (by omega) (by omega)⟩
          · have h1 := hE.1 i p r
            rw [sl_e (by omega), sl_e (by omega), q i p (by omega), f (60 + 2) i (by show ¬ (62 : Nat) = 61; omega), hc.2.2.2 2 i (by omega) (by omega), h1.2]
            refine ⟨?_, ?_⟩
            · rw [gM1]; show (9 : Int) = if x = 3 then 9 else w 4 i; rw [if_pos x3]
            · show (if (-1 : Int) = 0 then 0 else w 6 i) = if x = 0 then 0 else w 6 i
              rw [if_neg (by omega), if_neg x0]
          · rw [sl_e (by omega), f (60 + 3) k (by show ¬ (63 : Nat) = 61; omega), hc.2.2.2 3 k (by omega) (by omega), hE.2 k p r, gM3, gM3, pxn (-1) _ (by omega), pxn x _ (by omega)]
        · have x4 : x = 4 := by omega
          rw [if_neg x3, gdx_t hy]
          obtain ⟨m', e, f, q⟩ := fillc (a := 76) (m (76 + 1) y) 5 1024 0 m (by omega) (by omega) (by omega) (fun j p q => by omega)
          unfold G4_seatAll G4_seatAll_0
          rw [e, bs1]
          have hc' := hc.fr f (by intro b q; show ¬ b = 77; omega)
          obtain ⟨s1, s2⟩ := same _ hc'
          refine ⟨m', rfl, f.mono (by intro b z; have : b = 76 + 1 := z; unfold PQ' PQ; omega), s1, ⟨fun i p r => ?_, fun k p r => ?_⟩, ?_⟩
          · have h1 := hE.1 i p r
            rw [s2 1 (by omega) (by omega), s2 2 (by omega) (by omega), h1.1, h1.2]
            refine ⟨by rw [gM1, gM1, bdn (-1) _ (by omega), bdn x _ (by omega)], ?_⟩
            show (if (-1 : Int) = 0 then 0 else w 6 i) = if x = 0 then 0 else w 6 i
            rw [if_neg (by omega), if_neg x0]
          · rw [s2 3 (by omega) (by omega), hE.2 k p r, gM3, gM3, pxn (-1) _ (by omega), pxn x _ (by omega)]
          · have row : ∀ c, c ≤ 6 → c ≠ 1 → sl 6 m' 76 c = n c := fun c a b => by
              funext i
              rw [sl_e a, f (76 + c) i (by show ¬ 76 + c = 76 + 1; omega)]
              exact hn.2.2 c i a
            refine ⟨row 0 (by omega) (by omega), row 2 (by omega) (by omega), row 3 (by omega) (by omega), row 6 (by omega) (by omega), fun i p r => ?_, fun i p r => ?_⟩
            · rw [sl_e (by omega), q i p (by omega), if_pos x4]; exact hn.2.2 1 y (by omega)
            · rw [row 4 (by omega) (by omega), if_neg (by omega)]
theorem c_over60 (hc : CX m 51 T w g) (hW : WW w) : ∃ m', G6_takeOver m 60 51 = some m' ∧ Fr (fun b => 60 ≤ b ∧ b ≤ 63) m m' ∧ CX m' 60 T w (sl 3 m' 60) ∧ GE w (sl 3 m' 60) g := by
  have hw := hW.1
  unfold WS at hw
  have hT := hc.1.1
  unfold G6_takeOver G6_takeOver_0
  simp only [wt_e]
  rw [hc.2.2.1, Int.toNat_natCast]
  refine ⟨_, rfl, ?_, ⟨hc.1.fr (P := fun b => 60 ≤ b ∧ b ≤ 63) ?_ (by intro b a c; omega), Or.inr rfl, ?_, fun c i _ b => (sl_e b i).symm⟩, ⟨fun i p q => ?_, fun k p q => ?_⟩⟩
  · intro b i hb
    simp (disch := omega) only [up_a, cpy_a]
  · intro b i hb
    simp (disch := omega) only [up_a, cpy_a]
  · simp (disch := omega) only [cpy_a, up_e]
  · have e : (0 : Int) + (i - 0) = i := by omega
    rw [sl_e (by omega), sl_e (by omega)]
    simp (disch := omega) only [up_a, cpy_a, cpy_in, e]
    exact ⟨hc.2.2.2 1 i (by omega) (by omega), hc.2.2.2 2 i (by omega) (by omega)⟩
  · have e : (0 : Int) + (k - 0) = k := by omega
    rw [sl_e (by omega)]
    simp (disch := omega) only [up_a, cpy_a, cpy_in, e]
    exact hc.2.2.2 3 k (by omega) (by omega)
theorem GE.trans {g1 g2 g3 : Mem} (a : GE w g1 g2) (b : GE w g2 g3) : GE w g1 g3 := ⟨fun i p q => ⟨(a.1 i p q).1.trans (b.1 i p q).1, (a.1 i p q).2.trans (b.1 i p q).2⟩, fun k p q => (a.2 k p q).trans (b.2 k p q)⟩
theorem GB_of (hW : WW w) {way : Int} {g' : Mem} (h : GE w g' (gM w way)) : GB w g' := by
  refine ⟨fun i p q => ?_, fun k p q => ?_⟩
  · have h1 := h.1 i p q
    have hb := bdM_b hW (way := way) ⟨p, q⟩
    have hc := hW.2.1 i p q
    rw [h1.1, h1.2, gM1]
    refine ⟨hb.1, hb.2, ?_⟩
    show 0 ≤ (if way = 0 then 0 else w 6 i) ∧ (if way = 0 then 0 else w 6 i) ≤ 100
    split <;> omega
  · rw [h.2 k p q, gM3]; exact pxM_b hW
theorem c_tr96 (hW : WW w) (hG : GB w g) : ∀ (d k : Nat) (i f : Int) (n m : Mem), 0 ≤ i → w 8 1 - i = d → d < k → 0 ≤ f → f + 2 * d ≤ 900 → m 0 3 = (T : Int) → CX m 60 T w g → NX m 76 n → NB w n f → ∃ m', G11_tried_96 k m i = some (smd ((rnd w g d i n) 2) (w 1 0).toNat 0, m') ∧ Fr (PW 60 76) m m' := by
  have hw := hW.1
  unfold WS at hw
  intro d
  induction d with
  | zero =>
    intro k i f n m a1 a2 a3 a4 a5 t2 hc hn hB
    obtain ⟨k, rfl⟩ : ∃ j, k = j + 1 := ⟨k - 1, by omega⟩
    have er : m (76 + 2) = n 2 := funext fun i => hn.2.2 2 i (by omega)
    rw [G11_tried_96, t2, Int.toNat_natCast, hc.1.2.2 8 1 (by omega), if_pos (by omega), hc.1.2.2 1 0 (by omega), c_his (w := w) (by omega) (fun i p q => by rw [er]; have := (hB.2 i p q).2.1; omega), bs1, er]
    exact ⟨m, rfl, Fr.rf⟩
  | succ d ih =>
    intro k i f n m a1 a2 a3 a4 a5 t2 hc hn hB
    obtain ⟨k, rfl⟩ : ∃ j, k = j + 1 := ⟨k - 1, by omega⟩
    obtain ⟨m1, e1, f1, n1⟩ := g_bring hc hW hG hn hB (by omega) (v := i) (by omega)
    rw [G11_tried_96, t2, Int.toNat_natCast, hc.1.2.2 8 1 (by omega), if_neg (by omega), e1, bs1, gd3_t (by omega)]
    obtain ⟨m', e2, f2⟩ := ih k (i + 1) (f + 2) (bw w g n i (w 11 i)) m1 (by omega) (by omega) (by omega) (by omega) (by omega) (by rw [f1 0 3 (by unfold PW PL PA; omega)]; exact t2) (hc.pw (by omega) f1) n1 (bw_nb hW hB a4 (by omega))
    exact ⟨m', by rw [rnd_s]; exact e2, f1.tr f2⟩
theorem TW_nb {n' n'' : Mem} {way one f : Int} (h : TW w n' n'' way one) (hB : NB w n' f) (ho : way = 4 → 0 ≤ one ∧ one < w 1 0) : NB w n'' f := by
  obtain ⟨h0, h2, h3, h6, h1, h4⟩ := h
  refine ⟨by rw [h0]; exact hB.1, fun i p q => ?_⟩
  have hb := hB.2 i p q
  rw [h2, h3, h1 i p q, h4 i p q]
  refine ⟨?_, hb.2.1, hb.2.2.1, ?_⟩
  · split
    · rename_i z; exact (hB.2 one (ho z).1 (ho z).2).1
    · exact hb.1
  · split
    · omega
    · exact hb.2.2.2
/-- the reference's seats of bank 1 -/
theorem r_tr76 {x y j : Int} (hw5 : w 1 0 ≤ 5) (hy : x = 4 → 0 ≤ y ∧ y < 5) {n' n'' : Mem} (htw : TW w n' n'' x y) : ∀ (d k : Nat) (i : Int) (v : Mem), 0 ≤ i → w 1 0 - i = d → d < k → v 0 14 = w 1 0 → (x = 4 → v 25 y = n' 1 y) → (∀ s, 0 ≤ s → s < w 1 0 → v 25 (5 + s) = if s < i then n'' 1 s else n' 1 s) → (¬ x = 4 → i = 0) → ∃ v', G12_tried_76 k v x y j i = G12_tried_111 v' j ∧ Fm (fun b i => b = 25 ∧ 5 ≤ i) v v' ∧ ∀ s, 0 ≤ s → s < w 1 0 → v' 25 (5 + s) = n'' 1 s := by
  intro d
  induction d with
  | zero =>
    intro k i v a1 a2 a3 h14 hy2 h h0
    obtain ⟨k, rfl⟩ : ∃ j, k = j + 1 := ⟨k - 1, by omega⟩
    rw [G12_tried_76, h14, if_pos (by omega)]
    exact ⟨v, rfl, Fm.rf, fun s p q => by rw [h s p q, if_pos (by omega)]⟩
  | succ d ih =>
    intro k i v a1 a2 a3 h14 hy2 h h0
    obtain ⟨k, rfl⟩ : ∃ j, k = j + 1 := ⟨k - 1, by omega⟩
    rw [G12_tried_76, h14, if_neg (by omega)]
    by_cases c : x = 4
    · have hyb := hy c
      rw [if_pos c, gdx_t (by omega), gdx_t (by omega), wt_e, gd3_t (by omega), hy2 c]
      obtain ⟨v', e1, f1, k1⟩ := ih k (i + 1) (up v 25 (5 + i) (n' 1 y)) (by omega) (by omega) (by omega) (by rw [up_a (by omega)]; exact h14) (fun z => by rw [up_i (by omega)]; exact hy2 z) (fun s p q => by
        have e4 := htw.2.2.2.2.1 s p q
        rw [if_pos c] at e4
        by_cases z : s = i
        · subst z; rw [up_e, if_pos (by omega), e4]
        · rw [up_i (by omega), h s p q]
          by_cases z2 : s < i
          · rw [if_pos z2, if_pos (by omega)]
          · rw [if_neg z2, if_neg (by omega)]) (fun z => absurd c z)
      exact ⟨v', e1, (Fm.w1 ⟨rfl, by omega⟩).tr f1, k1⟩
    · rw [if_neg c]
      have hi0 := h0 c
      refine ⟨v, rfl, Fm.rf, fun s p q => ?_⟩
      have e4 := htw.2.2.2.2.1 s p q
      rw [if_neg c] at e4
      rw [h s p q, if_neg (by omega), e4]
theorem tried_m (h1 : Rel m v) {x y z : Int} (hx : 0 ≤ x ∧ x ≤ 4) (hz : 0 ≤ z ∧ z ≤ 2147483647) (hy : ∀ w, RT v w → (if x = 1 ∨ x = 4 then 0 ≤ y ∧ y < w 1 0 else y = 0)) : Agr (G11_tried_54 m x y z) (G12_tried_47 v x y z) := by
  obtain ⟨T, w, g, n, t1, t2, hc, hn, hW, hG, hE, hS, hR, hV, hL, -, -, hN⟩ := h1.use
  have hw := hW.1
  unfold WS at hw
  have hy := hy w hR
  have hy5 : 0 ≤ y ∧ y < 5 := by
    by_cases c : x = 1 ∨ x = 4
    · rw [if_pos c] at hy; omega
    · rw [if_neg c] at hy; omega
  have hyS : x = 4 → 0 ≤ y ∧ y < w 1 0 := fun c => by rw [if_pos (Or.inr c)] at hy; exact hy
  have hmn := hS.2.1
  obtain ⟨f1, f2, _, _⟩ := ff_spec (w := w) (by omega) (n 0 0)
  have e69 : m 69 1 = n 0 1 := hn.2.1 1
  have hrule := hS.1.1
  -- the class
  obtain ⟨m1, e1, g1, t⟩ := c_trun (m := m) (n 0 1) z
  rw [← hN] at t
  have hc1 : CX m1 51 T w g := hc.fr g1 (by intro b q; unfold PA; have := hc.1.1; omega)
  obtain ⟨m2, e2, g2, c2, ge2⟩ := c_over60 hc1 hW
  have n2 : NX m2 76 (sl 6 m1 76) := (NX_sl (m := m1) (a := 76) (by omega)).fr g2 (by intro b a c; omega)
  obtain ⟨m3, e3, g3, c3, ge3, tw⟩ := c_chg c2 hW n2 (ge2.trans hE) hx hy5
  have fr3 : Fr PQ' m m3 := ((g1.mono PA_Q).tr (g2.mono (by intro b q; unfold PQ' PQ; omega))).tr g3
  have t3 : m3 0 3 = (T : Int) := by rw [fr3 0 3 (by unfold PQ' PQ; omega)]; exact t2
  have n3 : NX m3 69 n := hn.fr fr3 (by intro b a c; unfold PQ' PQ; omega)
  have hB1 := TR_nb hW hS.1 (by omega) t (by omega) (show 0 ≤ z ∧ z < 2147483648 by omega)
  have hB2 := TW_nb tw hB1 hyS
  obtain ⟨m4, e4, g4⟩ := c_tr96 hW (GB_of hW ge3) (w 8 1 - ff w (n 0 0)).toNat 1024 (ff w (n 0 0)) (2 * ff w (n 0 0)) (sl 6 m3 76) m3 f1 (by omega) (by omega) (by omega) (by omega) t3 c3 (NX_sl (by omega)) hB2
  rw [rnd_ge ge3 (by omega) _ _ _ f1 (by omega)] at e4
  -- the reference
  have g0 : Fm PRn v (up v 0 65 z) := Fm.w1 (Or.inr ⟨rfl, rfl⟩)
  obtain ⟨v1, r1, q1, N1, k1, k2⟩ := r_lay1 (v := up v 0 65 z) (by omega) (hV.b0.fr (by omega) g0) t up_e
  have hRv : RT (up (up v1 0 66 x) 0 67 y) w := by
    have : Fm (fun b i => PRn b i ∨ (b = 0 ∧ i = 66)) v (up (up v1 0 66 x) 0 67 y) := (((g0.mono (fun b i q => Or.inl q)).tr (q1.mono (fun b i q => Or.inl (Or.inl (PB1_q b i q))))).w (Or.inr ⟨rfl, rfl⟩)).w (Or.inl (Or.inl (by unfold PMq; omega)))
    exact hR.fr this (by intro b i q; unfold PRn PMq; omega)
  have hq25 : x = 4 → up (up v1 0 66 x) 0 67 y 25 y = (sl 6 m1 76) 1 y := fun c => by
    have hys := hyS c
    rw [up_a (by omega), up_a (by omega), q1 25 y (by unfold PB1; omega), up_a (by omega), (hV.b0.1 y hys.1 hys.2).1, t.2.1 1 y (by omega) (by omega) hys.1 (by omega)]
  obtain ⟨v2, r2, q2, k3⟩ := r_tr76 (w := w) (x := x) (y := y) (j := v 0 65) (by omega) (fun c => by have := hyS c; omega) tw (w 1 0).toNat 1024 0 (up (up v1 0 66 x) 0 67 y) (by omega) (by omega) (by omega) hRv.1.2.2.1 hq25 (fun s p q => by
    rw [if_neg (by omega), up_a (by omega), up_a (by omega)]
    have := (N1.1 s p q).1
    rwa [show 5 * (1 : Int) + s = 5 + s by omega] at this) (fun _ => rfl)
  have hR2 : RT v2 w := hRv.fr q2 (by intro b i q; omega)
  have N2 : NM v2 1 w (sl 6 m3 76) := by
    obtain ⟨a0, a2, a3, a6, a1, a4⟩ := tw
    obtain ⟨b1, b2, b3, b4, b5⟩ := N1
    refine ⟨fun i p q => ?_, fun k p q => ?_, ?_, ?_, ?_⟩
    · have := b1 i p q
      rw [q2 26 _ (by omega), q2 27 _ (by omega), up_a (by omega), up_a (by omega), up_a (by omega), up_a (by omega), a2, a3]
      refine ⟨?_, this.2.1, this.2.2⟩
      rw [show 5 * (1 : Int) + i = 5 + i by omega]; exact k3 i p q
    · rw [q2 30 _ (by omega), up_a (by omega), up_a (by omega), a6]; exact b2 k p q
    · rw [q2 32 _ (by omega), up_a (by omega), up_a (by omega), a0]; exact b3
    · rw [q2 33 _ (by omega), up_a (by omega), up_a (by omega), a0]; exact b4
    · rw [q2 0 65 (by omega), up_i (by omega), up_i (by omega), a0]; exact b5
  have v66 : v2 0 66 = x := by rw [q2 0 66 (by omega), up_i (by omega), up_e]
  have v67 : v2 0 67 = y := by rw [q2 0 67 (by omega), up_e]
  have v31 : v2 31 1 = n 0 0 := by rw [q2 31 1 (by omega), up_a (by omega), up_a (by omega)]; exact k1
  have v64 : v2 0 64 = n 0 1 := by rw [q2 0 64 (by omega), up_i (by omega), up_i (by omega), q1 0 64 (by unfold PB1; omega), up_i (by omega)]; exact hV.2.2.1
  have tl : TLM v2 1 w (sl 6 m3 76) x y (n 0 0) := by
    intro i p q
    have h4 := tw.2.2.2.2.2 i p q
    by_cases c : x = 1 ∧ y = i
    · left
      rw [if_pos c] at h4
      exact ⟨c.1, c.2, by omega⟩
    · right
      rw [if_neg c] at h4
      refine ⟨c, ?_⟩
      rw [h4, t.2.1 4 i (by omega) (by omega) p (by omega), q2 28 _ (by omega), up_a (by omega), up_a (by omega), show 5 * (1 : Int) + i = 5 + i by omega, k2 i p q]
      have h2 := (hS.2.2.1 i p q).1
      split
      · rename_i c
        rcases h2 with z | z
        · exact z
        · omega
      · rfl
  have hrl : (sl 6 m3 76) 0 1 = n 0 1 := by rw [tw.1]; exact t.1.2.1
  have hlast : w 8 1 = 0 ∨ w 11 (w 8 1 - 1) + 1 - n 0 0 ≤ ((106 : Nat) : Int) := by
    by_cases z : w 8 1 = 0
    · left; exact z
    · right
      have := (hW.2.2.2.1 (w 8 1 - 1) (by omega) (by omega)).2.1
      omega
  obtain ⟨v3, r3, q3, N3⟩ := m_goes hW (way := x) (one := y) 106 1024 (n 0 0) (2 * ff w (n 0 0)) (sl 6 m3 76) v2 (by omega) (by omega) hlast (by omega) (by omega) (by omega) hR2 N2 hB2 v66 (fun _ => v67) v31 tl
  rw [hrl] at r3
  have hB3 := (rnd_nb (g := gM w x) hW (w 8 1 - ff w (n 0 0)).toNat (ff w (n 0 0)) (2 * ff w (n 0 0)) (sl 6 m3 76) f1 (by omega) (by omega) hB2).1
  -- together
  unfold G11_tried_54 G12_tried_47
  rw [e69, e1, bs1, e2, bs1, e3, bs1, c_ftc t3 c3.1 n3 hW, bs1]
  simp only
  rw [e4, wt_e, r1, bs1, wt_e, wt_e, r2]
  unfold G12_tried_111 G12_goesOn
  rw [v64, r3, bs1, wt_e, wt_e]
  have h14 : up (up v3 0 66 (-1)) 0 65 (v 0 65) 0 14 = w 1 0 := by rw [up_i (by omega), up_i (by omega)]; exact (hR2.pm q3).1.2.2.1
  rw [r_all (w := w) (f := (rnd w (gM w x) (w 8 1 - ff w (n 0 0)).toNat (ff w (n 0 0)) (sl 6 m3 76)) 2) (Or.inr rfl) h14 (by omega) (fun i p q => by
    have hb := (hB3.2 i p q).2.1
    exact ⟨by rw [up_a (by omega), up_a (by omega)]; exact (N3.1 i p q).2.1, by omega, by omega⟩), bs1]
  refine agr h1 _ rfl rfl (fr3.tr (g4.mono (PW_Q (by omega)))) ?_
  intro b i hb
  show up (up v3 0 66 (-1)) 0 65 (v 0 65) b i = v b i
  by_cases c65 : b = 0 ∧ i = 65
  · rw [c65.1, c65.2, up_e]
  · by_cases c66 : b = 0 ∧ i = 66
    · rw [c66.1, c66.2, up_i (by omega), up_e]; exact hV.2.2.2.2.symm
    · have u1 : up (up v3 0 66 (-1)) 0 65 (v 0 65) b i = v3 b i := (if_neg c65).trans (if_neg c66)
      have u2 : up v 0 65 z b i = v b i := if_neg c65
      have hp : ¬ PRn b i := fun y => y.elim hb c65
      rw [u1, q3 b i (fun y => hp (PMn_R b i y)), q2 b i (by intro y; exact hb (by unfold PMq; omega))]
      have u3 : up (up v1 0 66 x) 0 67 y b i = v1 b i := by
        have h67 : ¬ (b = 0 ∧ i = 67) := fun y => hb (by unfold PMq; omega)
        exact (if_neg h67).trans (if_neg c66)
      rw [u3, q1 b i (fun y => hb (PB1_q b i y)), u2]
theorem a_tried (h : Rel m v) (x y z : Int) (hz : z ≤ 2147483647) : Agr (G11_tried m x y z) (G12_tried v x y z) := by
  have h1 := h.v0
  unfold G11_tried G11_tried_0 G12_tried G12_tried_0 G11_tried_25 G11_tried_30 G12_tried_30
  rw [wt_e]
  generalize up v 0 2 0 = u at h1 ⊢
  obtain ⟨T, w, g, n, t1, t2, hc, hn, hW, hG, hE, hS, hR, hV, hL, -, -, hN⟩ := h1.use
  have huni : ∀ w', RT u w' → w' 1 0 = w 1 0 := fun w' hw' => by rw [← hw'.1.2.2.1, ← hR.1.2.2.1]
  rw [r_isIn, bs1]
  by_cases c1 : 0 ≤ x ∧ x ≤ 4
  · simp only [if_pos c1, if_neg i10, if_neg (show ¬ x < 0 by omega), if_neg (show ¬ 4 < x by omega), if_true]
    by_cases c2 : 0 ≤ z
    · rw [if_pos c2, if_pos c2]
      have surf : (x = 1 ∨ x = 4) → Agr ((G11_isSurfer m y).bind fun o3 => if o3.1 = 0 then some (-1, o3.2) else G11_tried_54 o3.2 x y z) ((G12_isSurfer u y).bind fun o1 => if o1.1 = 0 then some (-1, o1.2) else G12_tried_47 o1.2 x y z) := fun hx => by
        rw [c_isS t2 hc.1, r_isS hR, bs1, bs1]
        by_cases c3 : 0 ≤ y ∧ y < w 1 0
        · simp only [if_pos c3, if_neg i10]
          exact tried_m h1 c1 ⟨c2, hz⟩ (fun w' hw' => by rw [if_pos hx, huni w' hw']; exact c3)
        · simp only [if_neg c3, if_true]; exact agr0 h1 _ rfl rfl
      by_cases x1 : x = 1
      · rw [if_pos x1, if_pos x1]; exact surf (Or.inl x1)
      · rw [if_neg x1, if_neg x1]
        by_cases x4 : x = 4
        · rw [if_pos x4, if_pos x4]; exact surf (Or.inr x4)
        · rw [if_neg x4, if_neg x4]
          by_cases c3 : y = 0
          · rw [if_pos c3, if_pos c3]
            exact tried_m h1 c1 ⟨c2, hz⟩ (fun w' hw' => by rw [if_neg (by omega)]; exact c3)
          · rw [if_neg c3, if_neg c3]; exact agr0 h1 _ rfl rfl
    · rw [if_neg c2, if_neg c2]; exact agr0 h1 _ rfl rfl
  · simp only [if_neg c1, if_true]
    by_cases q : x < 0
    · rw [if_pos q]; exact agr0 h1 _ rfl rfl
    · rw [if_neg q, if_pos (by omega)]; exact agr0 h1 _ rfl rfl
end Q8
