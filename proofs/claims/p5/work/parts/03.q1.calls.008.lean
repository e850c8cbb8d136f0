section Q8
variable {m v w g n : Mem} {T : Nat}
/-- the surf of the class that is tried with -/
theorem c_chg (hc : CX m 60 T w g) (hW : WW w) (hn : NX m 76 n) (hE : GE w g (gM w (-1))) {x y : Int} (hx : 0 ≤ x ∧ x ≤ 4) (hy : 0 ≤ y ∧ y < 5) : ∃ m', G11_changeTrial m x y = some m' ∧ Fr PQ' m m' ∧ CX m' 60 T w (sl 3 m' 60) ∧ GE w (sl 3 m' 60) (gM w x) ∧ TW w n (sl 6 m' 76) x y := by
  have hw := hW.1
  unfold WS at hw
  have hT := hc.1.1
  have tw0 : ∀ m' : Mem, NX m' 76 n → ¬ x = 4 → ¬ x = 1 → TW w n (sl 6 m' 76) x y := fun m' h a b => by
    refine ⟨NX_u h 0 (by first | decide | omega), NX_u h 2 (by first | decide | omega), NX_u h 3 (by first | decide | omega), NX_u h 6 (by first | decide | omega), fun i _ _ => ?_, fun i _ _ => ?_⟩
    · rw [if_neg a, NX_u h 1 (by first | decide | omega)]
    · rw [if_neg (fun q => b q.1), NX_u h 4 (by first | decide | omega)]
  have same : ∀ m' : Mem, CX m' 60 T w g → CX m' 60 T w (sl 3 m' 60) ∧ (∀ c, 1 ≤ c → c ≤ 3 → sl 3 m' 60 c = g c) := fun m' h => ⟨⟨h.1, h.2.1, h.2.2.1, fun c i _ b => (sl_e b i).symm⟩, fun c a b => by funext i; rw [sl_e b]; exact h.2.2.2 c i a b⟩
  have bdn : ∀ way s : Int, ¬ way = 3 → bdM w way s = w 4 s := fun way s h => if_neg h
  have pxn : ∀ way mn : Int, ¬ way = 2 → pxM w way mn = pkX w mn := fun way mn h => if_neg h
  unfold G11_changeTrial G11_changeTrial_0
  by_cases x0 : x = 0
  · rw [if_pos x0]
    obtain ⟨m', e, f, q⟩ := fill2 (s := 60) 5 1024 0 m (by first | decide | omega) (by first | decide | omega) (by first | decide | omega) (fun j p q => by first | decide | omega)
    unfold G6_makeNobodyBold G6_makeNobodyBold_0
    rw [e, bs1]
    have fq : Fr PQ' m m' := f.mono (by intro b z; have : b = 60 + 2 := z; unfold PQ' PQ; first | decide | omega)
    refine ⟨m', rfl, fq, ⟨hc.1.fr f (by intro b a c; show ¬ b = 62; first | decide | omega), Or.inr rfl, by rw [f 60 0 (by show ¬ (60 : Nat) = 62; first | decide | omega)]; exact hc.2.2.1, fun c i _ b => (sl_e b i).symm⟩, ⟨fun i p r => ?_, fun k p r => ?_⟩, tw0 m' (hn.fr f (by intro b a c; show ¬ b = 62; first | decide | omega)) (by first | decide | omega) (by first | decide | omega)⟩
    · have h1 := hE.1 i p r
      rw [sl_e (by first | decide | omega), sl_e (by first | decide | omega), q i p (by first | decide | omega), f (60 + 1) i (by show ¬ (61 : Nat) = 62; first | decide | omega), hc.2.2.2 1 i (by first | decide | omega) (by first | decide | omega), h1.1]
      refine ⟨?_, ?_⟩
      · rw [gM1, gM1, bdn (-1) _ (by first | decide | omega), bdn x _ (by first | decide | omega)]
      · show (0 : Int) = if x = 0 then 0 else w 6 i
        rw [if_pos x0]
    · rw [sl_e (by first | decide | omega), f (60 + 3) k (by show ¬ (63 : Nat) = 62; first | decide | omega), hc.2.2.2 3 k (by first | decide | omega) (by first | decide | omega), hE.2 k p r, gM3, gM3, pxn (-1) _ (by first | decide | omega), pxn x _ (by first | decide | omega)]
  · rw [if_neg x0]
    by_cases x1 : x = 1
    · rw [if_pos x1]
      unfold G4_leaveOut G4_leaveOut_0
      rw [gdx_t hy, wt_e, bs1]
      have f : Fr (fun b => b = 76 + 4) m (up m (76 + 4) y 2147483647) := Fr.up Fr.rf rfl
      have hc' := hc.fr f (by intro b q; show ¬ b = 80; first | decide | omega)
      obtain ⟨s1, s2⟩ := same _ hc'
      refine ⟨_, rfl, f.mono (by intro b z; have : b = 76 + 4 := z; unfold PQ' PQ; first | decide | omega), s1, ⟨fun i p r => ?_, fun k p r => ?_⟩, ?_⟩
      · have h1 := hE.1 i p r
        rw [s2 1 (by first | decide | omega) (by first | decide | omega), s2 2 (by first | decide | omega) (by first | decide | omega), h1.1, h1.2]
        refine ⟨by rw [gM1, gM1, bdn (-1) _ (by first | decide | omega), bdn x _ (by first | decide | omega)], ?_⟩
        show (if (-1 : Int) = 0 then 0 else w 6 i) = if x = 0 then 0 else w 6 i
        rw [if_neg (by first | decide | omega), if_neg x0]
      · rw [s2 3 (by first | decide | omega) (by first | decide | omega), hE.2 k p r, gM3, gM3, pxn (-1) _ (by first | decide | omega), pxn x _ (by first | decide | omega)]
      · have hn' := hn.up 4 (by first | decide | omega) y 2147483647
        refine ⟨?_, ?_, ?_, ?_, fun i p r => ?_, fun i p r => ?_⟩
        · rw [NX_u hn' 0 (by first | decide | omega), up_b (by first | decide | omega)]
        · rw [NX_u hn' 2 (by first | decide | omega), up_b (by first | decide | omega)]
        · rw [NX_u hn' 3 (by first | decide | omega), up_b (by first | decide | omega)]
        · rw [NX_u hn' 6 (by first | decide | omega), up_b (by first | decide | omega)]
        · rw [NX_u hn' 1 (by first | decide | omega), up_b (by first | decide | omega), if_neg (by first | decide | omega)]
        · rw [NX_u hn' 4 (by first | decide | omega)]
          by_cases z : y = i
          · subst z; rw [up_e, if_pos ⟨x1, rfl⟩]
          · rw [up_i (fun q => z q.symm), if_neg (fun q => z q.2)]
    · rw [if_neg x1]
      by_cases x2 : x = 2
      · rw [if_pos x2]
        obtain ⟨m', e, f, q⟩ := fill3 (s := 60) rfl hT (w 0 2) 28 1024 0 m (by first | decide | omega) (by first | decide | omega) (by first | decide | omega) hc.2.2.1 (hc.1.2.1 2) (fun j p q => by first | decide | omega)
        unfold G6_holdPeak G6_holdPeak_0
        rw [e, bs1]
        refine ⟨m', rfl, f.mono (by intro b z; have : b = 60 + 3 := z; unfold PQ' PQ; first | decide | omega), ⟨hc.1.fr f (by intro b a c; show ¬ b = 63; first | decide | omega), Or.inr rfl, by rw [f 60 0 (by show ¬ (60 : Nat) = 63; first | decide | omega)]; exact hc.2.2.1, fun c i _ b => (sl_e b i).symm⟩, ⟨fun i p r => ?_, fun k p r => ?_⟩, tw0 m' (hn.fr f (by intro b a c; show ¬ b = 63; first | decide | omega)) (by first | decide | omega) (by first | decide | omega)⟩
        · have h1 := hE.1 i p r
          rw [sl_e (by first | decide | omega), sl_e (by first | decide | omega), f (60 + 1) i (by show ¬ (61 : Nat) = 63; first | decide | omega), f (60 + 2) i (by show ¬ (62 : Nat) = 63; first | decide | omega), hc.2.2.2 1 i (by first | decide | omega) (by first | decide | omega), hc.2.2.2 2 i (by first | decide | omega) (by first | decide | omega), h1.1, h1.2]
          refine ⟨by rw [gM1, gM1, bdn (-1) _ (by first | decide | omega), bdn x _ (by first | decide | omega)], ?_⟩
          show (if (-1 : Int) = 0 then 0 else w 6 i) = if x = 0 then 0 else w 6 i
          rw [if_neg (by first | decide | omega), if_neg x0]
        · rw [sl_e (by first | decide | omega), q k p (by first | decide | omega), gM3]
          show w 0 2 = if x = 2 then w 0 2 else pkX w (w 11 k)
          rw [if_pos x2]
      · rw [if_neg x2]
        by_cases x3 : x = 3
        · rw [if_pos x3]
          obtain ⟨m', e, f, q⟩ := fill1 (s := 60) 9 5 1024 0 m (by first | decide | omega) (by first | decide | omega) (by first | decide | omega) (fun j p q => by first | decide | omega)
          unfold G6_giveBoards G6_giveBoards_0
          rw [e, bs1]
          refine ⟨m', rfl, f.mono (by intro b z; have : b = 60 + 1 := z; unfold PQ' PQ; first | decide | omega), ⟨hc.1.fr f (by intro b a c; show ¬ b = 61; first | decide | omega), Or.inr rfl, by rw [f 60 0 (by show ¬ (60 : Nat) = 61; first | decide | omega)]; exact hc.2.2.1, fun c i _ b => (sl_e b i).symm⟩, ⟨fun i p r => ?_, fun k p r => ?_⟩, tw0 m' (hn.fr f (by intro b a c; show ¬ b = 61; first | decide | omega)) (by first | decide | omega) (by first | decide | omega)⟩
          · have h1 := hE.1 i p r
            rw [sl_e (by first | decide | omega), sl_e (by first | decide | omega), q i p (by first | decide | omega), f (60 + 2) i (by show ¬ (62 : Nat) = 61; first | decide | omega), hc.2.2.2 2 i (by first | decide | omega) (by first | decide | omega), h1.2]
            refine ⟨?_, ?_⟩
            · rw [gM1]; show (9 : Int) = if x = 3 then 9 else w 4 i; rw [if_pos x3]
            · show (if (-1 : Int) = 0 then 0 else w 6 i) = if x = 0 then 0 else w 6 i
              rw [if_neg (by first | decide | omega), if_neg x0]
          · rw [sl_e (by first | decide | omega), f (60 + 3) k (by show ¬ (63 : Nat) = 61; first | decide | omega), hc.2.2.2 3 k (by first | decide | omega) (by first | decide | omega), hE.2 k p r, gM3, gM3, pxn (-1) _ (by first | decide | omega), pxn x _ (by first | decide | omega)]
        · have x4 : x = 4 := by omega
          rw [if_neg x3, gdx_t hy]
          obtain ⟨m', e, f, q⟩ := fillc (a := 76) (m (76 + 1) y) 5 1024 0 m (by first | decide | omega) (by first | decide | omega) (by first | decide | omega) (fun j p q => by first | decide | omega)
          unfold G4_seatAll G4_seatAll_0
          rw [e, bs1]
          have hc' := hc.fr f (by intro b q; show ¬ b = 77; first | decide | omega)
          obtain ⟨s1, s2⟩ := same _ hc'
          refine ⟨m', rfl, f.mono (by intro b z; have : b = 76 + 1 := z; unfold PQ' PQ; first | decide | omega), s1, ⟨fun i p r => ?_, fun k p r => ?_⟩, ?_⟩
          · have h1 := hE.1 i p r
            rw [s2 1 (by first | decide | omega) (by first | decide | omega), s2 2 (by first | decide | omega) (by first | decide | omega), h1.1, h1.2]
            refine ⟨by rw [gM1, gM1, bdn (-1) _ (by first | decide | omega), bdn x _ (by first | decide | omega)], ?_⟩
            show (if (-1 : Int) = 0 then 0 else w 6 i) = if x = 0 then 0 else w 6 i
            rw [if_neg (by first | decide | omega), if_neg x0]
          · rw [s2 3 (by first | decide | omega) (by first | decide | omega), hE.2 k p r, gM3, gM3, pxn (-1) _ (by first | decide | omega), pxn x _ (by first | decide | omega)]
          · have row : ∀ c, c ≤ 6 → c ≠ 1 → sl 6 m' 76 c = n c := fun c a b => by
              funext i
              rw [sl_e a, f (76 + c) i (by show ¬ 76 + c = 76 + 1; first | decide | omega)]
              exact hn.2.2 c i a
            refine ⟨row 0 (by first | decide | omega) (by first | decide | omega), row 2 (by first | decide | omega) (by first | decide | omega), row 3 (by first | decide | omega) (by first | decide | omega), row 6 (by first | decide | omega) (by first | decide | omega), fun i p r => ?_, fun i p r => ?_⟩
            · rw [sl_e (by first | decide | omega), q i p (by first | decide | omega), if_pos x4]; exact hn.2.2 1 y (by first | decide | omega)
            · rw [row 4 (by first | decide | omega) (by first | decide | omega), if_neg (by first | decide | omega)]
theorem c_over60 (hc : CX m 51 T w g) (hW : WW w) : ∃ m', G6_takeOver m 60 51 = some m' ∧ Fr (fun b => 60 ≤ b ∧ b ≤ 63) m m' ∧ CX m' 60 T w (sl 3 m' 60) ∧ GE w (sl 3 m' 60) g := by
  have hw := hW.1
  unfold WS at hw
  have hT := hc.1.1
  unfold G6_takeOver G6_takeOver_0
  simp only [wt_e]
  rw [hc.2.2.1, Int.toNat_natCast]
  refine ⟨_, rfl, ?_, ⟨hc.1.fr (P := fun b => 60 ≤ b ∧ b ≤ 63) ?_ (by intro b a c; first | decide | omega), Or.inr rfl, ?_, fun c i _ b => (sl_e b i).symm⟩, ⟨fun i p q => ?_, fun k p q => ?_⟩⟩
  · intro b i hb
    simp (disch := omega) only [up_a, cpy_a]
  · intro b i hb
    simp (disch := omega) only [up_a, cpy_a]
  · simp (disch := omega) only [cpy_a, up_e]
  · have e : (0 : Int) + (i - 0) = i := by omega
    rw [sl_e (by first | decide | omega), sl_e (by first | decide | omega)]
    simp (disch := omega) only [up_a, cpy_a, cpy_in, e]
    exact ⟨hc.2.2.2 1 i (by first | decide | omega) (by first | decide | omega), hc.2.2.2 2 i (by first | decide | omega) (by first | decide | omega)⟩
  · have e : (0 : Int) + (k - 0) = k := by omega
    rw [sl_e (by first | decide | omega)]
    simp (disch := omega) only [up_a, cpy_a, cpy_in, e]
    exact hc.2.2.2 3 k (by first | decide | omega) (by first | decide | omega)
theorem GE.trans {g1 g2 g3 : Mem} (a : GE w g1 g2) (b : GE w g2 g3) : GE w g1 g3 := ⟨fun i p q => ⟨(a.1 i p q).1.trans (b.1 i p q).1, (a.1 i p q).2.trans (b.1 i p q).2⟩, fun k p q => (a.2 k p q).trans (b.2 k p q)⟩
theorem GB_of (hW : WW w) {way : Int} {g' : Mem} (h : GE w g' (gM w way)) : GB w g' := by
  refine ⟨fun i p q => ?_, fun k p q => ?_⟩
  · have h1 := h.1 i p q
    have hb := bdM_b hW (way := way) ⟨p, q⟩
    have hc := hW.2.1 i p q
    rw [h1.1, h1.2, gM1]
    refine ⟨hb.1, hb.2, ?_⟩
    show 0 ≤ (if way = 0 then 0 else w 6 i) ∧ (if way = 0 then 0 else w 6 i) ≤ 100
    split <;> omega
  · rw [h.2 k p q, gM3]; exact pxM_b hW
theorem c_tr96 (hW : WW w) (hG : GB w g) : ∀ (d k : Nat) (i f : Int) (n m : Mem), 0 ≤ i → w 8 1 - i = d → d < k → 0 ≤ f → f + 2 * d ≤ 900 → m 0 3 = (T : Int) → CX m 60 T w g → NX m 76 n → NB w n f → ∃ m', G11_tried_96 k m i = some (smd ((rnd w g d i n) 2) (w 1 0).toNat 0, m') ∧ Fr (PW 60 76) m m' := by
  have hw := hW.1
  unfold WS at hw
  intro d
  induction d with
  | zero =>
    intro k i f n m a1 a2 a3 a4 a5 t2 hc hn hB
    obtain ⟨k, rfl⟩ : ∃ j, k = j + 1 := ⟨k - 1, by first | decide | omega⟩
    have er : m (76 + 2) = n 2 := funext fun i => hn.2.2 2 i (by first | decide | omega)
    rw [G11_tried_96, t2, Int.toNat_natCast, hc.1.2.2 8 1 (by first | decide | omega), if_pos (by first | decide | omega), hc.1.2.2 1 0 (by first | decide | omega), c_his (w := w) (by first | decide | omega) (fun i p q => by rw [er]; have := (hB.2 i p q).2.1; first | decide | omega), bs1, er]
    exact ⟨m, rfl, Fr.rf⟩
  | succ d ih =>
    intro k i f n m a1 a2 a3 a4 a5 t2 hc hn hB
    obtain ⟨k, rfl⟩ : ∃ j, k = j + 1 := ⟨k - 1, by first | decide | omega⟩
    obtain ⟨m1, e1, f1, n1⟩ := g_bring hc hW hG hn hB (by first | decide | omega) (v := i) (by first | decide | omega)
    rw [G11_tried_96, t2, Int.toNat_natCast, hc.1.2.2 8 1 (by first | decide | omega), if_neg (by first | decide | omega), e1, bs1, gd3_t (by first | decide | omega)]
    obtain ⟨m', e2, f2⟩ := ih k (i + 1) (f + 2) (bw w g n i (w 11 i)) m1 (by first | decide | omega) (by first | decide | omega) (by first | decide | omega) (by first | decide | omega) (by first | decide | omega) (by rw [f1 0 3 (by unfold PW PL PA; first | decide | omega)]; exact t2) (hc.pw (by first | decide | omega) f1) n1 (bw_nb hW hB a4 (by first | decide | omega))
    exact ⟨m', by rw [rnd_s]; exact e2, f1.tr f2⟩
theorem TW_nb {n' n'' : Mem} {way one f : Int} (h : TW w n' n'' way one) (hB : NB w n' f) (ho : way = 4 → 0 ≤ one ∧ one < w 1 0) : NB w n'' f := by
  obtain ⟨h0, h2, h3, h6, h1, h4⟩ := h
  refine ⟨by rw [h0]; exact hB.1, fun i p q => ?_⟩
  have hb := hB.2 i p q
  rw [h2, h3, h1 i p q, h4 i p q]
  refine ⟨?_, hb.2.1, hb.2.2.1, ?_⟩
  · split
    · rename_i z; exact (hB.2 one (ho z).1 (ho z).2).1
    · exact hb.1
  · split
    · omega
    · exact hb.2.2.2
/-- the reference's seats of bank 1 -/
theorem r_tr76 {x y j : Int} (hw5 : w 1 0 ≤ 5) (hy : x = 4 → 0 ≤ y ∧ y < 5) {n' n'' : Mem} (htw : TW w n' n'' x y) : ∀ (d k : Nat) (i : Int) (v : Mem), 0 ≤ i → w 1 0 - i = d → d < k → v 0 14 = w 1 0 → (x = 4 → v 25 y = n' 1 y) → (∀ s, 0 ≤ s → s < w 1 0 → v 25 (5 + s) = if s < i then n'' 1 s else n' 1 s) → (¬ x = 4 → i = 0) → ∃ v', G12_tried_76 k v x y j i = G12_tried_111 v' j ∧ Fm (fun b i => b = 25 ∧ 5 ≤ i) v v' ∧ ∀ s, 0 ≤ s → s < w 1 0 → v' 25 (5 + s) = n'' 1 s := by
  intro d
  induction d with
  | zero =>
    intro k i v a1 a2 a3 h14 hy2 h h0
    obtain ⟨k, rfl⟩ : ∃ j, k = j + 1 := ⟨k - 1, by first | decide | omega⟩
    rw [G12_tried_76, h14, if_pos (by first | decide | omega)]
    exact ⟨v, rfl, Fm.rf, fun s p q => by rw [h s p q, if_pos (by first | decide | omega)]⟩
  | succ d ih =>
    intro k i v a1 a2 a3 h14 hy2 h h0
    obtain ⟨k, rfl⟩ : ∃ j, k = j + 1 := ⟨k - 1, by first | decide | omega⟩
    rw [G12_tried_76, h14, if_neg (by first | decide | omega)]
    by_cases c : x = 4
    · have hyb := hy c
      rw [if_pos c, gdx_t (by first | decide | omega), gdx_t (by first | decide | omega), wt_e, gd3_t (by first | decide | omega), hy2 c]
      obtain ⟨v', e1, f1, k1⟩ := ih k (i + 1) (up v 25 (5 + i) (n' 1 y)) (by first | decide | omega) (by first | decide | omega) (by first | decide | omega) (by rw [up_a (by first | decide | omega)]; exact h14) (fun z => by rw [up_i (by first | decide | omega)]; exact hy2 z) (fun s p q => by
        have e4 := htw.2.2.2.2.1 s p q
        rw [if_pos c] at e4
        by_cases z : s = i
        · subst z; rw [up_e, if_pos (by first | decide | omega), e4]
        · rw [up_i (by first | decide | omega), h s p q]
          by_cases z2 : s < i
          · rw [if_pos z2, if_pos (by first | decide | omega)]
          · rw [if_neg z2, if_neg (by first | decide | omega)]) (fun z => absurd c z)
      exact ⟨v', e1, (Fm.w1 ⟨rfl, by first | decide | omega⟩).tr f1, k1⟩
    · rw [if_neg c]
      have hi0 := h0 c
      refine ⟨v, rfl, Fm.rf, fun s p q => ?_⟩
      have e4 := htw.2.2.2.2.1 s p q
      rw [if_neg c] at e4
      rw [h s p q, if_neg (by first | decide | omega), e4]
end Q8
