/-! How both memories belong together between calls. -/
def sl (k : Nat) (m : Mem) (a : Nat) : Mem := fun c i => if c ≤ k then m (a + c) i else 0
theorem sl_e {k : Nat} {m : Mem} {a c : Nat} (h : c ≤ k) (i : Int) : sl k m a c i = m (a + c) i := if_pos h
theorem sl_r {k : Nat} {m : Mem} {a c : Nat} (h : c ≤ k) : sl k m a c = m (a + c) := funext fun i => sl_e h i
theorem sl_c {k : Nat} {m m' : Mem} {a : Nat} (h : ∀ b, a ≤ b → b ≤ a + k → m' b = m b) : sl k m' a = sl k m a := by
  funext c i
  unfold sl
  by_cases c1 : c ≤ k
  · rw [if_pos c1, if_pos c1, h (a + c) (by first | decide | omega) (by first | decide | omega)]
  · rw [if_neg c1, if_neg c1]
theorem TX_sl {m : Mem} {T : Nat} (hT : T = 2 ∨ T = 24) : TX m T (sl 21 m T) := ⟨hT, fun i => (sl_e (Nat.zero_le _) i).symm, fun c i h => (sl_e h i).symm⟩
theorem NX_sl {m : Mem} {a : Nat} (ha : a = 69 ∨ a = 76 ∨ a = 83) : NX m a (sl 6 m a) := ⟨ha, fun i => (sl_e (Nat.zero_le _) i).symm, fun c i h => (sl_e h i).symm⟩
theorem CX_sl {m : Mem} {s T : Nat} (hT : T = 2 ∨ T = 24) (hs : s = 51 ∨ s = 60) (h : m s 0 = (T : Int)) : CX m s T (sl 21 m T) (sl 3 m s) := ⟨TX_sl hT, hs, h, fun c i _ h => (sl_e h i).symm⟩
theorem NX_u {m : Mem} {a : Nat} {n : Mem} (h : NX m a n) (c : Nat) (hc : c ≤ 6) : sl 6 m a c = n c := by
  funext i; rw [sl_e hc]; exact h.2.2 c i hc
/-- a minute as calls may find it -/
def SN (w n : Mem) : Prop := NB w n (2 * ff w (n 0 0)) ∧ (0 ≤ n 0 0 ∧ n 0 0 ≤ 199) ∧ (∀ i, 0 ≤ i → i < w 1 0 → (n 4 i = 0 ∨ n 0 0 < n 4 i) ∧ n 4 i ≤ 1000 ∧ 0 ≤ n 5 i ∧ n 5 i ≤ w 5 i) ∧ ∀ k, 0 ≤ k → k < w 8 1 → (n 6 k = -2 ↔ n 0 0 ≤ w 11 k)
/-- the reference's present minute -/
def SV (w n v : Mem) : Prop := NM v 0 w n ∧ v 31 0 = n 0 0 ∧ v 0 64 = n 0 1 ∧ (∀ i, 0 ≤ i → i < w 1 0 → v 28 i = n 4 i ∧ v 29 i = w 5 i - n 5 i) ∧ v 0 66 = -1
/-- the reference's image -/
def SI (w n v : Mem) : Prop := (∀ s, 0 ≤ s → s < w 1 0 → v 42 s = n 1 s ∧ v 42 (5 + s) = n 2 s ∧ v 42 (10 + s) = n 3 s ∧ v 42 (15 + s) = n 4 s ∧ v 42 (20 + s) = w 5 s - n 5 s) ∧ (∀ k, 0 ≤ k → k < w 8 1 → v 42 (25 + k) = n 6 k) ∧ v 0 82 = n 0 0 ∧ v 0 83 = n 0 1 ∧ v 0 84 = n 0 3 ∧ v 0 85 = n 0 4 ∧ v 0 86 = n 0 2
def RS (m v : Mem) (T : Nat) : Prop := ((T = 2 ∨ T = 24) ∧ m 0 3 = (T : Int) ∧ m 0 4 = 26 - (T : Int) ∧ m 51 0 = (T : Int)) ∧ WW (sl 21 m T) ∧ GE (sl 21 m T) (sl 3 m 51) (gM (sl 21 m T) (-1)) ∧ SN (sl 21 m T) (sl 6 m 69) ∧ RT v (sl 21 m T) ∧ SV (sl 21 m T) (sl 6 m 69) v
def RI (m v : Mem) (T : Nat) : Prop := m 0 10 = v 0 80 ∧ (m 0 10 = 0 ∨ (m 0 10 = 1 ∧ SN (sl 21 m T) (sl 6 m 83) ∧ SI (sl 21 m T) (sl 6 m 83) v))
def isS (w : Mem) (s : Int) : Prop := 0 ≤ s ∧ s < w 1 0
def isC (w : Mem) (c : Int) : Prop := 0 ≤ c ∧ c < w 0 0 * w 0 1
/-- notes and strikes -/
def RNo (m v w : Mem) : Prop := m 90 0 = v 0 74 ∧ (0 ≤ m 90 0 ∧ m 90 0 ≤ 24) ∧ m 90 1 = v 0 75 ∧ (-1 ≤ m 90 1 ∧ m 90 1 ≤ m 90 0) ∧ ∀ k, 0 ≤ k → k < m 90 0 → (m 94 k = -1 ∧ v 39 (3 * k) = m 91 k ∧ (0 ≤ m 91 k ∧ m 91 k ≤ 199) ∧ v 39 (3 * k + 1) = m 92 k ∧ isS w (m 92 k) ∧ v 39 (3 * k + 2) = m 93 k ∧ isC w (m 93 k)) ∨ (0 ≤ m 94 k ∧ m 94 k < k ∧ v 39 (3 * k) = -1 ∧ v 39 (3 * k + 1) = m 94 k)
/-- how it was before each call that can be undone -/
def UH (m v w n : Mem) (CE ST : Int → Int → Int) (RR : Int → Int) : Prop := (∀ s, 0 ≤ s → s < w 1 0 → CE (m 96 0) s = n 1 s ∧ ST (m 96 0) s = n 5 s) ∧ RR (m 96 0) = n 0 1 ∧ ∀ j, 0 ≤ j → j < m 96 0 → (∀ s, 0 ≤ s → s < w 1 0 → v 41 (11 * j + s) = CE j s ∧ v 41 (11 * j + 5 + s) = w 5 s - ST j s ∧ isC w (CE j s) ∧ 0 ≤ ST j s ∧ ST j s ≤ w 5 s) ∧ v 41 (11 * j + 10) = RR j ∧ (0 ≤ RR j ∧ RR j ≤ 3) ∧ ((m 97 j = -1 ∧ RR j = m 98 j ∧ ∀ s, 0 ≤ s → s < w 1 0 → CE j s = CE (j + 1) s ∧ ST j s = ST (j + 1) s) ∨ (isS w (m 97 j) ∧ RR j = RR (j + 1) ∧ ∀ s, 0 ≤ s → s < w 1 0 → CE j s = (if s = m 97 j then m 98 j else CE (j + 1) s) ∧ ST j s = (if s = m 97 j then ST (j + 1) s - 1 else ST (j + 1) s)))
def RU (m v w n : Mem) : Prop := m 96 0 = v 0 78 ∧ (0 ≤ m 96 0 ∧ m 96 0 ≤ 20) ∧ ∃ CE ST RR, UH m v w n CE ST RR
/-- the tape, and the words that both know -/
def lgW : List Int := [642809856, 542157824, 660150450, 643432448, 68627456, 626398208, 642945024, 404455424, 139640832, 693713504, 168927232, 525991936, 102370560, 153393792, 57730048, 486146048, 48365568, 522190848, 202964992, 647107584, 82888832, 647828480, 446125701, 780438784]
def wdM : List Int := [115, 101, 97, 32, 112, 101, 97, 107, 32, 115, 117, 114, 102, 101, 114, 32, 115, 101, 116, 32, 98, 97, 110, 107, 32, 114, 117, 108, 101, 32, 115, 101, 101, 100, 32, 108, 97, 119, 32, 100, 101, 101, 112, 32, 116, 117, 114, 110, 115, 32, 101, 97, 99, 104, 32, 111, 117, 116, 32, 99, 97, 116, 99, 104, 32, 100, 114, 105, 102, 116, 32, 97, 119, 97, 121, 32, 97, 110, 100, 32, 111, 114, 32, 110, 111, 116, 32, 102, 97, 114, 32, 115, 105, 100, 101, 32, 98, 111, 97, 114, 100, 32, 115, 105, 122, 101, 32, 109, 105, 110, 117, 116, 101, 32, 119, 104, 105, 99, 104, 32]
def RTp (m v : Mem) : Prop := m 0 1 = v 0 1 ∧ (0 ≤ m 0 1 ∧ m 0 1 ≤ 700) ∧ (∀ i, 0 ≤ i → i < m 0 1 → (-128 ≤ m 1 i ∧ m 1 i ≤ 127) ∧ v 1 i = m 1 i % 256) ∧ (∀ i : Nat, i < 24 → m 48 i = lgW.getD i 0) ∧ (∀ i : Nat, i < 120 → v 2 i = wdM.getD i 0)
/-- what lies in the row of a game's worths -/
def W102 (m : Mem) : Prop := ∀ i, 0 ≤ i → i < 280 → 0 ≤ m 102 i ∧ m 102 i ≤ 900
def Rel (m v : Mem) : Prop := ∃ T, RS m v T ∧ RI m v T ∧ RNo m v (sl 21 m T) ∧ RU m v (sl 21 m T) (sl 6 m 69) ∧ RTp m v ∧ (m 46 8 = v 0 4 ∧ m 46 9 = v 0 5) ∧ W102 m
/-- what a question may change: of the class -/
def PQ : Nat → Prop := fun b => (55 ≤ b ∧ b ≤ 68) ∨ (76 ≤ b ∧ b ≤ 82) ∨ b = 95 ∨ 99 ≤ b
/-- without the row of worths -/
def PQ' : Nat → Prop := fun b => PQ b ∧ b ≠ 102
/-- of the reference -/
def PMq : Nat → Int → Prop := fun b i => (b = 0 ∧ (i = 2 ∨ i = 54 ∨ i = 67 ∨ i = 69)) ∨ b = 23 ∨ b = 24 ∨ (34 ≤ b ∧ b ≤ 38) ∨ b = 40 ∨ ((25 ≤ b ∧ b ≤ 28) ∧ 5 ≤ i) ∨ (b = 30 ∧ 28 ≤ i) ∨ ((31 ≤ b ∧ b ≤ 33) ∧ i = 1)
theorem PN_Q : ∀ b, PN 51 b → PQ' b := by intro b h; unfold PN at h; unfold PQ' PQ; omega
theorem PL_Q : ∀ b, PL 51 b → PQ' b := by intro b h; unfold PL at h; unfold PQ' PQ; omega
theorem PNm_q : ∀ b i, PNm b i → PMq b i := by intro b i h; unfold PNm at h; unfold PMq; omega
theorem PO_q : ∀ b i, PO b i → PMq b i := by intro b i h; unfold PO PNm at h; unfold PMq; omega
theorem RT.q {v v' w : Mem} (h : RT v w) (f : Fm PMq v v') : RT v' w := h.fr f (by intro b i q; unfold PMq; first | decide | omega)
theorem sl_q {k : Nat} {m m' : Mem} {a : Nat} (f : Fr PQ m m') (h : ∀ b, a ≤ b → b ≤ a + k → ¬ PQ b) : sl k m' a = sl k m a := sl_c (fun b x y => f.row (h b x y))
theorem SV.q {w n v v' : Mem} (h : SV w n v) (hw : w 1 0 ≤ 5 ∧ w 8 1 ≤ 28) (f : Fm PMq v v') : SV w n v' := by
  obtain ⟨⟨h1, h2, h3, h4, h5⟩, h6, h7, h8, h9⟩ := h
  refine ⟨⟨fun i p q => ?_, fun k p q => ?_, ?_, ?_, ?_⟩, ?_, ?_, fun i p q => ?_, ?_⟩
  · rw [f 25 _ (by unfold PMq; first | decide | omega), f 26 _ (by unfold PMq; first | decide | omega), f 27 _ (by unfold PMq; first | decide | omega)]; exact h1 i p q
  · rw [f 30 _ (by unfold PMq; first | decide | omega)]; exact h2 k p q
  · rw [f 32 _ (by unfold PMq; first | decide | omega)]; exact h3
  · rw [f 33 _ (by unfold PMq; first | decide | omega)]; exact h4
  · rw [f 0 65 (by unfold PMq; first | decide | omega)]; exact h5
  · rw [f 31 _ (by unfold PMq; first | decide | omega)]; exact h6
  · rw [f 0 64 (by unfold PMq; first | decide | omega)]; exact h7
  · rw [f 28 _ (by unfold PMq; first | decide | omega), f 29 _ (by unfold PMq; first | decide | omega)]; exact h8 i p q
  · rw [f 0 66 (by unfold PMq; first | decide | omega)]; exact h9
theorem Rel.q2 {m v m' v' : Mem} (h : Rel m v) (f : Fr PQ m m') (hW : W102 m') (g : Fm PMq v v') : Rel m' v' := by
  obtain ⟨T, ⟨⟨t1, t2, t3, t4⟩, r1, r2, r3, r4, r5⟩, ⟨i1, i2⟩, n1, u1, p1, ⟨a1, a2⟩, a3⟩ := h
  have ew : sl 21 m' T = sl 21 m T := sl_q f (by intro b x y; unfold PQ; first | decide | omega)
  have en : sl 6 m' 69 = sl 6 m 69 := sl_q f (by intro b x y; unfold PQ; first | decide | omega)
  have eg : sl 3 m' 51 = sl 3 m 51 := sl_q f (by intro b x y; unfold PQ; first | decide | omega)
  have ei : sl 6 m' 83 = sl 6 m 83 := sl_q f (by intro b x y; unfold PQ; first | decide | omega)
  have e : ∀ b, ¬ PQ b → m' b = m b := fun b h => f.row h
  have hs := r1.1.2.1
  have e0 := e 0 (by unfold PQ; first | decide | omega)
  have v42 : v' 42 = v 42 := funext fun i => g 42 i (by unfold PMq; first | decide | omega)
  have v39 : v' 39 = v 39 := funext fun i => g 39 i (by unfold PMq; first | decide | omega)
  have v41 : v' 41 = v 41 := funext fun i => g 41 i (by unfold PMq; first | decide | omega)
  have v0 : ∀ i, i ≠ 2 → i ≠ 54 → i ≠ 67 → i ≠ 69 → v' 0 i = v 0 i := fun i a b c d => g 0 i (by unfold PMq; first | decide | omega)
  refine ⟨T, ⟨⟨t1, ?_, ?_, ?_⟩, ?_, ?_, ?_, ?_, ?_⟩, ⟨?_, ?_⟩, ?_, ?_, ?_, ⟨?_, ?_⟩, hW⟩
  · rw [e0]; exact t2
  · rw [e0]; exact t3
  · rw [e 51 (by unfold PQ; first | decide | omega)]; exact t4
  · rw [ew]; exact r1
  · rw [ew, eg]; exact r2
  · rw [ew, en]; exact r3
  · rw [ew]; exact r4.q g
  · rw [ew, en]; exact r5.q ⟨by first | decide | omega, by first | decide | omega⟩ g
  · rw [e0, v0 80 (by first | decide | omega) (by first | decide | omega) (by first | decide | omega) (by first | decide | omega)]; exact i1
  · rw [e0, ew, ei]
    unfold SI
    rw [v42, v0 82 (by first | decide | omega) (by first | decide | omega) (by first | decide | omega) (by first | decide | omega), v0 83 (by first | decide | omega) (by first | decide | omega) (by first | decide | omega) (by first | decide | omega), v0 84 (by first | decide | omega) (by first | decide | omega) (by first | decide | omega) (by first | decide | omega), v0 85 (by first | decide | omega) (by first | decide | omega) (by first | decide | omega) (by first | decide | omega), v0 86 (by first | decide | omega) (by first | decide | omega) (by first | decide | omega) (by first | decide | omega)]
    exact i2
  · rw [ew]
    unfold RNo
    rw [e 90 (by unfold PQ; first | decide | omega), e 91 (by unfold PQ; first | decide | omega), e 92 (by unfold PQ; first | decide | omega), e 93 (by unfold PQ; first | decide | omega), e 94 (by unfold PQ; first | decide | omega), v39, v0 74 (by first | decide | omega) (by first | decide | omega) (by first | decide | omega) (by first | decide | omega), v0 75 (by first | decide | omega) (by first | decide | omega) (by first | decide | omega) (by first | decide | omega)]
    exact n1
  · rw [ew, en]
    unfold RU UH
    rw [e 96 (by unfold PQ; first | decide | omega), e 97 (by unfold PQ; first | decide | omega), e 98 (by unfold PQ; first | decide | omega), v41, v0 78 (by first | decide | omega) (by first | decide | omega) (by first | decide | omega) (by first | decide | omega)]
    exact u1
  · unfold RTp
    rw [e0, e 1 (by unfold PQ; first | decide | omega), e 48 (by unfold PQ; first | decide | omega), v0 1 (by first | decide | omega) (by first | decide | omega) (by first | decide | omega) (by first | decide | omega)]
    have v1 : v' 1 = v 1 := funext fun i => g 1 i (by unfold PMq; first | decide | omega)
    have v2 : v' 2 = v 2 := funext fun i => g 2 i (by unfold PMq; first | decide | omega)
    rw [v1, v2]
    exact p1
  · rw [e 46 (by unfold PQ; first | decide | omega), v0 4 (by first | decide | omega) (by first | decide | omega) (by first | decide | omega) (by first | decide | omega)]; exact a1
  · rw [e 46 (by unfold PQ; first | decide | omega), v0 5 (by first | decide | omega) (by first | decide | omega) (by first | decide | omega) (by first | decide | omega)]; exact a2
theorem Rel.q {m v m' v' : Mem} (h : Rel m v) (f : Fr PQ' m m') (g : Fm PMq v v') : Rel m' v' := by
  have hW : W102 m' := by
    obtain ⟨T, _, _, _, _, _, _, a3⟩ := h
    intro i p q
    rw [f 102 i (fun z => z.2 rfl)]
    exact a3 i p q
  exact h.q2 (f.mono (fun b z => z.1)) hW g
/-- what calls may use of it -/
theorem Rel.use {m v : Mem} (h : Rel m v) : ∃ (T : Nat) (w g n : Mem), (T = 2 ∨ T = 24) ∧ m 0 3 = (T : Int) ∧ CX m 51 T w g ∧ NX m 69 n ∧ WW w ∧ GB w g ∧ GE w g (gM w (-1)) ∧ SN w n ∧ RT v w ∧ SV w n v ∧ TLM v 0 w n (-1) 0 (n 0 0) ∧ w = sl 21 m T ∧ g = sl 3 m 51 ∧ n = sl 6 m 69 := by
  obtain ⟨T, ⟨⟨t1, t2, t3, t4⟩, r1, r2, r3, r4, r5⟩, _⟩ := h
  refine ⟨T, _, _, _, t1, t2, CX_sl t1 (Or.inl rfl) t4, NX_sl (Or.inl rfl), r1, ?_, r2, r3, r4, r5, ?_, rfl, rfl, rfl⟩
  · refine ⟨fun i p q => ?_, fun k p q => ?_⟩
    · obtain ⟨x, y⟩ := r2.1 i p q
      have hc := r1.2.1 i p q
      rw [x, y]
      exact ⟨hc.2.1.1, hc.2.1.2, hc.2.2.2.1.1, hc.2.2.2.1.2⟩
    · rw [r2.2 k p q]
      exact pxM_b (way := -1) (mn := sl 21 m T 11 k) r1
  · intro i p q
    right
    refine ⟨by first | decide | omega, ?_⟩
    have h1 := (r5.2.2.2.1 i p q).1
    have h2 := (r3.2.2.1 i p q).1
    have e : 5 * (0 : Int) + i = i := by omega
    rw [e, h1]
    split
    · rename_i c
      rcases h2 with z | z
      · exact z
      · omega
    · rfl
/-! Questions: both answer alike. -/
def Agr (X Y : Option (Int × Mem)) : Prop := ∃ a m' v', X = some (a, m') ∧ Y = some (a, v') ∧ Rel m' v'
theorem agr {m v : Mem} {X Y : Option (Int × Mem)} (h : Rel m v) (a : Int) {m' v' : Mem} (e1 : X = some (a, m')) (e2 : Y = some (a, v')) (f : Fr PQ' m m') (g : Fm PMq v v') : Agr X Y := ⟨a, m', v', e1, e2, h.q f g⟩
theorem agr0 {m v : Mem} {X Y : Option (Int × Mem)} (h : Rel m v) (a : Int) (e1 : X = some (a, m)) (e2 : Y = some (a, v)) : Agr X Y := ⟨a, m, v, e1, e2, h⟩
theorem Rel.v0 {m v : Mem} (h : Rel m v) : Rel m (up v 0 2 0) := h.q Fr.rf (Fm.w1 (by unfold PMq; first | decide | omega))
section Q2
variable {m v w g n : Mem} {T : Nat}
theorem c_isS (hT : m 0 3 = (T : Int)) (h : TX m T w) (s : Int) : G11_isSurfer m s = some ((if 0 ≤ s ∧ s < w 1 0 then 1 else 0), m) := by
  unfold G11_isSurfer G11_isSurfer_0
  rw [hT, Int.toNat_natCast, h.2.2 1 0 (by first | decide | omega)]
  by_cases c1 : s < 0
  · rw [if_pos c1, if_neg (by first | decide | omega)]
  · rw [if_neg c1]
    by_cases c2 : w 1 0 ≤ s
    · rw [if_pos c2, if_neg (by first | decide | omega)]
    · rw [if_neg c2, if_pos (by first | decide | omega)]
theorem r_isS (h : RT v w) (s : Int) : G12_isSurfer v s = some ((if 0 ≤ s ∧ s < w 1 0 then 1 else 0), v) := by
  unfold G12_isSurfer G12_isSurfer_0
  rw [h.1.2.2.1]
  by_cases c1 : s < 0
  · rw [if_pos c1, if_neg (by first | decide | omega)]
  · rw [if_neg c1]
    by_cases c2 : w 1 0 ≤ s
    · rw [if_pos c2, if_neg (by first | decide | omega)]
    · rw [if_neg c2, if_pos (by first | decide | omega)]
theorem c_isV (hT : m 0 3 = (T : Int)) (h : TX m T w) (s : Int) : G11_isWave m s = some ((if 0 ≤ s ∧ s < w 8 1 then 1 else 0), m) := by
  unfold G11_isWave G11_isWave_0
  rw [hT, Int.toNat_natCast, h.2.2 8 1 (by first | decide | omega)]
  by_cases c1 : s < 0
  · rw [if_pos c1, if_neg (by first | decide | omega)]
  · rw [if_neg c1]
    by_cases c2 : w 8 1 ≤ s
    · rw [if_pos c2, if_neg (by first | decide | omega)]
    · rw [if_neg c2, if_pos (by first | decide | omega)]
theorem r_isV (h : RT v w) (s : Int) : G12_isWave v s = some ((if 0 ≤ s ∧ s < w 8 1 then 1 else 0), v) := by
  unfold G12_isWave G12_isWave_0
  rw [h.1.2.2.2.2.1]
  by_cases c1 : s < 0
  · rw [if_pos c1, if_neg (by first | decide | omega)]
  · rw [if_neg c1]
    by_cases c2 : w 8 1 ≤ s
    · rw [if_pos c2, if_neg (by first | decide | omega)]
    · rw [if_neg c2, if_pos (by first | decide | omega)]
theorem cells_b (hW : WW w) : 1 ≤ w 0 0 * w 0 1 ∧ w 0 0 * w 0 1 ≤ 48 := by
  have hw := hW.1
  unfold WS at hw
  have h1 : 1 * 1 ≤ w 0 0 * w 0 1 := Int.mul_le_mul (by first | decide | omega) (by first | decide | omega) (by first | decide | omega) (by first | decide | omega)
  have h2 : w 0 0 * w 0 1 ≤ 8 * 6 := Int.mul_le_mul (by first | decide | omega) (by first | decide | omega) (by first | decide | omega) (by first | decide | omega)
  omega
theorem r_cells (h : RT v w) (hW : WW w) : G12_cells v = some (w 0 0 * w 0 1, v) := by
  have := cells_b hW
  unfold G12_cells G12_cells_0
  rw [h.1.1, h.1.2.1, gd3_t (by first | decide | omega)]
theorem c_isC (hT : m 0 3 = (T : Int)) (h : TX m T w) (hW : WW w) (s : Int) : G11_isCell m s = some ((if 0 ≤ s ∧ s < w 0 0 * w 0 1 then 1 else 0), m) := by
  have hw := hW.1
  unfold WS at hw
  unfold G11_isCell G11_isCell_0
  rw [hT, Int.toNat_natCast, g_cells h (by first | decide | omega) (by first | decide | omega), bs1]
  simp only
  by_cases c1 : s < 0
  · rw [if_pos c1, if_neg (by first | decide | omega)]
  · rw [if_neg c1]
    by_cases c2 : w 0 0 * w 0 1 ≤ s
    · rw [if_pos c2, if_neg (by first | decide | omega)]
    · rw [if_neg c2, if_pos (by first | decide | omega)]
theorem r_isC (h : RT v w) (hW : WW w) (s : Int) : G12_isCell v s = some ((if 0 ≤ s ∧ s < w 0 0 * w 0 1 then 1 else 0), v) := by
  unfold G12_isCell G12_isCell_0
  rw [r_cells h hW, bs1]
  simp only
  by_cases c1 : s < 0
  · rw [if_pos c1, if_neg (by first | decide | omega)]
  · rw [if_neg c1]
    by_cases c2 : w 0 0 * w 0 1 ≤ s
    · rw [if_pos c2, if_neg (by first | decide | omega)]
    · rw [if_neg c2, if_pos (by first | decide | omega)]
theorem r_isIn (v : Mem) (x a b : Int) : G12_isIn v x a b = some ((if a ≤ x ∧ x ≤ b then 1 else 0), v) := by
  unfold G12_isIn G12_isIn_0
  by_cases c1 : x < a
  · rw [if_pos c1, if_neg (by first | decide | omega)]
  · rw [if_neg c1]
    by_cases c2 : b < x
    · rw [if_pos c2, if_neg (by first | decide | omega)]
    · rw [if_neg c2, if_pos (by first | decide | omega)]
theorem c_isR (m : Mem) (x : Int) : G11_isRule m x = some ((if 0 ≤ x ∧ x ≤ 3 then 1 else 0), m) := by
  unfold G11_isRule G11_isRule_0
  by_cases c1 : x < 0
  · rw [if_pos c1, if_neg (by first | decide | omega)]
  · rw [if_neg c1]
    by_cases c2 : 4 ≤ x
    · rw [if_pos c2, if_neg (by first | decide | omega)]
    · rw [if_neg c2, if_pos (by first | decide | omega)]
theorem i10 : ¬ (1 : Int) = 0 := by decide
theorem a_fault (h : Rel m v) (x : Int) : Agr (G11_fault m x) (G12_fault v x) := by
  have h1 := h.v0
  unfold G11_fault G11_fault_0 G12_fault G12_fault_0
  rw [wt_e]
  generalize up v 0 2 0 = u at h1 ⊢
  obtain ⟨T, _, _, _, _, _, ⟨e1, e2⟩, e3⟩ := h1
  rw [e1, e2]
  have h1 : Rel m u := ⟨T, ‹_›, ‹_›, ‹_›, ‹_›, ‹_›, ⟨e1, e2⟩, e3⟩
  split
  · exact agr0 h1 _ rfl rfl
  · split
    · exact agr0 h1 _ rfl rfl
    · exact agr0 h1 _ rfl rfl
-- the first of d places from i on that holds x; none: -1
def fnd (f : Int → Int) (x : Int) : Nat → Int → Int
  | 0, _ => -1
  | d + 1, i => if f i = x then i else fnd f x d (i + 1)
theorem fnd_s (f : Int → Int) (x : Int) (d : Nat) (i : Int) : fnd f x (d + 1) i = if f i = x then i else fnd f x d (i + 1) := rfl
theorem c_nam (hT : m 0 3 = (T : Int)) (h : TX m T w) (h5 : w 1 0 ≤ 5) (x : Int) : ∀ (d k : Nat) (i : Int), 0 ≤ i → w 1 0 - i = d → d < k → G11_named_2 k m x i = some (fnd (w 2) x d i, m) := by
  intro d
  induction d with
  | zero =>
    intro k i a1 a2 a3
    obtain ⟨k, rfl⟩ : ∃ j, k = j + 1 := ⟨k - 1, by first | decide | omega⟩
    rw [G11_named_2, hT, Int.toNat_natCast, h.2.2 1 0 (by first | decide | omega), if_pos (by first | decide | omega)]
    rfl
  | succ d ih =>
    intro k i a1 a2 a3
    obtain ⟨k, rfl⟩ : ∃ j, k = j + 1 := ⟨k - 1, by first | decide | omega⟩
    rw [G11_named_2, hT, Int.toNat_natCast, h.2.2 1 0 (by first | decide | omega), if_neg (by first | decide | omega), gdx_t (by first | decide | omega), h.2.2 2 i (by first | decide | omega), fnd_s, gd3_t (by first | decide | omega), ih k (i + 1) (by first | decide | omega) (by first | decide | omega) (by first | decide | omega)]
    split <;> rfl
theorem r_find (o N x : Int) (f : Int → Int) (ho : 0 ≤ o ∧ o + N ≤ 10) : ∀ (d k : Nat) (i : Int), 0 ≤ i → N - i = d → d < k → (∀ j, 0 ≤ j → j < N → v 5 (o + j) = f j) → G12_find_3 k v o N x i = some (fnd f x d i, v) := by
  intro d
  induction d with
  | zero =>
    intro k i a1 a2 a3 hf
    obtain ⟨k, rfl⟩ : ∃ j, k = j + 1 := ⟨k - 1, by first | decide | omega⟩
    rw [G12_find_3, if_pos (by first | decide | omega)]
    rfl
  | succ d ih =>
    intro k i a1 a2 a3 hf
    obtain ⟨k, rfl⟩ : ∃ j, k = j + 1 := ⟨k - 1, by first | decide | omega⟩
    rw [G12_find_3, if_neg (by first | decide | omega), gdx_t (by first | decide | omega), hf i a1 (by first | decide | omega), fnd_s, gd3_t (by first | decide | omega), ih k (i + 1) (by first | decide | omega) (by first | decide | omega) (by first | decide | omega) hf]
    split <;> rfl
theorem a_named (h : Rel m v) (x : Int) : Agr (G11_named m x) (G12_named v x) := by
  have h1 := h.v0
  unfold G11_named G11_named_0 G12_named G12_named_0 G12_find G12_find_0
  rw [wt_e]
  generalize up v 0 2 0 = u at h1 ⊢
  obtain ⟨T, w, g, n, t1, t2, hc, hn, hW, hG, hE, hS, hR, hV, hL, -, -, -⟩ := h1.use
  have hw := hW.1
  unfold WS at hw
  rw [hR.1.2.2.1, r_find 0 (w 1 0) x (w 2) (by first | decide | omega) (w 1 0).toNat 1024 0 (by first | decide | omega) (by first | decide | omega) (by first | decide | omega) (fun j p q => by rw [Int.zero_add]; exact (hR.2.2.1 j p q).1), bs1]
  exact agr0 h1 _ (c_nam t2 hc.1 (by first | decide | omega) x (w 1 0).toNat 1024 0 (by first | decide | omega) (by first | decide | omega) (by first | decide | omega)) rfl
theorem a_wave (h : Rel m v) (x y : Int) : Agr (G11_wave m x y) (G12_wave v x y) := by
  have h1 := h.v0
  unfold G11_wave G11_wave_0 G12_wave G12_wave_0
  rw [wt_e]
  generalize up v 0 2 0 = u at h1 ⊢
  obtain ⟨T, w, g, n, t1, t2, hc, hn, hW, hG, hE, hS, hR, hV, hL, -, -, -⟩ := h1.use
  have hw := hW.1
  unfold WS at hw
  rw [c_isV t2 hc.1, r_isV hR, bs1, bs1]
  by_cases c : 0 ≤ x ∧ x < w 8 1
  · obtain ⟨k1, k2, k3, k4, k5, k6, k7, k8, k9, k10⟩ := wnm hR hW c
    rw [k9] at k3 k4 k5 k6 k10
    simp only [if_pos c, if_neg i10]
    have e1 : m (T + 11) x = w 11 x := hc.1.2.2 11 x (by first | decide | omega)
    have e2 : m (T + 12) x = w 12 x := hc.1.2.2 12 x (by first | decide | omega)
    have e3 : m (T + 13) x = w 13 x := hc.1.2.2 13 x (by first | decide | omega)
    have e4 : m (T + 14) x = w 14 x := hc.1.2.2 14 x (by first | decide | omega)
    have e5 : m (69 + 6) x = n 6 x := hn.2.2 6 x (by first | decide | omega)
    have e6 : u 30 x = n 6 x := by have := hV.1.2.1 x c.1 c.2; rwa [show 28 * (0 : Int) + x = x by first | decide | omega] at this
    simp only [t2, Int.toNat_natCast, e1, e2, e3, e4, e5, gdx_t (show 0 ≤ x ∧ x < 28 by first | decide | omega), gdx_t (show 0 ≤ x ∧ x < 56 by first | decide | omega), gdx_t (show 0 ≤ w 13 x ∧ w 13 x < 8 from ⟨k3, k4⟩), gd3_t (show -2147483648 ≤ w 14 x ∧ w 14 x ≤ 2147483647 by first | decide | omega), k10, k7, k8, k9, e6]
    split
    · exact agr0 h1 _ rfl rfl
    · split
      · exact agr0 h1 _ rfl rfl
      · split
        · exact agr0 h1 _ rfl rfl
        · split
          · exact agr0 h1 _ rfl rfl
          · split
            · exact agr0 h1 _ rfl rfl
            · exact agr0 h1 _ rfl rfl
  · simp only [if_neg c, if_true]
    exact agr0 h1 _ rfl rfl
theorem a_peak (h : Rel m v) (x : Int) : Agr (G11_peak m x) (G12_peak v x) := by
  have h1 := h.v0
  unfold G11_peak G11_peak_0 G12_peak G12_peak_0
  rw [wt_e]
  generalize up v 0 2 0 = u at h1 ⊢
  obtain ⟨T, w, g, n, t1, t2, hc, hn, hW, hG, hE, hS, hR, hV, hL, -, -, -⟩ := h1.use
  have hw := hW.1
  unfold WS at hw
  rw [r_isIn, bs1]
  by_cases c : 0 ≤ x ∧ x ≤ 199
  · obtain ⟨m', e1, f1⟩ := g_pkX hc hW (mn := x) (by first | decide | omega)
    obtain ⟨v', e2, f2⟩ := m_pk hR hW (mn := x) (by first | decide | omega)
    have hb := pkX_b hW x
    have hcb := (pk_dm hW hb).2.2
    have hc2 := cells_b hW
    have e3 : w 0 3 * w 0 0 = w 0 0 * w 0 3 := Int.mul_comm _ _
    simp only [if_pos c, if_neg i10, if_neg (show ¬ x < 0 by first | decide | omega), if_pos c.2]
    rw [e1, e2, bs1, bs1]
    simp only [t2, Int.toNat_natCast, hc.1.2.1]
    rw [gd3_t (by first | decide | omega), hV.2.2.2.2, e3]
    exact agr h1 _ rfl rfl (f1.mono PN_Q) (f2.mono PNm_q)
  · simp only [if_neg c, if_true]
    by_cases c1 : x < 0
    · rw [if_pos c1]; exact agr0 h1 _ rfl rfl
    · rw [if_neg c1, if_neg (by first | decide | omega)]; exact agr0 h1 _ rfl rfl
theorem a_odds (h : Rel m v) (x y z : Int) : Agr (G11_odds m x y z) (G12_odds v x y z) := by
  have h1 := h.v0
  unfold G11_odds G11_odds_0 G12_odds G12_odds_0
  rw [wt_e]
  generalize up v 0 2 0 = u at h1 ⊢
  obtain ⟨T, w, g, n, t1, t2, hc, hn, hW, hG, hE, hS, hR, hV, hL, -, -, -⟩ := h1.use
  have hw := hW.1
  unfold WS at hw
  rw [c_isS t2 hc.1, r_isS hR, bs1, bs1]
  by_cases c1 : 0 ≤ x ∧ x < w 1 0
  · simp only [if_pos c1, if_neg i10]
    rw [c_isV t2 hc.1, r_isV hR, bs1, bs1]
    by_cases c2 : 0 ≤ y ∧ y < w 8 1
    · simp only [if_pos c2, if_neg i10]
      rw [c_isC t2 hc.1 hW, r_isC hR hW, bs1, bs1]
      by_cases c3 : 0 ≤ z ∧ z < w 0 0 * w 0 1
      · simp only [if_pos c3, if_neg i10]
        have hg := hG.1 x c1.1 c1.2
        obtain ⟨m', e1, f1⟩ := g_odds hc hW (x := x) (v := y) (c := z) (by first | decide | omega) ⟨hg.1, hg.2.1⟩ c2 c3 (hG.2 y c2.1 c2.2)
        obtain ⟨v', e2, f2⟩ := m_odds hR hW c1 c2 c3
        rw [hV.2.2.2.2] at e2
        rw [e1, e2, bs1, bs1, (hE.1 x c1.1 c1.2).1, hE.2 y c2.1 c2.2]
        exact agr h1 _ rfl rfl (f1.mono PN_Q) (f2.mono PNm_q)
      · simp only [if_neg c3, if_true]; exact agr0 h1 _ rfl rfl
    · simp only [if_neg c2, if_true]; exact agr0 h1 _ rfl rfl
  · simp only [if_neg c1, if_true]; exact agr0 h1 _ rfl rfl
theorem c_fn (h : CX m 51 T w g) (t2 : m 0 3 = (T : Int)) (hn : NX m 69 n) (hW : WW w) (hS : SN w n) {s : Int} (hs : 0 ≤ s ∧ s < w 1 0) : ∃ m', G11_farNow m s = some (fr w (n 1 s) (pkX w (n 0 0)), m') ∧ Fr (PN 51) m m' := by
  have hw := hW.1
  unfold WS at hw
  have hb := (hS.1.2 s hs.1 hs.2).1
  obtain ⟨m1, e1, f1⟩ := g_pkX h hW (mn := n 0 0) (by have := hS.2.1; first | decide | omega)
  have hpb := pkX_b hW (n 0 0)
  unfold G11_farNow G11_farNow_0
  have e0 : m 69 0 = n 0 0 := hn.2.1 0
  have e2 : m (69 + 1) s = n 1 s := hn.2.2 1 s (by first | decide | omega)
  rw [gdx_t (by first | decide | omega), e0, e1, bs1, t2, Int.toNat_natCast, e2]
  simp only
  rw [g_far (h.pn f1).1 (by first | decide | omega) (by first | decide | omega) (by first | decide | omega) hb hpb, bs1]
  exact ⟨m1, rfl, f1⟩
theorem a_deeper (h : Rel m v) (x y : Int) : Agr (G11_deeper m x y) (G12_deeper v x y) := by
  have h1 := h.v0
  unfold G11_deeper G11_deeper_0 G12_deeper G12_deeper_0
  rw [wt_e]
  generalize up v 0 2 0 = u at h1 ⊢
  obtain ⟨T, w, g, n, t1, t2, hc, hn, hW, hG, hE, hS, hR, hV, hL, -, -, -⟩ := h1.use
  have hw := hW.1
  unfold WS at hw
  rw [c_isS t2 hc.1, r_isS hR, bs1, bs1]
  by_cases c1 : 0 ≤ x ∧ x < w 1 0
  · simp only [if_pos c1, if_neg i10]
    rw [c_isS t2 hc.1, r_isS hR, bs1, bs1]
    by_cases c2 : 0 ≤ y ∧ y < w 1 0
    · simp only [if_pos c2, if_neg i10]
      obtain ⟨m1, e1, f1⟩ := c_fn hc t2 hn hW hS c1
      have g1 := f1.mono PN_Q
      have hc1 := hc.pn f1
      have hn1 := hn.pl (Or.inl rfl) (f1.mono PN_PL)
      obtain ⟨m2, e2, f2⟩ := c_fn hc1 (by rw [f1 0 3 (by unfold PN; first | decide | omega)]; exact t2) hn1 hW hS c2
      rw [e1, bs1]
      simp only
      rw [e2, bs1]
      obtain ⟨u1, e3, f3⟩ := m_pk hR hW (mn := n 0 0) (by have := hS.2.1; first | decide | omega)
      rw [hV.2.2.2.2] at e3
      have hR1 := hR.pn f3
      have hpb := pkX_b hW (n 0 0)
      have hbx := (hS.1.2 x c1.1 c1.2).1
      have hby := (hS.1.2 y c2.1 c2.2).1
      have k1 : u1 25 x = n 1 x := by rw [f3 25 x (by unfold PNm; first | decide | omega)]; have := (hV.1.1 x c1.1 c1.2).1; rwa [show 5 * (0 : Int) + x = x by first | decide | omega] at this
      have k2 : u1 25 y = n 1 y := by rw [f3 25 y (by unfold PNm; first | decide | omega)]; have := (hV.1.1 y c2.1 c2.2).1; rwa [show 5 * (0 : Int) + y = y by first | decide | omega] at this
      have ep : pxM w (-1) (n 0 0) = pkX w (n 0 0) := rfl
      rw [hV.2.1, e3, bs1, gdx_t (by first | decide | omega)]
      simp only
      rw [k1, ep, m_far hR1 hW hbx hpb, bs1, gdx_t (by first | decide | omega)]
      simp only
      rw [k2, m_far hR1 hW hby hpb, bs1]
      simp only
      generalize fr w (n 1 x) (pkX w (n 0 0)) = A
      generalize fr w (n 1 y) (pkX w (n 0 0)) = B
      have F := g1.tr (f2.mono PN_Q)
      have G := f3.mono PNm_q
      by_cases z1 : A = B
      · rw [if_pos z1, if_pos (by first | decide | omega), if_pos (by first | decide | omega)]; exact agr h1 _ rfl rfl F G
      · rw [if_neg z1]
        by_cases z2 : B ≤ A
        · rw [if_pos z2, if_pos z2, if_neg (by first | decide | omega)]; exact agr h1 _ rfl rfl F G
        · rw [if_neg z2, if_neg z2]; exact agr h1 _ rfl rfl F G
    · simp only [if_neg c2, if_true]; exact agr0 h1 _ rfl rfl
  · simp only [if_neg c1, if_true]; exact agr0 h1 _ rfl rfl
theorem a_give (h : Rel m v) (x y z : Int) : Agr (G11_give m x y z) (G12_give v x y z) := by
  have h1 := h.v0
  unfold G11_give G11_give_0 G12_give G12_give_0
  rw [wt_e]
  generalize up v 0 2 0 = u at h1 ⊢
  obtain ⟨T, w, g, n, t1, t2, hc, hn, hW, hG, hE, hS, hR, hV, hL, -, -, -⟩ := h1.use
  have hw := hW.1
  unfold WS at hw
  rw [c_isS t2 hc.1, r_isS hR, bs1, bs1]
  by_cases c1 : 0 ≤ x ∧ x < w 1 0
  · simp only [if_pos c1, if_neg i10]
    rw [c_isS t2 hc.1, r_isS hR, bs1, bs1]
    by_cases c2 : 0 ≤ y ∧ y < w 1 0
    · simp only [if_pos c2, if_neg i10]
      by_cases c3 : x = y
      · rw [if_pos c3, if_pos c3]; exact agr0 h1 _ rfl rfl
      · rw [if_neg c3, if_neg c3, r_isIn, bs1]
        by_cases c4 : 0 ≤ z ∧ z ≤ 99
        · have hb := (hW.2.1 y c2.1 c2.2).2.2.2.2
          have hm : 0 ≤ w 7 y * z ∧ w 7 y * z ≤ 100 * 99 := ⟨Int.mul_nonneg (by first | decide | omega) (by first | decide | omega), Int.mul_le_mul (by first | decide | omega) (by first | decide | omega) (by first | decide | omega) (by first | decide | omega)⟩
          simp only [if_pos c4, if_neg i10, if_neg (show ¬ z < 0 by first | decide | omega), if_pos c4.2, t2, Int.toNat_natCast, hc.1.2.2 7 y (by first | decide | omega), (hR.2.2.1 y c2.1 c2.2).2.2.2.2.2]
          rw [gdx_t (by first | decide | omega), gdx_t (by first | decide | omega), gd3_t (by first | decide | omega), gd3_t (by first | decide | omega)]
          split
          · exact agr0 h1 _ rfl rfl
          · exact agr0 h1 _ rfl rfl
        · simp only [if_neg c4, if_true]
          by_cases c5 : z < 0
          · rw [if_pos c5]; exact agr0 h1 _ rfl rfl
          · rw [if_neg c5, if_neg (by first | decide | omega)]; exact agr0 h1 _ rfl rfl
    · simp only [if_neg c2, if_true]; exact agr0 h1 _ rfl rfl
  · simp only [if_neg c1, if_true]; exact agr0 h1 _ rfl rfl
end Q2
/-! More questions. -/
theorem gM3 {w : Mem} {way i : Int} : gM w way 3 i = pxM w way (w 11 i) := rfl
theorem gM1 {w : Mem} {way i : Int} : gM w way 1 i = bdM w way i := rfl
section Q3
variable {m v w g n : Mem} {T : Nat}
theorem PE_q : ∀ b i, PE b i → PMq b i := by intro b i h; unfold PE at h; unfold PMq; omega
theorem r_lw {x : Int} {a b : Nat} (hk : 0 ≤ x ∧ x < 6) {nm : Int → Int} (hR : RLw v w x a b) (h1 : ¬ w a 2 = 0) (hL : LX (w b) (w a 1)) (hn : ∀ q, 0 ≤ q → q < 6 → bM (nm q) ∧ v 23 q = nm q) : ∃ v', G12_law_134 v x = some (lv (w b) nm (w a 1), v') ∧ Fm PE v v' := by
  obtain ⟨r, v', e1, f1, q⟩ := m_law hk hR (by have := hR.2.1; first | decide | omega) hL hn
  unfold G12_law_134
  rw [e1, bs1]
  refine ⟨v', ?_, f1⟩
  simp only
  rcases q with ⟨q1, q2, q3⟩ | ⟨q1, q2⟩
  · rw [if_pos q1, q2]
  · rw [if_neg (by first | decide | omega), q2]
theorem lv_not {a b : Nat} {x : Int} {nm : Int → Int} (hR : RLw v w x a b) (h : w a 2 = 0) : lv (w b) nm (w a 1) = -9223372036854775808 := by
  rw [hR.2.2.1 h]; rfl
theorem a_law (h : Rel m v) (x y z : Int) : Agr (G11_law m x y z) (G12_law v x y z) := by
  have h1 := h.v0
  unfold G11_law G11_law_0 G12_law G12_law_0
  rw [wt_e]
  generalize up v 0 2 0 = u at h1 ⊢
  obtain ⟨T, w, g, n, t1, t2, hc, hn, hW, hG, hE, hS, hR, hV, hL, -, -, -⟩ := h1.use
  have hw := hW.1
  unfold WS at hw
  have hmn := hS.2.1
  rw [r_isIn, bs1]
  by_cases x2 : x = 2
  · rw [if_pos x2]
    simp only [if_pos (show 0 ≤ x ∧ x ≤ 2 by first | decide | omega), if_neg i10, if_pos (show 2 ≤ x by first | decide | omega)]
    unfold G12_law_39 G12_law_57
    rw [if_neg (by first | decide | omega), if_neg (by first | decide | omega), gdx_t (by first | decide | omega)]
    have hRd := hR.2.2.2.2.2.2.1
    have e69 : m 69 0 = n 0 0 := hn.2.1 0
    obtain ⟨m1, e1, f1⟩ := g_drift hc hW (mn := n 0 0) (by first | decide | omega)
    rw [e69, e1, bs1, hRd.1]
    simp only
    by_cases c : w 18 2 = 0
    · rw [if_pos c]
      have e0 : driftV w (n 0 0) = -9223372036854775808 := lv_not hRd c
      rw [e0]
      exact agr h1 _ rfl rfl (f1.mono PN_Q) Fm.rf
    · rw [if_neg c, if_neg (by first | decide | omega), if_neg (by first | decide | omega), hV.2.1]
      obtain ⟨u1, e2, f2, k0, k1, k2, k3, k4, k5⟩ := m_nm u 0 0 0 (-1) (n 0 0) (Or.inl rfl)
      rw [e2, bs1]
      have fN : Fm PNm u u1 := f2.mono (fun b i z => Or.inl z)
      obtain ⟨u2, e3, f3⟩ := r_lw (v := u1) (w := w) (x := 1) (by first | decide | omega) (nm := nmD (n 0 0)) (hR.pn fN).2.2.2.2.2.2.1 c hW.2.2.2.2.2.1 (fun q a b => ⟨bM_sm (by unfold nmD; split <;> omega), by
        have : q = 0 ∨ q = 1 ∨ q = 2 ∨ q = 3 ∨ q = 4 ∨ q = 5 := by omega
        unfold nmD
        rcases this with rfl | rfl | rfl | rfl | rfl | rfl
        · exact k0
        · exact k1
        · exact k2
        · exact k3
        · exact k4
        · exact k5⟩)
      rw [e3]
      exact agr h1 _ rfl rfl (f1.mono PN_Q) ((fN.mono PNm_q).tr (f3.mono PE_q))
  · rw [if_neg x2]
    rw [c_isS t2 hc.1, bs1]
    by_cases cx : 0 ≤ x ∧ x ≤ 2
    · simp only [if_pos cx, if_neg i10, if_neg (show ¬ 2 ≤ x by first | decide | omega)]
      rw [r_isS hR, bs1]
      by_cases c1 : 0 ≤ y ∧ y < w 1 0
      · simp only [if_pos c1, if_neg i10]
        rw [c_isV t2 hc.1, r_isV hR, bs1, bs1]
        by_cases c2 : 0 ≤ z ∧ z < w 8 1
        · simp only [if_pos c2, if_neg i10]
          have hg := hG.1 y c1.1 c1.2
          have e1y : m (69 + 1) y = n 1 y := hn.2.2 1 y (by first | decide | omega)
          have hcell := (hS.1.2 y c1.1 c1.2).1
          unfold G12_law_39 G12_law_57
          by_cases x0 : x = 0
          · rw [if_pos x0, if_pos x0, gdx_t (by first | decide | omega), gdx_t (by first | decide | omega), e1y]
            obtain ⟨m1, e1, f1⟩ := g_catchV hc hW (x := y) (v := z) (c := n 1 y) (by first | decide | omega) ⟨hg.1, hg.2.1⟩ c2 hcell (hG.2 z c2.1 c2.2)
            have hRc := hR.2.2.2.2.2.1
            rw [e1, bs1, hRc.1, (hE.1 y c1.1 c1.2).1, hE.2 z c2.1 c2.2]
            simp only
            by_cases c : w 16 2 = 0
            · rw [if_pos c]
              have e0 : catchV w (gM w (-1) 1 y) (gM w (-1) 3 z) z (n 1 y) = -9223372036854775808 := lv_not hRc c
              rw [e0]
              exact agr h1 _ rfl rfl (f1.mono PN_Q) Fm.rf
            · have k25 : u 25 y = n 1 y := by have := (hV.1.1 y c1.1 c1.2).1; rwa [show 5 * (0 : Int) + y = y by first | decide | omega] at this
              rw [if_neg c, if_pos x0, gdx_t (by first | decide | omega), k25]
              obtain ⟨u1, e2, f2, k1⟩ := m_lc hR hW c1 c2 hcell
              rw [hV.2.2.2.2] at e2 k1
              rw [e2, bs1]
              obtain ⟨u2, e3, f3⟩ := r_lw (v := u1) (w := w) (x := 0) (by first | decide | omega) (nm := nmC w (bdM w (-1) y) (pxM w (-1) (w 11 z)) z (n 1 y)) (hR.pn f2).2.2.2.2.2.1 c hW.2.2.2.2.1 (fun q a b => ⟨bM_sm (nmC_b hW (bdM_b hW c1) c2 hcell (pxM_b hW) q), k1 q a b⟩)
              simp only
              rw [e3]
              exact agr h1 _ rfl rfl (f1.mono PN_Q) ((f2.mono PNm_q).tr (f3.mono PE_q))
          · have x1 : x = 1 := by omega
            rw [if_neg x0, if_pos x1, if_neg x0, if_pos x1, gdx_t (by first | decide | omega)]
            obtain ⟨m1, e1, f1⟩ := g_awayV hc hW (x := y) (v := z) (by first | decide | omega) ⟨hg.1, hg.2.1⟩ c2
            have hRa := hR.2.2.2.2.2.2.2
            rw [e1, bs1, hRa.1, (hE.1 y c1.1 c1.2).1]
            simp only
            by_cases c : w 20 2 = 0
            · rw [if_pos c]
              have e0 : awayV w (gM w (-1) 1 y) z = -9223372036854775808 := lv_not hRa c
              rw [e0]
              exact agr h1 _ rfl rfl (f1.mono PN_Q) Fm.rf
            · obtain ⟨a1, a2, a3, a4, a5, a6, a7, a8, a9, a10⟩ := wnm hR hW c2
              rw [if_neg c, if_neg x0, if_pos x1, gdx_t (by first | decide | omega), gdx_t (by first | decide | omega), (hR.2.2.1 y c1.1 c1.2).2.2.1, a7]
              obtain ⟨u1, e2, f2, g3, g4, g5, g6, g7, g8⟩ := m_nm u 0 0 (w 4 y) z (w 11 z) (Or.inr ⟨a1, a2, a3, a4, a5, a6⟩)
              rw [e2, bs1]
              have fN : Fm PNm u u1 := f2.mono (fun b i z => Or.inl z)
              obtain ⟨u2, e3, f3⟩ := r_lw (v := u1) (w := w) (x := 2) (by first | decide | omega) (nm := nmA w (bdM w (-1) y) z) (hR.pn fN).2.2.2.2.2.2.2 c hW.2.2.2.2.2.2 (fun q a b => ⟨bM_sm (nmA_b hW (bdM_b hW c1) c2 q), by
                have : q = 0 ∨ q = 1 ∨ q = 2 ∨ q = 3 ∨ q = 4 ∨ q = 5 := by omega
                unfold nmA
                rcases this with rfl | rfl | rfl | rfl | rfl | rfl
                · exact g3
                · exact g4
                · exact g5
                · rw [g6, if_neg (by first | decide | omega), a8]; rfl
                · exact g7
                · rw [g8, if_neg (by first | decide | omega), a10]; rfl⟩)
              rw [e3]
              exact agr h1 _ rfl rfl (f1.mono PN_Q) ((fN.mono PNm_q).tr (f3.mono PE_q))
        · simp only [if_neg c2, if_true]; exact agr0 h1 _ rfl rfl
      · simp only [if_neg c1, if_true]; exact agr0 h1 _ rfl rfl
    · simp only [if_neg cx, if_true]
      by_cases c1 : 0 ≤ y ∧ y < w 1 0
      · simp only [if_pos c1, if_neg i10]
        rw [c_isV t2 hc.1, bs1]
        by_cases c2 : 0 ≤ z ∧ z < w 8 1
        · simp only [if_pos c2, if_neg i10]
          rw [if_neg (by first | decide | omega), if_neg (by first | decide | omega)]
          exact agr0 h1 _ rfl rfl
        · simp only [if_neg c2, if_true]; exact agr0 h1 _ rfl rfl
      · simp only [if_neg c1, if_true]; exact agr0 h1 _ rfl rfl
theorem stkO_eq {f f' : Int → Int} {o : Int} : ∀ {l : List Int}, stkO f o l → stkO f' o l → ∀ x, o ≤ x → x < o + l.length → f x = f' x := by
  intro l
  induction l with
  | nil => intro _ _ x a b; simp at b; omega
  | cons y r ih =>
    intro h1 h2 x a b
    by_cases c : x = o + r.length
    · rw [c, h1.1, h2.1]
    · exact ih h1.2 h2.2 x a (by simp at b; first | decide | omega)
theorem c_toC (hT : m 0 3 = (T : Int)) (h : TX m T w) (hn : NX m 69 n) (h28 : w 8 1 ≤ 28) (s : Int) : G11_isToCome m s = some ((if (0 ≤ s ∧ s < w 8 1) ∧ n 0 0 ≤ w 11 s then 1 else 0), m) := by
  unfold G11_isToCome G11_isToCome_0
  rw [c_isV hT h, bs1]
  by_cases c : 0 ≤ s ∧ s < w 8 1
  · simp only [if_pos c, if_neg i10]
    have e : m 69 0 = n 0 0 := hn.2.1 0
    rw [gdx_t (by first | decide | omega), hT, Int.toNat_natCast, h.2.2 11 s (by first | decide | omega), e]
    by_cases c2 : w 11 s < n 0 0
    · rw [if_pos c2, if_neg (by first | decide | omega)]
    · rw [if_neg c2, if_pos ⟨c, by first | decide | omega⟩]
  · simp only [if_neg c, if_true]
    rw [if_neg (fun q => c q.1)]
theorem r_toC (h : RT v w) (hS : SN w n) (hV : SV w n v) (h28 : w 8 1 ≤ 28) (s : Int) : G12_isToCome v s = some ((if (0 ≤ s ∧ s < w 8 1) ∧ n 0 0 ≤ w 11 s then 1 else 0), v) := by
  unfold G12_isToCome G12_isToCome_0
  rw [r_isV h, bs1]
  by_cases c : 0 ≤ s ∧ s < w 8 1
  · simp only [if_pos c, if_neg i10]
    have e6 : v 30 s = n 6 s := by have := hV.1.2.1 s c.1 c.2; rwa [show 28 * (0 : Int) + s = s by first | decide | omega] at this
    have hq := hS.2.2.2 s c.1 c.2
    rw [gdx_t (by first | decide | omega), e6]
    by_cases c2 : n 6 s = -2
    · rw [if_pos c2, if_pos ⟨c, hq.mp c2⟩]
    · rw [if_neg c2, if_neg (fun q => c2 (hq.mpr q.2))]
  · simp only [if_neg c, if_true]
    rw [if_neg (fun q => c q.1)]
theorem a_order (h : Rel m v) (x y : Int) : Agr (G11_order m x y) (G12_order v x y) := by
  have h1 := h.v0
  unfold G11_order G11_order_0 G12_order G12_order_0
  rw [wt_e]
  generalize up v 0 2 0 = u at h1 ⊢
  obtain ⟨T, w, g, n, t1, t2, hc, hn, hW, hG, hE, hS, hR, hV, hL, -, -, -⟩ := h1.use
  have hw := hW.1
  unfold WS at hw
  have hmn := hS.2.1
  rw [c_toC t2 hc.1 hn (by first | decide | omega), r_toC hR hS hV (by first | decide | omega), bs1, bs1]
  by_cases c : (0 ≤ x ∧ x < w 8 1) ∧ n 0 0 ≤ w 11 x
  · simp only [if_pos c, if_neg i10]
    by_cases c2 : 0 ≤ y
    · rw [if_pos c2, if_pos c2]
      have e69 : m 69 0 = n 0 0 := hn.2.1 0
      obtain ⟨m1, e1, f1, l1⟩ := g_line hc hW hG hn hS.1 (n 0 0) c.1
      obtain ⟨u1, e2, f2, s2, k2⟩ := m_ord hR hW (Or.inl rfl) hV.1 hS.1 hL hV.2.2.2.2 (fun q => by first | decide | omega) (by first | decide | omega) c.1
      have hlu := lu_ge (n := n) hE (v := x) (mn := n 0 0) c.1 (by first | decide | omega)
      have hlen := lu_len (w := w) (n := n) (g := gM w (-1)) (v := x) (mn := n 0 0) (by first | decide | omega)
      rw [hlu] at e1 l1
      rw [e69, e1, bs1, hV.2.2.1, e2, bs1, k2]
      simp only
      by_cases c3 : ((lu w (gM w (-1)) n x (n 0 0)).length : Int) ≤ y
      · rw [if_pos c3, if_neg (by first | decide | omega)]
        exact agr h1 _ rfl rfl (f1.mono PL_Q) (f2.mono PO_q)
      · rw [if_neg c3, if_pos (by first | decide | omega), gdx_t (by first | decide | omega), gdx_t (by first | decide | omega)]
        have := stkO_eq l1.1 s2 y c2 (by first | decide | omega)
        refine agr h1 (u1 34 y) ?_ rfl (f1.mono PL_Q) (f2.mono PO_q)
        rw [← this]
    · rw [if_neg c2, if_neg c2]; exact agr0 h1 _ rfl rfl
  · simp only [if_neg c, if_true]; exact agr0 h1 _ rfl rfl
theorem seat_ge {g' : Mem} (h : GE w g g') {x c i : Int} (hx : 0 ≤ x ∧ x < w 1 0) (hi : 0 ≤ i ∧ i ≤ w 8 1) : seatV w g x c i = seatV w g' x c i := by
  unfold seatV
  have : ∀ (d : Nat) (j : Int), 0 ≤ j → j + d ≤ w 8 1 → smd (fun v => worthV w (g 1 x) (g 3 v) v c) d j = smd (fun v => worthV w (g' 1 x) (g' 3 v) v c) d j := by
    intro d
    induction d with
    | zero => intros; rfl
    | succ d ih =>
      intro j a b
      rw [smd_s, smd_s, ih (j + 1) (by first | decide | omega) (by first | decide | omega), (h.1 x hx.1 hx.2).1, h.2 j (by first | decide | omega) (by first | decide | omega)]
  exact this _ i hi.1 (by first | decide | omega)
theorem r_gain (hR : RT v w) (hW : WW w) {s k c way : Int} (h66 : v 0 66 = way) (hs : 0 ≤ s ∧ s < w 1 0) (hk : 0 ≤ k ∧ k < w 8 1) (hc : 0 ≤ c ∧ c < w 0 0 * w 0 1) : ∃ v', G12_gainOf v s k c = some (worthV w (gM w way 1 s) (gM w way 3 k) k c, v') ∧ Fm PNm v v' := by
  have hw := hW.1
  unfold WS at hw
  obtain ⟨v1, e1, f1⟩ := m_odds hR hW hs hk hc
  rw [h66] at e1
  have hb := worth_b hW (bd := gM w way 1 s) (px := gM w way 3 k) hk hc (pxM_b (way := way) (mn := w 11 k) hW)
  unfold G12_gainOf G12_gainOf_0
  rw [e1, bs1, gdx_t (by first | decide | omega)]
  simp only
  rw [((hR.pn f1).2.2.2.2.1 k hk.1 hk.2).2.1]
  unfold worthV at hb ⊢
  have e : oddsV w (bdM w way s) (pxM w way (w 11 k)) k c = oddsV w (gM w way 1 s) (gM w way 3 k) k c := rfl
  rw [e, gd3_t (by first | decide | omega)]
  exact ⟨v1, rfl, f1⟩
theorem r_seat6 (hW : WW w) {s c x : Int} (hs : 0 ≤ s ∧ s < w 1 0) (hc : 0 ≤ c ∧ c < w 0 0 * w 0 1) : ∀ (d k : Nat) (i a : Int) (v : Mem), 0 ≤ i → w 8 1 - i = d → d < k → 0 ≤ a → a ≤ 900 * i → RT v w → v 0 66 = -1 → ∃ v', G12_seatFrom_6 k v s c x a i = some (a + (if i ≤ ff w x then seatV w (gM w (-1)) s c (ff w x) else seatV w (gM w (-1)) s c i), v') ∧ Fm PNm v v' := by
  have hw := hW.1
  unfold WS at hw
  obtain ⟨v1, v2, v3, v4⟩ := ff_spec (w := w) (by first | decide | omega) x
  intro d
  induction d with
  | zero =>
    intro k i a v a1 a2 a3 a4 a5 hR h66
    obtain ⟨k, rfl⟩ : ∃ j, k = j + 1 := ⟨k - 1, by first | decide | omega⟩
    rw [G12_seatFrom_6, hR.1.2.2.2.2.1, if_pos (by first | decide | omega)]
    refine ⟨v, ?_, Fm.rf⟩
    have z : ∀ j, j = w 8 1 → seatV w (gM w (-1)) s c j = 0 := fun j hj => by
      unfold seatV; rw [hj, show (w 8 1 - w 8 1).toNat = 0 by first | decide | omega]; rfl
    congr 2
    split
    · rw [z _ (by first | decide | omega)]; omega
    · rw [z _ (by first | decide | omega)]; omega
  | succ d ih =>
    intro k i a v a1 a2 a3 a4 a5 hR h66
    obtain ⟨k, rfl⟩ : ∃ j, k = j + 1 := ⟨k - 1, by first | decide | omega⟩
    rw [G12_seatFrom_6, hR.1.2.2.2.2.1, if_neg (by first | decide | omega), gdx_t (by first | decide | omega), (hR.2.2.2.2.1 i (by first | decide | omega) (by first | decide | omega)).1]
    by_cases c1 : w 11 i < x
    · have hi : i < ff w x := by
        rcases Int.lt_or_le i (ff w x) with z | z
        · exact z
        · have h4 := v4 (by first | decide | omega)
          by_cases z2 : i = ff w x
          · rw [← z2] at h4; omega
          · have := wv_lt hW v1 (show ff w x < i by first | decide | omega) (by first | decide | omega); omega
      rw [if_pos c1, gd3_t (by first | decide | omega), gd3_t (by first | decide | omega)]
      obtain ⟨v', e1, f1⟩ := ih k (i + 1) (a + 0) v (by first | decide | omega) (by first | decide | omega) (by first | decide | omega) (by first | decide | omega) (by first | decide | omega) hR h66
      refine ⟨v', ?_, f1⟩
      rw [e1, if_pos (by first | decide | omega), if_pos (by first | decide | omega), Int.add_zero]
    · have hi : ff w x ≤ i := by
        rcases Int.lt_or_le i (ff w x) with z | z
        · have := v3 i a1 z; omega
        · exact z
      obtain ⟨u1, e0, f0⟩ := r_gain hR hW h66 hs (k := i) (by first | decide | omega) hc
      have hb := worth_b hW (bd := gM w (-1) 1 s) (px := gM w (-1) 3 i) (v := i) (by first | decide | omega) hc (by rw [gM3]; exact pxM_b hW)
      rw [if_neg c1, e0, bs1]
      simp only
      rw [gd3_t (by first | decide | omega), gd3_t (by first | decide | omega)]
      obtain ⟨v', e1, f1⟩ := ih k (i + 1) (a + worthV w (gM w (-1) 1 s) (gM w (-1) 3 i) i c) u1 (by first | decide | omega) (by first | decide | omega) (by first | decide | omega) (by first | decide | omega) (by first | decide | omega) (hR.pn f0) (by rw [f0 0 66 (by unfold PNm; first | decide | omega)]; exact h66)
      refine ⟨v', ?_, f0.tr f1⟩
      have es : seatV w (gM w (-1)) s c i = worthV w (gM w (-1) 1 s) (gM w (-1) 3 i) i c + seatV w (gM w (-1)) s c (i + 1) := by
        unfold seatV
        rw [show (w 8 1 - i).toNat = (w 8 1 - (i + 1)).toNat + 1 by first | decide | omega, smd_s]
      rw [e1, if_neg (by first | decide | omega)]
      congr 2
      by_cases z : i = ff w x
      · rw [if_pos (by first | decide | omega), ← z, es]; omega
      · rw [if_neg (by first | decide | omega), es]; omega
theorem r_seat (hR : RT v w) (hW : WW w) (h66 : v 0 66 = -1) {s c x : Int} (hs : 0 ≤ s ∧ s < w 1 0) (hc : 0 ≤ c ∧ c < w 0 0 * w 0 1) : ∃ v', G12_seatFrom v s c x = some (seatV w (gM w (-1)) s c (ff w x), v') ∧ Fm PNm v v' := by
  have hw := hW.1
  unfold WS at hw
  have hv := (ff_spec (w := w) (by first | decide | omega) x).1
  obtain ⟨v', e1, f1⟩ := r_seat6 hW hs hc (x := x) (w 8 1).toNat 1024 0 0 v (by first | decide | omega) (by first | decide | omega) (by first | decide | omega) (by first | decide | omega) (by first | decide | omega) hR h66
  rw [if_pos hv, Int.zero_add] at e1
  exact ⟨v', e1, f1⟩
theorem c_ftc (hT : m 0 3 = (T : Int)) (h : TX m T w) (hn : NX m 69 n) (hW : WW w) : G11_firstToCome m = some (ff w (n 0 0), m) := by
  have hw := hW.1
  unfold WS at hw
  have e69 : m 69 0 = n 0 0 := hn.2.1 0
  unfold G11_firstToCome G11_firstToCome_0
  rw [hT, Int.toNat_natCast, e69, g_ff h (by first | decide | omega), bs1]
theorem c_seat (t2 : m 0 3 = (T : Int)) (hc : CX m 51 T w g) (hn : NX m 69 n) (hW : WW w) (hG : GB w g) (hE : GE w g (gM w (-1))) {x c : Int} (hx : 0 ≤ x ∧ x < w 1 0) (hcc : 0 ≤ c ∧ c < w 0 0 * w 0 1) : ∃ m', G6_seatFrom m 51 x c (ff w (n 0 0)) = some (seatV w (gM w (-1)) x c (ff w (n 0 0)), m') ∧ Fr (PN 51) m m' := by
  have hw := hW.1
  unfold WS at hw
  have hv := ff_spec (w := w) (by first | decide | omega) (n 0 0)
  have hg := hG.1 x hx.1 hx.2
  obtain ⟨m', e, f⟩ := g_seat hc hW (x := x) (c := c) (i := ff w (n 0 0)) (by first | decide | omega) ⟨hg.1, hg.2.1⟩ hcc hG.2 ⟨hv.1, hv.2.1⟩
  rw [seat_ge hE hx ⟨hv.1, hv.2.1⟩] at e
  exact ⟨m', e, f⟩
theorem a_seat (h : Rel m v) (x y : Int) : Agr (G11_seat m x y) (G12_seat v x y) := by
  have h1 := h.v0
  unfold G11_seat G11_seat_0 G12_seat G12_seat_0
  rw [wt_e]
  generalize up v 0 2 0 = u at h1 ⊢
  obtain ⟨T, w, g, n, t1, t2, hc, hn, hW, hG, hE, hS, hR, hV, hL, -, -, -⟩ := h1.use
  rw [c_isS t2 hc.1, r_isS hR, bs1, bs1]
  by_cases c1 : 0 ≤ x ∧ x < w 1 0
  · simp only [if_pos c1, if_neg i10]
    rw [c_isC t2 hc.1 hW, r_isC hR hW, bs1, bs1]
    by_cases c2 : 0 ≤ y ∧ y < w 0 0 * w 0 1
    · simp only [if_pos c2, if_neg i10]
      obtain ⟨m1, e1, f1⟩ := c_seat t2 hc hn hW hG hE c1 c2
      obtain ⟨u1, e2, f2⟩ := r_seat hR hW hV.2.2.2.2 (x := n 0 0) c1 c2
      rw [c_ftc t2 hc.1 hn hW, bs1]
      simp only
      rw [e1, bs1, hV.2.1, e2, bs1]
      exact agr h1 _ rfl rfl (f1.mono PN_Q) (f2.mono PNm_q)
    · simp only [if_neg c2, if_true]; exact agr0 h1 _ rfl rfl
  · simp only [if_neg c1, if_true]; exact agr0 h1 _ rfl rfl
theorem a_best_l {x : Int} (hW : WW w) (c1 : 0 ≤ x ∧ x < w 1 0) : ∀ (d k : Nat) (i b a : Int) (m v : Mem), Rel m v → (∃ T g, m 0 3 = ((T : Nat) : Int) ∧ CX m 51 T w g ∧ NX m 69 n ∧ GB w g ∧ GE w g (gM w (-1)) ∧ RT v w ∧ SV w n v) → 0 ≤ i → w 0 0 * w 0 1 - i = d → d < k → Agr (G11_best_17 k m x b a i) (G12_best_22 k v x b a i) := by
  have hb := cells_b hW
  have hw := hW.1
  unfold WS at hw
  intro d
  induction d with
  | zero =>
    intro k i b a m v h ⟨T, g, t2, hc, hn, hG, hE, hR, hV⟩ a1 a2 a3
    obtain ⟨k, rfl⟩ : ∃ j, k = j + 1 := ⟨k - 1, by first | decide | omega⟩
    rw [G11_best_17, G12_best_22, t2, Int.toNat_natCast, g_cells hc.1 (by first | decide | omega) (by first | decide | omega), r_cells hR hW, bs1, bs1]
    simp only
    rw [if_pos (by first | decide | omega), if_pos (by first | decide | omega)]
    exact agr0 h _ rfl rfl
  | succ d ih =>
    intro k i b a m v h ⟨T, g, t2, hc, hn, hG, hE, hR, hV⟩ a1 a2 a3
    obtain ⟨k, rfl⟩ : ∃ j, k = j + 1 := ⟨k - 1, by first | decide | omega⟩
    rw [G11_best_17, G12_best_22, t2, Int.toNat_natCast, g_cells hc.1 (by first | decide | omega) (by first | decide | omega), r_cells hR hW, bs1, bs1]
    simp only
    rw [if_neg (by first | decide | omega), if_neg (by first | decide | omega)]
    obtain ⟨m1, e1, f1⟩ := c_seat t2 hc hn hW hG hE c1 (c := i) (by first | decide | omega)
    obtain ⟨u1, e2, f2⟩ := r_seat hR hW hV.2.2.2.2 (x := n 0 0) c1 (c := i) (by first | decide | omega)
    rw [c_ftc t2 hc.1 hn hW, bs1]
    simp only
    rw [e1, bs1, hV.2.1, e2, bs1]
    simp only
    have h' : Rel m1 u1 := h.q (f1.mono PN_Q) (f2.mono PNm_q)
    have hx : ∃ T g, m1 0 3 = ((T : Nat) : Int) ∧ CX m1 51 T w g ∧ NX m1 69 n ∧ GB w g ∧ GE w g (gM w (-1)) ∧ RT u1 w ∧ SV w n u1 := ⟨T, g, by rw [f1 0 3 (by unfold PN; first | decide | omega)]; exact t2, hc.pn f1, hn.pl (Or.inl rfl) (f1.mono PN_PL), hG, hE, hR.pn f2, hV.q ⟨by first | decide | omega, by first | decide | omega⟩ (f2.mono PNm_q)⟩
    rw [gd3_t (by first | decide | omega), gd3_t (by first | decide | omega), gd3_t (by first | decide | omega), gd3_t (by first | decide | omega)]
    by_cases z : seatV w (gM w (-1)) x i (ff w (n 0 0)) ≤ a
    · rw [if_pos z, if_neg (by first | decide | omega)]
      exact ih k (i + 1) b a m1 u1 h' hx (by first | decide | omega) (by first | decide | omega) (by first | decide | omega)
    · rw [if_neg z, if_pos (by first | decide | omega)]
      exact ih k (i + 1) i _ m1 u1 h' hx (by first | decide | omega) (by first | decide | omega) (by first | decide | omega)
theorem a_best (h : Rel m v) (x : Int) : Agr (G11_best m x) (G12_best v x) := by
  have h1 := h.v0
  unfold G11_best G11_best_0 G12_best G12_best_0
  rw [wt_e]
  generalize up v 0 2 0 = u at h1 ⊢
  obtain ⟨T, w, g, n, t1, t2, hc, hn, hW, hG, hE, hS, hR, hV, hL, -, -, -⟩ := h1.use
  have hb := cells_b hW
  rw [c_isS t2 hc.1, r_isS hR, bs1, bs1]
  by_cases c1 : 0 ≤ x ∧ x < w 1 0
  · simp only [if_pos c1, if_neg i10]
    exact a_best_l hW c1 (w 0 0 * w 0 1).toNat 1024 0 0 (-1) m u h1 ⟨T, g, t2, hc, hn, hG, hE, hR, hV⟩ (by first | decide | omega) (by first | decide | omega) (by first | decide | omega)
  · simp only [if_neg c1, if_true]; exact agr0 h1 _ rfl rfl
end Q3
/-! Questions about sets, shares, counts. -/
theorem agr_if {c : Prop} [Decidable c] {A A' B B' : Option (Int × Mem)} (h1 : Agr A B) (h2 : Agr A' B') : Agr (if c then A else A') (if c then B else B') := by
  by_cases h : c
  · rw [if_pos h, if_pos h]; exact h1
  · rw [if_neg h, if_neg h]; exact h2
section Q4
variable {m v w g n : Mem} {T : Nat}
theorem wt_lt (hW : WW w) {t : Int} (h0 : 0 ≤ t) (h1 : t < w 8 0) : 0 ≤ w 9 t ∧ w 9 t < 28 ∧ w 9 t < w 8 1 := by
  have hw := hW.1
  unfold WS at hw
  have := hW.2.2.1.2.2 t h0 h1
  omega
theorem r_next7 (hR : RT v w) (hW : WW w) {x : Int} (hx : 0 ≤ x ∧ x ≤ 199) (h31 : v 31 0 = x) : ∀ (d k : Nat) (i : Int), 0 ≤ i → w 8 0 - i = d → d < k → G12_next_7 k v i = some ((if sfd (fun t => w 11 (w 9 t)) x d i = -1 then -2 else w 11 (w 9 (sfd (fun t => w 11 (w 9 t)) x d i)) - x), v) := by
  have hw := hW.1
  unfold WS at hw
  intro d
  induction d with
  | zero =>
    intro k i a1 a2 a3
    obtain ⟨k, rfl⟩ : ∃ j, k = j + 1 := ⟨k - 1, by first | decide | omega⟩
    rw [G12_next_7, hR.1.2.2.2.1, if_pos (by first | decide | omega)]
    rfl
  | succ d ih =>
    intro k i a1 a2 a3
    obtain ⟨k, rfl⟩ : ∃ j, k = j + 1 := ⟨k - 1, by first | decide | omega⟩
    have h9 := wt_lt hW a1 (show i < w 8 0 by first | decide | omega)
    have hb := (hW.2.2.2.1 (w 9 i) h9.1 h9.2.2).2.1
    have es : sfd (fun t => w 11 (w 9 t)) x (d + 1) i = if w 11 (w 9 i) < x then sfd (fun t => w 11 (w 9 t)) x d (i + 1) else i := rfl
    rw [G12_next_7, hR.1.2.2.2.1, if_neg (by first | decide | omega), hR.2.2.2.1 i a1 (by first | decide | omega), (hR.2.2.2.2.1 (w 9 i) h9.1 h9.2.2).1, h31, gdx_t (by first | decide | omega), gdx_t (by first | decide | omega), gdx_t (by first | decide | omega), gdx_t (by first | decide | omega), gd3_t (by first | decide | omega), gd3_t (by first | decide | omega), ih k (i + 1) (by first | decide | omega) (by first | decide | omega) (by first | decide | omega), es]
    by_cases c : w 11 (w 9 i) < x
    · rw [if_pos c, if_pos c]
    · rw [if_neg c, if_neg c, if_neg (by first | decide | omega)]
theorem sfd_b {f : Int → Int} {x : Int} : ∀ (d : Nat) (i : Int), 0 ≤ i → sfd f x d i = -1 ∨ (i ≤ sfd f x d i ∧ sfd f x d i < i + d) := by
  intro d
  induction d with
  | zero => intro i _; left; rfl
  | succ d ih =>
    intro i hi
    have es : sfd f x (d + 1) i = if f i < x then sfd f x d (i + 1) else i := rfl
    rw [es]
    split
    · rcases ih (i + 1) (by first | decide | omega) with z | z
      · left; exact z
      · right; omega
    · right; omega
theorem sf_b (h : 0 ≤ w 8 0) (x : Int) : sf w x = -1 ∨ (0 ≤ sf w x ∧ sf w x < w 8 0) := by
  rcases sfd_b (f := fun t => w 11 (w 9 t)) (x := x) (w 8 0).toNat 0 (by first | decide | omega) with z | z
  · left; exact z
  · right; unfold sf; omega
theorem a_next (h : Rel m v) : Agr (G11_next m) (G12_next v) := by
  have h1 := h.v0
  unfold G11_next G11_next_0 G12_next G12_next_0
  rw [wt_e]
  generalize up v 0 2 0 = u at h1 ⊢
  obtain ⟨T, w, g, n, t1, t2, hc, hn, hW, hG, hE, hS, hR, hV, hL, -, -, -⟩ := h1.use
  have hw := hW.1
  unfold WS at hw
  have hmn := hS.2.1
  have e69 : m 69 0 = n 0 0 := hn.2.1 0
  have hsf := g_sf hc.1 (by first | decide | omega) (fun t a b => ⟨(wt_lt hW a b).1, (wt_lt hW a b).2.1⟩) (n 0 0)
  rw [r_next7 hR hW hmn hV.2.1 (w 8 0).toNat 1024 0 (by first | decide | omega) (by first | decide | omega) (by first | decide | omega), t2, Int.toNat_natCast, e69, hsf, bs1]
  have es : sfd (fun t => w 11 (w 9 t)) (n 0 0) (w 8 0).toNat 0 = sf w (n 0 0) := rfl
  rw [es]
  simp only
  rcases sf_b (w := w) (by first | decide | omega) (n 0 0) with z | z
  · rw [if_pos z, if_pos z]; exact agr0 h1 _ rfl rfl
  · have h9 := wt_lt hW z.1 z.2
    have hb := (hW.2.2.2.1 _ h9.1 h9.2.2).2.1
    rw [if_neg (by first | decide | omega), if_neg (by first | decide | omega), t2, Int.toNat_natCast, g_fm hc.1 (by first | decide | omega) ⟨h9.1, h9.2.1⟩, bs1]
    simp only
    rw [e69, gd3_t (by first | decide | omega)]
    exact agr0 h1 _ rfl rfl
/-- sets lie one behind another -/
theorem wt_mono (hW : WW w) : ∀ (d : Nat) (s : Int), 0 ≤ s → s + d + 1 < w 8 0 → w 9 s + w 10 s ≤ w 9 (s + d + 1) := by
  intro d
  induction d with
  | zero =>
    intro s a b
    have := (hW.2.2.1.2.2 s a (by first | decide | omega)).2.2.2.2.1 (by first | decide | omega)
    rw [show s + ((0 : Nat) : Int) + 1 = s + 1 by first | decide | omega]; omega
  | succ d ih =>
    intro s a b
    have h1 := ih s a (by first | decide | omega)
    have h2 := hW.2.2.1.2.2 (s + d + 1) (by first | decide | omega) (by first | decide | omega)
    have h3 := h2.2.2.2.2.1 (by first | decide | omega)
    rw [show s + ((d + 1 : Nat) : Int) + 1 = s + d + 1 + 1 by first | decide | omega]
    omega
theorem wt_one (hW : WW w) {s t i : Int} (hs : 0 ≤ s ∧ s < w 8 0) (ht : 0 ≤ t ∧ t < w 8 0) (h1 : w 9 s ≤ i ∧ i < w 9 s + w 10 s) (h2 : w 9 t ≤ i ∧ i < w 9 t + w 10 t) : s = t := by
  rcases Int.lt_trichotomy s t with z | z | z
  · have := wt_mono hW (t - s - 1).toNat s hs.1 (by first | decide | omega)
    rw [show s + ((t - s - 1).toNat : Int) + 1 = t by first | decide | omega] at this
    omega
  · exact z
  · have := wt_mono hW (s - t - 1).toNat t ht.1 (by first | decide | omega)
    rw [show t + ((s - t - 1).toNat : Int) + 1 = s by first | decide | omega] at this
    omega
/-- the wave just before a set -/
theorem wt_prev (hW : WW w) {t : Int} (h0 : 1 ≤ t) (h1 : t < w 8 0) : w 9 t = w 9 (t - 1) + w 10 (t - 1) ∧ 0 ≤ w 9 t - 1 ∧ w 9 t - 1 < w 8 1 ∧ w 11 (w 9 t - 1) = w 11 (w 9 (t - 1)) + w 10 (t - 1) - 1 := by
  have hp := hW.2.2.1.2.2 (t - 1) (by first | decide | omega) (by first | decide | omega)
  have ht := hW.2.2.1.2.2 t (by first | decide | omega) h1
  have e := hp.2.2.2.2.1 (by first | decide | omega)
  rw [show t - 1 + 1 = t by first | decide | omega] at e
  have hv := hW.2.2.2.1 (w 9 t - 1) (by first | decide | omega) (by first | decide | omega)
  have es : w 13 (w 9 t - 1) = t - 1 := wt_one hW ⟨hv.1.1, hv.1.2.1⟩ (by first | decide | omega) ⟨hv.1.2.2.1, hv.1.2.2.2.1⟩ (by first | decide | omega)
  have := hv.1.2.2.2.2.2
  rw [es] at this
  exact ⟨e, by first | decide | omega, by first | decide | omega, by first | decide | omega⟩
def gpd (w : Mem) (x : Int) : Nat → Int → Int → Int
  | 0, _, a => a
  | d + 1, i, a => gpd w x d (i + 1) (if x < w 11 (w 9 i) - (w 11 (w 9 (i - 1)) + w 10 (i - 1) - 1) then a else a + 1)
theorem c_gap (t2 : m 0 3 = (T : Int)) (h : TX m T w) (hW : WW w) {x y : Int} (hx : 0 ≤ x ∧ x ≤ 99) (hy : y = 0 ∨ y = 1) : ∀ (d k : Nat) (i a : Int), 1 ≤ i → (w 8 0 - i = d ∨ (w 8 0 < i ∧ d = 0)) → d < k → 0 ≤ a → a ≤ i → G11_gaps_26 k m x y a i = some ((if y = 1 then a + d else gpd w x d i a), m) := by
  have hw := hW.1
  unfold WS at hw
  intro d
  induction d with
  | zero =>
    intro k i a a1 a2 a3 a4 a5
    obtain ⟨k, rfl⟩ : ∃ j, k = j + 1 := ⟨k - 1, by first | decide | omega⟩
    rw [G11_gaps_26, t2, Int.toNat_natCast, h.2.2 8 0 (by first | decide | omega), if_pos (by first | decide | omega)]
    congr 2
    rcases hy with rfl | rfl
    · rfl
    · rw [if_pos rfl]; omega
  | succ d ih =>
    intro k i a a1 a2 a3 a4 a5
    obtain ⟨k, rfl⟩ : ∃ j, k = j + 1 := ⟨k - 1, by first | decide | omega⟩
    have h9 := wt_lt hW (show 0 ≤ i by first | decide | omega) (show i < w 8 0 by first | decide | omega)
    have h9' := wt_lt hW (show 0 ≤ i - 1 by first | decide | omega) (show i - 1 < w 8 0 by first | decide | omega)
    have hb := (hW.2.2.2.1 _ h9.1 h9.2.2).2.1
    have hb' := (hW.2.2.2.1 _ h9'.1 h9'.2.2).2.1
    have hp := hW.2.2.1.2.2 (i - 1) (by first | decide | omega) (by first | decide | omega)
    rw [G11_gaps_26, t2, Int.toNat_natCast, h.2.2 8 0 (by first | decide | omega), if_neg (by first | decide | omega), g_fm h (by first | decide | omega) ⟨h9.1, h9.2.1⟩, bs1, gd3_t (by first | decide | omega)]
    simp only
    rw [t2, Int.toNat_natCast, g_lm h (by first | decide | omega) ⟨h9'.1, h9'.2.1⟩ (by first | decide | omega) (by first | decide | omega), bs1]
    simp only
    rw [gd3_t (show -2147483648 ≤ w 11 (w 9 i) - (w 11 (w 9 (i - 1)) + w 10 (i - 1) - 1) ∧ w 11 (w 9 i) - (w 11 (w 9 (i - 1)) + w 10 (i - 1) - 1) ≤ 2147483647 by first | decide | omega)]
    have g1 : ∀ y : Option (Int × Mem), gd3 (a + 1) y = y := fun y => gd3_t (by first | decide | omega)
    have g2 : ∀ y : Option (Int × Mem), gd3 (i + 1) y = y := fun y => gd3_t (by first | decide | omega)
    simp only [g1, g2]
    have i1 := ih k (i + 1) (a + 1) (by first | decide | omega) (by first | decide | omega) (by first | decide | omega) (by first | decide | omega) (by first | decide | omega)
    have i0 := ih k (i + 1) a (by first | decide | omega) (by first | decide | omega) (by first | decide | omega) (by first | decide | omega) (by first | decide | omega)
    have es : gpd w x (d + 1) i a = gpd w x d (i + 1) (if x < w 11 (w 9 i) - (w 11 (w 9 (i - 1)) + w 10 (i - 1) - 1) then a else a + 1) := rfl
    rcases hy with rfl | rfl
    · simp only [if_neg (show ¬ (0 : Int) = 1 by decide)] at i0 i1 ⊢
      rw [es]
      by_cases z : x < w 11 (w 9 i) - (w 11 (w 9 (i - 1)) + w 10 (i - 1) - 1)
      · rw [if_pos z, if_pos z, i0]
      · rw [if_neg z, if_neg z, i1]
    · simp only [if_true] at i1 ⊢
      rw [i1]
      congr 2; omega
theorem r_gap (h : RT v w) (hW : WW w) {x y : Int} (hx : 0 ≤ x ∧ x ≤ 99) (hy : y = 0 ∨ y = 1) : ∀ (d k : Nat) (i a : Int), 1 ≤ i → (w 8 0 - i = d ∨ (w 8 0 < i ∧ d = 0)) → d < k → 0 ≤ a → a ≤ i → G12_gaps_31 k v x y a i = some ((if y = 1 then (if 2 ≤ w 8 0 then w 8 0 - 1 else 0) else gpd w x d i a), v) := by
  have hw := hW.1
  unfold WS at hw
  intro d
  induction d with
  | zero =>
    intro k i a a1 a2 a3 a4 a5
    obtain ⟨k, rfl⟩ : ∃ j, k = j + 1 := ⟨k - 1, by first | decide | omega⟩
    rw [G12_gaps_31, h.1.2.2.2.1, if_pos (by first | decide | omega), gd3_t (by first | decide | omega)]
    rcases hy with rfl | rfl
    · rfl
    · rw [if_neg (by decide), if_pos rfl]
      split <;> rfl
  | succ d ih =>
    intro k i a a1 a2 a3 a4 a5
    obtain ⟨k, rfl⟩ : ∃ j, k = j + 1 := ⟨k - 1, by first | decide | omega⟩
    have h9 := wt_lt hW (show 0 ≤ i by first | decide | omega) (show i < w 8 0 by first | decide | omega)
    have hb := (hW.2.2.2.1 _ h9.1 h9.2.2).2.1
    obtain ⟨p1, p2, p3, p4⟩ := wt_prev hW a1 (show i < w 8 0 by first | decide | omega)
    have hb' := (hW.2.2.2.1 _ p2 p3).2.1
    rw [G12_gaps_31, h.1.2.2.2.1, if_neg (by first | decide | omega), h.2.2.2.1 i (by first | decide | omega) (by first | decide | omega), (h.2.2.2.2.1 _ h9.1 h9.2.2).1, (h.2.2.2.2.1 _ p2 p3).1, gdx_t (by first | decide | omega), gdx_t (by first | decide | omega), gdx_t (by first | decide | omega), gdx_t (by first | decide | omega), p4, gd3_t (by first | decide | omega), gd3_t (by first | decide | omega), gd3_t (by first | decide | omega), gd3_t (by first | decide | omega), gd3_t (by first | decide | omega)]
    have i1 := ih k (i + 1) (a + 1) (by first | decide | omega) (by first | decide | omega) (by first | decide | omega) (by first | decide | omega) (by first | decide | omega)
    have i0 := ih k (i + 1) (a + 0) (by first | decide | omega) (by first | decide | omega) (by first | decide | omega) (by first | decide | omega) (by first | decide | omega)
    have es : gpd w x (d + 1) i a = gpd w x d (i + 1) (if x < w 11 (w 9 i) - (w 11 (w 9 (i - 1)) + w 10 (i - 1) - 1) then a else a + 1) := rfl
    rw [i0, i1, es]
    rw [Int.add_zero]
    rcases hy with rfl | rfl
    · simp only [if_neg (show ¬ (0 : Int) = 1 by decide)]
      split <;> rfl
    · simp only [if_true]
      split <;> rfl
theorem a_gaps (h : Rel m v) (x y : Int) : Agr (G11_gaps m x y) (G12_gaps v x y) := by
  have h1 := h.v0
  unfold G11_gaps G11_gaps_0 G12_gaps G12_gaps_0
  rw [wt_e]
  generalize up v 0 2 0 = u at h1 ⊢
  obtain ⟨T, w, g, n, t1, t2, hc, hn, hW, hG, hE, hS, hR, hV, hL, -, -, -⟩ := h1.use
  have hw := hW.1
  unfold WS at hw
  rw [r_isIn, bs1]
  by_cases c1 : 0 ≤ x ∧ x ≤ 99
  · simp only [if_pos c1, if_neg i10, if_neg (show ¬ x < 0 by first | decide | omega), if_neg (show ¬ 99 < x by first | decide | omega)]
    rw [r_isIn, bs1]
    by_cases c2 : 0 ≤ y ∧ y ≤ 1
    · simp only [if_pos c2, if_neg i10, if_neg (show ¬ y < 0 by first | decide | omega), if_pos c2.2]
      rw [c_gap t2 hc.1 hW c1 (by first | decide | omega) (w 8 0 - 1).toNat 1024 1 0 (by first | decide | omega) (by first | decide | omega) (by first | decide | omega) (by first | decide | omega) (by first | decide | omega), r_gap hR hW c1 (by first | decide | omega) (w 8 0 - 1).toNat 1024 1 0 (by first | decide | omega) (by first | decide | omega) (by first | decide | omega) (by first | decide | omega) (by first | decide | omega)]
      refine agr0 h1 _ rfl ?_
      congr 2
      by_cases z : y = 1
      · rw [if_pos z, if_pos z]; split <;> omega
      · rw [if_neg z, if_neg z]
    · simp only [if_neg c2, if_true]
      by_cases z : y < 0
      · rw [if_pos z]; exact agr0 h1 _ rfl rfl
      · rw [if_neg z, if_neg (by first | decide | omega)]; exact agr0 h1 _ rfl rfl
  · simp only [if_neg c1, if_true]
    by_cases z : x < 0
    · rw [if_pos z]; exact agr0 h1 _ rfl rfl
    · rw [if_neg z, if_pos (by first | decide | omega)]; exact agr0 h1 _ rfl rfl
-- the most and the fewest
def uld (f : Int → Int) : Nat → Int → Int → Int → Int
  | 0, _, a, b => a - b
  | d + 1, i, a, b => uld f d (i + 1) (if a < f i then f i else a) (if f i < b then f i else b)
def ulk (f : Int → Int) (s : Int) : Int := if 1 ≤ s then uld f (s - 1).toNat 1 (f 0) (f 0) else 0
theorem c_uld {a : Nat} (h5 : w 1 0 ≤ 5) (hf : ∀ i, 0 ≤ i → i < w 1 0 → 0 ≤ m (a + 2) i ∧ m (a + 2) i ≤ 1000) : ∀ (d k : Nat) (i p q : Int), 1 ≤ i → w 1 0 - i = d → d < k → (0 ≤ p ∧ p ≤ 1000) → (0 ≤ q ∧ q ≤ 1000) → G4_unlike_24 k m a (w 1 0) p q i = some (uld (m (a + 2)) d i p q, m) := by
  intro d
  induction d with
  | zero =>
    intro k i p q a1 a2 a3 a4 a5
    obtain ⟨k, rfl⟩ : ∃ j, k = j + 1 := ⟨k - 1, by first | decide | omega⟩
    rw [G4_unlike_24, if_pos (by first | decide | omega), gd3_t (by first | decide | omega)]
    rfl
  | succ d ih =>
    intro k i p q a1 a2 a3 a4 a5
    obtain ⟨k, rfl⟩ : ∃ j, k = j + 1 := ⟨k - 1, by first | decide | omega⟩
    have hb := hf i (by first | decide | omega) (by first | decide | omega)
    rw [G4_unlike_24, if_neg (by first | decide | omega), gdx_t (by first | decide | omega), gdx_t (by first | decide | omega), gd3_t (by first | decide | omega), ih k (i + 1) _ _ (by first | decide | omega) (by first | decide | omega) (by first | decide | omega) (by split <;> omega) (by split <;> omega)]
    rfl
theorem c_unl {a : Nat} (h5 : 0 ≤ w 1 0 ∧ w 1 0 ≤ 5) (hf : ∀ i, 0 ≤ i → i < w 1 0 → 0 ≤ m (a + 2) i ∧ m (a + 2) i ≤ 1000) : G4_unlike m a (w 1 0) = some (ulk (m (a + 2)) (w 1 0), m) := by
  unfold G4_unlike G4_unlike_0 ulk
  by_cases c : 1 ≤ w 1 0
  · have h0 := hf 0 (by first | decide | omega) (by first | decide | omega)
    rw [if_pos c, if_pos c, c_uld h5.2 hf (w 1 0 - 1).toNat 1024 1 _ _ (by first | decide | omega) (by first | decide | omega) (by first | decide | omega) h0 h0]
  · rw [if_neg c, if_neg c]
theorem r_uld {b : Int} {f : Int → Int} (hb : b = 0 ∨ b = 1) (h14 : v 0 14 = w 1 0) (h5 : 0 < w 1 0 ∧ w 1 0 ≤ 5) (hf : ∀ i, 0 ≤ i → i < w 1 0 → v 26 (5 * b + i) = f i ∧ 0 ≤ f i ∧ f i ≤ 1000) : ∀ (d k : Nat) (i p q : Int), 0 ≤ i → w 1 0 - i = d → d < k → (0 ≤ p ∧ p ≤ 1000) → (0 ≤ q ∧ q ≤ 1000) → G12_unlike_8 k v b p q i = some (uld f d i p q, v) := by
  intro d
  induction d with
  | zero =>
    intro k i p q a1 a2 a3 a4 a5
    obtain ⟨k, rfl⟩ : ∃ j, k = j + 1 := ⟨k - 1, by first | decide | omega⟩
    rw [G12_unlike_8, h14, if_pos (by first | decide | omega), if_neg (by first | decide | omega), gd3_t (by first | decide | omega)]
    rfl
  | succ d ih =>
    intro k i p q a1 a2 a3 a4 a5
    obtain ⟨k, rfl⟩ : ∃ j, k = j + 1 := ⟨k - 1, by first | decide | omega⟩
    obtain ⟨e, hb0⟩ := hf i (by first | decide | omega) (by first | decide | omega)
    have es : uld f (d + 1) i p q = uld f d (i + 1) (if p < f i then f i else p) (if f i < q then f i else q) := rfl
    rw [G12_unlike_8, h14, if_neg (by first | decide | omega)]
    unfold G12_unlike_47
    simp only [e, gdx_t (show 0 ≤ 5 * b + i ∧ 5 * b + i < 10 by first | decide | omega)]
    have g2 : ∀ y : Option (Int × Mem), gd3 (i + 1) y = y := fun y => gd3_t (by first | decide | omega)
    simp only [g2]
    rw [es]
    by_cases c1 : f i ≤ p
    · rw [if_pos c1, if_neg (show ¬ p < f i by first | decide | omega)]
      by_cases c2 : q ≤ f i
      · rw [if_pos c2, if_neg (show ¬ f i < q by first | decide | omega)]
        exact ih k (i + 1) p q (by first | decide | omega) (by first | decide | omega) (by first | decide | omega) a4 a5
      · rw [if_neg c2, if_pos (show f i < q by first | decide | omega)]
        exact ih k (i + 1) p (f i) (by first | decide | omega) (by first | decide | omega) (by first | decide | omega) a4 hb0
    · rw [if_neg c1, if_pos (show p < f i by first | decide | omega)]
      by_cases c2 : q ≤ f i
      · rw [if_pos c2, if_neg (show ¬ f i < q by first | decide | omega)]
        exact ih k (i + 1) (f i) q (by first | decide | omega) (by first | decide | omega) (by first | decide | omega) hb0 a5
      · rw [if_neg c2, if_pos (show f i < q by first | decide | omega)]
        exact ih k (i + 1) (f i) (f i) (by first | decide | omega) (by first | decide | omega) (by first | decide | omega) hb0 hb0
theorem r_unl {b : Int} {f : Int → Int} (hb : b = 0 ∨ b = 1) (h14 : v 0 14 = w 1 0) (h5 : 0 ≤ w 1 0 ∧ w 1 0 ≤ 5) (hf : ∀ i, 0 ≤ i → i < w 1 0 → v 26 (5 * b + i) = f i ∧ 0 ≤ f i ∧ f i < 99) : G12_unlike v b = some (ulk f (w 1 0), v) := by
  unfold G12_unlike G12_unlike_0 ulk
  by_cases c : 1 ≤ w 1 0
  · have h0 := (hf 0 (by first | decide | omega) (by first | decide | omega)).2
    rw [if_pos c, r_uld hb h14 (by first | decide | omega) (fun i p q => ⟨(hf i p q).1, (hf i p q).2.1, by have := (hf i p q).2.2; first | decide | omega⟩) (w 1 0).toNat 1024 0 0 99 (by first | decide | omega) (by first | decide | omega) (by first | decide | omega) (by first | decide | omega) (by first | decide | omega)]
    congr 2
    rw [show (w 1 0).toNat = (w 1 0 - 1).toNat + 1 by first | decide | omega]
    show uld f _ (0 + 1) (if 0 < f 0 then f 0 else 0) (if f 0 < 99 then f 0 else 99) = _
    rw [if_pos (show f 0 < 99 by first | decide | omega)]
    have e : (if 0 < f 0 then f 0 else 0) = f 0 := by split <;> omega
    rw [e, Int.zero_add]
  · rw [if_neg c]
    rw [show (1024 : Nat) = 1023 + 1 by decide, G12_unlike_8, h14, if_pos (by first | decide | omega), if_pos (by first | decide | omega)]
theorem c_sum {a : Nat} (h5 : w 1 0 ≤ 5) (hf : ∀ i, 0 ≤ i → i < w 1 0 → 0 ≤ m (a + 2) i ∧ m (a + 2) i ≤ 1000) : ∀ (d k : Nat) (i s : Int), 0 ≤ i → w 1 0 - i = d → d < k → 0 ≤ s → s ≤ 1000 * i → G4_hadInSum_4 k m a (w 1 0) s i = some (s + smd (m (a + 2)) d i, m) := by
  intro d
  induction d with
  | zero =>
    intro k i s a1 a2 a3 a4 a5
    obtain ⟨k, rfl⟩ : ∃ j, k = j + 1 := ⟨k - 1, by first | decide | omega⟩
    rw [G4_hadInSum_4, if_pos (by first | decide | omega)]
    congr 2
    show s = s + 0
    omega
  | succ d ih =>
    intro k i s a1 a2 a3 a4 a5
    obtain ⟨k, rfl⟩ : ∃ j, k = j + 1 := ⟨k - 1, by first | decide | omega⟩
    have hb := hf i (by first | decide | omega) (by first | decide | omega)
    rw [G4_hadInSum_4, if_neg (by first | decide | omega), gdx_t (by first | decide | omega), gd3_t (by first | decide | omega), gd3_t (by first | decide | omega), ih k (i + 1) _ (by first | decide | omega) (by first | decide | omega) (by first | decide | omega) (by first | decide | omega) (by first | decide | omega), smd_s, Int.add_assoc]
theorem c_his {a : Nat} (h5 : 0 ≤ w 1 0 ∧ w 1 0 ≤ 5) (hf : ∀ i, 0 ≤ i → i < w 1 0 → 0 ≤ m (a + 2) i ∧ m (a + 2) i ≤ 1000) : G4_hadInSum m a (w 1 0) = some (smd (m (a + 2)) (w 1 0).toNat 0, m) := by
  unfold G4_hadInSum G4_hadInSum_0
  rw [c_sum h5.2 hf (w 1 0).toNat 1024 0 0 (by first | decide | omega) (by first | decide | omega) (by first | decide | omega) (by first | decide | omega) (by first | decide | omega), Int.zero_add]
theorem r_sum {b : Int} {f : Int → Int} (hb : b = 0 ∨ b = 1) (h14 : v 0 14 = w 1 0) (h5 : w 1 0 ≤ 5) (hf : ∀ i, 0 ≤ i → i < w 1 0 → v 26 (5 * b + i) = f i ∧ 0 ≤ f i ∧ f i ≤ 1000) : ∀ (d k : Nat) (i s : Int), 0 ≤ i → w 1 0 - i = d → d < k → 0 ≤ s → s ≤ 1000 * i → G12_allHad_4 k v b s i = some (s + smd f d i, v) := by
  intro d
  induction d with
  | zero =>
    intro k i s a1 a2 a3 a4 a5
    obtain ⟨k, rfl⟩ : ∃ j, k = j + 1 := ⟨k - 1, by first | decide | omega⟩
    rw [G12_allHad_4, h14, if_pos (by first | decide | omega)]
    congr 2
    show s = s + 0
    omega
  | succ d ih =>
    intro k i s a1 a2 a3 a4 a5
    obtain ⟨k, rfl⟩ : ∃ j, k = j + 1 := ⟨k - 1, by first | decide | omega⟩
    obtain ⟨e, hb0⟩ := hf i (by first | decide | omega) (by first | decide | omega)
    rw [G12_allHad_4, h14, if_neg (by first | decide | omega), gdx_t (by first | decide | omega), e, gd3_t (by first | decide | omega), gd3_t (by first | decide | omega), ih k (i + 1) _ (by first | decide | omega) (by first | decide | omega) (by first | decide | omega) (by first | decide | omega) (by first | decide | omega), smd_s, Int.add_assoc]
theorem r_all {b : Int} {f : Int → Int} (hb : b = 0 ∨ b = 1) (h14 : v 0 14 = w 1 0) (h5 : 0 ≤ w 1 0 ∧ w 1 0 ≤ 5) (hf : ∀ i, 0 ≤ i → i < w 1 0 → v 26 (5 * b + i) = f i ∧ 0 ≤ f i ∧ f i ≤ 1000) : G12_allHad v b = some (smd f (w 1 0).toNat 0, v) := by
  unfold G12_allHad G12_allHad_0
  rw [r_sum hb h14 h5.2 hf (w 1 0).toNat 1024 0 0 (by first | decide | omega) (by first | decide | omega) (by first | decide | omega) (by first | decide | omega) (by first | decide | omega), Int.zero_add]
theorem a_shares (h : Rel m v) (x : Int) : Agr (G11_shares m x) (G12_shares v x) := by
  have h1 := h.v0
  unfold G11_shares G11_shares_0 G12_shares G12_shares_0
  rw [wt_e]
  generalize up v 0 2 0 = u at h1 ⊢
  obtain ⟨T, w, g, n, t1, t2, hc, hn, hW, hG, hE, hS, hR, hV, hL, -, -, -⟩ := h1.use
  have hw := hW.1
  unfold WS at hw
  have hff := ff_spec (w := w) (by first | decide | omega) (n 0 0)
  have e10 : m (T + 1) 0 = w 1 0 := hc.1.2.2 1 0 (by first | decide | omega)
  have er : m (69 + 2) = n 2 := funext fun i => hn.2.2 2 i (by first | decide | omega)
  have hf : ∀ i, 0 ≤ i → i < w 1 0 → 0 ≤ m (69 + 2) i ∧ m (69 + 2) i ≤ 1000 := fun i p q => by rw [er]; have := (hS.1.2 i p q).2.1; omega
  rw [t2, Int.toNat_natCast, e10, hR.1.2.2.1, c_unl (by first | decide | omega) hf, c_his (by first | decide | omega) hf, bs1, bs1, er, r_isIn, bs1]
  by_cases c0 : w 1 0 = 0
  · rw [if_pos c0]
    by_cases z1 : x < 0
    · rw [if_pos z1]; exact agr0 h1 _ rfl rfl
    · rw [if_neg z1]
      by_cases z2 : 1 < x
      · rw [if_pos z2]; exact agr0 h1 _ rfl rfl
      · rw [if_neg z2, if_neg (by first | decide | omega)]; exact agr0 h1 _ rfl rfl
  · rw [if_neg c0]
    by_cases c1 : 0 ≤ x ∧ x ≤ 1
    · simp only [if_pos c1, if_neg i10, if_neg (show ¬ x < 0 by first | decide | omega), if_neg (show ¬ 1 < x by first | decide | omega), if_pos (show 1 ≤ w 1 0 by first | decide | omega)]
      have hf2 : ∀ i, 0 ≤ i → i < w 1 0 → u 26 (5 * 0 + i) = n 2 i ∧ 0 ≤ n 2 i ∧ n 2 i < 99 := fun i p q => ⟨(hV.1.1 i p q).2.1, by have := (hS.1.2 i p q).2.1; first | decide | omega⟩
      rw [r_unl (Or.inl rfl) hR.1.2.2.1 (by first | decide | omega) hf2, r_all (Or.inl rfl) hR.1.2.2.1 (by first | decide | omega) (fun i p q => ⟨(hf2 i p q).1, (hf2 i p q).2.1, by have := (hf2 i p q).2.2; first | decide | omega⟩), bs1, bs1]
      split
      · exact agr0 h1 _ rfl rfl
      · exact agr0 h1 _ rfl rfl
    · simp only [if_neg c1, if_true]
      by_cases z1 : x < 0
      · rw [if_pos z1]; exact agr0 h1 _ rfl rfl
      · rw [if_neg z1, if_pos (by first | decide | omega)]; exact agr0 h1 _ rfl rfl
theorem r_ftc2 (hR : RT v w) (hS : SN w n) (hV : SV w n v) (hW : WW w) : ∀ (d k : Nat) (i : Int), 0 ≤ i → i ≤ ff w (n 0 0) → ff w (n 0 0) - i = d → d < k → G12_firstToCome_2 k v i = some (ff w (n 0 0), v) := by
  have hw := hW.1
  unfold WS at hw
  obtain ⟨f1, f2, f3, f4⟩ := ff_spec (w := w) (by first | decide | omega) (n 0 0)
  intro d
  induction d with
  | zero =>
    intro k i a1 a2 a3 a4
    obtain ⟨k, rfl⟩ : ∃ j, k = j + 1 := ⟨k - 1, by first | decide | omega⟩
    have ei : i = ff w (n 0 0) := by omega
    rw [G12_firstToCome_2, hR.1.2.2.2.2.1]
    by_cases c : w 8 1 ≤ i
    · rw [if_pos c, ei]
    · have e6 : v 30 i = n 6 i := by have := hV.1.2.1 i a1 (by first | decide | omega); rwa [show 28 * (0 : Int) + i = i by first | decide | omega] at this
      have h4 := f4 (by first | decide | omega)
      rw [← ei] at h4
      rw [if_neg c, gdx_t (by first | decide | omega), e6, if_pos ((hS.2.2.2 i a1 (by first | decide | omega)).mpr h4), ei]
  | succ d ih =>
    intro k i a1 a2 a3 a4
    obtain ⟨k, rfl⟩ : ∃ j, k = j + 1 := ⟨k - 1, by first | decide | omega⟩
    have e6 : v 30 i = n 6 i := by have := hV.1.2.1 i a1 (by first | decide | omega); rwa [show 28 * (0 : Int) + i = i by first | decide | omega] at this
    have h3 := f3 i a1 (by first | decide | omega)
    rw [G12_firstToCome_2, hR.1.2.2.2.2.1, if_neg (by first | decide | omega), gdx_t (by first | decide | omega), e6, if_neg (fun q => by have := (hS.2.2.2 i a1 (by first | decide | omega)).mp q; first | decide | omega), gd3_t (by first | decide | omega), ih k (i + 1) (by first | decide | omega) (by first | decide | omega) (by first | decide | omega) (by first | decide | omega)]
theorem r_ftc (hR : RT v w) (hS : SN w n) (hV : SV w n v) (hW : WW w) : G12_firstToCome v = some (ff w (n 0 0), v) := by
  have hw := hW.1
  unfold WS at hw
  have hf := ff_spec (w := w) (by first | decide | omega) (n 0 0)
  exact r_ftc2 hR hS hV hW (ff w (n 0 0)).toNat 1024 0 (by first | decide | omega) hf.1 (by first | decide | omega) (by first | decide | omega)
theorem a_count (h : Rel m v) (x : Int) : Agr (G11_count m x) (G12_count v x) := by
  have h1 := h.v0
  unfold G11_count G11_count_0 G12_count G12_count_0
  rw [wt_e]
  generalize up v 0 2 0 = u at h1 ⊢
  obtain ⟨T', _, _, hNo, hUn, _, _⟩ := id h1
  obtain ⟨T, w, g, n, t1, t2, hc, hn, hW, hG, hE, hS, hR, hV, hL, -, -, -⟩ := h1.use
  have hw := hW.1
  unfold WS at hw
  have hff := ff_spec (w := w) (by first | decide | omega) (n 0 0)
  have k1 : m T 0 = w 0 0 := hc.1.2.1 0
  have k2 : m T 1 = w 0 1 := hc.1.2.1 1
  have k3 : m (T + 1) 0 = w 1 0 := hc.1.2.2 1 0 (by first | decide | omega)
  have k4 : m (T + 8) 0 = w 8 0 := hc.1.2.2 8 0 (by first | decide | omega)
  have k5 : m (T + 8) 1 = w 8 1 := hc.1.2.2 8 1 (by first | decide | omega)
  have k6 : m T 13 = w 0 13 := hc.1.2.1 13
  have n0 : m 69 0 = n 0 0 := hn.2.1 0
  have n1 : m 69 1 = n 0 1 := hn.2.1 1
  have n3 : m 69 3 = n 0 3 := hn.2.1 3
  have n4 : m 69 4 = n 0 4 := hn.2.1 4
  obtain ⟨r1, r2, r3, r4, r5, r6⟩ := hR.1
  have c12 : (G3_howManyKnown m).bind (fun o74 => some (o74.1, o74.2)) = some ((if 0 ≤ u 0 75 then u 0 75 else u 0 74), m) := by
    unfold G3_howManyKnown G3_howManyKnown_0
    have h3 := hNo.2.2.1
    have h4 := hNo.2.2.2.1
    rw [← h3, ← hNo.1]
    by_cases z : m 90 1 = -1
    · rw [if_pos z, if_neg (by first | decide | omega), bs1]
    · rw [if_neg z, if_pos (by first | decide | omega), bs1]
  have d12 : (G12_knownBy u).bind (fun o48 => some (o48.1, o48.2)) = some ((if 0 ≤ u 0 75 then u 0 75 else u 0 74), u) := by
    unfold G12_knownBy G12_knownBy_0
    split <;> rfl
  simp only [t2, Int.toNat_natCast, k1, k2, k3, k4, k5, k6, n0, n1, n3, n4, r1, r2, r3, r4, r5, r6, hV.2.1, hV.2.2.1, hV.1.2.2.1, hV.1.2.2.2.1, c_ftc t2 hc.1 hn hW, r_ftc hR hS hV hW, bs1, c12, d12, hNo.1, hUn.1, gd3_t (show -2147483648 ≤ w 8 1 - ff w (n 0 0) ∧ w 8 1 - ff w (n 0 0) ≤ 2147483647 by first | decide | omega)]
  repeat' first | exact agr0 h1 _ rfl rfl | refine agr_if ?_ ?_
end Q4
/-! rank and over. -/
def mxd (f : Int → Int) : Nat → Int → Int → Int
  | 0, _, a => a
  | d + 1, i, a => mxd f d (i + 1) (if f i ≤ a then a else f i)
theorem mxd_s (f : Int → Int) (d : Nat) (i a : Int) : mxd f (d + 1) i a = mxd f d (i + 1) (if f i ≤ a then a else f i) := rfl
theorem mxd_spec {f : Int → Int} : ∀ (d : Nat) (i a : Int), a ≤ mxd f d i a ∧ (∀ j, i ≤ j → j < i + d → f j ≤ mxd f d i a) ∧ (mxd f d i a = a ∨ ∃ j, i ≤ j ∧ j < i + d ∧ mxd f d i a = f j) := by
  intro d
  induction d with
  | zero => intro i a; exact ⟨Int.le_refl a, fun j x y => by first | decide | omega, Or.inl rfl⟩
  | succ d ih =>
    intro i a
    rw [mxd_s]
    obtain ⟨h1, h2, h3⟩ := ih (i + 1) (if f i ≤ a then a else f i)
    have hb : a ≤ (if f i ≤ a then a else f i) ∧ f i ≤ (if f i ≤ a then a else f i) := by split <;> omega
    refine ⟨by first | decide | omega, fun j x y => ?_, ?_⟩
    · by_cases z : j = i
      · rw [z]; omega
      · exact h2 j (by first | decide | omega) (by first | decide | omega)
    · rcases h3 with h3 | ⟨j, x, y, z⟩
      · by_cases c : f i ≤ a
        · rw [if_pos c] at h3 ⊢; exact Or.inl h3
        · rw [if_neg c] at h3 ⊢; exact Or.inr ⟨i, by first | decide | omega, by first | decide | omega, h3⟩
      · exact Or.inr ⟨j, by first | decide | omega, by first | decide | omega, z⟩
theorem lgd_spec {f : Int → Int} {a q : Int} : ∀ (d : Nat) (i : Int), (lgd f a q d i = 1 ∧ ∀ j, i ≤ j → j < i + d → f (a + j) ≤ f q) ∨ (lgd f a q d i = 0 ∧ ∃ j, i ≤ j ∧ j < i + d ∧ f q < f (a + j)) := by
  intro d
  induction d with
  | zero => intro i; exact Or.inl ⟨rfl, fun j x y => by first | decide | omega⟩
  | succ d ih =>
    intro i
    have es : lgd f a q (d + 1) i = if f (a + i) ≤ f q then lgd f a q d (i + 1) else 0 := rfl
    rw [es]
    by_cases c : f (a + i) ≤ f q
    · rw [if_pos c]
      rcases ih (i + 1) with ⟨h1, h2⟩ | ⟨h1, j, x, y, z⟩
      · refine Or.inl ⟨h1, fun j x y => ?_⟩
        by_cases e : j = i
        · rw [e]; exact c
        · exact h2 j (by first | decide | omega) (by first | decide | omega)
      · exact Or.inr ⟨h1, j, by first | decide | omega, by first | decide | omega, z⟩
    · rw [if_neg c]
      exact Or.inr ⟨rfl, i, by first | decide | omega, by first | decide | omega, by first | decide | omega⟩
theorem lg_mx {f : Int → Int} {a q : Int} {d : Nat} (hq : a ≤ q ∧ q < a + d) (h1 : 0 < f q) : f q = mxd f d a 0 ↔ lgd f a q d 0 ≠ 0 := by
  obtain ⟨m1, m2, m3⟩ := mxd_spec (f := f) d a 0
  rcases lgd_spec (f := f) (a := a) (q := q) d 0 with ⟨l1, l2⟩ | ⟨l1, j, x, y, z⟩
  · refine ⟨fun _ => by first | decide | omega, fun _ => ?_⟩
    have h2 := m2 q hq.1 hq.2
    rcases m3 with e | ⟨j, x, y, e⟩
    · omega
    · have := l2 (j - a) (by first | decide | omega) (by first | decide | omega)
      rw [show a + (j - a) = j by first | decide | omega] at this
      omega
  · refine ⟨fun e => ?_, fun e => absurd l1 e⟩
    have := m2 (a + j) (by first | decide | omega) (by first | decide | omega)
    omega
section Q5
variable {m v w g n : Mem} {T : Nat}
theorem r_sEnd (h : RT v w) (hW : WW w) {t : Int} (ht : 0 ≤ t ∧ t < w 8 0) : G12_setEnd v t = some (w 9 t + w 10 t, v) := by
  have hw := hW.1
  unfold WS at hw
  have hp := hW.2.2.1.2.2 t ht.1 ht.2
  unfold G12_setEnd G12_setEnd_0
  rw [gd3_t (by first | decide | omega), h.1.2.2.2.1]
  by_cases c : w 8 0 ≤ t + 1
  · rw [if_pos c, h.1.2.2.2.2.1, hp.2.2.2.2.2 (by first | decide | omega)]
  · rw [if_neg c, gdx_t (by first | decide | omega), h.2.2.2.1 (t + 1) (by first | decide | omega) (by first | decide | omega), hp.2.2.2.2.1 (by first | decide | omega)]
theorem r_rk79 (h : RT v w) (hW : WW w) {k x2 x3 x4 t : Int} (ht : 0 ≤ t ∧ t < w 8 0) (hk : 1 ≤ k ∧ k ≤ w 10 t) (h4 : 0 ≤ x4 ∧ x4 ≤ 10) {kk : Mem → Int → Int → Int → Int → Int → Option (Int × Mem)} : ∀ (d c : Nat) (i a : Int), w 9 t ≤ i → w 9 t + w 10 t - i = d → d < c → (0 ≤ a ∧ a ≤ 9) → G12_rank__79 kk c v k x2 x3 x4 t a i = kk v k x2 x3 (if w 12 (w 9 t + k - 1) = mxd (w 12) d i a then x4 + 1 else x4) (t + 1) := by
  have hw := hW.1
  unfold WS at hw
  have hp := hW.2.2.1.2.2 t ht.1 ht.2
  intro d
  induction d with
  | zero =>
    intro c i a a1 a2 a3 a4
    obtain ⟨c, rfl⟩ : ∃ j, c = j + 1 := ⟨c - 1, by first | decide | omega⟩
    have ea := (h.2.2.2.2.1 (w 9 t + k - 1) (by first | decide | omega) (by first | decide | omega)).2.1
    rw [G12_rank__79, r_sEnd h hW ht, bs1]
    simp only
    rw [if_pos (by first | decide | omega), gdx_t (by first | decide | omega), h.2.2.2.1 t ht.1 ht.2, gdx_t (by first | decide | omega), ea, gd3_t (by first | decide | omega), gd3_t (by first | decide | omega), gd3_t (by first | decide | omega), gd3_t (by first | decide | omega)]
    show (if w 12 (w 9 t + k - 1) = a then _ else _) = kk v k x2 x3 (if w 12 (w 9 t + k - 1) = a then x4 + 1 else x4) (t + 1)
    by_cases z : w 12 (w 9 t + k - 1) = a
    · rw [if_pos z, if_pos z]
    · rw [if_neg z, if_neg z, Int.add_zero]
  | succ d ih =>
    intro c i a a1 a2 a3 a4
    obtain ⟨c, rfl⟩ : ∃ j, c = j + 1 := ⟨c - 1, by first | decide | omega⟩
    have ea := (h.2.2.2.2.1 i (by first | decide | omega) (by first | decide | omega)).2.1
    have hb := (hW.2.2.2.1 i (by first | decide | omega) (by first | decide | omega)).2.1
    rw [G12_rank__79, r_sEnd h hW ht, bs1]
    simp only
    rw [if_neg (by first | decide | omega), gdx_t (by first | decide | omega), gdx_t (by first | decide | omega), ea, gd3_t (by first | decide | omega), gd3_t (by first | decide | omega), mxd_s]
    by_cases z : w 12 i ≤ a
    · rw [if_pos z, if_pos z]
      exact ih c (i + 1) a (by first | decide | omega) (by first | decide | omega) (by first | decide | omega) a4
    · rw [if_neg z, if_neg z]
      exact ih c (i + 1) (w 12 i) (by first | decide | omega) (by first | decide | omega) (by first | decide | omega) (by first | decide | omega)
def rko (w : Mem) (k : Int) : Nat → Int → Int → Int
  | 0, _, a => a
  | d + 1, i, a => rko w k d (i + 1) (if w 10 i < k then a else a + 1)
def rki (w : Mem) (k : Int) : Nat → Int → Int → Int
  | 0, _, a => a
  | d + 1, i, a => rki w k d (i + 1) (if w 10 i < k then a else if lgd (w 12) (w 9 i) (w 9 i + k - 1) (w 10 i).toNat 0 = 0 then a else a + 1)
theorem rko_s (w : Mem) (k : Int) (d : Nat) (i a : Int) : rko w k (d + 1) i a = rko w k d (i + 1) (if w 10 i < k then a else a + 1) := rfl
theorem rki_s (w : Mem) (k : Int) (d : Nat) (i a : Int) : rki w k (d + 1) i a = rki w k d (i + 1) (if w 10 i < k then a else if lgd (w 12) (w 9 i) (w 9 i + k - 1) (w 10 i).toNat 0 = 0 then a else a + 1) := rfl
theorem r_rk (h : RT v w) (hW : WW w) {k y : Int} (hk : 1 ≤ k ∧ k ≤ 7) (hy : y = 0 ∨ y = 1) : ∀ (d c : Nat) (i a b : Int), 0 ≤ i → w 8 0 - i = d → d < c → (0 ≤ a ∧ a ≤ i) → (0 ≤ b ∧ b ≤ i) → G12_rank__34 c v k y a b i = some ((if y = 0 then rki w k d i b else rko w k d i a), v) := by
  have hw := hW.1
  unfold WS at hw
  intro d
  induction d with
  | zero =>
    intro c i a b a1 a2 a3 a4 a5
    obtain ⟨c, rfl⟩ : ∃ j, c = j + 1 := ⟨c - 1, by first | decide | omega⟩
    rw [G12_rank__34, h.1.2.2.2.1, if_pos (by first | decide | omega)]
    rcases hy with rfl | rfl <;> rfl
  | succ d ih =>
    intro c i a b a1 a2 a3 a4 a5
    obtain ⟨c, rfl⟩ : ∃ j, c = j + 1 := ⟨c - 1, by first | decide | omega⟩
    have hp := hW.2.2.1.2.2 i a1 (by first | decide | omega)
    rw [G12_rank__34, h.1.2.2.2.1, if_neg (by first | decide | omega), r_sEnd h hW ⟨a1, by first | decide | omega⟩, bs1, gdx_t (by first | decide | omega), gdx_t (by first | decide | omega)]
    simp only
    rw [h.2.2.2.1 i a1 (by first | decide | omega), gd3_t (by first | decide | omega), gd3_t (by first | decide | omega), gd3_t (by first | decide | omega), rko_s, rki_s]
    by_cases z : w 10 i < k
    · rw [if_neg (by first | decide | omega), if_pos z, if_pos z]
      exact ih c (i + 1) a b (by first | decide | omega) (by first | decide | omega) (by first | decide | omega) (by first | decide | omega) (by first | decide | omega)
    · rw [if_pos (by first | decide | omega), if_neg z, if_neg z, r_rk79 h hW ⟨a1, by first | decide | omega⟩ (by first | decide | omega) (by first | decide | omega) (w 10 i).toNat 1024 (w 9 i) 0 (by first | decide | omega) (by first | decide | omega) (by first | decide | omega) (by first | decide | omega)]
      have hq := (hW.2.2.2.1 (w 9 i + k - 1) (by first | decide | omega) (by first | decide | omega)).2.1
      have hl := lg_mx (f := w 12) (a := w 9 i) (q := w 9 i + k - 1) (d := (w 10 i).toNat) (by first | decide | omega) (by first | decide | omega)
      by_cases z2 : lgd (w 12) (w 9 i) (w 9 i + k - 1) (w 10 i).toNat 0 = 0
      · rw [if_neg (fun q => hl.mp q z2), if_pos z2]
        exact ih c (i + 1) (a + 1) b (by first | decide | omega) (by first | decide | omega) (by first | decide | omega) (by first | decide | omega) (by first | decide | omega)
      · rw [if_pos (hl.mpr z2), if_neg z2]
        exact ih c (i + 1) (a + 1) (b + 1) (by first | decide | omega) (by first | decide | omega) (by first | decide | omega) (by first | decide | omega) (by first | decide | omega)
theorem c_rk (t2 : m 0 3 = (T : Int)) (h : TX m T w) (hW : WW w) {k y : Int} (hk : 1 ≤ k ∧ k ≤ 7) (hy : y = 0 ∨ y = 1) : ∀ (d c : Nat) (i a : Int), 0 ≤ i → w 8 0 - i = d → d < c → (0 ≤ a ∧ a ≤ i) → G11_rank_27 c m k y a i = some ((if y = 0 then rki w k d i a else rko w k d i a), m) := by
  have hw := hW.1
  unfold WS at hw
  intro d
  induction d with
  | zero =>
    intro c i a a1 a2 a3 a4
    obtain ⟨c, rfl⟩ : ∃ j, c = j + 1 := ⟨c - 1, by first | decide | omega⟩
    rw [G11_rank_27, t2, Int.toNat_natCast, h.2.2 8 0 (by first | decide | omega), if_pos (by first | decide | omega)]
    rcases hy with rfl | rfl <;> rfl
  | succ d ih =>
    intro c i a a1 a2 a3 a4
    obtain ⟨c, rfl⟩ : ∃ j, c = j + 1 := ⟨c - 1, by first | decide | omega⟩
    have hp := hW.2.2.1.2.2 i a1 (by first | decide | omega)
    rw [G11_rank_27, t2, Int.toNat_natCast, h.2.2 8 0 (by first | decide | omega), if_neg (by first | decide | omega), g_len h (by first | decide | omega), bs1]
    simp only
    rw [rko_s, rki_s]
    have g1 : ∀ y : Option (Int × Mem), gd3 (a + 1) y = y := fun y => gd3_t (by first | decide | omega)
    have g2 : ∀ y : Option (Int × Mem), gd3 (i + 1) y = y := fun y => gd3_t (by first | decide | omega)
    simp only [g1, g2]
    by_cases z : w 10 i < k
    · simp only [if_pos z]
      exact ih c (i + 1) a (by first | decide | omega) (by first | decide | omega) (by first | decide | omega) (by first | decide | omega)
    · simp only [if_neg z]
      have i1 := ih c (i + 1) (a + 1) (by first | decide | omega) (by first | decide | omega) (by first | decide | omega) (by first | decide | omega)
      have i0 := ih c (i + 1) a (by first | decide | omega) (by first | decide | omega) (by first | decide | omega) (by first | decide | omega)
      rcases hy with rfl | rfl
      · simp only [if_true] at i0 i1 ⊢
        rw [if_neg (by decide), t2, Int.toNat_natCast, g_lg h (by first | decide | omega) (by first | decide | omega) (by first | decide | omega) (by first | decide | omega), bs1]
        simp only
        by_cases z2 : lgd (w 12) (w 9 i) (w 9 i + k - 1) (w 10 i).toNat 0 = 0
        · rw [if_pos z2, if_pos z2]; exact i0
        · rw [if_neg z2, if_neg z2]; exact i1
      · simp only [if_neg i10] at i1 ⊢
        rw [if_pos True.intro]
        exact i1
theorem a_rank (h : Rel m v) (x y : Int) : Agr (G11_rank m x y) (G12_rank_ v x y) := by
  have h1 := h.v0
  unfold G11_rank G11_rank_0 G12_rank_ G12_rank__0
  rw [wt_e]
  generalize up v 0 2 0 = u at h1 ⊢
  obtain ⟨T, w, g, n, t1, t2, hc, hn, hW, hG, hE, hS, hR, hV, hL, -, -, -⟩ := h1.use
  have hw := hW.1
  unfold WS at hw
  rw [r_isIn, bs1]
  by_cases c1 : 1 ≤ x ∧ x ≤ 7
  · simp only [if_pos c1, if_neg i10, if_neg (show ¬ x < 1 by first | decide | omega), if_neg (show ¬ 7 < x by first | decide | omega)]
    rw [r_isIn, bs1]
    by_cases c2 : 0 ≤ y ∧ y ≤ 1
    · simp only [if_pos c2, if_neg i10, if_neg (show ¬ y < 0 by first | decide | omega), if_pos c2.2]
      rw [c_rk t2 hc.1 hW c1 (by first | decide | omega) (w 8 0).toNat 1024 0 0 (by first | decide | omega) (by first | decide | omega) (by first | decide | omega) (by first | decide | omega), r_rk hR hW c1 (by first | decide | omega) (w 8 0).toNat 1024 0 0 0 (by first | decide | omega) (by first | decide | omega) (by first | decide | omega) (by first | decide | omega) (by first | decide | omega)]
      exact agr0 h1 _ rfl rfl
    · simp only [if_neg c2, if_true]
      by_cases z : y < 0
      · rw [if_pos z]; exact agr0 h1 _ rfl rfl
      · rw [if_neg z, if_neg (by first | decide | omega)]; exact agr0 h1 _ rfl rfl
  · simp only [if_neg c1, if_true]
    by_cases z : x < 1
    · rw [if_pos z]; exact agr0 h1 _ rfl rfl
    · rw [if_neg z, if_pos (by first | decide | omega)]; exact agr0 h1 _ rfl rfl
theorem over_l {x L : Int} (hW : WW w) (hS : SN w n) (hx : 0 ≤ x ∧ x < w 1 0) (hL : L = w 11 (w 8 1 - 1)) (hcnt : 0 < w 8 1) (h7 : 1 ≤ w 0 7) : ∀ (d k : Nat) (i : Int) (m v : Mem), Rel m v → (∃ T g, m 0 3 = ((T : Nat) : Int) ∧ CX m 51 T w g ∧ NX m 69 n ∧ GB w g ∧ GE w g (gM w (-1)) ∧ RT v w ∧ SV w n v) → 0 ≤ i → i ≤ 300 → (L + 1 - i = d ∨ (L + 1 < i ∧ d = 0)) → d < k → Agr (G11_over_93 k m x L (ff w i) (seatV w (gM w (-1)) x (n 1 x) (ff w i)) i) (G12_over_50 k v x L i) := by
  have hw := hW.1
  unfold WS at hw
  have hlb := (hW.2.2.2.1 (w 8 1 - 1) (by first | decide | omega) (by first | decide | omega)).2.1
  have hcell := (hS.1.2 x hx.1 hx.2).1
  intro d
  induction d with
  | zero =>
    intro k i m v h ⟨T, g, t2, hc, hn, hG, hE, hR, hV⟩ a1 a0 a2 a3
    obtain ⟨k, rfl⟩ : ∃ j, k = j + 1 := ⟨k - 1, by first | decide | omega⟩
    rw [G11_over_93, G12_over_50, if_pos (by first | decide | omega), if_pos (by first | decide | omega)]
    exact agr0 h _ rfl rfl
  | succ d ih =>
    intro k i m v h ⟨T, g, t2, hc, hn, hG, hE, hR, hV⟩ a1 a0 a2 a3
    obtain ⟨k, rfl⟩ : ∃ j, k = j + 1 := ⟨k - 1, by first | decide | omega⟩
    obtain ⟨f1, f2, f3, f4⟩ := ff_spec (w := w) (by first | decide | omega) i
    have hpx : ∀ v, 0 ≤ v → v < w 8 1 → 0 ≤ gM w (-1) 3 v ∧ gM w (-1) 3 v < w 0 0 := fun v a b => by rw [gM3]; exact pxM_b hW
    have hsb := seat_b (g := gM w (-1)) hW (x := x) hcell hpx ⟨f1, f2⟩
    rw [G11_over_93, G12_over_50, if_neg (by first | decide | omega), if_neg (by first | decide | omega), t2, Int.toNat_natCast, g_bwv hc.1 (by first | decide | omega) (by first | decide | omega) (by first | decide | omega) (by first | decide | omega), bs1, hc.1.2.1 8]
    simp only
    have hq1 := Int.ediv_nonneg (a := L - i - w 0 6) (b := w 0 7)
    have hq2 := Int.ediv_le_self (a := L - i - w 0 6) (w 0 7)
    have hbw : 0 ≤ bwv w i L ∧ bwv w i L ≤ 200 := by
      unfold bwv
      split
      · omega
      · have h1 := hq1 (by first | decide | omega) (by first | decide | omega)
        have h2 := hq2 (by first | decide | omega)
        omega
    have hmul : 0 ≤ 100 * w 0 8 * bwv w i L ∧ 100 * w 0 8 * bwv w i L ≤ 900 * 200 := ⟨Int.mul_nonneg (by first | decide | omega) (by first | decide | omega), Int.mul_le_mul (by first | decide | omega) (by first | decide | omega) (by first | decide | omega) (by first | decide | omega)⟩
    -- the reference's number
    obtain ⟨u1, e2, g2⟩ := r_seat hR hW hV.2.2.2.2 (x := i) hx hcell
    have k25 : v 25 x = n 1 x := by have := (hV.1.1 x hx.1 hx.2).1; rwa [show 5 * (0 : Int) + x = x by first | decide | omega] at this
    have r87 : ∀ b : Int, b = bwv w i L → G12_over_87 (fun m x1 x2 x3 => G12_over_50 k m x1 x2 x3) v x L i b = (if 100 * w 0 8 * bwv w i L ≤ seatV w (gM w (-1)) x (n 1 x) (ff w i) then G12_over_50 k u1 x L (i + 1) else some (i, u1)) := by
      intro b hb
      unfold G12_over_87
      rw [gdx_t (by first | decide | omega), k25, e2, bs1, hR.2.1.2.2.2.2.1, hb, gd3_t (by first | decide | omega), gd3_t (by first | decide | omega)]
    have rr : (if 0 ≤ L - i - v 4 2 then if v 4 3 = 0 then none else gd3 (L - i - v 4 2) (gdd (L - i - v 4 2) (v 4 3) (gd3 ((L - i - v 4 2) / v 4 3 + 1) (G12_over_87 (fun m x1 x2 x3 => G12_over_50 k m x1 x2 x3) v x L i ((L - i - v 4 2) / v 4 3 + 1)))) else G12_over_87 (fun m x1 x2 x3 => G12_over_50 k m x1 x2 x3) v x L i 0) = (if 100 * w 0 8 * bwv w i L ≤ seatV w (gM w (-1)) x (n 1 x) (ff w i) then G12_over_50 k u1 x L (i + 1) else some (i, u1)) := by
      rw [hR.2.1.2.2.1, hR.2.1.2.2.2.1]
      by_cases z : 0 ≤ L - i - w 0 6
      · have h1 := hq1 z (by first | decide | omega)
        have h2 := hq2 z
        rw [if_pos z, if_neg (by first | decide | omega), gd3_t (by first | decide | omega), gdd_t (by first | decide | omega), gd3_t (by first | decide | omega)]
        exact r87 _ (by unfold bwv; rw [if_neg (by first | decide | omega), if_pos h7])
      · rw [if_neg z]
        exact r87 _ (by unfold bwv; rw [if_pos (by first | decide | omega)])
    have g0 : ∀ y : Option (Int × Mem), gd3 (L - i - v 4 2) y = y := fun y => gd3_t (by rw [hR.2.1.2.2.1]; first | decide | omega)
    rw [g0]
    simp only [g0] at rr ⊢
    rw [rr, gd3_t (by first | decide | omega)]
    have e8 : m (T + 8) 1 = w 8 1 := hc.1.2.2 8 1 (by first | decide | omega)
    have e11 : m (T + 11) (ff w i) = w 11 (ff w i) := hc.1.2.2 11 _ (by first | decide | omega)
    have e70 : m (69 + 1) x = n 1 x := hn.2.2 1 x (by first | decide | omega)
    by_cases c1 : 100 * w 0 8 * bwv w i L ≤ seatV w (gM w (-1)) x (n 1 x) (ff w i)
    · rw [if_pos c1, if_pos c1, t2, Int.toNat_natCast, e8]
      have hx0 : ∀ m' : Mem, Fr (PN 51) m m' → (∃ T g, m' 0 3 = ((T : Nat) : Int) ∧ CX m' 51 T w g ∧ NX m' 69 n ∧ GB w g ∧ GE w g (gM w (-1)) ∧ RT u1 w ∧ SV w n u1) := fun m' f => ⟨T, g, by rw [f 0 3 (by unfold PN; first | decide | omega)]; exact t2, hc.pn f, hn.pl (Or.inl rfl) (f.mono PN_PL), hG, hE, hR.pn g2, hV.q ⟨by first | decide | omega, by first | decide | omega⟩ (g2.mono PNm_q)⟩
      have hv : ff w i < w 8 1 := by
        rcases Int.lt_or_le (ff w i) (w 8 1) with z | z
        · exact z
        · have := f3 (w 8 1 - 1) (by first | decide | omega) (by first | decide | omega); omega
      have h4 := f4 hv
      rw [if_neg (by first | decide | omega), gdx_t (by first | decide | omega), e11]
      by_cases c2 : w 11 (ff w i) = i
      · rw [if_pos c2, gdx_t (by first | decide | omega), e70]
        have hg := hG.1 x hx.1 hx.2
        obtain ⟨m2, e3, g3⟩ := g_worth hc hW (x := x) (v := ff w i) (c := n 1 x) (by first | decide | omega) ⟨hg.1, hg.2.1⟩ ⟨f1, hv⟩ hcell (hG.2 _ f1 hv)
        have hwb := worth_b hW (bd := g 1 x) (v := ff w i) ⟨f1, hv⟩ hcell (hG.2 _ f1 hv)
        rw [e3, bs1, gd3_t (by first | decide | omega)]
        simp only
        have hff : ff w (i + 1) = ff w i + 1 := ff_eq (by first | decide | omega) (by first | decide | omega) (fun k x y => by
          by_cases z : k = ff w i
          · rw [z, c2]; omega
          · have := f3 k x (by first | decide | omega); first | decide | omega) (fun z => by
          have := wv_lt hW f1 (show ff w i < ff w i + 1 by first | decide | omega) z; first | decide | omega)
        have es : seatV w (gM w (-1)) x (n 1 x) (ff w i) = worthV w (gM w (-1) 1 x) (gM w (-1) 3 (ff w i)) (ff w i) (n 1 x) + seatV w (gM w (-1)) x (n 1 x) (ff w i + 1) := by
          unfold seatV
          rw [show (w 8 1 - ff w i).toNat = (w 8 1 - (ff w i + 1)).toNat + 1 by first | decide | omega, smd_s]
        have ew : worthV w (g 1 x) (g 3 (ff w i)) (ff w i) (n 1 x) = worthV w (gM w (-1) 1 x) (gM w (-1) 3 (ff w i)) (ff w i) (n 1 x) := by rw [(hE.1 x hx.1 hx.2).1, hE.2 _ f1 hv]
        have esub : seatV w (gM w (-1)) x (n 1 x) (ff w i) - worthV w (g 1 x) (g 3 (ff w i)) (ff w i) (n 1 x) = seatV w (gM w (-1)) x (n 1 x) (ff w (i + 1)) := by
          rw [hff, ew]; omega
        rw [gd3_t (by first | decide | omega), gd3_t (by first | decide | omega), esub, ← hff]
        exact ih k (i + 1) m2 u1 (h.q (g3.mono PN_Q) (g2.mono PNm_q)) (hx0 m2 g3) (by first | decide | omega) (by first | decide | omega) (by first | decide | omega) (by first | decide | omega)
      · rw [if_neg c2, gd3_t (by first | decide | omega)]
        have hff : ff w (i + 1) = ff w i := ff_eq (by first | decide | omega) (by first | decide | omega) (fun k x y => by have := f3 k x y; first | decide | omega) (fun z => by first | decide | omega)
        have := ih k (i + 1) m u1 (h.q Fr.rf (g2.mono PNm_q)) (hx0 m Fr.rf) (by first | decide | omega) (by first | decide | omega) (by first | decide | omega) (by first | decide | omega)
        rwa [hff] at this
    · rw [if_neg c1, if_neg c1]
      exact agr h _ rfl rfl Fr.rf (g2.mono PNm_q)
theorem a_over (h : Rel m v) (x : Int) : Agr (G11_over m x) (G12_over v x) := by
  have h1 := h.v0
  unfold G11_over G11_over_0 G12_over G12_over_0
  rw [wt_e]
  generalize up v 0 2 0 = u at h1 ⊢
  obtain ⟨T, w, g, n, t1, t2, hc, hn, hW, hG, hE, hS, hR, hV, hL, -, -, -⟩ := h1.use
  have hw := hW.1
  unfold WS at hw
  have hmn := hS.2.1
  rw [c_isS t2 hc.1, r_isS hR, bs1, bs1]
  by_cases c1 : 0 ≤ x ∧ x < w 1 0
  · simp only [if_pos c1, if_neg i10]
    have e8 : m (T + 8) 1 = w 8 1 := hc.1.2.2 8 1 (by first | decide | omega)
    rw [t2, Int.toNat_natCast, hc.1.2.1 7, e8, hR.2.1.2.2.1, hR.1.2.2.2.2.1]
    by_cases c2 : w 0 7 < 1
    · rw [if_pos c2, if_pos (show w 0 6 = 0 by first | decide | omega)]; exact agr0 h1 _ rfl rfl
    · rw [if_neg c2, if_neg (show ¬ w 0 6 = 0 by first | decide | omega)]
      by_cases c3 : w 8 1 = 0
      · rw [if_neg (show ¬ 1 ≤ w 8 1 by first | decide | omega), if_pos c3]; exact agr0 h1 _ rfl rfl
      · have e11 : m (T + 11) (w 8 1 - 1) = w 11 (w 8 1 - 1) := hc.1.2.2 11 _ (by first | decide | omega)
        have e70 : m (69 + 1) x = n 1 x := hn.2.2 1 x (by first | decide | omega)
        have hcell := (hS.1.2 x c1.1 c1.2).1
        have hlb := (hW.2.2.2.1 (w 8 1 - 1) (by first | decide | omega) (by first | decide | omega)).2.1
        rw [if_pos (show 1 ≤ w 8 1 by first | decide | omega), if_neg c3, gdx_t (by first | decide | omega), gdx_t (by first | decide | omega), c_ftc t2 hc.1 hn hW, bs1, gdx_t (by first | decide | omega)]
        simp only
        rw [e70]
        obtain ⟨m1, e1, f1⟩ := c_seat t2 hc hn hW hG hE c1 hcell
        have e69 : m1 69 0 = n 0 0 := by rw [f1 69 0 (by unfold PN; first | decide | omega)]; exact hn.2.1 0
        rw [e1, bs1, e11, (hR.2.2.2.2.1 (w 8 1 - 1) (by first | decide | omega) (by first | decide | omega)).1, hV.2.1]
        simp only
        rw [e69]
        have h' : Rel m1 u := h1.q (f1.mono PN_Q) Fm.rf
        have hx : ∃ T g, m1 0 3 = ((T : Nat) : Int) ∧ CX m1 51 T w g ∧ NX m1 69 n ∧ GB w g ∧ GE w g (gM w (-1)) ∧ RT u w ∧ SV w n u := ⟨T, g, by rw [f1 0 3 (by unfold PN; first | decide | omega)]; exact t2, hc.pn f1, hn.pl (Or.inl rfl) (f1.mono PN_PL), hG, hE, hR, hV⟩
        exact over_l hW hS c1 rfl (by first | decide | omega) (by first | decide | omega) (w 11 (w 8 1 - 1) + 1 - n 0 0).toNat 1024 (n 0 0) m1 u h' hx hmn.1 (by first | decide | omega) (by first | decide | omega) (by first | decide | omega)
  · simp only [if_neg c1, if_true]; exact agr0 h1 _ rfl rfl
end Q5
/-! Runs: what is tried goes alike on both sides. -/
/-- n' begins as n is, by rule r, from number s, with nothing counted -/
def TR (n n' : Mem) (r s : Int) : Prop := (n' 0 0 = n 0 0 ∧ n' 0 1 = r ∧ n' 0 2 = s ∧ n' 0 3 = 0 ∧ n' 0 4 = 0) ∧ (∀ c i, 1 ≤ c → c ≤ 5 → 0 ≤ i → i < 5 → n' c i = n c i) ∧ ∀ k, 0 ≤ k → k < 28 → n' 6 k = n 6 k
section Q6
variable {m v w g n : Mem} {T : Nat}
theorem c_tall {a b : Nat} (ha : a = 69 ∨ a = 76 ∨ a = 83) (hb : b = 69 ∨ b = 76 ∨ b = 83) (hab : a ≠ b) : ∃ m', G4_takeAll m a b = some m' ∧ Fr (PA a) m m' ∧ (∀ i, 0 ≤ i → i < 5 → m' a i = m b i) ∧ (∀ c i, 1 ≤ c → c ≤ 5 → 0 ≤ i → i < 5 → m' (a + c) i = m (b + c) i) ∧ ∀ i, 0 ≤ i → i < 28 → m' (a + 6) i = m (b + 6) i := by
  unfold G4_takeAll G4_takeAll_0
  simp only [wt_e]
  refine ⟨_, rfl, ?_, ?_, ?_, ?_⟩
  · intro x i hx
    unfold PA at hx
    simp (disch := omega) only [up_a, cpy_a]
  · intro i h0 h5
    have : i = 0 ∨ i = 1 ∨ i = 2 ∨ i = 3 ∨ i = 4 := by omega
    rcases this with rfl | rfl | rfl | rfl | rfl <;> simp (disch := omega) only [up_a, up_e, up_i, cpy_a]
  · intro c i c1 c5 h0 h5
    have : c = 1 ∨ c = 2 ∨ c = 3 ∨ c = 4 ∨ c = 5 := by omega
    have e : (0 : Int) + (i - 0) = i := by omega
    rcases this with rfl | rfl | rfl | rfl | rfl <;> simp (disch := omega) only [up_a, cpy_a, cpy_in, e]
  · intro i h0 h5
    have e : (0 : Int) + (i - 0) = i := by omega
    simp (disch := omega) only [up_a, cpy_a, cpy_in, e]
theorem c_trun (r s : Int) : ∃ m', G4_takeForRun m 76 69 r s = some m' ∧ Fr (PA 76) m m' ∧ TR (sl 6 m 69) (sl 6 m' 76) r s := by
  obtain ⟨m1, e1, f1, k1, k2, k3⟩ := c_tall (m := m) (a := 76) (b := 69) (by first | decide | omega) (by first | decide | omega) (by first | decide | omega)
  unfold G4_takeForRun G4_takeForRun_0
  rw [e1, bs1]
  simp only [wt_e]
  refine ⟨_, rfl, ?_, ⟨⟨?_, ?_, ?_, ?_, ?_⟩, ?_, ?_⟩⟩
  · intro x i hx
    have hx' : x ≠ 76 := by unfold PA at hx; omega
    simp only [up_a hx']
    exact f1 x i hx
  · rw [sl_e (by first | decide | omega), sl_e (by first | decide | omega)]
    simp (disch := omega) only [Nat.add_zero, up_i]
    exact k1 0 (by first | decide | omega) (by first | decide | omega)
  · rw [sl_e (by first | decide | omega)]; simp (disch := omega) only [Nat.add_zero, up_i, up_e]
  · rw [sl_e (by first | decide | omega)]; simp (disch := omega) only [Nat.add_zero, up_i, up_e]
  · rw [sl_e (by first | decide | omega)]; simp (disch := omega) only [Nat.add_zero, up_i, up_e]
  · rw [sl_e (by first | decide | omega)]; simp (disch := omega) only [Nat.add_zero, up_i, up_e]
  · intro c i c1 c5 h0 h5
    rw [sl_e (by first | decide | omega), sl_e (by first | decide | omega)]
    simp (disch := omega) only [up_a]
    exact k2 c i c1 c5 h0 h5
  · intro k h0 h5
    rw [sl_e (by first | decide | omega), sl_e (by first | decide | omega)]
    simp (disch := omega) only [up_a]
    exact k3 k h0 h5
theorem TR_nb {n' : Mem} {r s f : Int} (hW : WW w) (hB : NB w n f) (hf : 0 ≤ f) (h : TR n n' r s) (hr : 0 ≤ r ∧ r ≤ 3) (hs : 0 ≤ s ∧ s < 2147483648) : NB w n' f := by
  have hw := hW.1
  unfold WS at hw
  obtain ⟨⟨a0, a1, a2, a3, a4⟩, b, c⟩ := h
  refine ⟨by rw [a1, a2, a3, a4]; first | decide | omega, fun i p q => ?_⟩
  rw [b 1 i (by first | decide | omega) (by first | decide | omega) p (by first | decide | omega), b 2 i (by first | decide | omega) (by first | decide | omega) p (by first | decide | omega), b 3 i (by first | decide | omega) (by first | decide | omega) p (by first | decide | omega), b 4 i (by first | decide | omega) (by first | decide | omega) p (by first | decide | omega)]
  exact hB.2 i p q
/-- waves v .. of the class, one behind another -/
theorem c_run {s : Nat} (hs : s = 51) (hW : WW w) (hG : GB w g) : ∀ (d k : Nat) (i f : Int) (n m : Mem), 0 ≤ i → w 8 1 - i = d → d < k → 0 ≤ f → f + 2 * d ≤ 900 → m 0 3 = (T : Int) → CX m s T w g → NX m 76 n → NB w n f → ∃ m', G11_runBy_18 k m i = some m' ∧ Fr (PW s 76) m m' ∧ NX m' 76 (rnd w g d i n) := by
  subst hs
  have hw := hW.1
  unfold WS at hw
  intro d
  induction d with
  | zero =>
    intro k i f n m a1 a2 a3 a4 a5 t2 hc hn hB
    obtain ⟨k, rfl⟩ : ∃ j, k = j + 1 := ⟨k - 1, by first | decide | omega⟩
    rw [G11_runBy_18, t2, Int.toNat_natCast, hc.1.2.2 8 1 (by first | decide | omega), if_pos (by first | decide | omega)]
    exact ⟨m, rfl, Fr.rf, hn⟩
  | succ d ih =>
    intro k i f n m a1 a2 a3 a4 a5 t2 hc hn hB
    obtain ⟨k, rfl⟩ : ∃ j, k = j + 1 := ⟨k - 1, by first | decide | omega⟩
    obtain ⟨m1, e1, f1, n1⟩ := g_bring hc hW hG hn hB (by first | decide | omega) (v := i) (by first | decide | omega)
    rw [G11_runBy_18, t2, Int.toNat_natCast, hc.1.2.2 8 1 (by first | decide | omega), if_neg (by first | decide | omega), e1, bs1, gd3_t (by first | decide | omega)]
    obtain ⟨m', e2, f2, n2⟩ := ih k (i + 1) (f + 2) (bw w g n i (w 11 i)) m1 (by first | decide | omega) (by first | decide | omega) (by first | decide | omega) (by first | decide | omega) (by first | decide | omega) (by rw [f1 0 3 (by unfold PW PL PA; first | decide | omega)]; exact t2) (hc.pw (by first | decide | omega) f1) n1 (bw_nb hW hB a4 (by first | decide | omega))
    exact ⟨m', e2, f1.tr f2, by rw [rnd_s]; exact n2⟩
theorem PW_Q {s : Nat} (hs : s = 51 ∨ s = 60) : ∀ b, PW s 76 b → PQ' b := by intro b h; unfold PW PL PA at h; unfold PQ' PQ; omega
theorem PA_Q : ∀ b, PA 76 b → PQ' b := by intro b h; unfold PA at h; unfold PQ' PQ; omega
theorem c_runBy (t2 : m 0 3 = (T : Int)) (hc : CX m 51 T w g) (hn : NX m 69 n) (hW : WW w) (hG : GB w g) (hS : SN w n) (hN : n = sl 6 m 69) {r s : Int} (hr : 0 ≤ r ∧ r ≤ 3) (hs : 0 ≤ s ∧ s < 2147483648) : ∃ m' n', G11_runBy m r s = some m' ∧ Fr PQ' m m' ∧ TR n n' r s ∧ NX m' 76 (rnd w g (w 8 1 - ff w (n 0 0)).toNat (ff w (n 0 0)) n') := by
  have hw := hW.1
  unfold WS at hw
  obtain ⟨v1, v2, _, _⟩ := ff_spec (w := w) (by first | decide | omega) (n 0 0)
  obtain ⟨m1, e1, f1, t⟩ := c_trun (m := m) r s
  rw [← hN] at t
  have hc1 : CX m1 51 T w g := hc.fr f1 (by intro b q; unfold PA; have := hc.1.1; first | decide | omega)
  have hn1 : NX m1 69 n := hn.fr f1 (by intro b x y; unfold PA; first | decide | omega)
  have t3 : m1 0 3 = (T : Int) := by rw [f1 0 3 (by unfold PA; first | decide | omega)]; exact t2
  have hB' := TR_nb hW hS.1 (by first | decide | omega) t hr hs
  unfold G11_runBy G11_runBy_0
  rw [e1, bs1, c_ftc t3 hc1.1 hn1 hW, bs1]
  obtain ⟨m2, e2, f2, n2⟩ := c_run (s := 51) rfl hW hG (w 8 1 - ff w (n 0 0)).toNat 1024 (ff w (n 0 0)) (2 * ff w (n 0 0)) (sl 6 m1 76) m1 v1 (by first | decide | omega) (by first | decide | omega) (by first | decide | omega) (by first | decide | omega) t3 hc1 (NX_sl (by first | decide | omega)) hB'
  exact ⟨m2, sl 6 m1 76, e2, (f1.mono PA_Q).tr (f2.mono (PW_Q (by first | decide | omega))), t, n2⟩
/-- the reference's bank 1, and nothing else -/
def PB1 : Nat → Int → Prop := fun b i => ((25 ≤ b ∧ b ≤ 28) ∧ 5 ≤ i) ∨ (b = 30 ∧ 28 ≤ i) ∨ ((31 ≤ b ∧ b ≤ 33) ∧ i = 1)
theorem r_lay71 : ∀ (d k : Nat) (i : Int) (v : Mem), 0 ≤ i → 28 - i = d → d < k → (∀ j, 0 ≤ j → j < i → v 30 (28 + j) = v 30 j) → ∃ v', G12_layTried_71 k v i = some v' ∧ Fm (fun b j => (b = 30 ∧ 28 ≤ j) ∨ ((31 ≤ b ∧ b ≤ 33) ∧ j = 1)) v v' ∧ (∀ j, 0 ≤ j → j < 28 → v' 30 (28 + j) = v 30 j) ∧ v' 31 1 = v 31 0 ∧ v' 32 1 = 0 ∧ v' 33 1 = 0 := by
  intro d
  induction d with
  | zero =>
    intro k i v a1 a2 a3 h
    obtain ⟨k, rfl⟩ : ∃ j, k = j + 1 := ⟨k - 1, by first | decide | omega⟩
    rw [G12_layTried_71, if_pos (by first | decide | omega)]
    simp only [wt_e]
    refine ⟨_, rfl, ?_, ?_, ?_, ?_, ?_⟩
    · exact ((Fm.w1 (by first | decide | omega)).w (by first | decide | omega)).w (by first | decide | omega)
    · intro j p q
      simp (disch := omega) only [up_a]
      exact h j p (by first | decide | omega)
    · simp (disch := omega) only [up_a, up_e]
    · simp (disch := omega) only [up_a, up_e]
    · simp (disch := omega) only [up_a, up_e]
  | succ d ih =>
    intro k i v a1 a2 a3 h
    obtain ⟨k, rfl⟩ : ∃ j, k = j + 1 := ⟨k - 1, by first | decide | omega⟩
    rw [G12_layTried_71, if_neg (by first | decide | omega), gdx_t (by first | decide | omega), gdx_t (by first | decide | omega), wt_e, gd3_t (by first | decide | omega)]
    obtain ⟨v', e1, f1, k1, k2, k3, k4⟩ := ih k (i + 1) (up v 30 (28 + i) (v 30 i)) (by first | decide | omega) (by first | decide | omega) (by first | decide | omega) (fun j p q => by
      rw [up_i (show j ≠ 28 + i by first | decide | omega)]
      by_cases z : j = i
      · subst z; rw [up_e]
      · rw [up_i (by first | decide | omega)]; exact h j p (by first | decide | omega))
    refine ⟨v', e1, (Fm.w1 (by first | decide | omega)).tr f1, fun j p q => ?_, ?_, k3, k4⟩
    · rw [k1 j p q, up_i (by first | decide | omega)]
    · rw [k2, up_a (by first | decide | omega)]
theorem r_lay : ∃ v', G12_layTried v = some v' ∧ Fm PB1 v v' ∧ (∀ s, 0 ≤ s → s < 5 → v' 25 (5 + s) = v 25 s ∧ v' 26 (5 + s) = v 26 s ∧ v' 27 (5 + s) = v 27 s ∧ v' 28 (5 + s) = v 28 s) ∧ (∀ j, 0 ≤ j → j < 28 → v' 30 (28 + j) = v 30 j) ∧ v' 31 1 = v 31 0 ∧ v' 32 1 = 0 ∧ v' 33 1 = 0 := by
  have key : ∀ (d k : Nat) (i : Int) (v : Mem), 0 ≤ i → 5 - i = d → d < k → (∀ s, 0 ≤ s → s < i → v 25 (5 + s) = v 25 s ∧ v 26 (5 + s) = v 26 s ∧ v 27 (5 + s) = v 27 s ∧ v 28 (5 + s) = v 28 s) → ∃ v', G12_layTried_2 k v i = some v' ∧ Fm PB1 v v' ∧ (∀ s, 0 ≤ s → s < 5 → v' 25 (5 + s) = v 25 s ∧ v' 26 (5 + s) = v 26 s ∧ v' 27 (5 + s) = v 27 s ∧ v' 28 (5 + s) = v 28 s) ∧ (∀ j, 0 ≤ j → j < 28 → v' 30 (28 + j) = v 30 j) ∧ v' 31 1 = v 31 0 ∧ v' 32 1 = 0 ∧ v' 33 1 = 0 := by
    intro d
    induction d with
    | zero =>
      intro k i v a1 a2 a3 h
      obtain ⟨k, rfl⟩ : ∃ j, k = j + 1 := ⟨k - 1, by first | decide | omega⟩
      rw [G12_layTried_2, if_pos (by first | decide | omega)]
      obtain ⟨v', e1, f1, k1, k2, k3, k4⟩ := r_lay71 28 1024 0 v (by first | decide | omega) (by first | decide | omega) (by first | decide | omega) (fun j p q => by first | decide | omega)
      refine ⟨v', e1, f1.mono (by intro b j z; unfold PB1; first | decide | omega), fun s p q => ?_, k1, k2, k3, k4⟩
      rw [f1 25 _ (by first | decide | omega), f1 26 _ (by first | decide | omega), f1 27 _ (by first | decide | omega), f1 28 _ (by first | decide | omega)]
      exact h s p (by first | decide | omega)
    | succ d ih =>
      intro k i v a1 a2 a3 h
      obtain ⟨k, rfl⟩ : ∃ j, k = j + 1 := ⟨k - 1, by first | decide | omega⟩
      rw [G12_layTried_2, if_neg (by first | decide | omega)]
      simp only [wt_e, gdx_t (show 0 ≤ i ∧ i < 10 by first | decide | omega), gdx_t (show 0 ≤ 5 + i ∧ 5 + i < 10 by first | decide | omega), gd3_t (show -2147483648 ≤ i + 1 ∧ i + 1 ≤ 2147483647 by first | decide | omega)]
      simp (disch := omega) only [up_a]
      obtain ⟨v', e1, f1, k0, k1, k2, k3, k4⟩ := ih k (i + 1) (up (up (up (up v 25 (5 + i) (v 25 i)) 26 (5 + i) (v 26 i)) 27 (5 + i) (v 27 i)) 28 (5 + i) (v 28 i)) (by first | decide | omega) (by first | decide | omega) (by first | decide | omega) (fun s p q => by
        by_cases z : s = i
        · subst z
          simp (disch := omega) only [up_a, up_e, up_i]
          exact ⟨trivial, trivial, trivial, trivial⟩
        · simp (disch := omega) only [up_a, up_i]
          exact h s p (by first | decide | omega))
      refine ⟨v', e1, ((((Fm.w1 (by unfold PB1; first | decide | omega)).w (by unfold PB1; first | decide | omega)).w (by unfold PB1; first | decide | omega)).w (by unfold PB1; first | decide | omega)).tr f1, fun s p q => ?_, fun j p q => ?_, ?_, k3, k4⟩
      · have := k0 s p q
        simp (disch := omega) only [up_a, up_i] at this
        exact this
      · rw [k1 j p q]; simp (disch := omega) only [up_a]
      · rw [k2]; simp (disch := omega) only [up_a]
  unfold G12_layTried G12_layTried_0
  exact key 5 1024 0 v (by first | decide | omega) (by first | decide | omega) (by first | decide | omega) (fun s p q => by first | decide | omega)
/-- the present minute in bank 0, without the number -/
def B0 (v w n : Mem) : Prop := (∀ i, 0 ≤ i → i < w 1 0 → v 25 i = n 1 i ∧ v 26 i = n 2 i ∧ v 27 i = n 3 i ∧ v 28 i = n 4 i) ∧ (∀ k, 0 ≤ k → k < w 8 1 → v 30 k = n 6 k) ∧ v 31 0 = n 0 0 ∧ v 0 64 = n 0 1
theorem SV.b0 (h : SV w n v) : B0 v w n := by
  obtain ⟨⟨h1, h2, h3, h4, h5⟩, h6, h7, h8, h9⟩ := h
  refine ⟨fun i p q => ?_, fun k p q => ?_, h6, h7⟩
  · have := h1 i p q
    rw [show 5 * (0 : Int) + i = i by first | decide | omega] at this
    exact ⟨this.1, this.2.1, this.2.2, (h8 i p q).1⟩
  · have := h2 k p q
    rwa [show 28 * (0 : Int) + k = k by first | decide | omega] at this
def PRn : Nat → Int → Prop := fun b i => PMq b i ∨ (b = 0 ∧ i = 65)
theorem B0.fr {v' : Mem} (h : B0 v w n) (hw : w 1 0 ≤ 5 ∧ w 8 1 ≤ 28) (f : Fm PRn v v') : B0 v' w n := by
  obtain ⟨h1, h2, h3, h4⟩ := h
  refine ⟨fun i p q => ?_, fun k p q => ?_, ?_, ?_⟩
  · rw [f 25 _ (by unfold PRn PMq; first | decide | omega), f 26 _ (by unfold PRn PMq; first | decide | omega), f 27 _ (by unfold PRn PMq; first | decide | omega), f 28 _ (by unfold PRn PMq; first | decide | omega)]; exact h1 i p q
  · rw [f 30 _ (by unfold PRn PMq; first | decide | omega)]; exact h2 k p q
  · rw [f 31 _ (by unfold PRn PMq; first | decide | omega)]; exact h3
  · rw [f 0 64 (by unfold PRn PMq; first | decide | omega)]; exact h4
theorem RT.rn {v' : Mem} (h : RT v w) (f : Fm PRn v v') : RT v' w := h.fr f (by intro b i q; unfold PRn PMq; first | decide | omega)
theorem PMn_R : ∀ b i, PMn 1 b i → PRn b i := by intro b i h; unfold PMn PCm PO PNm at h; unfold PRn PMq; omega
theorem PB1_q : ∀ b i, PB1 b i → PMq b i := by intro b i h; unfold PB1 at h; unfold PMq; omega
/-- what layTried leaves, as a minute of bank 1 -/
theorem r_lay1 (hw : w 1 0 ≤ 5 ∧ w 8 1 ≤ 28) (hB : B0 v w n) {n' : Mem} {r s : Int} (t : TR n n' r s) (h65 : v 0 65 = s) : ∃ v', G12_layTried v = some v' ∧ Fm PB1 v v' ∧ NM v' 1 w n' ∧ v' 31 1 = n 0 0 ∧ ∀ i, 0 ≤ i → i < w 1 0 → v' 28 (5 + i) = n 4 i := by
  obtain ⟨v1, e1, f1, k0, k1, k2, k3, k4⟩ := r_lay (v := v)
  obtain ⟨⟨a0, a1, a2, a3, a4⟩, b, c⟩ := t
  refine ⟨v1, e1, f1, ⟨fun i p q => ?_, fun k p q => ?_, ?_, ?_, ?_⟩, ?_, fun i p q => ?_⟩
  · have h1 := k0 i p (by first | decide | omega)
    have h2 := hB.1 i p q
    rw [show 5 * (1 : Int) + i = 5 + i by first | decide | omega, b 1 i (by first | decide | omega) (by first | decide | omega) p (by first | decide | omega), b 2 i (by first | decide | omega) (by first | decide | omega) p (by first | decide | omega), b 3 i (by first | decide | omega) (by first | decide | omega) p (by first | decide | omega), h1.1, h1.2.1, h1.2.2.1]
    exact ⟨h2.1, h2.2.1, h2.2.2.1⟩
  · rw [show 28 * (1 : Int) + k = 28 + k by first | decide | omega, k1 k p (by first | decide | omega), c k p (by first | decide | omega)]; exact hB.2.1 k p q
  · rw [k3, a3]
  · rw [k4, a4]
  · rw [f1 0 65 (by unfold PB1; first | decide | omega), h65, a2]
  · rw [k2]; exact hB.2.2.1
  · rw [(k0 i p (by first | decide | omega)).2.2.2]; exact (hB.1 i p q).2.2.2
theorem r_lg (hW : WW w) (hS : SN w n) (hR : RT v w) (hB : B0 v w n) (h66 : v 0 66 = -1) {n' : Mem} {r s : Int} (t : TR n n' r s) (hr : 0 ≤ r ∧ r ≤ 3) (hs : 0 ≤ s ∧ s < 2147483648) (h65 : v 0 65 = s) : ∃ v1 v', G12_layTried v = some v1 ∧ v1 0 64 = v 0 64 ∧ G12_goesOn v1 r = some v' ∧ Fm PRn v v' ∧ v' 0 66 = -1 ∧ NM v' 1 w (rnd w (gM w (-1)) (w 8 1 - ff w (n 0 0)).toNat (ff w (n 0 0)) n') := by
  have hw := hW.1
  unfold WS at hw
  obtain ⟨f1, f2, _, _⟩ := ff_spec (w := w) (by first | decide | omega) (n 0 0)
  have hmn := hS.2.1
  obtain ⟨v1, e1, g1, n1, k1, k2⟩ := r_lay1 (by first | decide | omega) hB t h65
  have hR1 : RT v1 w := hR.q (g1.mono PB1_q)
  have hNB := TR_nb hW hS.1 (by first | decide | omega) t hr hs
  have tl : TLM v1 1 w n' (-1) 0 (n 0 0) := by
    intro i p q
    right
    refine ⟨by first | decide | omega, ?_⟩
    rw [show 5 * (1 : Int) + i = 5 + i by first | decide | omega, k2 i p q, t.2.1 4 i (by first | decide | omega) (by first | decide | omega) p (by first | decide | omega)]
    have h2 := (hS.2.2.1 i p q).1
    split
    · rename_i c
      rcases h2 with z | z
      · exact z
      · omega
    · rfl
  have hlast : w 8 1 = 0 ∨ w 11 (w 8 1 - 1) + 1 - n 0 0 ≤ ((106 : Nat) : Int) := by
    by_cases z : w 8 1 = 0
    · left; exact z
    · right
      have := (hW.2.2.2.1 (w 8 1 - 1) (by first | decide | omega) (by first | decide | omega)).2.1
      omega
  obtain ⟨v2, e2, g2, n2⟩ := m_goes hW (way := -1) (one := 0) 106 1024 (n 0 0) (2 * ff w (n 0 0)) n' v1 (by first | decide | omega) (by first | decide | omega) hlast (by first | decide | omega) (by first | decide | omega) (by first | decide | omega) hR1 n1 hNB (by rw [g1 0 66 (by unfold PB1; first | decide | omega)]; exact h66) (fun z => by first | decide | omega) k1 tl
  rw [t.1.2.1] at e2
  refine ⟨v1, v2, e1, g1 0 64 (by unfold PB1; first | decide | omega), e2, (g1.mono (fun b i z => Or.inl (PB1_q b i z))).tr (g2.mono PMn_R), ?_, n2⟩
  rw [g2 0 66 (by unfold PMn PCm PO PNm; first | decide | omega), g1 0 66 (by unfold PB1; first | decide | omega)]
  exact h66
theorem r_run (hW : WW w) (hS : SN w n) (hR : RT v w) (hV : SV w n v) {n' : Mem} {r s : Int} (t : TR n n' r s) (hr : 0 ≤ r ∧ r ≤ 3) (hs : 0 ≤ s ∧ s < 2147483648) : ∃ v', G12_run v r s = some v' ∧ Fm PMq v v' ∧ (∀ i, 0 ≤ i → i < w 1 0 → v' 26 (5 + i) = (rnd w (gM w (-1)) (w 8 1 - ff w (n 0 0)).toNat (ff w (n 0 0)) n') 2 i) ∧ v' 32 1 = (rnd w (gM w (-1)) (w 8 1 - ff w (n 0 0)).toNat (ff w (n 0 0)) n') 0 3 ∧ v' 33 1 = (rnd w (gM w (-1)) (w 8 1 - ff w (n 0 0)).toNat (ff w (n 0 0)) n') 0 4 := by
  have hw := hW.1
  unfold WS at hw
  have g0 : Fm PRn v (up v 0 65 s) := Fm.w1 (Or.inr ⟨rfl, rfl⟩)
  obtain ⟨v1, v2, e1, _, e2, g2, _, n2⟩ := r_lg (v := up v 0 65 s) hW hS (hR.rn g0) (hV.b0.fr (by first | decide | omega) g0) (by rw [up_i (by first | decide | omega)]; exact hV.2.2.2.2) t hr hs up_e
  unfold G12_run G12_run_0
  rw [wt_e, e1, bs1, e2, bs1, wt_e]
  refine ⟨_, rfl, ?_, fun i p q => ?_, ?_, ?_⟩
  · intro b i z
    by_cases c : b = 0 ∧ i = 65
    · rw [c.1, c.2, up_e]
    · have : up v2 0 65 (v 0 65) b i = v2 b i := if_neg c
      rw [this, g2 b i (by unfold PRn; exact fun y => y.elim z c)]
      exact if_neg c
  · rw [up_a (by first | decide | omega)]
    have := (n2.1 i p q).2.1
    rwa [show 5 * (1 : Int) + i = 5 + i by first | decide | omega] at this
  · rw [up_a (by first | decide | omega)]; exact n2.2.2.1
  · rw [up_a (by first | decide | omega)]; exact n2.2.2.2.1
/-- a run on both sides -/
theorem run_pair (h1 : Rel m v) (t2 : m 0 3 = (T : Int)) (hc : CX m 51 T w g) (hn : NX m 69 n) (hW : WW w) (hG : GB w g) (hE : GE w g (gM w (-1))) (hS : SN w n) (hR : RT v w) (hV : SV w n v) (hN : n = sl 6 m 69) {r s : Int} (hr : 0 ≤ r ∧ r ≤ 3) (hs : 0 ≤ s ∧ s < 2147483648) : ∃ m' v' N, G11_runBy m r s = some m' ∧ G12_run v r s = some v' ∧ Fr PQ' m m' ∧ Fm PMq v v' ∧ NX m' 76 N ∧ NB w N 112 ∧ (∀ i, 0 ≤ i → i < w 1 0 → v' 26 (5 + i) = N 2 i) ∧ v' 32 1 = N 0 3 ∧ v' 33 1 = N 0 4 := by
  have hw := hW.1
  unfold WS at hw
  obtain ⟨f1, f2, _, _⟩ := ff_spec (w := w) (by first | decide | omega) (n 0 0)
  obtain ⟨m', n', e1, g1, t, n1⟩ := c_runBy t2 hc hn hW hG hS hN hr hs
  obtain ⟨v', e2, g2, k1, k2, k3⟩ := r_run hW hS hR hV t hr hs
  rw [rnd_ge hE (by first | decide | omega) _ _ _ f1 (by first | decide | omega)] at n1
  have hB := (rnd_nb (g := gM w (-1)) hW (w 8 1 - ff w (n 0 0)).toNat (ff w (n 0 0)) (2 * ff w (n 0 0)) n' f1 (by first | decide | omega) (by first | decide | omega) (TR_nb hW hS.1 (by first | decide | omega) t hr hs)).1
  refine ⟨m', v', _, e1, e2, g1, g2, n1, ?_, k1, k2, k3⟩
  obtain ⟨b1, b2⟩ := hB
  refine ⟨by first | decide | omega, fun i p q => ?_⟩
  have := b2 i p q
  omega
end Q6
/-! Tables, the fairest rule, chances, what is tried otherwise. -/
section Q7
variable {m v w g n : Mem} {T : Nat}
theorem a_table (h : Rel m v) (x y z : Int) (hy : y ≤ 2147483647) : Agr (G11_table m x y z) (G12_table v x y z) := by
  have h1 := h.v0
  unfold G11_table G11_table_0 G12_table G12_table_0
  rw [wt_e]
  generalize up v 0 2 0 = u at h1 ⊢
  obtain ⟨T, w, g, n, t1, t2, hc, hn, hW, hG, hE, hS, hR, hV, hL, -, -, hN⟩ := h1.use
  have hw := hW.1
  unfold WS at hw
  rw [c_isR, r_isIn, bs1, bs1]
  by_cases c1 : 0 ≤ x ∧ x ≤ 3
  · simp only [if_pos c1, if_neg i10]
    by_cases c2 : y < 0
    · rw [if_pos c2, if_pos c2]; exact agr0 h1 _ rfl rfl
    · rw [if_neg c2, if_neg c2, r_isIn, bs1]
      have main : ∀ z, (0 ≤ z ∧ z ≤ 7) → (z < 5 → z < w 1 0) → Agr (G11_table_39 m x y z) (G12_table_43 u x y z) := by
        intro z hz hz5
        obtain ⟨m', v', N, e1, e2, g1, g2, n1, hB, k1, k2, k3⟩ := run_pair h1 t2 hc hn hW hG hE hS hR hV hN c1 (s := y) (by first | decide | omega)
        have t3 : m' 0 3 = (T : Int) := by rw [g1 0 3 (by unfold PQ' PQ; first | decide | omega)]; exact t2
        have e10 : m' (T + 1) 0 = w 1 0 := by rw [g1 (T + 1) 0 (by unfold PQ' PQ; first | decide | omega)]; exact hc.1.2.2 1 0 (by first | decide | omega)
        have er : m' (76 + 2) = N 2 := funext fun i => n1.2.2 2 i (by first | decide | omega)
        unfold G11_table_39 G12_table_43
        rw [e1, e2, bs1, bs1]
        have k3' : m' 76 3 = N 0 3 := n1.2.1 3
        have k4' : m' 76 4 = N 0 4 := n1.2.1 4
        by_cases z5 : z = 5
        · rw [if_pos z5, if_pos (by first | decide | omega), if_pos z5, k3', k2]; exact agr h1 _ rfl rfl g1 g2
        · rw [if_neg z5]
          by_cases z6 : z = 6
          · rw [if_pos z6, if_pos (by first | decide | omega), if_neg z5, if_pos z6, k4', k3]; exact agr h1 _ rfl rfl g1 g2
          · rw [if_neg z6]
            by_cases z7 : z = 7
            · rw [if_pos z7, if_pos (by first | decide | omega), if_neg z5, if_neg z6, t3, Int.toNat_natCast, e10]
              rw [c_unl (w := w) (by first | decide | omega) (fun i p q => by rw [er]; have := (hB.2 i p q).2.1; first | decide | omega), r_unl (w := w) (f := N 2) (Or.inr rfl) (by have := (hR.q g2).1.2.2.1; exact this) (by first | decide | omega) (fun i p q => by
                rw [show 5 * (1 : Int) + i = 5 + i by first | decide | omega]
                refine ⟨k1 i p q, ?_⟩
                have := (hB.2 i p q).2.1
                omega), bs1, bs1, er]
              exact agr h1 _ rfl rfl g1 g2
            · rw [if_neg z7, if_neg (by first | decide | omega), gdx_t (by first | decide | omega), gdx_t (by first | decide | omega), er, k1 z hz.1 (hz5 (by first | decide | omega))]
              exact agr h1 _ rfl rfl g1 g2
      by_cases c3 : 0 ≤ z ∧ z ≤ 7
      · simp only [if_pos c3, if_neg i10, if_neg (show ¬ z < 0 by first | decide | omega), if_pos c3.2]
        by_cases c5 : 5 ≤ z
        · rw [if_pos c5, if_pos c5]
          exact main z c3 (by first | decide | omega)
        · rw [if_neg c5, if_neg c5, c_isS t2 hc.1, bs1, hR.1.2.2.1]
          by_cases c6 : z < w 1 0
          · simp only [if_pos c6, if_pos (show 0 ≤ z ∧ z < w 1 0 from ⟨c3.1, c6⟩), if_neg i10]
            exact main z c3 (fun _ => c6)
          · simp only [if_neg c6, if_neg (show ¬ (0 ≤ z ∧ z < w 1 0) from fun q => c6 q.2), if_true]
            exact agr0 h1 _ rfl rfl
      · simp only [if_neg c3, if_true]
        by_cases q : z < 0
        · rw [if_pos q]; exact agr0 h1 _ rfl rfl
        · rw [if_neg q, if_neg (by first | decide | omega)]; exact agr0 h1 _ rfl rfl
  · simp only [if_neg c1, if_true]; exact agr0 h1 _ rfl rfl
theorem uld_b {f : Int → Int} {B : Int} : ∀ (d : Nat) (i p q : Int), (∀ j, i ≤ j → j < i + d → 0 ≤ f j ∧ f j ≤ B) → (0 ≤ p ∧ p ≤ B) → (0 ≤ q ∧ q ≤ B) → -B ≤ uld f d i p q ∧ uld f d i p q ≤ B := by
  intro d
  induction d with
  | zero => intro i p q _ hp hq; show -B ≤ p - q ∧ p - q ≤ B; omega
  | succ d ih =>
    intro i p q h hp hq
    have h1 := h i (by first | decide | omega) (by first | decide | omega)
    show -B ≤ uld f d (i + 1) (if p < f i then f i else p) (if f i < q then f i else q) ∧ uld f d (i + 1) (if p < f i then f i else p) (if f i < q then f i else q) ≤ B
    exact ih (i + 1) _ _ (fun j x y => h j (by first | decide | omega) (by first | decide | omega)) (by split <;> omega) (by split <;> omega)
theorem ulk_b {f : Int → Int} {s B : Int} (hB : 0 ≤ B) (h : ∀ j, 0 ≤ j → j < s → 0 ≤ f j ∧ f j ≤ B) : -B ≤ ulk f s ∧ ulk f s ≤ B := by
  unfold ulk
  split
  · have h0 := h 0 (by first | decide | omega) (by first | decide | omega)
    exact uld_b _ _ _ _ (fun j x y => h j (by first | decide | omega) (by first | decide | omega)) h0 h0
  · omega
theorem fair_l {x : Int} (hx : 0 ≤ x ∧ x ≤ 2147483647) : ∀ (d k : Nat) (i b lu ll l : Int) (m v : Mem), Rel m v → 0 ≤ i → 4 - i = d → d < k → (b = -1 ∨ (0 ≤ b ∧ l = 1000 * lu + ll ∧ 0 ≤ ll ∧ ll < 1000)) → Agr (G11_fairest_16 k m x b lu ll i) (G12_fairest_18 k v x b l i) := by
  intro d
  induction d with
  | zero =>
    intro k i b lu ll l m v h a1 a2 a3 a4
    obtain ⟨k, rfl⟩ : ∃ j, k = j + 1 := ⟨k - 1, by first | decide | omega⟩
    rw [G11_fairest_16, G12_fairest_18, if_pos (by first | decide | omega), if_pos (by first | decide | omega)]
    exact agr0 h _ rfl rfl
  | succ d ih =>
    intro k i b lu ll l m v h a1 a2 a3 a4
    obtain ⟨k, rfl⟩ : ∃ j, k = j + 1 := ⟨k - 1, by first | decide | omega⟩
    obtain ⟨T, w, g, n, t1, t2, hc, hn, hW, hG, hE, hS, hR, hV, hL, -, -, hN⟩ := h.use
    have hw := hW.1
    unfold WS at hw
    obtain ⟨m', v', N, e1, e2, g1, g2, n1, hB, k1, k2, k3⟩ := run_pair h t2 hc hn hW hG hE hS hR hV hN (r := i) (by first | decide | omega) (s := x) (by first | decide | omega)
    have t3 : m' 0 3 = (T : Int) := by rw [g1 0 3 (by unfold PQ' PQ; first | decide | omega)]; exact t2
    have e10 : m' (T + 1) 0 = w 1 0 := by rw [g1 (T + 1) 0 (by unfold PQ' PQ; first | decide | omega)]; exact hc.1.2.2 1 0 (by first | decide | omega)
    have er : m' (76 + 2) = N 2 := funext fun i => n1.2.2 2 i (by first | decide | omega)
    have k3' : m' 76 3 = N 0 3 := n1.2.1 3
    have k4' : m' 76 4 = N 0 4 := n1.2.1 4
    have hub := ulk_b (f := N 2) (s := w 1 0) (B := 56) (by first | decide | omega) (fun j p q => by have := (hB.2 j p q).2.1; first | decide | omega)
    have hN0 := hB.1
    rw [G11_fairest_16, G12_fairest_18, if_neg (by first | decide | omega), if_neg (by first | decide | omega), e1, e2, bs1, bs1, t3, Int.toNat_natCast, e10]
    rw [c_unl (w := w) (by first | decide | omega) (fun i p q => by rw [er]; have := (hB.2 i p q).2.1; first | decide | omega), r_unl (w := w) (f := N 2) (Or.inr rfl) (by have := (hR.q g2).1.2.2.1; exact this) (by first | decide | omega) (fun i p q => by
      rw [show 5 * (1 : Int) + i = 5 + i by first | decide | omega]
      refine ⟨k1 i p q, ?_⟩
      have := (hB.2 i p q).2.1
      omega), bs1, bs1, er]
    simp only
    unfold G11_fairest_89 G12_fairest_69
    rw [k3', k4', k2, k3]
    have h' : Rel m' v' := h.q g1 g2
    generalize ulk (N 2) (w 1 0) = U at *
    have ga : ∀ y : Option (Int × Mem), gd3 (N 0 3 + N 0 4) y = y := fun y => gd3_t (by first | decide | omega)
    have gb : ∀ y : Option (Int × Mem), gd3 (i + 1) y = y := fun y => gd3_t (by first | decide | omega)
    have gc : ∀ y : Option (Int × Mem), gd3 (1000 * U + N 0 3 + N 0 4) y = y := fun y => gd3_t (by first | decide | omega)
    simp only [ga, gb, gc]
    have new := ih k (i + 1) i U (N 0 3 + N 0 4) (1000 * U + N 0 3 + N 0 4) m' v' h' (by first | decide | omega) (by first | decide | omega) (by first | decide | omega) (Or.inr ⟨by first | decide | omega, by first | decide | omega, by first | decide | omega, by first | decide | omega⟩)
    have old := ih k (i + 1) b lu ll l m' v' h' (by first | decide | omega) (by first | decide | omega) (by first | decide | omega) a4
    rcases a4 with hb | ⟨b1, b2, b3, b4⟩
    · rw [if_pos hb, if_pos (by first | decide | omega)]; exact new
    · rw [if_neg (by first | decide | omega), if_neg (show ¬ b < 0 by first | decide | omega)]
      by_cases c1 : U < lu
      · rw [if_pos c1, if_pos (by first | decide | omega)]; exact new
      · rw [if_neg c1]
        by_cases c2 : U = lu
        · rw [if_pos c2]
          by_cases c3 : ll ≤ N 0 3 + N 0 4
          · rw [if_pos c3, if_neg (by first | decide | omega)]; exact old
          · rw [if_neg c3, if_pos (by first | decide | omega)]; exact new
        · rw [if_neg c2, if_neg (by first | decide | omega)]; exact old
theorem a_fairest (h : Rel m v) (x : Int) (hx : x ≤ 2147483647) : Agr (G11_fairest m x) (G12_fairest v x) := by
  have h1 := h.v0
  unfold G11_fairest G11_fairest_0 G12_fairest G12_fairest_0
  rw [wt_e]
  generalize up v 0 2 0 = u at h1 ⊢
  by_cases c : 0 ≤ x
  · rw [if_pos c, if_pos c]
    exact fair_l ⟨c, hx⟩ 4 1024 0 (-1) 0 0 0 m u h1 (by first | decide | omega) (by first | decide | omega) (by first | decide | omega) (Or.inl rfl)
  · rw [if_neg c, if_neg c]; exact agr0 h1 _ rfl rfl
theorem chance_l {x y j : Int} : ∀ (d k : Nat) (i o s : Int) (m v : Mem), Rel m (up v 0 65 j) → (∀ w, RT v w → 0 ≤ x ∧ x < w 1 0) → v 0 65 = s → (0 ≤ s ∧ s < 2147483648) → 0 ≤ i → 10 - i = d → d < k → (0 ≤ o ∧ o ≤ i) → (0 ≤ y ∧ y ≤ 28) → Agr (G11_chance_33 k m x y o s i) (G12_chance_47 k v x y j o i) := by
  intro d
  induction d with
  | zero =>
    intro k i o s m v h hx h65 hs a1 a2 a3 a4 hy
    obtain ⟨k, rfl⟩ : ∃ j, k = j + 1 := ⟨k - 1, by first | decide | omega⟩
    rw [G11_chance_33, G12_chance_47, if_pos (by first | decide | omega), if_pos (by first | decide | omega), wt_e]
    exact agr0 h _ rfl rfl
  | succ d ih =>
    intro k i o s m v h hx h65 hs a1 a2 a3 a4 hy
    obtain ⟨k, rfl⟩ : ∃ j, k = j + 1 := ⟨k - 1, by first | decide | omega⟩
    obtain ⟨T, w, g, n, t1, t2, hc, hn, hW, hG, hE, hS, hR, hV, hL, -, -, hN⟩ := h.use
    have hw := hW.1
    unfold WS at hw
    obtain ⟨f1, f2, _, _⟩ := ff_spec (w := w) (by first | decide | omega) (n 0 0)
    have g0 : Fm PRn (up v 0 65 j) v := by
      intro b i z
      have : ¬ (b = 0 ∧ i = 65) := fun q => z (Or.inr q)
      exact (if_neg this).symm
    have hR0 := hR.rn g0
    have hB0 := hV.b0.fr (by first | decide | omega) g0
    have hx0 := hx w hR0
    have hrule := hS.1.1
    obtain ⟨m', n', e1, g1, t, n1⟩ := c_runBy t2 hc hn hW hG hS hN (r := n 0 1) (by first | decide | omega) hs
    obtain ⟨v1, v2, e2, e64, e3, g3, h66, n2⟩ := r_lg hW hS hR0 hB0 (by rw [g0 0 66 (by unfold PRn PMq; first | decide | omega)]; exact hV.2.2.2.2) t (by first | decide | omega) hs h65
    rw [rnd_ge hE (by first | decide | omega) _ _ _ f1 (by first | decide | omega)] at n1
    have hB := (rnd_nb (g := gM w (-1)) hW (w 8 1 - ff w (n 0 0)).toNat (ff w (n 0 0)) (2 * ff w (n 0 0)) n' f1 (by first | decide | omega) (by first | decide | omega) (TR_nb hW hS.1 (by first | decide | omega) t (by first | decide | omega) hs)).1
    generalize rnd w (gM w (-1)) (w 8 1 - ff w (n 0 0)).toNat (ff w (n 0 0)) n' = N at *
    have e69 : m 69 1 = n 0 1 := hn.2.1 1
    have ek : v1 0 64 = n 0 1 := by rw [e64]; exact hB0.2.2.2
    rw [G11_chance_33, G12_chance_47, if_neg (by first | decide | omega), if_neg (by first | decide | omega), e69, e1, bs1, e2, bs1, ek, e3, bs1, gdx_t (by first | decide | omega), gdx_t (by first | decide | omega)]
    have k2 : m' (76 + 2) x = N 2 x := n1.2.2 2 x (by first | decide | omega)
    have k3 : v2 26 (5 + x) = N 2 x := by have := (n2.1 x hx0.1 hx0.2).2.1; rwa [show 5 * (1 : Int) + x = 5 + x by first | decide | omega] at this
    have k4 : m' 76 2 = N 0 2 := n1.2.1 2
    rw [k2, k3, k4]
    have h' : Rel m' (up v2 0 65 j) := h.q g1 (by
      intro b i z
      by_cases c : b = 0 ∧ i = 65
      · rw [c.1, c.2, up_e, up_e]
      · have c1 : up v2 0 65 j b i = v2 b i := if_neg c
        have c2 : up v 0 65 j b i = v b i := if_neg c
        rw [c1, c2]
        exact g3 b i (by unfold PRn; exact fun y => y.elim z c))
    have hx' : ∀ w, RT v2 w → 0 ≤ x ∧ x < w 1 0 := fun w' hw' => by
      have : w' 1 0 = w 1 0 := by rw [← hw'.1.2.2.1, ← (hR0.rn g3).1.2.2.1]
      rw [this]; exact hx0
    have hn2 : v2 0 65 = N 0 2 := n2.2.2.2.2
    have hb2 := hB.1
    have ga : ∀ y : Option (Int × Mem), gd3 (i + 1) y = y := fun y => gd3_t (by first | decide | omega)
    have gb : ∀ y : Option (Int × Mem), gd3 (o + 1) y = y := fun y => gd3_t (by first | decide | omega)
    have gc : ∀ y : Option (Int × Mem), gd3 (o + 0) y = y := fun y => gd3_t (by first | decide | omega)
    simp only [ga, gb, gc]
    by_cases c : N 2 x < y
    · rw [if_pos c, if_pos c, Int.add_zero]
      exact ih k (i + 1) o (N 0 2) m' v2 h' hx' hn2 (by first | decide | omega) (by first | decide | omega) (by first | decide | omega) (by first | decide | omega) (by first | decide | omega) hy
    · rw [if_neg c, if_neg c]
      exact ih k (i + 1) (o + 1) (N 0 2) m' v2 h' hx' hn2 (by first | decide | omega) (by first | decide | omega) (by first | decide | omega) (by first | decide | omega) (by first | decide | omega) hy
theorem a_chance (h : Rel m v) (x y z : Int) (hx : x ≤ 2147483647) : Agr (G11_chance m x y z) (G12_chance v x y z) := by
  have h1 := h.v0
  unfold G11_chance G11_chance_0 G12_chance G12_chance_0
  rw [wt_e]
  generalize up v 0 2 0 = u at h1 ⊢
  obtain ⟨T, w, g, n, t1, t2, hc, hn, hW, hG, hE, hS, hR, hV, hL, -, -, hN⟩ := h1.use
  by_cases c1 : x < 0
  · rw [if_pos c1, if_pos c1]; exact agr0 h1 _ rfl rfl
  · rw [if_neg c1, if_neg c1, c_isS t2 hc.1, r_isS hR, bs1, bs1]
    by_cases c2 : 0 ≤ y ∧ y < w 1 0
    · simp only [if_pos c2, if_neg i10]
      rw [r_isIn, bs1]
      by_cases c3 : 0 ≤ z ∧ z ≤ 28
      · simp only [if_pos c3, if_neg i10, if_neg (show ¬ z < 0 by first | decide | omega), if_pos c3.2]
        rw [wt_e]
        have eu : up (up u 0 65 x) 0 65 (u 0 65) = u := by
          funext b i
          by_cases c : b = 0 ∧ i = 65
          · rw [c.1, c.2, up_e]
          · have e1 : up (up u 0 65 x) 0 65 (u 0 65) b i = up u 0 65 x b i := if_neg c
            have e2 : up u 0 65 x b i = u b i := if_neg c
            rw [e1, e2]
        refine chance_l 10 1024 0 0 x m (up u 0 65 x) (by rw [eu]; exact h1) (fun w' hw' => ?_) up_e (by first | decide | omega) (by first | decide | omega) (by first | decide | omega) (by first | decide | omega) (by first | decide | omega) c3
        have : w' 1 0 = w 1 0 := by rw [← hw'.1.2.2.1, ← hR.1.2.2.1, up_i (by first | decide | omega)]
        rw [this]; exact c2
      · simp only [if_neg c3, if_true]
        by_cases q : z < 0
        · rw [if_pos q]; exact agr0 h1 _ rfl rfl
        · rw [if_neg q, if_neg (by first | decide | omega)]; exact agr0 h1 _ rfl rfl
    · simp only [if_neg c2, if_true]; exact agr0 h1 _ rfl rfl
end Q7
/-! What is tried otherwise. -/
section Q8
variable {m v w g n : Mem} {T : Nat}
theorem fill1 {s : Nat} (x : Int) : ∀ (d k : Nat) (i : Int) (m : Mem), 0 ≤ i → 5 - i = d → d < k → (∀ j, 0 ≤ j → j < i → m (s + 1) j = x) → ∃ m', G6_giveBoards_2 k m s x i = some m' ∧ Fr (fun b => b = s + 1) m m' ∧ ∀ j, 0 ≤ j → j < 5 → m' (s + 1) j = x := by
  intro d
  induction d with
  | zero =>
    intro k i m a1 a2 a3 h
    obtain ⟨k, rfl⟩ : ∃ j, k = j + 1 := ⟨k - 1, by first | decide | omega⟩
    rw [G6_giveBoards_2, if_pos (by first | decide | omega)]
    exact ⟨m, rfl, Fr.rf, fun j p q => h j p (by first | decide | omega)⟩
  | succ d ih =>
    intro k i m a1 a2 a3 h
    obtain ⟨k, rfl⟩ : ∃ j, k = j + 1 := ⟨k - 1, by first | decide | omega⟩
    rw [G6_giveBoards_2, if_neg (by first | decide | omega), gdx_t (by first | decide | omega), wt_e, gd3_t (by first | decide | omega)]
    obtain ⟨m', e, f, q⟩ := ih k (i + 1) (up m (s + 1) i x) (by first | decide | omega) (by first | decide | omega) (by first | decide | omega) (fun j p q => by
      by_cases z : j = i
      · subst z; rw [up_e]
      · rw [up_i z]; exact h j p (by first | decide | omega))
    exact ⟨m', e, Fr.tr (Fr.up (P := fun b => b = s + 1) Fr.rf rfl) f, q⟩
theorem fill2 {s : Nat} : ∀ (d k : Nat) (i : Int) (m : Mem), 0 ≤ i → 5 - i = d → d < k → (∀ j, 0 ≤ j → j < i → m (s + 2) j = 0) → ∃ m', G6_makeNobodyBold_2 k m s i = some m' ∧ Fr (fun b => b = s + 2) m m' ∧ ∀ j, 0 ≤ j → j < 5 → m' (s + 2) j = 0 := by
  intro d
  induction d with
  | zero =>
    intro k i m a1 a2 a3 h
    obtain ⟨k, rfl⟩ : ∃ j, k = j + 1 := ⟨k - 1, by first | decide | omega⟩
    rw [G6_makeNobodyBold_2, if_pos (by first | decide | omega)]
    exact ⟨m, rfl, Fr.rf, fun j p q => h j p (by first | decide | omega)⟩
  | succ d ih =>
    intro k i m a1 a2 a3 h
    obtain ⟨k, rfl⟩ : ∃ j, k = j + 1 := ⟨k - 1, by first | decide | omega⟩
    rw [G6_makeNobodyBold_2, if_neg (by first | decide | omega), gdx_t (by first | decide | omega), wt_e, gd3_t (by first | decide | omega)]
    obtain ⟨m', e, f, q⟩ := ih k (i + 1) (up m (s + 2) i 0) (by first | decide | omega) (by first | decide | omega) (by first | decide | omega) (fun j p q => by
      by_cases z : j = i
      · subst z; rw [up_e]
      · rw [up_i z]; exact h j p (by first | decide | omega))
    exact ⟨m', e, Fr.tr (Fr.up (P := fun b => b = s + 2) Fr.rf rfl) f, q⟩
theorem fill3 {s : Nat} (hs : s = 60) (hT : T = 2 ∨ T = 24) (x : Int) : ∀ (d k : Nat) (i : Int) (m : Mem), 0 ≤ i → 28 - i = d → d < k → m s 0 = (T : Int) → m T 2 = x → (∀ j, 0 ≤ j → j < i → m (s + 3) j = x) → ∃ m', G6_holdPeak_2 k m s i = some m' ∧ Fr (fun b => b = s + 3) m m' ∧ ∀ j, 0 ≤ j → j < 28 → m' (s + 3) j = x := by
  intro d
  induction d with
  | zero =>
    intro k i m a1 a2 a3 h0 h2 h
    obtain ⟨k, rfl⟩ : ∃ j, k = j + 1 := ⟨k - 1, by first | decide | omega⟩
    rw [G6_holdPeak_2, if_pos (by first | decide | omega)]
    exact ⟨m, rfl, Fr.rf, fun j p q => h j p (by first | decide | omega)⟩
  | succ d ih =>
    intro k i m a1 a2 a3 h0 h2 h
    obtain ⟨k, rfl⟩ : ∃ j, k = j + 1 := ⟨k - 1, by first | decide | omega⟩
    rw [G6_holdPeak_2, if_neg (by first | decide | omega), gdx_t (by first | decide | omega), h0, Int.toNat_natCast, h2, wt_e, gd3_t (by first | decide | omega)]
    obtain ⟨m', e, f, q⟩ := ih k (i + 1) (up m (s + 3) i x) (by first | decide | omega) (by first | decide | omega) (by first | decide | omega) (by rw [up_a (by first | decide | omega)]; exact h0) (by rw [up_a (by first | decide | omega)]; exact h2) (fun j p q => by
      by_cases z : j = i
      · subst z; rw [up_e]
      · rw [up_i z]; exact h j p (by first | decide | omega))
    exact ⟨m', e, Fr.tr (Fr.up (P := fun b => b = s + 3) Fr.rf rfl) f, q⟩
theorem fillc {a : Nat} (x : Int) : ∀ (d k : Nat) (i : Int) (m : Mem), 0 ≤ i → 5 - i = d → d < k → (∀ j, 0 ≤ j → j < i → m (a + 1) j = x) → ∃ m', G4_seatAll_2 k m a x i = some m' ∧ Fr (fun b => b = a + 1) m m' ∧ ∀ j, 0 ≤ j → j < 5 → m' (a + 1) j = x := by
  intro d
  induction d with
  | zero =>
    intro k i m a1 a2 a3 h
    obtain ⟨k, rfl⟩ : ∃ j, k = j + 1 := ⟨k - 1, by first | decide | omega⟩
    rw [G4_seatAll_2, if_pos (by first | decide | omega)]
    exact ⟨m, rfl, Fr.rf, fun j p q => h j p (by first | decide | omega)⟩
  | succ d ih =>
    intro k i m a1 a2 a3 h
    obtain ⟨k, rfl⟩ : ∃ j, k = j + 1 := ⟨k - 1, by first | decide | omega⟩
    rw [G4_seatAll_2, if_neg (by first | decide | omega), gdx_t (by first | decide | omega), wt_e, gd3_t (by first | decide | omega)]
    obtain ⟨m', e, f, q⟩ := ih k (i + 1) (up m (a + 1) i x) (by first | decide | omega) (by first | decide | omega) (by first | decide | omega) (fun j p q => by
      by_cases z : j = i
      · subst z; rw [up_e]
      · rw [up_i z]; exact h j p (by first | decide | omega))
    exact ⟨m', e, Fr.tr (Fr.up (P := fun b => b = a + 1) Fr.rf rfl) f, q⟩
/-- n'' is n' with what is tried: one left out, or all at one's cell -/
def TW (w n' n'' : Mem) (way one : Int) : Prop := n'' 0 = n' 0 ∧ n'' 2 = n' 2 ∧ n'' 3 = n' 3 ∧ n'' 6 = n' 6 ∧ (∀ i, 0 ≤ i → i < w 1 0 → n'' 1 i = if way = 4 then n' 1 one else n' 1 i) ∧ (∀ i, 0 ≤ i → i < w 1 0 → n'' 4 i = if way = 1 ∧ one = i then 2147483647 else n' 4 i)
/-- the surf of the class that is tried with -/
theorem c_chg (hc : CX m 60 T w g) (hW : WW w) (hn : NX m 76 n) (hE : GE w g (gM w (-1))) {x y : Int} (hx : 0 ≤ x ∧ x ≤ 4) (hy : 0 ≤ y ∧ y < 5) : ∃ m', G11_changeTrial m x y = some m' ∧ Fr PQ' m m' ∧ CX m' 60 T w (sl 3 m' 60) ∧ GE w (sl 3 m' 60) (gM w x) ∧ TW w n (sl 6 m' 76) x y := by
  have hw := hW.1
  unfold WS at hw
  have hT := hc.1.1
  have tw0 : ∀ m' : Mem, NX m' 76 n → ¬ x = 4 → ¬ x = 1 → TW w n (sl 6 m' 76) x y := fun m' h a b => by
    refine ⟨NX_u h 0 (by first | decide | omega), NX_u h 2 (by first | decide | omega), NX_u h 3 (by first | decide | omega), NX_u h 6 (by first | decide | omega), fun i _ _ => ?_, fun i _ _ => ?_⟩
    · rw [if_neg a, NX_u h 1 (by first | decide | omega)]
    · rw [if_neg (fun q => b q.1), NX_u h 4 (by first | decide | omega)]
  have same : ∀ m' : Mem, CX m' 60 T w g → CX m' 60 T w (sl 3 m' 60) ∧ (∀ c, 1 ≤ c → c ≤ 3 → sl 3 m' 60 c = g c) := fun m' h => ⟨⟨h.1, h.2.1, h.2.2.1, fun c i _ b => (sl_e b i).symm⟩, fun c a b => by funext i; rw [sl_e b]; exact h.2.2.2 c i a b⟩
  have bdn : ∀ way s : Int, ¬ way = 3 → bdM w way s = w 4 s := fun way s h => if_neg h
  have pxn : ∀ way mn : Int, ¬ way = 2 → pxM w way mn = pkX w mn := fun way mn h => if_neg h
  unfold G11_changeTrial G11_changeTrial_0
  by_cases x0 : x = 0
  · rw [if_pos x0]
    obtain ⟨m', e, f, q⟩ := fill2 (s := 60) 5 1024 0 m (by first | decide | omega) (by first | decide | omega) (by first | decide | omega) (fun j p q => by first | decide | omega)
    unfold G6_makeNobodyBold G6_makeNobodyBold_0
    rw [e, bs1]
    have fq : Fr PQ' m m' := f.mono (by intro b z; have : b = 60 + 2 := z; unfold PQ' PQ; first | decide | omega)
    refine ⟨m', rfl, fq, ⟨hc.1.fr f (by intro b a c; show ¬ b = 62; first | decide | omega), Or.inr rfl, by rw [f 60 0 (by show ¬ (60 : Nat) = 62; first | decide | omega)]; exact hc.2.2.1, fun c i _ b => (sl_e b i).symm⟩, ⟨fun i p r => ?_, fun k p r => ?_⟩, tw0 m' (hn.fr f (by intro b a c; show ¬ b = 62; first | decide | omega)) (by first | decide | omega) (by first | decide | omega)⟩
    · have h1 := hE.1 i p r
      rw [sl_e (by first | decide | omega), sl_e (by first | decide | omega), q i p (by first | decide | omega), f (60 + 1) i (by show ¬ (61 : Nat) = 62; first | decide | omega), hc.2.2.2 1 i (by first | decide | omega) (by first | decide | omega), h1.1]
      refine ⟨?_, ?_⟩
      · rw [gM1, gM1, bdn (-1) _ (by first | decide | omega), bdn x _ (by first | decide | omega)]
      · show (0 : Int) = if x = 0 then 0 else w 6 i
        rw [if_pos x0]
    · rw [sl_e (by first | decide | omega), f (60 + 3) k (by show ¬ (63 : Nat) = 62; first | decide | omega), hc.2.2.2 3 k (by first | decide | omega) (by first | decide | omega), hE.2 k p r, gM3, gM3, pxn (-1) _ (by first | decide | omega), pxn x _ (by first | decide | omega)]
  · rw [if_neg x0]
    by_cases x1 : x = 1
    · rw [if_pos x1]
      unfold G4_leaveOut G4_leaveOut_0
      rw [gdx_t hy, wt_e, bs1]
      have f : Fr (fun b => b = 76 + 4) m (up m (76 + 4) y 2147483647) := Fr.up Fr.rf rfl
      have hc' := hc.fr f (by intro b q; show ¬ b = 80; first | decide | omega)
      obtain ⟨s1, s2⟩ := same _ hc'
      refine ⟨_, rfl, f.mono (by intro b z; have : b = 76 + 4 := z; unfold PQ' PQ; first | decide | omega), s1, ⟨fun i p r => ?_, fun k p r => ?_⟩, ?_⟩
      · have h1 := hE.1 i p r
        rw [s2 1 (by first | decide | omega) (by first | decide | omega), s2 2 (by first | decide | omega) (by first | decide | omega), h1.1, h1.2]
        refine ⟨by rw [gM1, gM1, bdn (-1) _ (by first | decide | omega), bdn x _ (by first | decide | omega)], ?_⟩
        show (if (-1 : Int) = 0 then 0 else w 6 i) = if x = 0 then 0 else w 6 i
        rw [if_neg (by first | decide | omega), if_neg x0]
      · rw [s2 3 (by first | decide | omega) (by first | decide | omega), hE.2 k p r, gM3, gM3, pxn (-1) _ (by first | decide | omega), pxn x _ (by first | decide | omega)]
      · have hn' := hn.up 4 (by first | decide | omega) y 2147483647
        refine ⟨?_, ?_, ?_, ?_, fun i p r => ?_, fun i p r => ?_⟩
        · rw [NX_u hn' 0 (by first | decide | omega), up_b (by first | decide | omega)]
        · rw [NX_u hn' 2 (by first | decide | omega), up_b (by first | decide | omega)]
        · rw [NX_u hn' 3 (by first | decide | omega), up_b (by first | decide | omega)]
        · rw [NX_u hn' 6 (by first | decide | omega), up_b (by first | decide | omega)]
        · rw [NX_u hn' 1 (by first | decide | omega), up_b (by first | decide | omega), if_neg (by first | decide | omega)]
        · rw [NX_u hn' 4 (by first | decide | omega)]
          by_cases z : y = i
          · subst z; rw [up_e, if_pos ⟨x1, rfl⟩]
          · rw [up_i (fun q => z q.symm), if_neg (fun q => z q.2)]
    · rw [if_neg x1]
      by_cases x2 : x = 2
      · rw [if_pos x2]
        obtain ⟨m', e, f, q⟩ := fill3 (s := 60) rfl hT (w 0 2) 28 1024 0 m (by first | decide | omega) (by first | decide | omega) (by first | decide | omega) hc.2.2.1 (hc.1.2.1 2) (fun j p q => by first | decide | omega)
        unfold G6_holdPeak G6_holdPeak_0
        rw [e, bs1]
        refine ⟨m', rfl, f.mono (by intro b z; have : b = 60 + 3 := z; unfold PQ' PQ; first | decide | omega), ⟨hc.1.fr f (by intro b a c; show ¬ b = 63; first | decide | omega), Or.inr rfl, by rw [f 60 0 (by show ¬ (60 : Nat) = 63; first | decide | omega)]; exact hc.2.2.1, fun c i _ b => (sl_e b i).symm⟩, ⟨fun i p r => ?_, fun k p r => ?_⟩, tw0 m' (hn.fr f (by intro b a c; show ¬ b = 63; first | decide | omega)) (by first | decide | omega) (by first | decide | omega)⟩
        · have h1 := hE.1 i p r
          rw [sl_e (by first | decide | omega), sl_e (by first | decide | omega), f (60 + 1) i (by show ¬ (61 : Nat) = 63; first | decide | omega), f (60 + 2) i (by show ¬ (62 : Nat) = 63; first | decide | omega), hc.2.2.2 1 i (by first | decide | omega) (by first | decide | omega), hc.2.2.2 2 i (by first | decide | omega) (by first | decide | omega), h1.1, h1.2]
          refine ⟨by rw [gM1, gM1, bdn (-1) _ (by first | decide | omega), bdn x _ (by first | decide | omega)], ?_⟩
          show (if (-1 : Int) = 0 then 0 else w 6 i) = if x = 0 then 0 else w 6 i
          rw [if_neg (by first | decide | omega), if_neg x0]
        · rw [sl_e (by first | decide | omega), q k p (by first | decide | omega), gM3]
          show w 0 2 = if x = 2 then w 0 2 else pkX w (w 11 k)
          rw [if_pos x2]
      · rw [if_neg x2]
        by_cases x3 : x = 3
        · rw [if_pos x3]
          obtain ⟨m', e, f, q⟩ := fill1 (s := 60) 9 5 1024 0 m (by first | decide | omega) (by first | decide | omega) (by first | decide | omega) (fun j p q => by first | decide | omega)
          unfold G6_giveBoards G6_giveBoards_0
          rw [e, bs1]
          refine ⟨m', rfl, f.mono (by intro b z; have : b = 60 + 1 := z; unfold PQ' PQ; first | decide | omega), ⟨hc.1.fr f (by intro b a c; show ¬ b = 61; first | decide | omega), Or.inr rfl, by rw [f 60 0 (by show ¬ (60 : Nat) = 61; first | decide | omega)]; exact hc.2.2.1, fun c i _ b => (sl_e b i).symm⟩, ⟨fun i p r => ?_, fun k p r => ?_⟩, tw0 m' (hn.fr f (by intro b a c; show ¬ b = 61; first | decide | omega)) (by first | decide | omega) (by first | decide | omega)⟩
          · have h1 := hE.1 i p r
            rw [sl_e (by first | decide | omega), sl_e (by first | decide | omega), q i p (by first | decide | omega), f (60 + 2) i (by show ¬ (62 : Nat) = 61; first | decide | omega), hc.2.2.2 2 i (by first | decide | omega) (by first | decide | omega), h1.2]
            refine ⟨?_, ?_⟩
            · rw [gM1]; show (9 : Int) = if x = 3 then 9 else w 4 i; rw [if_pos x3]
            · show (if (-1 : Int) = 0 then 0 else w 6 i) = if x = 0 then 0 else w 6 i
              rw [if_neg (by first | decide | omega), if_neg x0]
          · rw [sl_e (by first | decide | omega), f (60 + 3) k (by show ¬ (63 : Nat) = 61; first | decide | omega), hc.2.2.2 3 k (by first | decide | omega) (by first | decide | omega), hE.2 k p r, gM3, gM3, pxn (-1) _ (by first | decide | omega), pxn x _ (by first | decide | omega)]
        · have x4 : x = 4 := by omega
          rw [if_neg x3, gdx_t hy]
          obtain ⟨m', e, f, q⟩ := fillc (a := 76) (m (76 + 1) y) 5 1024 0 m (by first | decide | omega) (by first | decide | omega) (by first | decide | omega) (fun j p q => by first | decide | omega)
          unfold G4_seatAll G4_seatAll_0
          rw [e, bs1]
          have hc' := hc.fr f (by intro b q; show ¬ b = 77; first | decide | omega)
          obtain ⟨s1, s2⟩ := same _ hc'
          refine ⟨m', rfl, f.mono (by intro b z; have : b = 76 + 1 := z; unfold PQ' PQ; first | decide | omega), s1, ⟨fun i p r => ?_, fun k p r => ?_⟩, ?_⟩
          · have h1 := hE.1 i p r
            rw [s2 1 (by first | decide | omega) (by first | decide | omega), s2 2 (by first | decide | omega) (by first | decide | omega), h1.1, h1.2]
            refine ⟨by rw [gM1, gM1, bdn (-1) _ (by first | decide | omega), bdn x _ (by first | decide | omega)], ?_⟩
            show (if (-1 : Int) = 0 then 0 else w 6 i) = if x = 0 then 0 else w 6 i
            rw [if_neg (by first | decide | omega), if_neg x0]
          · rw [s2 3 (by first | decide | omega) (by first | decide | omega), hE.2 k p r, gM3, gM3, pxn (-1) _ (by first | decide | omega), pxn x _ (by first | decide | omega)]
          · have row : ∀ c, c ≤ 6 → c ≠ 1 → sl 6 m' 76 c = n c := fun c a b => by
              funext i
              rw [sl_e a, f (76 + c) i (by show ¬ 76 + c = 76 + 1; first | decide | omega)]
              exact hn.2.2 c i a
            refine ⟨row 0 (by first | decide | omega) (by first | decide | omega), row 2 (by first | decide | omega) (by first | decide | omega), row 3 (by first | decide | omega) (by first | decide | omega), row 6 (by first | decide | omega) (by first | decide | omega), fun i p r => ?_, fun i p r => ?_⟩
            · rw [sl_e (by first | decide | omega), q i p (by first | decide | omega), if_pos x4]; exact hn.2.2 1 y (by first | decide | omega)
            · rw [row 4 (by first | decide | omega) (by first | decide | omega), if_neg (by first | decide | omega)]
theorem c_over60 (hc : CX m 51 T w g) (hW : WW w) : ∃ m', G6_takeOver m 60 51 = some m' ∧ Fr (fun b => 60 ≤ b ∧ b ≤ 63) m m' ∧ CX m' 60 T w (sl 3 m' 60) ∧ GE w (sl 3 m' 60) g := by
  have hw := hW.1
  unfold WS at hw
  have hT := hc.1.1
  unfold G6_takeOver G6_takeOver_0
  simp only [wt_e]
  rw [hc.2.2.1, Int.toNat_natCast]
  refine ⟨_, rfl, ?_, ⟨hc.1.fr (P := fun b => 60 ≤ b ∧ b ≤ 63) ?_ (by intro b a c; first | decide | omega), Or.inr rfl, ?_, fun c i _ b => (sl_e b i).symm⟩, ⟨fun i p q => ?_, fun k p q => ?_⟩⟩
  · intro b i hb
    simp (disch := omega) only [up_a, cpy_a]
  · intro b i hb
    simp (disch := omega) only [up_a, cpy_a]
  · simp (disch := omega) only [cpy_a, up_e]
  · have e : (0 : Int) + (i - 0) = i := by omega
    rw [sl_e (by first | decide | omega), sl_e (by first | decide | omega)]
    simp (disch := omega) only [up_a, cpy_a, cpy_in, e]
    exact ⟨hc.2.2.2 1 i (by first | decide | omega) (by first | decide | omega), hc.2.2.2 2 i (by first | decide | omega) (by first | decide | omega)⟩
  · have e : (0 : Int) + (k - 0) = k := by omega
    rw [sl_e (by first | decide | omega)]
    simp (disch := omega) only [up_a, cpy_a, cpy_in, e]
    exact hc.2.2.2 3 k (by first | decide | omega) (by first | decide | omega)
theorem GE.trans {g1 g2 g3 : Mem} (a : GE w g1 g2) (b : GE w g2 g3) : GE w g1 g3 := ⟨fun i p q => ⟨(a.1 i p q).1.trans (b.1 i p q).1, (a.1 i p q).2.trans (b.1 i p q).2⟩, fun k p q => (a.2 k p q).trans (b.2 k p q)⟩
theorem GB_of (hW : WW w) {way : Int} {g' : Mem} (h : GE w g' (gM w way)) : GB w g' := by
  refine ⟨fun i p q => ?_, fun k p q => ?_⟩
  · have h1 := h.1 i p q
    have hb := bdM_b hW (way := way) ⟨p, q⟩
    have hc := hW.2.1 i p q
    rw [h1.1, h1.2, gM1]
    refine ⟨hb.1, hb.2, ?_⟩
    show 0 ≤ (if way = 0 then 0 else w 6 i) ∧ (if way = 0 then 0 else w 6 i) ≤ 100
    split <;> omega
  · rw [h.2 k p q, gM3]; exact pxM_b hW
theorem c_tr96 (hW : WW w) (hG : GB w g) : ∀ (d k : Nat) (i f : Int) (n m : Mem), 0 ≤ i → w 8 1 - i = d → d < k → 0 ≤ f → f + 2 * d ≤ 900 → m 0 3 = (T : Int) → CX m 60 T w g → NX m 76 n → NB w n f → ∃ m', G11_tried_96 k m i = some (smd ((rnd w g d i n) 2) (w 1 0).toNat 0, m') ∧ Fr (PW 60 76) m m' := by
  have hw := hW.1
  unfold WS at hw
  intro d
  induction d with
  | zero =>
    intro k i f n m a1 a2 a3 a4 a5 t2 hc hn hB
    obtain ⟨k, rfl⟩ : ∃ j, k = j + 1 := ⟨k - 1, by first | decide | omega⟩
    have er : m (76 + 2) = n 2 := funext fun i => hn.2.2 2 i (by first | decide | omega)
    rw [G11_tried_96, t2, Int.toNat_natCast, hc.1.2.2 8 1 (by first | decide | omega), if_pos (by first | decide | omega), hc.1.2.2 1 0 (by first | decide | omega), c_his (w := w) (by first | decide | omega) (fun i p q => by rw [er]; have := (hB.2 i p q).2.1; first | decide | omega), bs1, er]
    exact ⟨m, rfl, Fr.rf⟩
  | succ d ih =>
    intro k i f n m a1 a2 a3 a4 a5 t2 hc hn hB
    obtain ⟨k, rfl⟩ : ∃ j, k = j + 1 := ⟨k - 1, by first | decide | omega⟩
    obtain ⟨m1, e1, f1, n1⟩ := g_bring hc hW hG hn hB (by first | decide | omega) (v := i) (by first | decide | omega)
    rw [G11_tried_96, t2, Int.toNat_natCast, hc.1.2.2 8 1 (by first | decide | omega), if_neg (by first | decide | omega), e1, bs1, gd3_t (by first | decide | omega)]
    obtain ⟨m', e2, f2⟩ := ih k (i + 1) (f + 2) (bw w g n i (w 11 i)) m1 (by first | decide | omega) (by first | decide | omega) (by first | decide | omega) (by first | decide | omega) (by first | decide | omega) (by rw [f1 0 3 (by unfold PW PL PA; first | decide | omega)]; exact t2) (hc.pw (by first | decide | omega) f1) n1 (bw_nb hW hB a4 (by first | decide | omega))
    exact ⟨m', by rw [rnd_s]; exact e2, f1.tr f2⟩
theorem TW_nb {n' n'' : Mem} {way one f : Int} (h : TW w n' n'' way one) (hB : NB w n' f) (ho : way = 4 → 0 ≤ one ∧ one < w 1 0) : NB w n'' f := by
  obtain ⟨h0, h2, h3, h6, h1, h4⟩ := h
  refine ⟨by rw [h0]; exact hB.1, fun i p q => ?_⟩
  have hb := hB.2 i p q
  rw [h2, h3, h1 i p q, h4 i p q]
  refine ⟨?_, hb.2.1, hb.2.2.1, ?_⟩
  · split
    · rename_i z; exact (hB.2 one (ho z).1 (ho z).2).1
    · exact hb.1
  · split
    · omega
    · exact hb.2.2.2
/-- the reference's seats of bank 1 -/
theorem r_tr76 {x y j : Int} (hw5 : w 1 0 ≤ 5) (hy : x = 4 → 0 ≤ y ∧ y < 5) {n' n'' : Mem} (htw : TW w n' n'' x y) : ∀ (d k : Nat) (i : Int) (v : Mem), 0 ≤ i → w 1 0 - i = d → d < k → v 0 14 = w 1 0 → (x = 4 → v 25 y = n' 1 y) → (∀ s, 0 ≤ s → s < w 1 0 → v 25 (5 + s) = if s < i then n'' 1 s else n' 1 s) → (¬ x = 4 → i = 0) → ∃ v', G12_tried_76 k v x y j i = G12_tried_111 v' j ∧ Fm (fun b i => b = 25 ∧ 5 ≤ i) v v' ∧ ∀ s, 0 ≤ s → s < w 1 0 → v' 25 (5 + s) = n'' 1 s := by
  intro d
  induction d with
  | zero =>
    intro k i v a1 a2 a3 h14 hy2 h h0
    obtain ⟨k, rfl⟩ : ∃ j, k = j + 1 := ⟨k - 1, by first | decide | omega⟩
    rw [G12_tried_76, h14, if_pos (by first | decide | omega)]
    exact ⟨v, rfl, Fm.rf, fun s p q => by rw [h s p q, if_pos (by first | decide | omega)]⟩
  | succ d ih =>
    intro k i v a1 a2 a3 h14 hy2 h h0
    obtain ⟨k, rfl⟩ : ∃ j, k = j + 1 := ⟨k - 1, by first | decide | omega⟩
    rw [G12_tried_76, h14, if_neg (by first | decide | omega)]
    by_cases c : x = 4
    · have hyb := hy c
      rw [if_pos c, gdx_t (by first | decide | omega), gdx_t (by first | decide | omega), wt_e, gd3_t (by first | decide | omega), hy2 c]
      obtain ⟨v', e1, f1, k1⟩ := ih k (i + 1) (up v 25 (5 + i) (n' 1 y)) (by first | decide | omega) (by first | decide | omega) (by first | decide | omega) (by rw [up_a (by first | decide | omega)]; exact h14) (fun z => by rw [up_i (by first | decide | omega)]; exact hy2 z) (fun s p q => by
        have e4 := htw.2.2.2.2.1 s p q
        rw [if_pos c] at e4
        by_cases z : s = i
        · subst z; rw [up_e, if_pos (by first | decide | omega), e4]
        · rw [up_i (by first | decide | omega), h s p q]
          by_cases z2 : s < i
          · rw [if_pos z2, if_pos (by first | decide | omega)]
          · rw [if_neg z2, if_neg (by first | decide | omega)]) (fun z => absurd c z)
      exact ⟨v', e1, (Fm.w1 ⟨rfl, by first | decide | omega⟩).tr f1, k1⟩
    · rw [if_neg c]
      have hi0 := h0 c
      refine ⟨v, rfl, Fm.rf, fun s p q => ?_⟩
      have e4 := htw.2.2.2.2.1 s p q
      rw [if_neg c] at e4
      rw [h s p q, if_neg (by first | decide | omega), e4]
theorem tried_m (h1 : Rel m v) {x y z : Int} (hx : 0 ≤ x ∧ x ≤ 4) (hz : 0 ≤ z ∧ z ≤ 2147483647) (hy : ∀ w, RT v w → (if x = 1 ∨ x = 4 then 0 ≤ y ∧ y < w 1 0 else y = 0)) : Agr (G11_tried_54 m x y z) (G12_tried_47 v x y z) := by
  obtain ⟨T, w, g, n, t1, t2, hc, hn, hW, hG, hE, hS, hR, hV, hL, -, -, hN⟩ := h1.use
  have hw := hW.1
  unfold WS at hw
  have hy := hy w hR
  have hy5 : 0 ≤ y ∧ y < 5 := by
    by_cases c : x = 1 ∨ x = 4
    · rw [if_pos c] at hy; omega
    · rw [if_neg c] at hy; omega
  have hyS : x = 4 → 0 ≤ y ∧ y < w 1 0 := fun c => by rw [if_pos (Or.inr c)] at hy; exact hy
  have hmn := hS.2.1
  obtain ⟨f1, f2, _, _⟩ := ff_spec (w := w) (by first | decide | omega) (n 0 0)
  have e69 : m 69 1 = n 0 1 := hn.2.1 1
  have hrule := hS.1.1
  -- the class
  obtain ⟨m1, e1, g1, t⟩ := c_trun (m := m) (n 0 1) z
  rw [← hN] at t
  have hc1 : CX m1 51 T w g := hc.fr g1 (by intro b q; unfold PA; have := hc.1.1; first | decide | omega)
  obtain ⟨m2, e2, g2, c2, ge2⟩ := c_over60 hc1 hW
  have n2 : NX m2 76 (sl 6 m1 76) := (NX_sl (m := m1) (a := 76) (by first | decide | omega)).fr g2 (by intro b a c; first | decide | omega)
  obtain ⟨m3, e3, g3, c3, ge3, tw⟩ := c_chg c2 hW n2 (ge2.trans hE) hx hy5
  have fr3 : Fr PQ' m m3 := ((g1.mono PA_Q).tr (g2.mono (by intro b q; unfold PQ' PQ; first | decide | omega))).tr g3
  have t3 : m3 0 3 = (T : Int) := by rw [fr3 0 3 (by unfold PQ' PQ; first | decide | omega)]; exact t2
  have n3 : NX m3 69 n := hn.fr fr3 (by intro b a c; unfold PQ' PQ; first | decide | omega)
  have hB1 := TR_nb hW hS.1 (by first | decide | omega) t (by first | decide | omega) (show 0 ≤ z ∧ z < 2147483648 by first | decide | omega)
  have hB2 := TW_nb tw hB1 hyS
  obtain ⟨m4, e4, g4⟩ := c_tr96 hW (GB_of hW ge3) (w 8 1 - ff w (n 0 0)).toNat 1024 (ff w (n 0 0)) (2 * ff w (n 0 0)) (sl 6 m3 76) m3 f1 (by first | decide | omega) (by first | decide | omega) (by first | decide | omega) (by first | decide | omega) t3 c3 (NX_sl (by first | decide | omega)) hB2
  rw [rnd_ge ge3 (by first | decide | omega) _ _ _ f1 (by first | decide | omega)] at e4
  -- the reference
  have g0 : Fm PRn v (up v 0 65 z) := Fm.w1 (Or.inr ⟨rfl, rfl⟩)
  obtain ⟨v1, r1, q1, N1, k1, k2⟩ := r_lay1 (v := up v 0 65 z) (by first | decide | omega) (hV.b0.fr (by first | decide | omega) g0) t up_e
  have hRv : RT (up (up v1 0 66 x) 0 67 y) w := by
    have : Fm (fun b i => PRn b i ∨ (b = 0 ∧ i = 66)) v (up (up v1 0 66 x) 0 67 y) := (((g0.mono (fun b i q => Or.inl q)).tr (q1.mono (fun b i q => Or.inl (Or.inl (PB1_q b i q))))).w (Or.inr ⟨rfl, rfl⟩)).w (Or.inl (Or.inl (by unfold PMq; first | decide | omega)))
    exact hR.fr this (by intro b i q; unfold PRn PMq; first | decide | omega)
  have hq25 : x = 4 → up (up v1 0 66 x) 0 67 y 25 y = (sl 6 m1 76) 1 y := fun c => by
    have hys := hyS c
    rw [up_a (by first | decide | omega), up_a (by first | decide | omega), q1 25 y (by unfold PB1; first | decide | omega), up_a (by first | decide | omega), (hV.b0.1 y hys.1 hys.2).1, t.2.1 1 y (by first | decide | omega) (by first | decide | omega) hys.1 (by first | decide | omega)]
  obtain ⟨v2, r2, q2, k3⟩ := r_tr76 (w := w) (x := x) (y := y) (j := v 0 65) (by first | decide | omega) (fun c => by have := hyS c; first | decide | omega) tw (w 1 0).toNat 1024 0 (up (up v1 0 66 x) 0 67 y) (by first | decide | omega) (by first | decide | omega) (by first | decide | omega) hRv.1.2.2.1 hq25 (fun s p q => by
    rw [if_neg (by first | decide | omega), up_a (by first | decide | omega), up_a (by first | decide | omega)]
    have := (N1.1 s p q).1
    rwa [show 5 * (1 : Int) + s = 5 + s by first | decide | omega] at this) (fun _ => rfl)
  have hR2 : RT v2 w := hRv.fr q2 (by intro b i q; first | decide | omega)
  have N2 : NM v2 1 w (sl 6 m3 76) := by
    obtain ⟨a0, a2, a3, a6, a1, a4⟩ := tw
    obtain ⟨b1, b2, b3, b4, b5⟩ := N1
    refine ⟨fun i p q => ?_, fun k p q => ?_, ?_, ?_, ?_⟩
    · have := b1 i p q
      rw [q2 26 _ (by first | decide | omega), q2 27 _ (by first | decide | omega), up_a (by first | decide | omega), up_a (by first | decide | omega), up_a (by first | decide | omega), up_a (by first | decide | omega), a2, a3]
      refine ⟨?_, this.2.1, this.2.2⟩
      rw [show 5 * (1 : Int) + i = 5 + i by first | decide | omega]; exact k3 i p q
    · rw [q2 30 _ (by first | decide | omega), up_a (by first | decide | omega), up_a (by first | decide | omega), a6]; exact b2 k p q
    · rw [q2 32 _ (by first | decide | omega), up_a (by first | decide | omega), up_a (by first | decide | omega), a0]; exact b3
    · rw [q2 33 _ (by first | decide | omega), up_a (by first | decide | omega), up_a (by first | decide | omega), a0]; exact b4
    · rw [q2 0 65 (by first | decide | omega), up_i (by first | decide | omega), up_i (by first | decide | omega), a0]; exact b5
  have v66 : v2 0 66 = x := by rw [q2 0 66 (by first | decide | omega), up_i (by first | decide | omega), up_e]
  have v67 : v2 0 67 = y := by rw [q2 0 67 (by first | decide | omega), up_e]
  have v31 : v2 31 1 = n 0 0 := by rw [q2 31 1 (by first | decide | omega), up_a (by first | decide | omega), up_a (by first | decide | omega)]; exact k1
  have v64 : v2 0 64 = n 0 1 := by rw [q2 0 64 (by first | decide | omega), up_i (by first | decide | omega), up_i (by first | decide | omega), q1 0 64 (by unfold PB1; first | decide | omega), up_i (by first | decide | omega)]; exact hV.2.2.1
  have tl : TLM v2 1 w (sl 6 m3 76) x y (n 0 0) := by
    intro i p q
    have h4 := tw.2.2.2.2.2 i p q
    by_cases c : x = 1 ∧ y = i
    · left
      rw [if_pos c] at h4
      exact ⟨c.1, c.2, by first | decide | omega⟩
    · right
      rw [if_neg c] at h4
      refine ⟨c, ?_⟩
      rw [h4, t.2.1 4 i (by first | decide | omega) (by first | decide | omega) p (by first | decide | omega), q2 28 _ (by first | decide | omega), up_a (by first | decide | omega), up_a (by first | decide | omega), show 5 * (1 : Int) + i = 5 + i by first | decide | omega, k2 i p q]
      have h2 := (hS.2.2.1 i p q).1
      split
      · rename_i c
        rcases h2 with z | z
        · exact z
        · omega
      · rfl
  have hrl : (sl 6 m3 76) 0 1 = n 0 1 := by rw [tw.1]; exact t.1.2.1
  have hlast : w 8 1 = 0 ∨ w 11 (w 8 1 - 1) + 1 - n 0 0 ≤ ((106 : Nat) : Int) := by
    by_cases z : w 8 1 = 0
    · left; exact z
    · right
      have := (hW.2.2.2.1 (w 8 1 - 1) (by first | decide | omega) (by first | decide | omega)).2.1
      omega
  obtain ⟨v3, r3, q3, N3⟩ := m_goes hW (way := x) (one := y) 106 1024 (n 0 0) (2 * ff w (n 0 0)) (sl 6 m3 76) v2 (by first | decide | omega) (by first | decide | omega) hlast (by first | decide | omega) (by first | decide | omega) (by first | decide | omega) hR2 N2 hB2 v66 (fun _ => v67) v31 tl
  rw [hrl] at r3
  have hB3 := (rnd_nb (g := gM w x) hW (w 8 1 - ff w (n 0 0)).toNat (ff w (n 0 0)) (2 * ff w (n 0 0)) (sl 6 m3 76) f1 (by first | decide | omega) (by first | decide | omega) hB2).1
  -- together
  unfold G11_tried_54 G12_tried_47
  rw [e69, e1, bs1, e2, bs1, e3, bs1, c_ftc t3 c3.1 n3 hW, bs1]
  simp only
  rw [e4, wt_e, r1, bs1, wt_e, wt_e, r2]
  unfold G12_tried_111 G12_goesOn
  rw [v64, r3, bs1, wt_e, wt_e]
  have h14 : up (up v3 0 66 (-1)) 0 65 (v 0 65) 0 14 = w 1 0 := by rw [up_i (by first | decide | omega), up_i (by first | decide | omega)]; exact (hR2.pm q3).1.2.2.1
  rw [r_all (w := w) (f := (rnd w (gM w x) (w 8 1 - ff w (n 0 0)).toNat (ff w (n 0 0)) (sl 6 m3 76)) 2) (Or.inr rfl) h14 (by first | decide | omega) (fun i p q => by
    have hb := (hB3.2 i p q).2.1
    exact ⟨by rw [up_a (by first | decide | omega), up_a (by first | decide | omega)]; exact (N3.1 i p q).2.1, by first | decide | omega, by first | decide | omega⟩), bs1]
  refine agr h1 _ rfl rfl (fr3.tr (g4.mono (PW_Q (by first | decide | omega)))) ?_
  intro b i hb
  show up (up v3 0 66 (-1)) 0 65 (v 0 65) b i = v b i
  by_cases c65 : b = 0 ∧ i = 65
  · rw [c65.1, c65.2, up_e]
  · by_cases c66 : b = 0 ∧ i = 66
    · rw [c66.1, c66.2, up_i (by first | decide | omega), up_e]; exact hV.2.2.2.2.symm
    · have u1 : up (up v3 0 66 (-1)) 0 65 (v 0 65) b i = v3 b i := (if_neg c65).trans (if_neg c66)
      have u2 : up v 0 65 z b i = v b i := if_neg c65
      have hp : ¬ PRn b i := fun y => y.elim hb c65
      rw [u1, q3 b i (fun y => hp (PMn_R b i y)), q2 b i (by intro y; exact hb (by unfold PMq; first | decide | omega))]
      have u3 : up (up v1 0 66 x) 0 67 y b i = v1 b i := by
        have h67 : ¬ (b = 0 ∧ i = 67) := fun y => hb (by unfold PMq; first | decide | omega)
        exact (if_neg h67).trans (if_neg c66)
      rw [u3, q1 b i (fun y => hb (PB1_q b i y)), u2]
theorem a_tried (h : Rel m v) (x y z : Int) (hz : z ≤ 2147483647) : Agr (G11_tried m x y z) (G12_tried v x y z) := by
  have h1 := h.v0
  unfold G11_tried G11_tried_0 G12_tried G12_tried_0 G11_tried_25 G11_tried_30 G12_tried_30
  rw [wt_e]
  generalize up v 0 2 0 = u at h1 ⊢
  obtain ⟨T, w, g, n, t1, t2, hc, hn, hW, hG, hE, hS, hR, hV, hL, -, -, hN⟩ := h1.use
  have huni : ∀ w', RT u w' → w' 1 0 = w 1 0 := fun w' hw' => by rw [← hw'.1.2.2.1, ← hR.1.2.2.1]
  rw [r_isIn, bs1]
  by_cases c1 : 0 ≤ x ∧ x ≤ 4
  · simp only [if_pos c1, if_neg i10, if_neg (show ¬ x < 0 by first | decide | omega), if_neg (show ¬ 4 < x by first | decide | omega), if_true]
    by_cases c2 : 0 ≤ z
    · rw [if_pos c2, if_pos c2]
      have surf : (x = 1 ∨ x = 4) → Agr ((G11_isSurfer m y).bind fun o3 => if o3.1 = 0 then some (-1, o3.2) else G11_tried_54 o3.2 x y z) ((G12_isSurfer u y).bind fun o1 => if o1.1 = 0 then some (-1, o1.2) else G12_tried_47 o1.2 x y z) := fun hx => by
        rw [c_isS t2 hc.1, r_isS hR, bs1, bs1]
        by_cases c3 : 0 ≤ y ∧ y < w 1 0
        · simp only [if_pos c3, if_neg i10]
          exact tried_m h1 c1 ⟨c2, hz⟩ (fun w' hw' => by rw [if_pos hx, huni w' hw']; exact c3)
        · simp only [if_neg c3, if_true]; exact agr0 h1 _ rfl rfl
      by_cases x1 : x = 1
      · rw [if_pos x1, if_pos x1]; exact surf (Or.inl x1)
      · rw [if_neg x1, if_neg x1]
        by_cases x4 : x = 4
        · rw [if_pos x4, if_pos x4]; exact surf (Or.inr x4)
        · rw [if_neg x4, if_neg x4]
          by_cases c3 : y = 0
          · rw [if_pos c3, if_pos c3]
            exact tried_m h1 c1 ⟨c2, hz⟩ (fun w' hw' => by rw [if_neg (by first | decide | omega)]; exact c3)
          · rw [if_neg c3, if_neg c3]; exact agr0 h1 _ rfl rfl
    · rw [if_neg c2, if_neg c2]; exact agr0 h1 _ rfl rfl
  · simp only [if_neg c1, if_true]
    by_cases q : x < 0
    · rw [if_pos q]; exact agr0 h1 _ rfl rfl
    · rw [if_neg q, if_pos (by first | decide | omega)]; exact agr0 h1 _ rfl rfl
end Q8
/-! Plans. -/
section Q9
variable {m v w g n : Mem} {T : Nat}
/-- the first wave once one is back from wave k -/
def nxw (w : Mem) (s k : Int) : Int := ff w (w 11 k + awayN w (w 4 s) k)
def wov (w : Mem) (s c k : Int) : Int := worthV w (gM w (-1) 1 s) (gM w (-1) 3 k) k c
/-- the most from each wave on -/
def PMok (w : Mem) (s c : Int) (P : Int → Int) (lo : Int) : Prop := P (w 8 1) = 0 ∧ ∀ k, lo ≤ k → k < w 8 1 → P k = (if wov w s c k + P (nxw w s k) < P (k + 1) then P (k + 1) else wov w s c k + P (nxw w s k)) ∧ 0 ≤ P k ∧ P k ≤ 900 * (w 8 1 - k)
theorem nxw_b (hW : WW w) {s k : Int} (hk : 0 ≤ k ∧ k < w 8 1) : k < nxw w s k ∧ nxw w s k ≤ w 8 1 := by
  have hw := hW.1
  unfold WS at hw
  obtain ⟨a1, a2, a3, a4⟩ := ff_spec (w := w) (by first | decide | omega) (w 11 k + awayN w (w 4 s) k)
  have hb := away_b w (w 4 s) k
  refine ⟨?_, a2⟩
  unfold nxw
  rcases Int.lt_or_le k (ff w (w 11 k + awayN w (w 4 s) k)) with z | z
  · exact z
  · have h4 := a4 (by first | decide | omega)
    by_cases e : ff w (w 11 k + awayN w (w 4 s) k) = k
    · rw [e] at h4; omega
    · have := wv_lt hW a1 (show ff w (w 11 k + awayN w (w 4 s) k) < k by first | decide | omega) hk.2
      omega
theorem wov_b (hW : WW w) {s c k : Int} (hk : 0 ≤ k ∧ k < w 8 1) (hc : 0 ≤ c ∧ c < w 0 0 * w 0 1) : 0 ≤ wov w s c k ∧ wov w s c k ≤ 900 := worth_b hW hk hc (by rw [gM3]; exact pxM_b hW)
/-- the search for the next wave, from place i on -/
theorem r_pl33 (hR : RT v w) (hW : WW w) {s k a : Int} (hk : 0 ≤ k ∧ k < w 8 1) (ha : a = awayN w (w 4 s) k) {kk : Mem → Int → Int → Option Mem} : ∀ (d f : Nat) (i : Int), k < i → i ≤ nxw w s k → nxw w s k - i = d → d < f → G12_layPlan_33 kk f v s k i a = G12_layPlan_65 kk v s k (nxw w s k) := by
  have hw := hW.1
  unfold WS at hw
  obtain ⟨a1, a2, a3, a4⟩ := ff_spec (w := w) (by first | decide | omega) (w 11 k + awayN w (w 4 s) k)
  have hb := away_b w (w 4 s) k
  have hm := (hW.2.2.2.1 k hk.1 hk.2).2.1
  have en : nxw w s k = ff w (w 11 k + awayN w (w 4 s) k) := rfl
  intro d
  induction d with
  | zero =>
    intro f i b1 b2 b3 b4
    obtain ⟨f, rfl⟩ : ∃ j, f = j + 1 := ⟨f - 1, by first | decide | omega⟩
    have ei : i = nxw w s k := by omega
    rw [G12_layPlan_33, hR.1.2.2.2.2.1]
    by_cases c : w 8 1 ≤ i
    · rw [if_pos c, ei]
    · have h4 := a4 (by first | decide | omega)
      rw [← en, ← ei] at h4
      rw [if_neg c, gdx_t (by first | decide | omega), gdx_t (by first | decide | omega), (hR.2.2.2.2.1 k hk.1 hk.2).1, (hR.2.2.2.2.1 i (by first | decide | omega) (by first | decide | omega)).1, gd3_t (by first | decide | omega), if_pos (by first | decide | omega), ei]
  | succ d ih =>
    intro f i b1 b2 b3 b4
    obtain ⟨f, rfl⟩ : ∃ j, f = j + 1 := ⟨f - 1, by first | decide | omega⟩
    have h3 := a3 i (by first | decide | omega) (by first | decide | omega)
    rw [G12_layPlan_33, hR.1.2.2.2.2.1, if_neg (by first | decide | omega), gdx_t (by first | decide | omega), gdx_t (by first | decide | omega), (hR.2.2.2.2.1 k hk.1 hk.2).1, (hR.2.2.2.2.1 i (by first | decide | omega) (by first | decide | omega)).1, gd3_t (by first | decide | omega), if_neg (by first | decide | omega), gd3_t (by first | decide | omega)]
    exact ih f (i + 1) (by first | decide | omega) (by first | decide | omega) (by first | decide | omega) (by first | decide | omega)
def PPm : Nat → Int → Prop := fun b i => PNm b i ∨ b = 37 ∨ b = 38
theorem PPm_q : ∀ b i, PPm b i → PMq b i := by intro b i h; unfold PPm PNm at h; unfold PMq; omega
theorem r_pl17 (hW : WW w) {s c : Int} (hs : 0 ≤ s ∧ s < w 1 0) (hc : 0 ≤ c ∧ c < w 0 0 * w 0 1) : ∀ (d f : Nat) (i : Int) (v : Mem), -1 ≤ i → i < w 8 1 → i + 1 = d → d < f → RT v w → v 0 66 = -1 → v 25 s = c → PMok w s c (v 37) (i + 1) → (∀ j, i < j → j < w 8 1 → v 38 j = nxw w s j) → ∃ v', G12_layPlan_17 f v s i = some v' ∧ Fm PPm v v' ∧ PMok w s c (v' 37) 0 ∧ ∀ j, 0 ≤ j → j < w 8 1 → v' 38 j = nxw w s j := by
  have hw := hW.1
  unfold WS at hw
  intro d
  induction d with
  | zero =>
    intro f i v a1 a2 a3 a4 hR h66 h25 hP hX
    obtain ⟨f, rfl⟩ : ∃ j, f = j + 1 := ⟨f - 1, by first | decide | omega⟩
    rw [G12_layPlan_17, if_pos (by first | decide | omega)]
    have e : i + 1 = 0 := by omega
    rw [e] at hP
    exact ⟨v, rfl, Fm.rf, hP, fun j p q => hX j (by first | decide | omega) q⟩
  | succ d ih =>
    intro f i v a1 a2 a3 a4 hR h66 h25 hP hX
    obtain ⟨f, rfl⟩ : ∃ j, f = j + 1 := ⟨f - 1, by first | decide | omega⟩
    have hi : 0 ≤ i ∧ i < w 8 1 := by omega
    obtain ⟨v1, e1, f1⟩ := m_away hR hW hs hi
    rw [h66] at e1
    have eb : bdM w (-1) s = w 4 s := if_neg (by first | decide | omega)
    rw [eb] at e1
    have hR1 := hR.pn f1
    have hnb := nxw_b hW (s := s) hi
    rw [G12_layPlan_17, if_neg (by first | decide | omega), e1, bs1, gd3_t (by first | decide | omega)]
    simp only
    rw [r_pl33 hR1 hW hi rfl (nxw w s i - (i + 1)).toNat 1024 (i + 1) (by first | decide | omega) (by first | decide | omega) (by first | decide | omega) (by first | decide | omega)]
    unfold G12_layPlan_65 G12_layPlan_124
    have k25 : up v1 38 i (nxw w s i) 25 s = c := by rw [up_a (by first | decide | omega), f1 25 s (by unfold PNm; first | decide | omega)]; exact h25
    rw [gdx_t (by first | decide | omega), wt_e, gdx_t (by first | decide | omega), k25]
    have fA : Fm PPm v (up v1 38 i (nxw w s i)) := (f1.mono (fun b i z => Or.inl z)).w (Or.inr (Or.inr rfl))
    have hRA : RT (up v1 38 i (nxw w s i)) w := hR.fr fA (by intro b i q; unfold PPm PNm; first | decide | omega)
    obtain ⟨v2, e2, f2⟩ := r_gain hRA hW (way := -1) (by rw [up_a (by first | decide | omega), f1 0 66 (by unfold PNm; first | decide | omega)]; exact h66) hs hi hc
    have hwb := wov_b hW (s := s) hi hc
    have ew : worthV w (gM w (-1) 1 s) (gM w (-1) 3 i) i c = wov w s c i := rfl
    rw [ew] at e2
    have r37 : v2 37 = v 37 := by funext j; rw [f2 37 j (by unfold PNm; first | decide | omega), up_a (by first | decide | omega), f1 37 j (by unfold PNm; first | decide | omega)]
    have r38 : v2 38 = fun j => if j = i then nxw w s i else v 38 j := by
      funext j
      rw [f2 38 j (by unfold PNm; first | decide | omega), up_r]
      show (if j = i then nxw w s i else v1 38 j) = _
      rw [f1 38 j (by unfold PNm; first | decide | omega)]
    have pN : 0 ≤ v 37 (nxw w s i) ∧ v 37 (nxw w s i) ≤ 900 * 28 := by
      by_cases z : nxw w s i = w 8 1
      · rw [z, hP.1]; omega
      · have := (hP.2 (nxw w s i) (by first | decide | omega) (by first | decide | omega)).2; omega
    have p1 : 0 ≤ v 37 (i + 1) ∧ v 37 (i + 1) ≤ 900 * (w 8 1 - (i + 1)) := by
      by_cases z : i + 1 = w 8 1
      · rw [z, hP.1]; omega
      · exact (hP.2 (i + 1) (by first | decide | omega) (by first | decide | omega)).2
    have pN2 : v 37 (nxw w s i) ≤ 900 * (w 8 1 - nxw w s i) := by
      by_cases z : nxw w s i = w 8 1
      · rw [z, hP.1]; omega
      · exact (hP.2 (nxw w s i) (by first | decide | omega) (by first | decide | omega)).2.2
    rw [e2, bs1, gdx_t (by first | decide | omega), gdx_t (by first | decide | omega)]
    simp only
    rw [r37, gd3_t (by first | decide | omega), gdx_t (by first | decide | omega), gdx_t (by first | decide | omega), wt_e, gd3_t (by first | decide | omega)]
    have ei : i + -1 = i - 1 := by omega
    rw [ei]
    have fB : ∀ x, Fm PPm v (up v2 37 i x) := fun x => (fA.tr (f2.mono (fun b i z => Or.inl z))).w (Or.inr (Or.inl rfl))
    have fin : ∀ x, x = (if wov w s c i + v 37 (nxw w s i) < v 37 (i + 1) then v 37 (i + 1) else wov w s c i + v 37 (nxw w s i)) → ∃ v', G12_layPlan_17 f (up v2 37 i x) s (i - 1) = some v' ∧ Fm PPm v v' ∧ PMok w s c (v' 37) 0 ∧ ∀ j, 0 ≤ j → j < w 8 1 → v' 38 j = nxw w s j := by
      intro x hx
      have u37 : up v2 37 i x 37 = fun j => if j = i then x else v 37 j := by rw [up_r, r37]
      obtain ⟨v', z1, z2, z3, z4⟩ := ih f (i - 1) (up v2 37 i x) (by first | decide | omega) (by first | decide | omega) (by first | decide | omega) (by first | decide | omega) (hR.fr (fB x) (by intro b i q; unfold PPm PNm; first | decide | omega)) (by rw [fB x 0 66 (by unfold PPm PNm; first | decide | omega)]; exact h66) (by rw [fB x 25 s (by unfold PPm PNm; first | decide | omega)]; exact h25) (by
        rw [u37, show i - 1 + 1 = i by first | decide | omega]
        refine ⟨?_, fun k p q => ?_⟩
        · show (if w 8 1 = i then x else v 37 (w 8 1)) = 0
          rw [if_neg (by first | decide | omega)]; exact hP.1
        · have hnk := nxw_b hW (s := s) (k := k) (by first | decide | omega)
          show (if k = i then x else v 37 k) = (if wov w s c k + (if nxw w s k = i then x else v 37 (nxw w s k)) < (if k + 1 = i then x else v 37 (k + 1)) then (if k + 1 = i then x else v 37 (k + 1)) else wov w s c k + (if nxw w s k = i then x else v 37 (nxw w s k))) ∧ 0 ≤ (if k = i then x else v 37 k) ∧ (if k = i then x else v 37 k) ≤ 900 * (w 8 1 - k)
          rw [if_neg (show ¬ nxw w s k = i by first | decide | omega), if_neg (show ¬ k + 1 = i by first | decide | omega)]
          by_cases z : k = i
          · subst z
            rw [if_pos rfl]
            refine ⟨hx, ?_⟩
            rw [hx]
            split <;> omega
          · rw [if_neg z]
            exact hP.2 k (by first | decide | omega) q) (fun j p q => by
        rw [up_a (by first | decide | omega), r38]
        show (if j = i then nxw w s i else v 38 j) = _
        by_cases z : j = i
        · rw [if_pos z, z]
        · rw [if_neg z]; exact hX j (by first | decide | omega) q)
      exact ⟨v', z1, (fB x).tr z2, z3, z4⟩
    split
    · rename_i z; exact fin _ (by rw [if_pos z])
    · rename_i z; rw [gd3_t (by first | decide | omega), gdx_t (by first | decide | omega), wt_e, gd3_t (by first | decide | omega)]; exact fin _ (by rw [if_neg z])
theorem r_lp (hR : RT v w) (hW : WW w) {s c : Int} (hs : 0 ≤ s ∧ s < w 1 0) (hc : 0 ≤ c ∧ c < w 0 0 * w 0 1) (h66 : v 0 66 = -1) (h25 : v 25 s = c) : ∃ v', G12_layPlan v s = some v' ∧ Fm PPm v v' ∧ PMok w s c (v' 37) 0 ∧ ∀ j, 0 ≤ j → j < w 8 1 → v' 38 j = nxw w s j := by
  have hw := hW.1
  unfold WS at hw
  unfold G12_layPlan G12_layPlan_0
  rw [hR.1.2.2.2.2.1, gdx_t (by first | decide | omega), wt_e]
  have f1 : Fm PPm v (up v 37 (w 8 1) 0) := Fm.w1 (Or.inr (Or.inl rfl))
  have e16 : up v 37 (w 8 1) 0 0 16 = w 8 1 := by rw [up_a (by first | decide | omega)]; exact hR.1.2.2.2.2.1
  rw [e16, gd3_t (by first | decide | omega)]
  obtain ⟨v', e1, g1, k1, k2⟩ := r_pl17 hW hs hc (w 8 1).toNat 1024 (w 8 1 - 1) (up v 37 (w 8 1) 0) (by first | decide | omega) (by first | decide | omega) (by first | decide | omega) (by first | decide | omega) (hR.fr f1 (by intro b i q; unfold PPm PNm; first | decide | omega)) (by rw [up_a (by first | decide | omega)]; exact h66) (by rw [up_a (by first | decide | omega)]; exact h25) ⟨up_e, fun k p q => by first | decide | omega⟩ (fun j p q => by first | decide | omega)
  exact ⟨v', e1, f1.tr g1, k1, k2⟩
/-- the class: from the last wave down -/
def PPc : Nat → Prop := fun b => PN 51 b ∨ b = 99 ∨ (106 ≤ b ∧ b ≤ 109)
theorem PPc_Q : ∀ b, PPc b → PQ' b := by intro b h; unfold PPc PN at h; unfold PQ' PQ; omega
/-- the waves that are gone for, from k on -/
def plL (w : Mem) (s c : Int) (P : Int → Int) : Nat → Int → List Int
  | 0, _ => []
  | d + 1, k => if w 8 1 ≤ k then [] else if wov w s c k + P (nxw w s k) < P (k + 1) then plL w s c P d (k + 1) else k :: plL w s c P d (nxw w s k)
theorem plL_s (s c : Int) (P : Int → Int) (d : Nat) (k : Int) : plL w s c P (d + 1) k = if w 8 1 ≤ k then [] else if wov w s c k + P (nxw w s k) < P (k + 1) then plL w s c P d (k + 1) else k :: plL w s c P d (nxw w s k) := rfl
/-- enough fuel is enough -/
theorem plL_f (hW : WW w) {s c : Int} {P : Int → Int} : ∀ (d e : Nat) (k : Int), 0 ≤ k → w 8 1 - k ≤ d → w 8 1 - k ≤ e → plL w s c P d k = plL w s c P e k := by
  intro d
  induction d with
  | zero =>
    intro e k a b c1
    cases e with
    | zero => rfl
    | succ e => rw [plL_s, if_pos (by first | decide | omega)]; rfl
  | succ d ih =>
    intro e k a b c1
    cases e with
    | zero => rw [plL_s, if_pos (by first | decide | omega)]; rfl
    | succ e =>
      rw [plL_s, plL_s]
      by_cases z : w 8 1 ≤ k
      · rw [if_pos z, if_pos z]
      · have hn := nxw_b hW (s := s) (k := k) (by first | decide | omega)
        rw [if_neg z, if_neg z, ih e (k + 1) (by first | decide | omega) (by first | decide | omega) (by first | decide | omega), ih e (nxw w s k) (by first | decide | omega) (by first | decide | omega) (by first | decide | omega)]
theorem frt_app {f : Int → Int} : ∀ {l1 l2 : List Int} {o : Int}, frt f o l1 → frt f (o + l1.length) l2 → frt f o (l1 ++ l2) := by
  intro l1
  induction l1 with
  | nil => intro l2 o _ h; simpa using h
  | cons y r ih =>
    intro l2 o h1 h2
    refine ⟨h1.1, ih h1.2 ?_⟩
    have : o + 1 + (r.length : Int) = o + ((y :: r).length : Int) := by simp; omega
    rw [this]; exact h2
theorem c_list (hW : WW w) {s c : Int} {P : Int → Int} {lo : Int} (hlo : 0 ≤ lo) : ∀ (d k : Nat) (i fr : Int) (l : List Int) (m : Mem), lo ≤ i → w 8 1 - i = d → d < k → (lo ≤ fr ∧ fr ≤ w 8 1) → (l.length : Int) ≤ i → m 99 11 = l.length → frt (m 109) 0 l → (∀ j, lo ≤ j → j < w 8 1 → m 107 j = nxw w s j ∧ m 108 j = (if wov w s c j + P (nxw w s j) < P (j + 1) then 0 else 1)) → ∃ m', G0_listPlan_10 k m (w 8 1) fr i = some m' ∧ Fr (fun b => b = 99 ∨ b = 109) m m' ∧ m' 99 12 = m 99 12 ∧ m' 99 11 = (l ++ plL w s c P 28 (if i < fr then fr else i)).length ∧ frt (m' 109) 0 (l ++ plL w s c P 28 (if i < fr then fr else i)) := by
  have hw := hW.1
  unfold WS at hw
  intro d
  induction d with
  | zero =>
    intro k i fr l m a1 a2 a3 a4 a5 h1 h2 h3
    obtain ⟨k, rfl⟩ : ∃ j, k = j + 1 := ⟨k - 1, by first | decide | omega⟩
    rw [G0_listPlan_10, if_pos (by first | decide | omega)]
    have e : plL w s c P 28 (if i < fr then fr else i) = [] := by
      rw [show (28 : Nat) = 27 + 1 by decide, plL_s, if_pos (by split <;> omega)]
    rw [e, List.append_nil]
    exact ⟨m, rfl, Fr.rf, rfl, h1, h2⟩
  | succ d ih =>
    intro k i fr l m a1 a2 a3 a4 a5 h1 h2 h3
    obtain ⟨k, rfl⟩ : ∃ j, k = j + 1 := ⟨k - 1, by first | decide | omega⟩
    have hn := nxw_b hW (s := s) (k := i) (by first | decide | omega)
    obtain ⟨e107, e108⟩ := h3 i a1 (by first | decide | omega)
    rw [G0_listPlan_10, if_neg (by first | decide | omega)]
    by_cases c1 : i < fr
    · rw [if_pos c1, gd3_t (by first | decide | omega), if_pos c1]
      have e : (if i + 1 < fr then fr else i + 1) = fr := by split <;> omega
      have := ih k (i + 1) fr l m (by first | decide | omega) (by first | decide | omega) (by first | decide | omega) a4 (by first | decide | omega) h1 h2 h3
      rwa [e] at this
    · rw [if_neg c1, gdx_t (by first | decide | omega), e108, if_neg c1]
      have el : plL w s c P 28 i = if wov w s c i + P (nxw w s i) < P (i + 1) then plL w s c P 28 (i + 1) else i :: plL w s c P 28 (nxw w s i) := by
        rw [show plL w s c P 28 i = plL w s c P (27 + 1) i from rfl, plL_s, if_neg (by first | decide | omega), plL_f hW 27 28 (i + 1) (by first | decide | omega) (by first | decide | omega) (by first | decide | omega), plL_f hW 27 28 (nxw w s i) (by first | decide | omega) (by first | decide | omega) (by first | decide | omega)]
      rw [el]
      by_cases c2 : wov w s c i + P (nxw w s i) < P (i + 1)
      · rw [if_pos c2, if_pos c2, if_pos rfl, gd3_t (by first | decide | omega)]
        have e : (if i + 1 < fr then fr else i + 1) = i + 1 := by split <;> omega
        have := ih k (i + 1) fr l m (by first | decide | omega) (by first | decide | omega) (by first | decide | omega) a4 (by first | decide | omega) h1 h2 h3
        rwa [e] at this
      · rw [if_neg c2, if_neg c2, if_neg i10, h1, gdx_t (by first | decide | omega), wt_e, up_a (by first | decide | omega), h1, gd3_t (by first | decide | omega), wt_e, gdx_t (by first | decide | omega), gd3_t (by first | decide | omega), up_a (by first | decide | omega), up_a (by first | decide | omega), e107]
        obtain ⟨m', z1, z2, z3, z4, z5⟩ := ih k (i + 1) (nxw w s i) (l ++ [i]) (up (up m 109 l.length i) 99 11 (l.length + 1)) (by first | decide | omega) (by first | decide | omega) (by first | decide | omega) (by first | decide | omega) (by simp; first | decide | omega) (by rw [up_e]; simp) (by
          rw [up_b (by first | decide | omega)]
          refine frt_app (frt_up h2 (fun j p q => up_i (by first | decide | omega))) ⟨?_, trivial⟩
          rw [Int.zero_add]; exact up_e) (fun j p q => by rw [up_a (by first | decide | omega), up_a (by first | decide | omega), up_a (by first | decide | omega), up_a (by first | decide | omega)]; exact h3 j p q)
        have e : (if i + 1 < nxw w s i then nxw w s i else i + 1) = nxw w s i := by split <;> omega
        rw [e, List.append_assoc] at z4 z5
        have fr1 : Fr (fun b => b = 99 ∨ b = 109) m (up (up m 109 l.length i) 99 11 (l.length + 1)) := (Fr.up Fr.rf (Or.inr rfl)).up (Or.inl rfl)
        refine ⟨m', z1, fr1.tr z2, ?_, z4, z5⟩
        rw [z3, up_i (by first | decide | omega), up_a (by first | decide | omega)]
theorem c_mk40 (hW : WW w) (hG : GB w g) (hE : GE w g (gM w (-1))) {s c lo : Int} {P : Int → Int} (hP : PMok w s c P lo) (hlo : 0 ≤ lo ∧ lo ≤ w 8 1) (hs : 0 ≤ s ∧ s < w 1 0) (hcc : 0 ≤ c ∧ c < w 0 0 * w 0 1) : ∀ (d k : Nat) (i : Int) (m : Mem), lo - 1 ≤ i → i < w 8 1 → i + 1 - lo = d → d < k → CX m 51 T w g → NX m 69 n → n 1 s = c → (∀ j, i < j → j ≤ w 8 1 → m 106 j = P j) → (∀ j, i < j → j < w 8 1 → m 107 j = nxw w s j ∧ m 108 j = (if wov w s c j + P (nxw w s j) < P (j + 1) then 0 else 1)) → ∃ m', G0_makePlan_40 k m 51 69 s (T + 8) lo i = some m' ∧ Fr PPc m m' ∧ m' 99 12 = P lo ∧ m' 99 11 = (plL w s c P 28 lo).length ∧ frt (m' 109) 0 (plL w s c P 28 lo) := by
  have hw := hW.1
  unfold WS at hw
  have hg := hG.1 s hs.1 hs.2
  intro d
  induction d with
  | zero =>
    intro k i m a1 a2 a3 a4 hc hn hcell h6 h7
    obtain ⟨k, rfl⟩ : ∃ j, k = j + 1 := ⟨k - 1, by first | decide | omega⟩
    have hT := hc.1.1
    rw [G0_makePlan_40, if_pos (by first | decide | omega), gdx_t (by first | decide | omega), wt_e, h6 lo (by first | decide | omega) (by first | decide | omega), up_a (by first | decide | omega), hc.1.2.2 8 1 (by first | decide | omega)]
    unfold G0_listPlan G0_listPlan_0
    rw [wt_e]
    obtain ⟨m', z1, z2, z3, z4, z5⟩ := c_list hW (s := s) (c := c) (P := P) (lo := lo) hlo.1 (w 8 1 - lo).toNat 1024 lo lo [] (up (up m 99 12 (P lo)) 99 11 0) (by first | decide | omega) (by first | decide | omega) (by first | decide | omega) (by first | decide | omega) (by simp; first | decide | omega) (by rw [up_e]; rfl) trivial (fun j p q => by rw [up_a (by first | decide | omega), up_a (by first | decide | omega), up_a (by first | decide | omega), up_a (by first | decide | omega)]; exact h7 j (by first | decide | omega) q)
    rw [z1, bs1]
    have e : (if lo < lo then lo else lo) = lo := by split <;> rfl
    rw [e, List.nil_append] at z4 z5
    refine ⟨m', rfl, ?_, ?_, z4, z5⟩
    · have f1 : Fr PPc m (up (up m 99 12 (P lo)) 99 11 0) := (Fr.up Fr.rf (Or.inr (Or.inl rfl))).up (Or.inr (Or.inl rfl))
      exact f1.tr (z2.mono (by intro b q; unfold PPc; first | decide | omega))
    · rw [z3, up_i (by first | decide | omega), up_e]
  | succ d ih =>
    intro k i m a1 a2 a3 a4 hc hn hcell h6 h7
    obtain ⟨k, rfl⟩ : ∃ j, k = j + 1 := ⟨k - 1, by first | decide | omega⟩
    have hT := hc.1.1
    have hi : 0 ≤ i ∧ i < w 8 1 := by omega
    have hm := (hW.2.2.2.1 i hi.1 hi.2).2.1
    obtain ⟨m1, e1, f1⟩ := g_away hc hW (x := s) (v := i) (by first | decide | omega) ⟨hg.1, hg.2.1⟩ hi
    have hc1 := hc.pn f1
    have eg : g 1 s = w 4 s := by rw [(hE.1 s hs.1 hs.2).1, gM1]; exact if_neg (by first | decide | omega)
    rw [eg] at e1
    have hab := away_b w (w 4 s) i
    have hnb := nxw_b hW (s := s) hi
    have hwb := wov_b hW (s := s) hi hcc
    rw [G0_makePlan_40, if_neg (by first | decide | omega), gdx_t (by first | decide | omega), e1, bs1, hc.1.2.2 11 i (by first | decide | omega)]
    simp only
    rw [gd3_t (by first | decide | omega), g_ff hc1.1 (by first | decide | omega), bs1, gdx_t (by first | decide | omega), wt_e]
    simp only
    have en : ff w (w 11 i + awayN w (w 4 s) i) = nxw w s i := rfl
    rw [en, gdx_t (by first | decide | omega)]
    have fA : Fr PPc m (up m1 107 i (nxw w s i)) := (f1.mono (fun b q => Or.inl q)).up (Or.inr (Or.inr (by first | decide | omega)))
    have hcA : CX (up m1 107 i (nxw w s i)) 51 T w g := hc.fr fA (by intro b q; unfold PPc PN; first | decide | omega)
    have hnA : NX (up m1 107 i (nxw w s i)) 69 n := hn.fr fA (by intro b x y; unfold PPc PN; first | decide | omega)
    have e70 : up m1 107 i (nxw w s i) (69 + 1) s = c := by rw [hnA.2.2 1 s (by first | decide | omega)]; exact hcell
    rw [e70]
    obtain ⟨m2, e2, f2⟩ := g_worth hcA hW (x := s) (v := i) (c := c) (by first | decide | omega) ⟨hg.1, hg.2.1⟩ hi hcc (hG.2 i hi.1 hi.2)
    have ew : worthV w (g 1 s) (g 3 i) i c = wov w s c i := by unfold wov; rw [(hE.1 s hs.1 hs.2).1, hE.2 i hi.1 hi.2]
    rw [ew] at e2
    have r106 : m2 106 = m 106 := by funext j; rw [f2 106 j (by unfold PN; first | decide | omega), up_a (by first | decide | omega), f1 106 j (by unfold PN; first | decide | omega)]
    have r107 : m2 107 = fun j => if j = i then nxw w s i else m 107 j := by
      funext j
      rw [f2 107 j (by unfold PN; first | decide | omega), up_r]
      show (if j = i then nxw w s i else m1 107 j) = _
      rw [f1 107 j (by unfold PN; first | decide | omega)]
    have r108 : m2 108 = m 108 := by funext j; rw [f2 108 j (by unfold PN; first | decide | omega), up_a (by first | decide | omega), f1 108 j (by unfold PN; first | decide | omega)]
    have k107 : m2 107 i = nxw w s i := by rw [r107]; show (if i = i then _ else _) = _; rw [if_pos rfl]
    have pN : 0 ≤ P (nxw w s i) ∧ P (nxw w s i) ≤ 900 * 28 := by
      by_cases z : nxw w s i = w 8 1
      · rw [z, hP.1]; omega
      · have := (hP.2 (nxw w s i) (by first | decide | omega) (by first | decide | omega)).2; omega
    have p1 : 0 ≤ P (i + 1) ∧ P (i + 1) ≤ 900 * 28 := by
      by_cases z : i + 1 = w 8 1
      · rw [z, hP.1]; omega
      · have := (hP.2 (i + 1) (by first | decide | omega) (by first | decide | omega)).2; omega
    rw [e2, bs1, gdx_t (by first | decide | omega)]
    simp only
    rw [k107, gdx_t (by first | decide | omega), gdx_t (by first | decide | omega), r106, h6 (nxw w s i) (by first | decide | omega) (by first | decide | omega), h6 (i + 1) (by first | decide | omega) (by first | decide | omega), gd3_t (by first | decide | omega), gd3_t (by first | decide | omega), gd3_t (by first | decide | omega)]
    unfold G0_makePlan_128
    have fB : Fr PPc m m2 := fA.tr (f2.mono (fun b q => Or.inl q))
    have ei : i + -1 = i - 1 := by omega
    have hPi := (hP.2 i (by first | decide | omega) (by first | decide | omega)).1
    have fin : ∀ t : Int, t = (if wov w s c i + P (nxw w s i) < P (i + 1) then 0 else 1) → ∃ m', gdx i 28 (gdb t (wt (up m2 108 i t) fun m2 => gdx (i + 1) 29 (gdx i 29 (wt (up m2 106 i (if wov w s c i + P (nxw w s i) < (m2 106 (i + 1)) then (m2 106 (i + 1)) else wov w s c i + P (nxw w s i))) fun m10 => gd3 (i + (-1)) (G0_makePlan_40 k m10 51 69 s (T + 8) lo (i + (-1))))))) = some m' ∧ Fr PPc m m' ∧ m' 99 12 = P lo ∧ m' 99 11 = (plL w s c P 28 lo).length ∧ frt (m' 109) 0 (plL w s c P 28 lo) := by
      intro t ht
      have tb : t = 0 ∨ t = 1 := by rw [ht]; split <;> omega
      have e106 : up m2 108 i t 106 (i + 1) = P (i + 1) := by rw [up_a (by first | decide | omega), r106]; exact h6 (i + 1) (by first | decide | omega) (by first | decide | omega)
      rw [gdx_t (by first | decide | omega), gdb_t tb, wt_e, e106, gdx_t (by first | decide | omega), gdx_t (by first | decide | omega), wt_e, ← hPi, gd3_t (by first | decide | omega), ei]
      have fC : Fr PPc m (up (up m2 108 i t) 106 i (P i)) := (fB.up (Or.inr (Or.inr (by first | decide | omega)))).up (Or.inr (Or.inr (by first | decide | omega)))
      obtain ⟨m', z1, z2, z3⟩ := ih k (i - 1) (up (up m2 108 i t) 106 i (P i)) (by first | decide | omega) (by first | decide | omega) (by first | decide | omega) (by first | decide | omega) (hc.fr fC (by intro b q; unfold PPc PN; first | decide | omega)) (hn.fr fC (by intro b x y; unfold PPc PN; first | decide | omega)) hcell (fun j p q => by
        by_cases z : j = i
        · rw [z, up_e]
        · rw [up_i z, up_a (by first | decide | omega), r106]; exact h6 j (by first | decide | omega) q) (fun j p q => by
        rw [up_a (show (107 : Nat) ≠ 106 by first | decide | omega), up_a (show (107 : Nat) ≠ 108 by first | decide | omega), up_a (show (108 : Nat) ≠ 106 by first | decide | omega), r107]
        show (if j = i then nxw w s i else m 107 j) = _ ∧ _
        by_cases z : j = i
        · subst z; rw [if_pos rfl, up_e]; exact ⟨rfl, ht⟩
        · rw [if_neg z, up_i z, r108]; exact h7 j (by first | decide | omega) q)
      exact ⟨m', z1, fC.tr z2, z3⟩
    by_cases z : wov w s c i + P (nxw w s i) < P (i + 1)
    · rw [if_pos z]; exact fin 0 (by rw [if_pos z])
    · rw [if_neg z]; exact fin 1 (by rw [if_neg z])
theorem c_mkPlan (t2 : m 0 3 = (T : Int)) (hc : CX m 51 T w g) (hn : NX m 69 n) (hW : WW w) (hG : GB w g) (hE : GE w g (gM w (-1))) {s : Int} {P : Int → Int} (hs : 0 ≤ s ∧ s < w 1 0) (hcc : 0 ≤ n 1 s ∧ n 1 s < w 0 0 * w 0 1) (hP : PMok w s (n 1 s) P (ff w (n 0 0))) : ∃ m', G0_makePlan m 51 69 s = some m' ∧ Fr PQ' m m' ∧ m' 99 12 = P (ff w (n 0 0)) ∧ m' 99 11 = (plL w s (n 1 s) P 28 (ff w (n 0 0))).length ∧ frt (m' 109) 0 (plL w s (n 1 s) P 28 (ff w (n 0 0))) := by
  have hw := hW.1
  unfold WS at hw
  have hT := hc.1.1
  obtain ⟨f1, f2, _, _⟩ := ff_spec (w := w) (by first | decide | omega) (n 0 0)
  have e69 : m 69 0 = n 0 0 := hn.2.1 0
  unfold G0_makePlan G0_makePlan_0
  rw [hc.2.2.1, Int.toNat_natCast, e69, g_ff hc.1 (by first | decide | omega), bs1]
  simp only
  rw [hc.1.2.2 8 1 (by first | decide | omega), gdx_t (by first | decide | omega), wt_e]
  have fA : Fr PPc m (up m 106 (w 8 1) 0) := Fr.up Fr.rf (Or.inr (Or.inr (by first | decide | omega)))
  have e8 : up m 106 (w 8 1) 0 (T + 8) 1 = w 8 1 := by rw [up_a (by first | decide | omega)]; exact hc.1.2.2 8 1 (by first | decide | omega)
  rw [e8, gd3_t (by first | decide | omega)]
  obtain ⟨m', z1, z2, z3⟩ := c_mk40 (T := T) (n := n) hW hG hE hP ⟨f1, f2⟩ hs hcc (w 8 1 - ff w (n 0 0)).toNat 1024 (w 8 1 - 1) (up m 106 (w 8 1) 0) (by first | decide | omega) (by first | decide | omega) (by first | decide | omega) (by first | decide | omega) (hc.fr fA (by intro b q; unfold PPc PN; first | decide | omega)) (hn.fr fA (by intro b x y; unfold PPc PN; first | decide | omega)) rfl (fun j p q => by
    have : j = w 8 1 := by omega
    rw [this, up_e, hP.1]) (fun j p q => by first | decide | omega)
  exact ⟨m', z1, (fA.tr z2).mono PPc_Q, z3⟩
theorem PM_lo {s c lo lo' : Int} {P : Int → Int} (h : PMok w s c P lo) (hl : lo ≤ lo') : PMok w s c P lo' := ⟨h.1, fun k a b => h.2 k (by first | decide | omega) b⟩
theorem a_plan (h : Rel m v) (x : Int) : Agr (G11_plan m x) (G12_plan v x) := by
  have h1 := h.v0
  unfold G11_plan G11_plan_0 G12_plan G12_plan_0
  rw [wt_e]
  generalize up v 0 2 0 = u at h1 ⊢
  obtain ⟨T, w, g, n, t1, t2, hc, hn, hW, hG, hE, hS, hR, hV, hL, -, -, -⟩ := h1.use
  have hw := hW.1
  unfold WS at hw
  obtain ⟨f1, f2, _, _⟩ := ff_spec (w := w) (by first | decide | omega) (n 0 0)
  rw [c_isS t2 hc.1, r_isS hR, bs1, bs1]
  by_cases c1 : 0 ≤ x ∧ x < w 1 0
  · simp only [if_pos c1, if_neg i10]
    have hcell := (hS.1.2 x c1.1 c1.2).1
    have k25 : u 25 x = n 1 x := by have := (hV.1.1 x c1.1 c1.2).1; rwa [show 5 * (0 : Int) + x = x by first | decide | omega] at this
    obtain ⟨u1, e2, g2, p1, _⟩ := r_lp hR hW c1 hcell hV.2.2.2.2 k25
    obtain ⟨m1, e1, g1, k1, _, _⟩ := c_mkPlan t2 hc hn hW hG hE c1 hcell (PM_lo p1 f1)
    have gq := g2.mono PPm_q
    rw [e1, bs1, e2, bs1, r_ftc (hR.q gq) hS (hV.q (by first | decide | omega) gq) hW, bs1, gdx_t (by first | decide | omega), k1]
    exact agr h1 _ rfl rfl g1 gq
  · simp only [if_neg c1, if_true]; exact agr0 h1 _ rfl rfl
/-- the k-th of a row; none: -2 -/
def nth (l : List Int) (k : Int) : Int := if (l.length : Int) ≤ k then -2 else l.getD k.toNat 0
theorem nth_c (y : Int) (r : List Int) {k : Int} (hk : 0 ≤ k) : nth (y :: r) k = if k = 0 then y else nth r (k - 1) := by
  unfold nth
  by_cases c : k = 0
  · subst c; rw [if_neg (by simp), if_pos rfl]; rfl
  · rw [if_neg c]
    by_cases c2 : ((y :: r).length : Int) ≤ k
    · rw [if_pos c2, if_pos (by simp at c2; first | decide | omega)]
    · rw [if_neg c2, if_neg (by simp at c2; first | decide | omega)]
      rw [show k.toNat = (k - 1).toNat + 1 by first | decide | omega]; rfl
theorem r_pd32 (hW : WW w) {s c : Int} {P : Int → Int} (hs : 0 ≤ s ∧ s < w 1 0) (hcc : 0 ≤ c ∧ c < w 0 0 * w 0 1) (hP : PMok w s c P 0) : ∀ (d f : Nat) (i k : Int) (v : Mem), 0 ≤ i → i ≤ w 8 1 → w 8 1 - i ≤ d → d < f → (0 ≤ k ∧ k ≤ 2147483647) → RT v w → v 0 66 = -1 → v 25 s = c → (∀ j, 0 ≤ j → j ≤ w 8 1 → v 37 j = P j) → (∀ j, 0 ≤ j → j < w 8 1 → v 38 j = nxw w s j) → ∃ v', G12_planned_32 f v s k i = some (nth (plL w s c P 28 i) k, v') ∧ Fm PNm v v' := by
  have hw := hW.1
  unfold WS at hw
  intro d
  induction d with
  | zero =>
    intro f i k v a1 a2 a3 a4 a5 hR h66 h25 h37 h38
    obtain ⟨f, rfl⟩ : ∃ j, f = j + 1 := ⟨f - 1, by first | decide | omega⟩
    rw [G12_planned_32, hR.1.2.2.2.2.1, if_pos (by first | decide | omega)]
    have e : plL w s c P 28 i = [] := by rw [show (28 : Nat) = 27 + 1 by decide, plL_s, if_pos (by first | decide | omega)]
    rw [e]
    refine ⟨v, ?_, Fm.rf⟩
    unfold nth
    rw [if_pos (by simp; first | decide | omega)]
  | succ d ih =>
    intro f i k v a1 a2 a3 a4 a5 hR h66 h25 h37 h38
    obtain ⟨f, rfl⟩ : ∃ j, f = j + 1 := ⟨f - 1, by first | decide | omega⟩
    by_cases c0 : w 8 1 ≤ i
    · rw [G12_planned_32, hR.1.2.2.2.2.1, if_pos c0]
      have e : plL w s c P 28 i = [] := by rw [show (28 : Nat) = 27 + 1 by decide, plL_s, if_pos c0]
      rw [e]
      refine ⟨v, ?_, Fm.rf⟩
      unfold nth
      rw [if_pos (by simp; first | decide | omega)]
    · have hi : 0 ≤ i ∧ i < w 8 1 := by omega
      have hnb := nxw_b hW (s := s) hi
      have hwb := wov_b hW (s := s) hi hcc
      obtain ⟨v1, e1, f1⟩ := r_gain hR hW (way := -1) h66 hs hi hcc
      have ew : worthV w (gM w (-1) 1 s) (gM w (-1) 3 i) i c = wov w s c i := rfl
      rw [ew] at e1
      have r37 : v1 37 = v 37 := funext fun j => f1 37 j (by unfold PNm; first | decide | omega)
      have r38 : v1 38 = v 38 := funext fun j => f1 38 j (by unfold PNm; first | decide | omega)
      have pN : 0 ≤ P (nxw w s i) ∧ P (nxw w s i) ≤ 900 * 28 := by
        by_cases z : nxw w s i = w 8 1
        · rw [z, hP.1]; omega
        · have := (hP.2 (nxw w s i) (by first | decide | omega) (by first | decide | omega)).2; omega
      have el : plL w s c P 28 i = if wov w s c i + P (nxw w s i) < P (i + 1) then plL w s c P 28 (i + 1) else i :: plL w s c P 28 (nxw w s i) := by
        rw [show plL w s c P 28 i = plL w s c P (27 + 1) i from rfl, plL_s, if_neg c0, plL_f hW 27 28 (i + 1) (by first | decide | omega) (by first | decide | omega) (by first | decide | omega), plL_f hW 27 28 (nxw w s i) (by first | decide | omega) (by first | decide | omega) (by first | decide | omega)]
      rw [G12_planned_32, hR.1.2.2.2.2.1, if_neg c0, gdx_t (by first | decide | omega), h25, e1, bs1, gdx_t (by first | decide | omega)]
      simp only
      rw [r37, r38, h38 i hi.1 hi.2, gdx_t (by first | decide | omega), gdx_t (by first | decide | omega), h37 (nxw w s i) (by first | decide | omega) (by first | decide | omega), h37 (i + 1) (by first | decide | omega) (by first | decide | omega), gd3_t (by first | decide | omega), el]
      unfold G12_planned_84 G12_planned_98 G12_planned_109
      have step : ∀ i' k', 0 ≤ i' → i' ≤ w 8 1 → w 8 1 - i' ≤ d → (0 ≤ k' ∧ k' ≤ 2147483647) → ∃ v', G12_planned_32 f v1 s k' i' = some (nth (plL w s c P 28 i') k', v') ∧ Fm PNm v v' := by
        intro i' k' b1 b2 b3 b4
        obtain ⟨v', z1, z2⟩ := ih f i' k' v1 b1 b2 b3 (by first | decide | omega) b4 (hR.pn f1) (by rw [f1 0 66 (by unfold PNm; first | decide | omega)]; exact h66) (by rw [f1 25 s (by unfold PNm; first | decide | omega)]; exact h25) (fun j p q => by rw [r37]; exact h37 j p q) (fun j p q => by rw [r38]; exact h38 j p q)
        exact ⟨v', z1, f1.tr z2⟩
      by_cases z : wov w s c i + P (nxw w s i) < P (i + 1)
      · simp only [if_pos z, if_true]
        rw [show k - 0 = k by first | decide | omega, gd3_t (by first | decide | omega), gd3_t (by first | decide | omega)]
        exact step (i + 1) k (by first | decide | omega) (by first | decide | omega) (by first | decide | omega) a5
      · simp only [if_neg z, if_neg i10]
        rw [nth_c _ _ a5.1]
        by_cases z2 : k = 0
        · rw [if_pos z2, if_pos z2]; exact ⟨v1, rfl, f1⟩
        · rw [if_neg z2, if_neg z2, gdx_t (by first | decide | omega), gd3_t (by first | decide | omega), r38, h38 i hi.1 hi.2]
          exact step (nxw w s i) (k - 1) (by first | decide | omega) (by first | decide | omega) (by first | decide | omega) (by first | decide | omega)
theorem frt_nth {f : Int → Int} : ∀ {l : List Int} {o k : Int}, frt f o l → 0 ≤ k → k < l.length → f (o + k) = l.getD k.toNat 0 := by
  intro l
  induction l with
  | nil => intro o k _ a b; simp at b; omega
  | cons y r ih =>
    intro o k h a b
    by_cases c : k = 0
    · subst c; rw [show o + 0 = o by first | decide | omega, h.1]; rfl
    · have := ih h.2 (show 0 ≤ k - 1 by first | decide | omega) (by simp at b; first | decide | omega)
      rw [show o + 1 + (k - 1) = o + k by first | decide | omega] at this
      rw [this, show k.toNat = (k - 1).toNat + 1 by first | decide | omega]; rfl
theorem plL_len (hW : WW w) {s c : Int} {P : Int → Int} : ∀ (d : Nat) (k : Int), 0 ≤ k → k ≤ w 8 1 → ((plL w s c P d k).length : Int) ≤ w 8 1 - k := by
  intro d
  induction d with
  | zero => intro k a b; show ((([] : List Int).length : Nat) : Int) ≤ _; simp; omega
  | succ d ih =>
    intro k a b
    rw [plL_s]
    split
    · simp; omega
    · have hn := nxw_b hW (s := s) (k := k) (by first | decide | omega)
      split
      · have := ih (k + 1) (by first | decide | omega) (by first | decide | omega); omega
      · have := ih (nxw w s k) (by first | decide | omega) (by first | decide | omega); simp; omega
theorem a_planned (h : Rel m v) (x y : Int) (hy : y ≤ 2147483647) : Agr (G11_planned m x y) (G12_planned v x y) := by
  have h1 := h.v0
  unfold G11_planned G11_planned_0 G12_planned G12_planned_0
  rw [wt_e]
  generalize up v 0 2 0 = u at h1 ⊢
  obtain ⟨T, w, g, n, t1, t2, hc, hn, hW, hG, hE, hS, hR, hV, hL, -, -, -⟩ := h1.use
  have hw := hW.1
  unfold WS at hw
  obtain ⟨f1, f2, _, _⟩ := ff_spec (w := w) (by first | decide | omega) (n 0 0)
  rw [c_isS t2 hc.1, r_isS hR, bs1, bs1]
  by_cases c1 : 0 ≤ x ∧ x < w 1 0
  · simp only [if_pos c1, if_neg i10]
    by_cases c2 : 0 ≤ y
    · rw [if_pos c2, if_pos c2]
      have hcell := (hS.1.2 x c1.1 c1.2).1
      have k25 : u 25 x = n 1 x := by have := (hV.1.1 x c1.1 c1.2).1; rwa [show 5 * (0 : Int) + x = x by first | decide | omega] at this
      obtain ⟨u1, e2, g2, p1, p2⟩ := r_lp hR hW c1 hcell hV.2.2.2.2 k25
      obtain ⟨m1, e1, g1, _, k2, k3⟩ := c_mkPlan t2 hc hn hW hG hE c1 hcell (PM_lo p1 f1)
      have gq := g2.mono PPm_q
      have hR1 := hR.q gq
      have hV1 := hV.q (by first | decide | omega) gq
      have k25' : u1 25 x = n 1 x := by rw [g2 25 x (by unfold PPm PNm; first | decide | omega)]; exact k25
      obtain ⟨u2, e3, g3⟩ := r_pd32 hW (P := u1 37) c1 hcell p1 28 1024 (ff w (n 0 0)) y u1 f1 f2 (by first | decide | omega) (by first | decide | omega) ⟨c2, hy⟩ hR1 hV1.2.2.2.2 k25' (fun j _ _ => rfl) p2
      have hlen := plL_len hW (s := x) (c := n 1 x) (P := u1 37) 28 (ff w (n 0 0)) f1 f2
      rw [e1, bs1, e2, bs1, r_ftc hR1 hS hV1 hW, bs1, e3, k2]
      unfold nth
      by_cases z : ((plL w x (n 1 x) (u1 37) 28 (ff w (n 0 0))).length : Int) ≤ y
      · rw [if_pos z, if_pos z]; exact agr h1 _ rfl rfl g1 (gq.tr (g3.mono PNm_q))
      · rw [if_neg z, if_neg z, gdx_t (by first | decide | omega)]
        have := frt_nth k3 c2 (show y < ((plL w x (n 1 x) (u1 37) 28 (ff w (n 0 0))).length : Int) by first | decide | omega)
        rw [Int.zero_add] at this
        rw [this]
        exact agr h1 _ rfl rfl g1 (gq.tr (g3.mono PNm_q))
    · rw [if_neg c2, if_neg c2]; exact agr0 h1 _ rfl rfl
  · simp only [if_neg c1, if_true]; exact agr0 h1 _ rfl rfl
end Q9
/-! The game of two: the class. -/
def cAy (w n : Mem) (s i : Int) : Int := bsd w (n 1 s) (gw i)
/-- does the first of the two have wave v -/
def cnd (w : Mem) (a b : Int) (o : Bool) (v : Int) : Bool := decide (fr w a (gM w (-1) 3 v) < fr w b (gM w (-1) 3 v)) || (decide (fr w a (gM w (-1) 3 v) = fr w b (gM w (-1) 3 v)) && o)
def gnO (w : Mem) (s a b : Int) (o : Bool) (v : Int) : Int := if cnd w a b o v = true then wov w s a v else 0
def gnT (w : Mem) (t a b : Int) (o : Bool) (v : Int) : Int := if cnd w a b o v = true then 0 else wov w t b v
def sO (w : Mem) (s a b : Int) (o : Bool) (lo : Int) : Int := smd (gnO w s a b o) (w 8 1 - lo).toNat lo
def sT (w : Mem) (t a b : Int) (o : Bool) (lo : Int) : Int := smd (gnT w t a b o) (w 8 1 - lo).toNat lo
section Q10
variable {m v w g n : Mem} {T : Nat}
theorem gw_b {i : Int} (h : 0 ≤ i ∧ i < 5) : 0 ≤ gw i ∧ gw i ≤ 4 := by unfold gw; split <;> omega
theorem bsd_b (hW : WW w) {c way : Int} (hc : 0 ≤ c ∧ c < w 0 0 * w 0 1) (hw : 0 ≤ way ∧ way ≤ 4) : bsd w c way = -1 ∨ (0 ≤ bsd w c way ∧ bsd w c way < w 0 0 * w 0 1) := by
  have hs := hW.1
  unfold WS at hs
  obtain ⟨b1, b2, b3, b4, e, b5⟩ := cell_b (W := w 0 0) (H := w 0 1) (by first | decide | omega) (by first | decide | omega) hc
  have hup : w 0 0 * (c / w 0 0 + 1) ≤ w 0 0 * w 0 1 := Int.mul_le_mul_of_nonneg_left (by first | decide | omega) (by first | decide | omega)
  rw [Int.mul_add, Int.mul_one] at hup
  have hm0 := Int.mul_nonneg (show 0 ≤ w 0 0 by first | decide | omega) b3
  unfold bsd
  split
  · split
    · left; rfl
    · right
      have : w 0 0 * 1 ≤ w 0 0 * (c / w 0 0) := Int.mul_le_mul_of_nonneg_left (by first | decide | omega) (by first | decide | omega)
      omega
  · split
    · split
      · left; rfl
      · right; omega
    · split
      · split
        · left; rfl
        · right
          have : w 0 0 * (c / w 0 0 + 2) ≤ w 0 0 * w 0 1 := Int.mul_le_mul_of_nonneg_left (by first | decide | omega) (by first | decide | omega)
          rw [Int.mul_add] at this
          omega
      · split
        · split
          · left; rfl
          · right; omega
        · right; omega
theorem cAy_b (hW : WW w) {s i : Int} (hc : 0 ≤ n 1 s ∧ n 1 s < w 0 0 * w 0 1) (hi : 0 ≤ i ∧ i < 5) : cAy w n s i = -1 ∨ (0 ≤ cAy w n s i ∧ cAy w n s i < w 0 0 * w 0 1) := bsd_b hW hc (gw_b hi)
/-- what weighing the ways of one changes -/
def PWy (r : Int) : Nat → Int → Prop := fun b i => PN 51 b ∨ (b = 100 ∧ r ≤ i ∧ i < r + 5) ∨ ((b = 101 ∨ b = 102) ∧ r * 28 ≤ i ∧ i < (r + 5) * 28)
theorem Fm.toFr {P : Nat → Int → Prop} {Q : Nat → Prop} {a b : Mem} (f : Fm P a b) (h : ∀ x i, P x i → Q x) : Fr Q a b := fun x i q => f x i (fun p => q (h x i p))
theorem CX.wy {m m' : Mem} {r : Int} (h : CX m 51 T w g) (f : Fm (PWy r) m m') : CX m' 51 T w g := h.fr (f.toFr (Q := fun b => PN 51 b ∨ (100 ≤ b ∧ b ≤ 102)) (by intro x i p; unfold PWy PN at p; unfold PN; first | decide | omega)) (by intro b q; have := h.1.1; unfold PN; first | decide | omega)
theorem NX.wy {m m' : Mem} {r : Int} (h : NX m 69 n) (f : Fm (PWy r) m m') : NX m' 69 n := h.fr (f.toFr (Q := fun b => PN 51 b ∨ (100 ≤ b ∧ b ≤ 102)) (by intro x i p; unfold PWy PN at p; unfold PN; first | decide | omega)) (by intro b x y; unfold PN; first | decide | omega)
/-- one way i of row r is weighed from lo on -/
def WyR (m w : Mem) (s c r i lo : Int) : Prop := ∀ k, lo ≤ k → k < w 8 1 → m 101 ((r + i) * 28 + k) = fr w c (gM w (-1) 3 k) ∧ m 102 ((r + i) * 28 + k) = wov w s c k
theorem c_way46 (hW : WW w) (hG : GB w g) (hE : GE w g (gM w (-1))) {s r i c lo : Int} (hs : 0 ≤ s ∧ s < w 1 0) (hr : r = 0 ∨ r = 5) (hi : 0 ≤ i ∧ i < 5) (hc : c = -1 ∨ (0 ≤ c ∧ c < w 0 0 * w 0 1)) (hlo : 0 ≤ lo) {kk : Mem → Nat → Nat → Int → Int → Int → Int → Option Mem} : ∀ (d k : Nat) (j : Int) (m : Mem), lo ≤ j → (w 8 1 - j = d ∨ (w 8 1 < j ∧ d = 0)) → d < k → CX m 51 T w g → W102 m → (c ≠ -1 → ∀ q, lo ≤ q → q < j → q < w 8 1 → m 101 ((r + i) * 28 + q) = fr w c (gM w (-1) 3 q) ∧ m 102 ((r + i) * 28 + q) = wov w s c q) → ∃ m', G0_weighWays_46 kk k m 51 69 s r lo i c j = kk m' 51 69 s r lo (i + 1) ∧ Fm (fun b q => PN 51 b ∨ ((b = 101 ∨ b = 102) ∧ (r + i) * 28 ≤ q ∧ q < (r + i) * 28 + 28)) m m' ∧ W102 m' ∧ (c ≠ -1 → WyR m' w s c r i lo) := by
  have hw := hW.1
  unfold WS at hw
  have hg := hG.1 s hs.1 hs.2
  intro d
  induction d with
  | zero =>
    intro k j m a1 a2 a3 hc0 h102 h
    obtain ⟨k, rfl⟩ : ∃ q, k = q + 1 := ⟨k - 1, by first | decide | omega⟩
    rw [G0_weighWays_46, hc0.2.2.1, Int.toNat_natCast, hc0.1.2.2 8 1 (by first | decide | omega), if_pos (show w 8 1 ≤ j by first | decide | omega), gd3_t (by first | decide | omega)]
    refine ⟨m, ?_, Fm.rf, h102, fun z q p1 p2 => h z q p1 (by first | decide | omega) p2⟩
    split <;> rfl
  | succ d ih =>
    intro k j m a1 a2 a3 hc0 h102 h
    obtain ⟨k, rfl⟩ : ∃ q, k = q + 1 := ⟨k - 1, by first | decide | omega⟩
    by_cases z : c = -1
    · rw [G0_weighWays_46, if_pos z, gd3_t (by first | decide | omega)]
      exact ⟨m, rfl, Fm.rf, h102, fun z' => absurd z z'⟩
    · have hcc : 0 ≤ c ∧ c < w 0 0 * w 0 1 := by rcases hc with q | q; exact absurd q z; exact q
      have hj : 0 ≤ j ∧ j < w 8 1 := by omega
      have hp := hG.2 j hj.1 hj.2
      have hwb := wov_b hW (s := s) hj hcc
      rw [G0_weighWays_46, if_neg z, hc0.2.2.1, Int.toNat_natCast, hc0.1.2.2 8 1 (by first | decide | omega), if_neg (by first | decide | omega), g_farOf hc0 hW hj hcc hp, bs1]
      simp only
      rw [gdx_t (by first | decide | omega), wt_e, hE.2 j hj.1 hj.2]
      have f1 : Fm (fun b q => PN 51 b ∨ ((b = 101 ∨ b = 102) ∧ (r + i) * 28 ≤ q ∧ q < (r + i) * 28 + 28)) m (up m 101 ((r + i) * 28 + j) (fr w c (gM w (-1) 3 j))) := Fm.w1 (Or.inr ⟨Or.inl rfl, by first | decide | omega, by first | decide | omega⟩)
      have hc1 : CX (up m 101 ((r + i) * 28 + j) (fr w c (gM w (-1) 3 j))) 51 T w g := hc0.fr (Fr.up (P := fun b => b = 101) Fr.rf rfl) (by intro b q; have := hc0.1.1; show ¬ b = 101; first | decide | omega)
      obtain ⟨m2, e2, f2⟩ := g_worth hc1 hW (x := s) (v := j) (c := c) (by first | decide | omega) ⟨hg.1, hg.2.1⟩ hj hcc hp
      have ew : worthV w (g 1 s) (g 3 j) j c = wov w s c j := by unfold wov; rw [(hE.1 s hs.1 hs.2).1, hE.2 j hj.1 hj.2]
      rw [ew] at e2
      rw [e2, bs1, gdx_t (by first | decide | omega), wt_e, gd3_t (by first | decide | omega)]
      simp only
      have f3 : Fm (fun b q => PN 51 b ∨ ((b = 101 ∨ b = 102) ∧ (r + i) * 28 ≤ q ∧ q < (r + i) * 28 + 28)) m (up m2 102 ((r + i) * 28 + j) (wov w s c j)) := by
        have fa : Fm (fun b q => PN 51 b ∨ ((b = 101 ∨ b = 102) ∧ (r + i) * 28 ≤ q ∧ q < (r + i) * 28 + 28)) (up m 101 ((r + i) * 28 + j) (fr w c (gM w (-1) 3 j))) m2 := fun b q hq => f2 b q (fun y => hq (Or.inl y))
        exact (f1.tr fa).w (Or.inr ⟨Or.inr rfl, by first | decide | omega, by first | decide | omega⟩)
      have r101 : m2 101 = up m 101 ((r + i) * 28 + j) (fr w c (gM w (-1) 3 j)) 101 := funext fun q => f2 101 q (by unfold PN; first | decide | omega)
      have r102 : m2 102 = m 102 := funext fun q => by rw [f2 102 q (by unfold PN; first | decide | omega), up_a (by first | decide | omega)]
      have w2 : W102 (up m2 102 ((r + i) * 28 + j) (wov w s c j)) := by
        intro q p1 p2
        by_cases zq : q = (r + i) * 28 + j
        · rw [zq, up_e]; exact hwb
        · rw [up_i zq, r102]; exact h102 q p1 p2
      have hc2 : CX (up m2 102 ((r + i) * 28 + j) (wov w s c j)) 51 T w g := (hc1.pn f2).fr (Fr.up (P := fun b => b = 102) Fr.rf rfl) (by intro b q; have := hc0.1.1; show ¬ b = 102; first | decide | omega)
      obtain ⟨m', z1, z2, z3, z4⟩ := ih k (j + 1) (up m2 102 ((r + i) * 28 + j) (wov w s c j)) (by first | decide | omega) (by first | decide | omega) (by first | decide | omega) hc2 w2 (fun _ q p1 p2 p3 => by
        rw [up_a (show (101 : Nat) ≠ 102 by first | decide | omega), r101]
        by_cases zq : q = j
        · subst zq; rw [up_e, up_e]; exact ⟨rfl, rfl⟩
        · rw [up_i (show (r + i) * 28 + q ≠ (r + i) * 28 + j by first | decide | omega), up_i (show (r + i) * 28 + q ≠ (r + i) * 28 + j by first | decide | omega), r102]
          exact h z q p1 (by first | decide | omega) p3)
      exact ⟨m', z1, f3.tr z2, z3, z4⟩
theorem c_way3 (hW : WW w) (hG : GB w g) (hE : GE w g (gM w (-1))) {s r lo : Int} (hs : 0 ≤ s ∧ s < w 1 0) (hr : r = 0 ∨ r = 5) (hcell : 0 ≤ n 1 s ∧ n 1 s < w 0 0 * w 0 1) (hlo : 0 ≤ lo) : ∀ (d k : Nat) (i : Int) (m : Mem), 0 ≤ i → 5 - i = d → d < k → CX m 51 T w g → NX m 69 n → W102 m → (∀ j, 0 ≤ j → j < i → m 100 (r + j) = cAy w n s j ∧ (cAy w n s j ≠ -1 → WyR m w s (cAy w n s j) r j lo)) → ∃ m', G0_weighWays_3 k m 51 69 s r lo i = some m' ∧ Fm (PWy r) m m' ∧ W102 m' ∧ ∀ j, 0 ≤ j → j < 5 → m' 100 (r + j) = cAy w n s j ∧ (cAy w n s j ≠ -1 → WyR m' w s (cAy w n s j) r j lo) := by
  have hw := hW.1
  unfold WS at hw
  intro d
  induction d with
  | zero =>
    intro k i m a1 a2 a3 hc hn h102 h
    obtain ⟨k, rfl⟩ : ∃ q, k = q + 1 := ⟨k - 1, by first | decide | omega⟩
    rw [G0_weighWays_3, if_pos (by first | decide | omega)]
    exact ⟨m, rfl, Fm.rf, h102, fun j p q => h j p (by first | decide | omega)⟩
  | succ d ih =>
    intro k i m a1 a2 a3 hc hn h102 h
    obtain ⟨k, rfl⟩ : ∃ q, k = q + 1 := ⟨k - 1, by first | decide | omega⟩
    have hT := hc.1.1
    have e70 : m (69 + 1) s = n 1 s := hn.2.2 1 s (by first | decide | omega)
    rw [G0_weighWays_3, if_neg (by first | decide | omega), gdx_t (by first | decide | omega), gdx_t (by first | decide | omega), hc.2.2.1, Int.toNat_natCast, e70, g_bsd hc.1 (by first | decide | omega) (by first | decide | omega) hcell, bs1, gdx_t (by first | decide | omega), wt_e]
    simp only
    have ec : bsd w (n 1 s) (gw i) = cAy w n s i := rfl
    rw [ec]
    have f1 : Fm (PWy r) m (up m 100 (r + i) (cAy w n s i)) := Fm.w1 (Or.inr (Or.inl ⟨rfl, by first | decide | omega, by first | decide | omega⟩))
    obtain ⟨m2, e2, f2, w2, q2⟩ := c_way46 (T := T) hW hG hE (s := s) (r := r) (i := i) (c := cAy w n s i) (lo := lo) hs hr (by first | decide | omega) (cAy_b hW hcell (by first | decide | omega)) hlo (kk := fun m a1 a2 x3 x4 x5 x6 => G0_weighWays_3 k m a1 a2 x3 x4 x5 x6) (w 8 1 - lo).toNat 1024 lo (up m 100 (r + i) (cAy w n s i)) (by first | decide | omega) (by first | decide | omega) (by first | decide | omega) (hc.wy f1) (fun q p1 p2 => by rw [up_a (by first | decide | omega)]; exact h102 q p1 p2) (fun _ q p1 p2 => by first | decide | omega)
    rw [e2]
    have f3 : Fm (PWy r) m m2 := f1.tr (f2.mono (fun b q z => by rcases z with z | z; exact Or.inl z; exact Or.inr (Or.inr ⟨z.1, by first | decide | omega, by first | decide | omega⟩)))
    obtain ⟨m', z1, z2, z3, z4⟩ := ih k (i + 1) m2 (by first | decide | omega) (by first | decide | omega) (by first | decide | omega) (hc.wy f3) (hn.wy f3) w2 (fun j p q => by
      rw [f2 100 _ (by unfold PN; first | decide | omega)]
      by_cases zj : j = i
      · subst zj; rw [up_e]; exact ⟨rfl, q2⟩
      · have := h j p (by first | decide | omega)
        rw [up_i (show r + j ≠ r + i by first | decide | omega)]
        refine ⟨this.1, fun zz k2 p1 p2 => ?_⟩
        have h2 := this.2 zz k2 p1 p2
        rw [f2 101 _ (by unfold PN; first | decide | omega), f2 102 _ (by unfold PN; first | decide | omega), up_a (by first | decide | omega), up_a (by first | decide | omega)]
        exact h2)
    exact ⟨m', z1, f3.tr z2, z3, z4⟩
/-- one pair of ways: who has what -/
theorem c_shr9 (hw : 0 ≤ w 8 1 ∧ w 8 1 ≤ 28) {i k lo x5 : Int} (hi : 0 ≤ i ∧ i < 5) (hk : 0 ≤ k ∧ k < 5) (hlo : 0 ≤ lo) (hx : x5 = 0 ∨ x5 = 1) {fO fT : Int → Int} : ∀ (d f : Nat) (j a b : Int) (m : Mem), lo ≤ j → (w 8 1 - j = d ∨ (w 8 1 < j ∧ d = 0)) → d < f → (0 ≤ a ∧ a ≤ 900 * j) → (0 ≤ b ∧ b ≤ 900 * j) → W102 m → ∃ A B, G0_sharePair_9 f m i k (w 8 1) x5 a b j = some (up (up m 103 (i * 5 + k) A) 104 (i * 5 + k) B) ∧ ((∀ q, lo ≤ q → q < w 8 1 → ((m 101 (i * 28 + q) < m 101 ((5 + k) * 28 + q) ∨ (m 101 (i * 28 + q) = m 101 ((5 + k) * 28 + q) ∧ x5 = 1)) → fO q = m 102 (i * 28 + q) ∧ fT q = 0) ∧ (¬ (m 101 (i * 28 + q) < m 101 ((5 + k) * 28 + q) ∨ (m 101 (i * 28 + q) = m 101 ((5 + k) * 28 + q) ∧ x5 = 1)) → fO q = 0 ∧ fT q = m 102 ((5 + k) * 28 + q))) → A = a + smd fO d j ∧ B = b + smd fT d j) := by
  intro d
  induction d with
  | zero =>
    intro f j a b m a1 a2 a3 a4 a5 h102
    obtain ⟨f, rfl⟩ : ∃ q, f = q + 1 := ⟨f - 1, by first | decide | omega⟩
    rw [G0_sharePair_9, if_pos (by first | decide | omega), gdx_t (by first | decide | omega), wt_e, gdx_t (by first | decide | omega), wt_e]
    exact ⟨a, b, rfl, fun _ => ⟨by show a = a + 0; first | decide | omega, by show b = b + 0; first | decide | omega⟩⟩
  | succ d ih =>
    intro f j a b m a1 a2 a3 a4 a5 h102
    obtain ⟨f, rfl⟩ : ∃ q, f = q + 1 := ⟨f - 1, by first | decide | omega⟩
    have b1 := h102 (i * 28 + j) (by first | decide | omega) (by first | decide | omega)
    have b2 := h102 ((5 + k) * 28 + j) (by first | decide | omega) (by first | decide | omega)
    rw [G0_sharePair_9, if_neg (by first | decide | omega)]
    unfold G0_sharePair_75 G0_sharePair_90
    simp only [gdx_t (show 0 ≤ i * 28 + j ∧ i * 28 + j < 280 by first | decide | omega), gdx_t (show 0 ≤ (5 + k) * 28 + j ∧ (5 + k) * 28 + j < 280 by first | decide | omega), gd3_t (show -2147483648 ≤ i * 28 + j ∧ i * 28 + j ≤ 2147483647 by first | decide | omega), gd3_t (show -2147483648 ≤ (5 + k) * 28 + j ∧ (5 + k) * 28 + j ≤ 2147483647 by first | decide | omega), gd3_t (show -2147483648 ≤ a + m 102 (i * 28 + j) ∧ a + m 102 (i * 28 + j) ≤ 2147483647 by first | decide | omega), gd3_t (show -2147483648 ≤ b + m 102 ((5 + k) * 28 + j) ∧ b + m 102 ((5 + k) * 28 + j) ≤ 2147483647 by first | decide | omega), gd3_t (show -2147483648 ≤ j + 1 ∧ j + 1 ≤ 2147483647 by first | decide | omega)]
    obtain ⟨A1, B1, e1, q1⟩ := ih f (j + 1) (a + m 102 (i * 28 + j)) b m (by first | decide | omega) (by first | decide | omega) (by first | decide | omega) (by first | decide | omega) (by first | decide | omega) h102
    obtain ⟨A2, B2, e2, q2⟩ := ih f (j + 1) a (b + m 102 ((5 + k) * 28 + j)) m (by first | decide | omega) (by first | decide | omega) (by first | decide | omega) (by first | decide | omega) (by first | decide | omega) h102
    have one : (m 101 (i * 28 + j) < m 101 ((5 + k) * 28 + j) ∨ (m 101 (i * 28 + j) = m 101 ((5 + k) * 28 + j) ∧ x5 = 1)) → ∃ A B, G0_sharePair_9 f m i k (w 8 1) x5 (a + m 102 (i * 28 + j)) b (j + 1) = some (up (up m 103 (i * 5 + k) A) 104 (i * 5 + k) B) ∧ ((∀ q, lo ≤ q → q < w 8 1 → ((m 101 (i * 28 + q) < m 101 ((5 + k) * 28 + q) ∨ (m 101 (i * 28 + q) = m 101 ((5 + k) * 28 + q) ∧ x5 = 1)) → fO q = m 102 (i * 28 + q) ∧ fT q = 0) ∧ (¬ (m 101 (i * 28 + q) < m 101 ((5 + k) * 28 + q) ∨ (m 101 (i * 28 + q) = m 101 ((5 + k) * 28 + q) ∧ x5 = 1)) → fO q = 0 ∧ fT q = m 102 ((5 + k) * 28 + q))) → A = a + smd fO (d + 1) j ∧ B = b + smd fT (d + 1) j) := fun z => ⟨A1, B1, e1, fun h => by
      have h0 := (h j (by first | decide | omega) (by first | decide | omega)).1 z
      have := q1 h
      rw [smd_s, smd_s, h0.1, h0.2]
      omega⟩
    have two : ¬ (m 101 (i * 28 + j) < m 101 ((5 + k) * 28 + j) ∨ (m 101 (i * 28 + j) = m 101 ((5 + k) * 28 + j) ∧ x5 = 1)) → ∃ A B, G0_sharePair_9 f m i k (w 8 1) x5 a (b + m 102 ((5 + k) * 28 + j)) (j + 1) = some (up (up m 103 (i * 5 + k) A) 104 (i * 5 + k) B) ∧ ((∀ q, lo ≤ q → q < w 8 1 → ((m 101 (i * 28 + q) < m 101 ((5 + k) * 28 + q) ∨ (m 101 (i * 28 + q) = m 101 ((5 + k) * 28 + q) ∧ x5 = 1)) → fO q = m 102 (i * 28 + q) ∧ fT q = 0) ∧ (¬ (m 101 (i * 28 + q) < m 101 ((5 + k) * 28 + q) ∨ (m 101 (i * 28 + q) = m 101 ((5 + k) * 28 + q) ∧ x5 = 1)) → fO q = 0 ∧ fT q = m 102 ((5 + k) * 28 + q))) → A = a + smd fO (d + 1) j ∧ B = b + smd fT (d + 1) j) := fun z => ⟨A2, B2, e2, fun h => by
      have h0 := (h j (by first | decide | omega) (by first | decide | omega)).2 z
      have := q2 h
      rw [smd_s, smd_s, h0.1, h0.2]
      omega⟩
    by_cases c1 : m 101 (i * 28 + j) < m 101 ((5 + k) * 28 + j)
    · rw [if_pos c1]; exact one (Or.inl c1)
    · rw [if_neg c1]
      by_cases c2 : m 101 (i * 28 + j) = m 101 ((5 + k) * 28 + j)
      · rw [if_pos c2]
        by_cases c3 : x5 = 0
        · rw [if_pos c3]; exact two (fun z => by first | decide | omega)
        · rw [if_neg c3]; exact one (Or.inr ⟨c2, by first | decide | omega⟩)
      · rw [if_neg c2]; exact two (fun z => by first | decide | omega)
/-- all ways of both are weighed -/
def GmR (m w n : Mem) (s t lo : Int) : Prop := ∀ j, 0 ≤ j → j < 5 → (m 100 (0 + j) = cAy w n s j ∧ (cAy w n s j ≠ -1 → WyR m w s (cAy w n s j) 0 j lo)) ∧ (m 100 (5 + j) = cAy w n t j ∧ (cAy w n t j ≠ -1 → WyR m w t (cAy w n t j) 5 j lo))
/-- the gains of pairs before (i, k) are laid -/
def GnR (m w n : Mem) (s t lo p : Int) : Prop := ∀ i k, 0 ≤ i → i < 5 → 0 ≤ k → k < 5 → i * 5 + k < p → cAy w n s i ≠ -1 → cAy w n t k ≠ -1 → m 103 (i * 5 + k) = sO w s (cAy w n s i) (cAy w n t k) (decide (s < t)) lo ∧ m 104 (i * 5 + k) = sT w t (cAy w n s i) (cAy w n t k) (decide (s < t)) lo
def P34 : Nat → Prop := fun b => b = 103 ∨ b = 104
theorem GmR.fr {m m' : Mem} {s t lo : Int} (h : GmR m w n s t lo) (f : Fr P34 m m') : GmR m' w n s t lo := by
  have e0 : m' 100 = m 100 := f.row (by unfold P34; first | decide | omega)
  have e1 : m' 101 = m 101 := f.row (by unfold P34; first | decide | omega)
  have e2 : m' 102 = m 102 := f.row (by unfold P34; first | decide | omega)
  unfold GmR WyR at *
  rw [e0, e1, e2]; exact h
theorem c_share (hw : 0 ≤ w 8 1 ∧ w 8 1 ≤ 28) {s t lo i k : Int} (hi : 0 ≤ i ∧ i < 5) (hk : 0 ≤ k ∧ k < 5) (hlo : 0 ≤ lo ∧ lo ≤ w 8 1) {m : Mem} (h : GmR m w n s t lo) (h102 : W102 m) (hG : GnR m w n s t lo (i * 5 + k)) {x5 : Int} (hx : x5 = if s < t then 1 else 0) : ∃ m', G0_sharePair m i k lo (w 8 1) x5 = some m' ∧ Fr P34 m m' ∧ GnR m' w n s t lo (i * 5 + k + 1) := by
  have hx01 : x5 = 0 ∨ x5 = 1 := by rw [hx]; split <;> omega
  obtain ⟨A, B, e, q⟩ := c_shr9 (w := w) hw hi hk hlo.1 hx01 (fO := gnO w s (cAy w n s i) (cAy w n t k) (decide (s < t))) (fT := gnT w t (cAy w n s i) (cAy w n t k) (decide (s < t))) (w 8 1 - lo).toNat 1024 lo 0 0 m (by first | decide | omega) (by first | decide | omega) (by first | decide | omega) (by first | decide | omega) (by first | decide | omega) h102
  unfold G0_sharePair G0_sharePair_0
  rw [e]
  refine ⟨_, rfl, (Fr.up Fr.rf (Or.inl rfl)).up (Or.inr rfl), ?_⟩
  intro i' k' a1 a2 a3 a4 a5 v1 v2
  by_cases z : i' * 5 + k' = i * 5 + k
  · have ei : i' = i := by omega
    have ek : k' = k := by omega
    subst ei ek
    rw [up_a (show (103 : Nat) ≠ 104 by first | decide | omega), up_e, up_e]
    have hA := (h i' a1 a2).1.2 v1
    have hB := (h k' a3 a4).2.2 v2
    have := q (fun v p1 p2 => by
      have h1 := hA v p1 p2
      have h2 := hB v p1 p2
      rw [show (0 + i') * 28 + v = i' * 28 + v by first | decide | omega] at h1
      rw [h1.1, h1.2, h2.1, h2.2]
      have hcnd : cnd w (cAy w n s i') (cAy w n t k') (decide (s < t)) v = true ↔ (fr w (cAy w n s i') (gM w (-1) 3 v) < fr w (cAy w n t k') (gM w (-1) 3 v) ∨ (fr w (cAy w n s i') (gM w (-1) 3 v) = fr w (cAy w n t k') (gM w (-1) 3 v) ∧ x5 = 1)) := by
        unfold cnd
        rw [Bool.or_eq_true, Bool.and_eq_true, decide_eq_true_iff, decide_eq_true_iff, decide_eq_true_iff]
        have : s < t ↔ x5 = 1 := by rw [hx]; split <;> omega
        rw [this]
      unfold gnO gnT
      refine ⟨fun y => ?_, fun y => ?_⟩
      · rw [if_pos (hcnd.mpr y), if_pos (hcnd.mpr y)]; exact ⟨rfl, rfl⟩
      · rw [if_neg (fun y' => y (hcnd.mp y')), if_neg (fun y' => y (hcnd.mp y'))]; exact ⟨rfl, rfl⟩)
    rw [Int.zero_add, Int.zero_add] at this
    exact this
  · rw [up_a (show (103 : Nat) ≠ 104 by first | decide | omega), up_i z, up_i z, up_a (show (104 : Nat) ≠ 103 by first | decide | omega)]
    exact hG i' k' a1 a2 a3 a4 (by first | decide | omega) v1 v2
theorem c_pg49 (hW : WW w) {s t lo : Int} (hlo : 0 ≤ lo ∧ lo ≤ w 8 1) {i : Int} (hi : 0 ≤ i ∧ i < 5) {kk : Mem → Nat → Int → Int → Int → Int → Option Mem} : ∀ (d f : Nat) (k : Int) (m : Mem), 0 ≤ k → 5 - k = d → d < f → CX m 51 T w g → W102 m → GmR m w n s t lo → GnR m w n s t lo (i * 5 + k) → ∃ m', G0_playGame_49 kk f m 51 s t lo i k = kk m' 51 s t lo (i + 1) ∧ Fr P34 m m' ∧ GnR m' w n s t lo (i * 5 + 5) := by
  have hw := hW.1
  unfold WS at hw
  intro d
  induction d with
  | zero =>
    intro f k m a1 a2 a3 hc h102 hM hG
    obtain ⟨f, rfl⟩ : ∃ q, f = q + 1 := ⟨f - 1, by first | decide | omega⟩
    rw [G0_playGame_49, if_pos (by first | decide | omega), gd3_t (by first | decide | omega)]
    have : k = 5 := by omega
    subst this
    exact ⟨m, rfl, Fr.rf, hG⟩
  | succ d ih =>
    intro f k m a1 a2 a3 hc h102 hM hG
    obtain ⟨f, rfl⟩ : ∃ q, f = q + 1 := ⟨f - 1, by first | decide | omega⟩
    rw [G0_playGame_49, if_neg (by first | decide | omega), hc.2.2.1, Int.toNat_natCast, hc.1.2.2 8 1 (by first | decide | omega)]
    unfold G0_playGame_83
    have step : ∀ x5 : Int, x5 = (if s < t then 1 else 0) → ∃ m', ((G0_sharePair m i k lo (w 8 1) x5).bind fun o1 => gd3 (k + 1) (G0_playGame_49 kk f o1 51 s t lo i (k + 1))) = kk m' 51 s t lo (i + 1) ∧ Fr P34 m m' ∧ GnR m' w n s t lo (i * 5 + 5) := by
      intro x5 hx
      obtain ⟨m1, e1, f1, g1⟩ := c_share (by first | decide | omega) hi (k := k) (by first | decide | omega) hlo hM h102 hG hx
      rw [e1, bs1, gd3_t (by first | decide | omega)]
      have hT := hc.1.1
      obtain ⟨m', z1, z2, z3⟩ := ih f (k + 1) m1 (by first | decide | omega) (by first | decide | omega) (by first | decide | omega) (hc.fr f1 (by intro b q; unfold P34; first | decide | omega)) (fun q p1 p2 => by rw [f1 102 q (by unfold P34; first | decide | omega)]; exact h102 q p1 p2) (hM.fr f1) (by rw [show i * 5 + (k + 1) = i * 5 + k + 1 by first | decide | omega]; exact g1)
      exact ⟨m', z1, f1.tr z2, z3⟩
    by_cases c : t ≤ s
    · rw [if_pos c]; exact step 0 (by rw [if_neg (by first | decide | omega)])
    · rw [if_neg c]; exact step 1 (by rw [if_pos (by first | decide | omega)])
theorem c_pg40 (hW : WW w) {s t lo : Int} (hlo : 0 ≤ lo ∧ lo ≤ w 8 1) : ∀ (d f : Nat) (i : Int) (m : Mem), 0 ≤ i → 5 - i = d → d < f → CX m 51 T w g → W102 m → GmR m w n s t lo → GnR m w n s t lo (i * 5) → ∃ m', G0_playGame_40 f m 51 s t lo i = G0_findRests m' ∧ Fr P34 m m' ∧ GmR m' w n s t lo ∧ GnR m' w n s t lo 25 := by
  intro d
  induction d with
  | zero =>
    intro f i m a1 a2 a3 hc h102 hM hG
    obtain ⟨f, rfl⟩ : ∃ q, f = q + 1 := ⟨f - 1, by first | decide | omega⟩
    rw [G0_playGame_40, if_pos (by first | decide | omega)]
    have : i = 5 := by omega
    subst this
    refine ⟨m, ?_, Fr.rf, hM, hG⟩
    cases G0_findRests m <;> rfl
  | succ d ih =>
    intro f i m a1 a2 a3 hc h102 hM hG
    obtain ⟨f, rfl⟩ : ∃ q, f = q + 1 := ⟨f - 1, by first | decide | omega⟩
    rw [G0_playGame_40, if_neg (by first | decide | omega)]
    obtain ⟨m1, e1, f1, g1⟩ := c_pg49 (T := T) (g := g) (n := n) hW (s := s) (t := t) hlo (i := i) (by first | decide | omega) (kk := fun m a1 x3 x4 x5 x6 => G0_playGame_40 f m a1 x3 x4 x5 x6) 5 1024 0 m (by first | decide | omega) (by first | decide | omega) (by first | decide | omega) hc h102 hM (by rw [show i * 5 + 0 = i * 5 by first | decide | omega]; exact hG)
    rw [e1]
    have hT := hc.1.1
    obtain ⟨m', z1, z2, z3, z4⟩ := ih f (i + 1) m1 (by first | decide | omega) (by first | decide | omega) (by first | decide | omega) (hc.fr f1 (by intro b q; unfold P34; first | decide | omega)) (fun q p1 p2 => by rw [f1 102 q (by unfold P34; first | decide | omega)]; exact h102 q p1 p2) (hM.fr f1) (by rw [show (i + 1) * 5 = i * 5 + 5 by first | decide | omega]; exact g1)
    exact ⟨m', z1, f1.tr z2, z3, z4⟩
/-- neither gains by another way -/
def okR (w n : Mem) (s t lo : Int) (i k : Int) : Bool := decide (cAy w n s i ≠ -1) && (decide (cAy w n t k ≠ -1) && (List.range 5).all fun j => (decide (cAy w n s j = -1) || decide (sO w s (cAy w n s j) (cAy w n t k) (decide (s < t)) lo ≤ sO w s (cAy w n s i) (cAy w n t k) (decide (s < t)) lo)) && (decide (cAy w n t j = -1) || decide (sT w t (cAy w n s i) (cAy w n t j) (decide (s < t)) lo ≤ sT w t (cAy w n s i) (cAy w n t k) (decide (s < t)) lo)))
/-- the test of one way j -/
def okJ (w n : Mem) (s t lo i k j : Int) : Prop := (cAy w n s j = -1 ∨ sO w s (cAy w n s j) (cAy w n t k) (decide (s < t)) lo ≤ sO w s (cAy w n s i) (cAy w n t k) (decide (s < t)) lo) ∧ (cAy w n t j = -1 ∨ sT w t (cAy w n s i) (cAy w n t j) (decide (s < t)) lo ≤ sT w t (cAy w n s i) (cAy w n t k) (decide (s < t)) lo)
theorem okR_iff {s t lo i k : Int} : okR w n s t lo i k = true ↔ (cAy w n s i ≠ -1 ∧ cAy w n t k ≠ -1 ∧ ∀ j, 0 ≤ j → j < 5 → okJ w n s t lo i k j) := by
  unfold okR okJ
  simp only [Bool.and_eq_true, Bool.or_eq_true, decide_eq_true_iff, List.all_eq_true, List.mem_range]
  constructor
  · rintro ⟨h1, h2, h3⟩
    refine ⟨h1, h2, fun j p q => ?_⟩
    have := h3 j.toNat (by first | decide | omega)
    rwa [show ((j.toNat : Nat) : Int) = j by first | decide | omega] at this
  · rintro ⟨h1, h2, h3⟩
    exact ⟨h1, h2, fun j hj => h3 j (by first | decide | omega) (by first | decide | omega)⟩
theorem c_isR26 {s t lo i k : Int} (hi : 0 ≤ i ∧ i < 5) (hk : 0 ≤ k ∧ k < 5) (hM : GmR m w n s t lo) (hG : GnR m w n s t lo 25) (vi : cAy w n s i ≠ -1) (vk : cAy w n t k ≠ -1) : ∀ (d f : Nat) (j : Int), 0 ≤ j → 5 - j = d → d < f → ∃ x, G0_isRest_26 f m i k j = some (x, m) ∧ ((x = 1 ∧ ∀ q, j ≤ q → q < 5 → okJ w n s t lo i k q) ∨ (x = 0 ∧ ∃ q, j ≤ q ∧ q < 5 ∧ ¬ okJ w n s t lo i k q)) := by
  intro d
  induction d with
  | zero =>
    intro f j a1 a2 a3
    obtain ⟨f, rfl⟩ : ∃ q, f = q + 1 := ⟨f - 1, by first | decide | omega⟩
    rw [G0_isRest_26, if_pos (by first | decide | omega)]
    exact ⟨1, rfl, Or.inl ⟨rfl, fun q p1 p2 => by first | decide | omega⟩⟩
  | succ d ih =>
    intro f j a1 a2 a3
    obtain ⟨f, rfl⟩ : ∃ q, f = q + 1 := ⟨f - 1, by first | decide | omega⟩
    have eS := (hM j a1 (by first | decide | omega)).1.1
    have eT := (hM j a1 (by first | decide | omega)).2.1
    rw [Int.zero_add] at eS
    obtain ⟨x, ex, hx⟩ := ih f (j + 1) (by first | decide | omega) (by first | decide | omega) (by first | decide | omega)
    have g0 := hG i k hi.1 hi.2 hk.1 hk.2 (by first | decide | omega) vi vk
    -- the second test, then the rest
    have second : (cAy w n s j = -1 ∨ sO w s (cAy w n s j) (cAy w n t k) (decide (s < t)) lo ≤ sO w s (cAy w n s i) (cAy w n t k) (decide (s < t)) lo) → ∃ x, G0_isRest_66 (fun m x1 x2 x3 => G0_isRest_26 f m x1 x2 x3) m i k j = some (x, m) ∧ ((x = 1 ∧ ∀ q, j ≤ q → q < 5 → okJ w n s t lo i k q) ∨ (x = 0 ∧ ∃ q, j ≤ q ∧ q < 5 ∧ ¬ okJ w n s t lo i k q)) := by
      intro h1
      have cont : okJ w n s t lo i k j → ((x = 1 ∧ ∀ q, j ≤ q → q < 5 → okJ w n s t lo i k q) ∨ (x = 0 ∧ ∃ q, j ≤ q ∧ q < 5 ∧ ¬ okJ w n s t lo i k q)) := fun hj => by
        rcases hx with ⟨y1, y2⟩ | ⟨y1, q, y2, y3, y4⟩
        · refine Or.inl ⟨y1, fun q p1 p2 => ?_⟩
          by_cases z : q = j
          · rw [z]; exact hj
          · exact y2 q (by first | decide | omega) p2
        · exact Or.inr ⟨y1, q, by first | decide | omega, y3, y4⟩
      unfold G0_isRest_66
      rw [gdx_t (by first | decide | omega), eT, gdx_t (by first | decide | omega), gdx_t (by first | decide | omega), gd3_t (by first | decide | omega)]
      dsimp only
      rw [ex]
      by_cases c1 : cAy w n t j = -1
      · rw [if_pos c1]
        exact ⟨x, rfl, cont ⟨h1, Or.inl c1⟩⟩
      · have g2 := hG i j hi.1 hi.2 a1 (by first | decide | omega) (by first | decide | omega) vi c1
        rw [if_neg c1, g2.2, g0.2]
        by_cases c2 : sT w t (cAy w n s i) (cAy w n t j) (decide (s < t)) lo ≤ sT w t (cAy w n s i) (cAy w n t k) (decide (s < t)) lo
        · rw [if_pos c2]
          exact ⟨x, rfl, cont ⟨h1, Or.inr c2⟩⟩
        · rw [if_neg c2]
          exact ⟨0, rfl, Or.inr ⟨rfl, j, by first | decide | omega, by first | decide | omega, fun y => by rcases y.2 with z | z; exact c1 z; exact c2 z⟩⟩
    rw [G0_isRest_26, if_neg (by first | decide | omega), gdx_t (by first | decide | omega), eS, gdx_t (by first | decide | omega), gdx_t (by first | decide | omega)]
    by_cases c1 : cAy w n s j = -1
    · rw [if_pos c1]; exact second (Or.inl c1)
    · have g1 := hG j k a1 (by first | decide | omega) hk.1 hk.2 (by first | decide | omega) c1 vk
      rw [if_neg c1, g1.1, g0.1]
      by_cases c2 : sO w s (cAy w n s j) (cAy w n t k) (decide (s < t)) lo ≤ sO w s (cAy w n s i) (cAy w n t k) (decide (s < t)) lo
      · rw [if_pos c2]; exact second (Or.inr c2)
      · rw [if_neg c2]
        exact ⟨0, rfl, Or.inr ⟨rfl, j, by first | decide | omega, by first | decide | omega, fun y => by rcases y.1 with z | z; exact c1 z; exact c2 z⟩⟩
theorem c_rst {s t lo i k : Int} (hi : 0 ≤ i ∧ i < 5) (hk : 0 ≤ k ∧ k < 5) (hM : GmR m w n s t lo) (hG : GnR m w n s t lo 25) : G0_isRest m i k = some ((if okR w n s t lo i k = true then 1 else 0), m) := by
  have eS := (hM i hi.1 hi.2).1.1
  have eT := (hM k hk.1 hk.2).2.1
  rw [Int.zero_add] at eS
  unfold G0_isRest G0_isRest_0
  rw [gdx_t (by first | decide | omega), eS, gdx_t (by first | decide | omega), eT]
  by_cases c1 : cAy w n s i = -1
  · rw [if_pos c1, if_neg (fun q => (okR_iff.mp q).1 c1)]
  · rw [if_neg c1]
    by_cases c2 : cAy w n t k = -1
    · rw [if_pos c2, if_neg (fun q => (okR_iff.mp q).2.1 c2)]
    · rw [if_neg c2]
      obtain ⟨x, e, h⟩ := c_isR26 hi hk hM hG c1 c2 5 1024 0 (by first | decide | omega) (by first | decide | omega) (by first | decide | omega)
      rw [e]
      congr 2
      rcases h with ⟨y1, y2⟩ | ⟨y1, q, y2, y3, y4⟩
      · rw [if_pos (okR_iff.mpr ⟨c1, c2, fun j p q => y2 j p q⟩), y1]
      · rw [if_neg (fun z => y4 ((okR_iff.mp z).2.2 q y2 y3)), y1]
/-- the rests from pair p on -/
def rsL (ok : Int → Int → Bool) : Nat → Int → List Int
  | 0, _ => []
  | d + 1, p => if ok (p / 5) (p % 5) = true then (10 * gw (p / 5) + gw (p % 5)) :: rsL ok d (p + 1) else rsL ok d (p + 1)
theorem rsL_s (ok : Int → Int → Bool) (d : Nat) (p : Int) : rsL ok (d + 1) p = if ok (p / 5) (p % 5) = true then (10 * gw (p / 5) + gw (p % 5)) :: rsL ok d (p + 1) else rsL ok d (p + 1) := rfl
def P56 : Nat → Prop := fun b => b = 99 ∨ b = 105
theorem GmR.f56 {m m' : Mem} {s t lo : Int} (h : GmR m w n s t lo) (f : Fr P56 m m') : GmR m' w n s t lo := by
  have e0 : m' 100 = m 100 := f.row (by unfold P56; first | decide | omega)
  have e1 : m' 101 = m 101 := f.row (by unfold P56; first | decide | omega)
  have e2 : m' 102 = m 102 := f.row (by unfold P56; first | decide | omega)
  unfold GmR WyR at *
  rw [e0, e1, e2]; exact h
theorem GnR.f56 {m m' : Mem} {s t lo p : Int} (h : GnR m w n s t lo p) (f : Fr P56 m m') : GnR m' w n s t lo p := by
  have e0 : m' 103 = m 103 := f.row (by unfold P56; first | decide | omega)
  have e1 : m' 104 = m 104 := f.row (by unfold P56; first | decide | omega)
  unfold GnR at *
  rw [e0, e1]; exact h
theorem rsL_app (ok : Int → Int → Bool) : ∀ (a b : Nat) (p : Int), rsL ok (a + b) p = rsL ok a p ++ rsL ok b (p + a) := by
  intro a
  induction a with
  | zero => intro b p; rw [Nat.zero_add, show p + ((0 : Nat) : Int) = p by first | decide | omega]; rfl
  | succ a ih =>
    intro b p
    rw [show a + 1 + b = (a + b) + 1 by first | decide | omega, rsL_s, rsL_s, ih b (p + 1), show p + 1 + (a : Int) = p + ((a + 1 : Nat) : Int) by first | decide | omega]
    split <;> rfl
theorem c_fr14 {s t lo i : Int} (hi : 0 ≤ i ∧ i < 5) {kk : Mem → Int → Option Mem} : ∀ (d f : Nat) (k : Int) (l : List Int) (m : Mem), 0 ≤ k → 5 - k = d → d < f → GmR m w n s t lo → GnR m w n s t lo 25 → m 99 6 = l.length → (l.length : Int) ≤ i * 5 + k → frt (m 105) 0 l → ∃ m', G0_findRests_14 kk f m i k = kk m' (i + 1) ∧ Fr P56 m m' ∧ m' 99 6 = (l ++ rsL (okR w n s t lo) d (i * 5 + k)).length ∧ frt (m' 105) 0 (l ++ rsL (okR w n s t lo) d (i * 5 + k)) := by
  intro d
  induction d with
  | zero =>
    intro f k l m a1 a2 a3 hM hG h6 hl h105
    obtain ⟨f, rfl⟩ : ∃ q, f = q + 1 := ⟨f - 1, by first | decide | omega⟩
    rw [G0_findRests_14, if_pos (by first | decide | omega), gd3_t (by first | decide | omega)]
    have e : rsL (okR w n s t lo) 0 (i * 5 + k) = [] := rfl
    rw [e, List.append_nil]
    exact ⟨m, rfl, Fr.rf, h6, h105⟩
  | succ d ih =>
    intro f k l m a1 a2 a3 hM hG h6 hl h105
    obtain ⟨f, rfl⟩ : ∃ q, f = q + 1 := ⟨f - 1, by first | decide | omega⟩
    have ed : (i * 5 + k) / 5 = i := by omega
    have em : (i * 5 + k) % 5 = k := by omega
    have b1 := gw_b (i := i) hi
    have b2 := gw_b (i := k) (by first | decide | omega)
    rw [G0_findRests_14, if_neg (by first | decide | omega), c_rst hi (by first | decide | omega) hM hG, bs1, rsL_s, ed, em]
    by_cases c : okR w n s t lo i k = true
    · simp only [if_pos c, if_neg i10]
      rw [gdx_t hi, gdx_t (by first | decide | omega), h6, gdx_t (by first | decide | omega), gd3_t (by first | decide | omega), wt_e, up_a (by first | decide | omega), h6, gd3_t (by first | decide | omega), wt_e, gd3_t (by first | decide | omega)]
      have f1 : Fr P56 m (up (up m 105 l.length (10 * gw i + gw k)) 99 6 (l.length + 1)) := (Fr.up Fr.rf (Or.inr rfl)).up (Or.inl rfl)
      obtain ⟨m', z1, z2, z3, z4⟩ := ih f (k + 1) (l ++ [10 * gw i + gw k]) (up (up m 105 l.length (10 * gw i + gw k)) 99 6 (l.length + 1)) (by first | decide | omega) (by first | decide | omega) (by first | decide | omega) (hM.f56 f1) (hG.f56 f1) (by rw [up_e]; simp) (by simp; first | decide | omega) (by
        rw [up_b (by first | decide | omega)]
        refine frt_app (frt_up h105 (fun j p q => up_i (by first | decide | omega))) ⟨?_, trivial⟩
        rw [Int.zero_add]; exact up_e)
      rw [List.append_assoc, show i * 5 + (k + 1) = i * 5 + k + 1 by first | decide | omega] at z3 z4
      exact ⟨m', z1, f1.tr z2, z3, z4⟩
    · simp only [if_neg c, if_true]
      rw [gd3_t (by first | decide | omega)]
      have := ih f (k + 1) l m (by first | decide | omega) (by first | decide | omega) (by first | decide | omega) hM hG h6 (by first | decide | omega) h105
      rwa [show i * 5 + (k + 1) = i * 5 + k + 1 by first | decide | omega] at this
theorem c_fr7 {s t lo : Int} : ∀ (d f : Nat) (i : Int) (l : List Int) (m : Mem), 0 ≤ i → 5 - i = d → d < f → GmR m w n s t lo → GnR m w n s t lo 25 → m 99 6 = l.length → (l.length : Int) ≤ i * 5 → frt (m 105) 0 l → ∃ m', G0_findRests_7 f m i = some m' ∧ Fr P56 m m' ∧ m' 99 6 = (l ++ rsL (okR w n s t lo) (5 * d) (i * 5)).length ∧ frt (m' 105) 0 (l ++ rsL (okR w n s t lo) (5 * d) (i * 5)) := by
  intro d
  induction d with
  | zero =>
    intro f i l m a1 a2 a3 hM hG h6 hl h105
    obtain ⟨f, rfl⟩ : ∃ q, f = q + 1 := ⟨f - 1, by first | decide | omega⟩
    rw [G0_findRests_7, if_pos (by first | decide | omega)]
    have e : rsL (okR w n s t lo) (5 * 0) (i * 5) = [] := rfl
    rw [e, List.append_nil]
    exact ⟨m, rfl, Fr.rf, h6, h105⟩
  | succ d ih =>
    intro f i l m a1 a2 a3 hM hG h6 hl h105
    obtain ⟨f, rfl⟩ : ∃ q, f = q + 1 := ⟨f - 1, by first | decide | omega⟩
    rw [G0_findRests_7, if_neg (by first | decide | omega)]
    obtain ⟨m1, e1, f1, k1, k2⟩ := c_fr14 (s := s) (t := t) (lo := lo) (i := i) (by first | decide | omega) (kk := fun m x1 => G0_findRests_7 f m x1) 5 1024 0 l m (by first | decide | omega) (by first | decide | omega) (by first | decide | omega) hM hG h6 (by first | decide | omega) h105
    rw [e1]
    rw [show i * 5 + (0 : Int) = i * 5 by first | decide | omega] at k1 k2
    have hlen : ∀ (e : Nat) (p : Int), (rsL (okR w n s t lo) e p).length ≤ e := by
      intro e
      induction e with
      | zero => intro p; exact Nat.le_refl 0
      | succ e ihe => intro p; rw [rsL_s]; split <;> have := ihe (p + 1) <;> simp <;> omega
    have hl5 := hlen 5 (i * 5)
    obtain ⟨m', z1, z2, z3, z4⟩ := ih f (i + 1) (l ++ rsL (okR w n s t lo) 5 (i * 5)) m1 (by first | decide | omega) (by first | decide | omega) (by first | decide | omega) (hM.f56 f1) (hG.f56 f1) k1 (by rw [List.length_append]; first | decide | omega) k2
    have ea : rsL (okR w n s t lo) (5 * (d + 1)) (i * 5) = rsL (okR w n s t lo) 5 (i * 5) ++ rsL (okR w n s t lo) (5 * d) ((i + 1) * 5) := by
      rw [show 5 * (d + 1) = 5 + 5 * d by first | decide | omega, rsL_app, show i * 5 + ((5 : Nat) : Int) = (i + 1) * 5 by first | decide | omega]
    rw [List.append_assoc, ← ea] at z3 z4
    exact ⟨m', z1, f1.tr z2, z3, z4⟩
theorem c_game (t2 : m 0 3 = (T : Int)) (hc : CX m 51 T w g) (hn : NX m 69 n) (hW : WW w) (hG : GB w g) (hE : GE w g (gM w (-1))) (h102 : W102 m) {s t : Int} (hs : 0 ≤ s ∧ s < w 1 0) (ht : 0 ≤ t ∧ t < w 1 0) (hcs : 0 ≤ n 1 s ∧ n 1 s < w 0 0 * w 0 1) (hct : 0 ≤ n 1 t ∧ n 1 t < w 0 0 * w 0 1) : ∃ m', G0_playGame m 51 69 s t = some m' ∧ Fr PQ m m' ∧ W102 m' ∧ m' 99 6 = (rsL (okR w n s t (ff w (n 0 0))) 25 0).length ∧ frt (m' 105) 0 (rsL (okR w n s t (ff w (n 0 0))) 25 0) := by
  have hw := hW.1
  unfold WS at hw
  have hT := hc.1.1
  obtain ⟨f1, f2, _, _⟩ := ff_spec (w := w) (by first | decide | omega) (n 0 0)
  have e69 : m 69 0 = n 0 0 := hn.2.1 0
  unfold G0_playGame G0_playGame_0 G0_weighWays G0_weighWays_0
  rw [hc.2.2.1, Int.toNat_natCast, e69, g_ff hc.1 (by first | decide | omega), bs1]
  simp only
  obtain ⟨m1, e1, g1, w1, q1⟩ := c_way3 (T := T) (n := n) hW hG hE (r := 0) (lo := ff w (n 0 0)) hs (Or.inl rfl) hcs f1 5 1024 0 m (by first | decide | omega) (by first | decide | omega) (by first | decide | omega) hc hn h102 (fun j p q => by first | decide | omega)
  rw [e1, bs1]
  obtain ⟨m2, e2, g2, w2, q2⟩ := c_way3 (T := T) (n := n) hW hG hE (r := 5) (lo := ff w (n 0 0)) ht (Or.inr rfl) hct f1 5 1024 0 m1 (by first | decide | omega) (by first | decide | omega) (by first | decide | omega) (hc.wy g1) (hn.wy g1) w1 (fun j p q => by first | decide | omega)
  rw [e2, bs1]
  have hM : GmR m2 w n s t (ff w (n 0 0)) := fun j p q => by
    refine ⟨?_, q2 j p q⟩
    have := q1 j p q
    rw [g2 100 _ (by unfold PWy PN; first | decide | omega)]
    refine ⟨this.1, fun z k p1 p2 => ?_⟩
    have h2 := this.2 z k p1 p2
    rw [g2 101 _ (by unfold PWy PN; first | decide | omega), g2 102 _ (by unfold PWy PN; first | decide | omega)]
    exact h2
  obtain ⟨m3, e3, g3, M3, G3⟩ := c_pg40 (T := T) (g := g) (n := n) hW (s := s) (t := t) ⟨f1, f2⟩ 5 1024 0 m2 (by first | decide | omega) (by first | decide | omega) (by first | decide | omega) ((hc.wy g1).wy g2) w2 hM (fun i k a1 a2 a3 a4 a5 => by first | decide | omega)
  rw [e3]
  unfold G0_findRests G0_findRests_0
  rw [wt_e]
  have g4 : Fr P56 m3 (up m3 99 6 0) := Fr.up Fr.rf (Or.inl rfl)
  obtain ⟨m', z1, z2, z3, z4⟩ := c_fr7 (w := w) (n := n) (s := s) (t := t) (lo := ff w (n 0 0)) 5 1024 0 [] (up m3 99 6 0) (by first | decide | omega) (by first | decide | omega) (by first | decide | omega) (M3.f56 g4) (G3.f56 g4) (by rw [up_e]; rfl) (by simp) trivial
  have q1 : Fr PQ m m1 := g1.toFr (by intro b i p; unfold PWy PN at p; unfold PQ; first | decide | omega)
  have q2 : Fr PQ m1 m2 := g2.toFr (by intro b i p; unfold PWy PN at p; unfold PQ; first | decide | omega)
  have q3 : Fr PQ m2 m3 := g3.mono (by intro b p; unfold P34 at p; unfold PQ; first | decide | omega)
  have q4 : Fr PQ m3 m' := (g4.tr z2).mono (by intro b p; unfold P56 at p; unfold PQ; first | decide | omega)
  refine ⟨m', z1, ((q1.tr q2).tr q3).tr q4, fun i p q => ?_, z3, z4⟩
  rw [z2 102 i (by unfold P56; first | decide | omega), up_a (by first | decide | omega), g3 102 i (by unfold P34; first | decide | omega)]
  exact w2 i p q
end Q10
/-! The game of two: the reference. -/
section Q11
variable {m v w g n : Mem} {T : Nat}
theorem r_b51 (h : RT v w) (hW : WW w) {x dy y : Int} (hx : -1 ≤ x ∧ x ≤ 8) (hd : -1 ≤ dy ∧ dy ≤ 1) (hy : 0 ≤ y ∧ y ≤ 6) : G12_beside_51 v x dy y = some ((if 0 ≤ x ∧ x ≤ w 0 0 - 1 then (if 0 ≤ y + dy ∧ y + dy ≤ w 0 1 - 1 then w 0 0 * (y + dy) + x else -1) else -1), v) := by
  have hw := hW.1
  unfold WS at hw
  unfold G12_beside_51
  rw [h.1.1, gd3_t (by first | decide | omega), r_isIn, bs1]
  by_cases c1 : 0 ≤ x ∧ x ≤ w 0 0 - 1
  · simp only [if_pos c1, if_neg i10]
    rw [gd3_t (by first | decide | omega), h.1.2.1, gd3_t (by first | decide | omega), r_isIn, bs1]
    by_cases c2 : 0 ≤ y + dy ∧ y + dy ≤ w 0 1 - 1
    · have e1 := Int.mul_nonneg (show 0 ≤ w 0 0 by first | decide | omega) c2.1
      have e2 : w 0 0 * (y + dy) ≤ 8 * (y + dy) := Int.mul_le_mul_of_nonneg_right (by first | decide | omega) c2.1
      simp only [if_pos c2, if_neg i10]
      rw [h.1.1, gd3_t (by first | decide | omega)]
    · simp only [if_neg c2, if_true]
  · simp only [if_neg c1, if_true]
theorem r_b25 (h : RT v w) (hW : WW w) {c way dx x : Int} (hx : 0 ≤ x ∧ x < w 0 0) (hd : -1 ≤ dx ∧ dx ≤ 1) (hc : 0 ≤ c ∧ c < w 0 0 * w 0 1) : G12_beside_25 v c way dx x = some ((if 0 ≤ x + dx ∧ x + dx ≤ w 0 0 - 1 then (if 0 ≤ c / w 0 0 + (if way = 2 then 1 else if way = 0 then -1 else 0) ∧ c / w 0 0 + (if way = 2 then 1 else if way = 0 then -1 else 0) ≤ w 0 1 - 1 then w 0 0 * (c / w 0 0 + (if way = 2 then 1 else if way = 0 then -1 else 0)) + (x + dx) else -1) else -1), v) := by
  have hw := hW.1
  unfold WS at hw
  obtain ⟨b1, b2, b3, b4, e, b5⟩ := cell_b (W := w 0 0) (H := w 0 1) (by first | decide | omega) (by first | decide | omega) hc
  unfold G12_beside_25
  rw [h.1.1, if_neg (by first | decide | omega)]
  by_cases c1 : way = 2
  · simp only [if_pos c1]
    rw [gd3_t (by first | decide | omega), gdd_t (by first | decide | omega), r_b51 h hW (by first | decide | omega) (by first | decide | omega) (by first | decide | omega)]
  · simp only [if_neg c1]
    by_cases c2 : way = 0
    · simp only [if_pos c2]
      rw [gd3_t (by first | decide | omega), gdd_t (by first | decide | omega), r_b51 h hW (by first | decide | omega) (by first | decide | omega) (by first | decide | omega)]
    · simp only [if_neg c2]
      rw [gd3_t (by first | decide | omega), gdd_t (by first | decide | omega), r_b51 h hW (by first | decide | omega) (by first | decide | omega) (by first | decide | omega)]
theorem r_bsd (h : RT v w) (hW : WW w) {c way : Int} (hc : 0 ≤ c ∧ c < w 0 0 * w 0 1) : G12_beside v c way = some (bsd w c way, v) := by
  have hw := hW.1
  unfold WS at hw
  obtain ⟨b1, b2, b3, b4, e, b5⟩ := cell_b (W := w 0 0) (H := w 0 1) (by first | decide | omega) (by first | decide | omega) hc
  have k1 : w 0 0 * (c / w 0 0 + 1) = w 0 0 * (c / w 0 0) + w 0 0 := by rw [Int.mul_add, Int.mul_one]
  have k2 : w 0 0 * (c / w 0 0 + -1) = w 0 0 * (c / w 0 0) - w 0 0 := by rw [Int.mul_add, Int.mul_neg, Int.mul_one]; omega
  unfold G12_beside G12_beside_0
  rw [h.1.1, if_neg (by first | decide | omega)]
  unfold bsd
  by_cases c1 : way = 1
  · simp only [if_pos c1, if_neg (show ¬ way = 0 by first | decide | omega)]
    rw [gdd_t (by first | decide | omega), r_b25 h hW ⟨b1, b2⟩ (by first | decide | omega) hc]
    simp only [if_neg (show ¬ way = 2 by first | decide | omega), if_neg (show ¬ way = 0 by first | decide | omega), Int.add_zero]
    congr 2
    split
    · rw [if_pos (by first | decide | omega), if_neg (by first | decide | omega)]; omega
    · rw [if_pos (by first | decide | omega)]
  · simp only [if_neg c1]
    by_cases c3 : way = 3
    · simp only [if_pos c3, if_neg (show ¬ way = 0 by first | decide | omega), if_neg (show ¬ way = 2 by first | decide | omega)]
      rw [gdd_t (by first | decide | omega), r_b25 h hW ⟨b1, b2⟩ (by first | decide | omega) hc]
      simp only [if_neg (show ¬ way = 2 by first | decide | omega), if_neg (show ¬ way = 0 by first | decide | omega), Int.add_zero]
      congr 2
      split
      · rw [if_pos (by first | decide | omega), if_neg (by first | decide | omega)]; omega
      · rw [if_pos (by first | decide | omega)]
    · simp only [if_neg c3]
      rw [gdd_t (by first | decide | omega), r_b25 h hW ⟨b1, b2⟩ (by first | decide | omega) hc, Int.add_zero, if_pos (by first | decide | omega)]
      congr 2
      by_cases c2 : way = 2
      · simp only [if_pos c2, if_neg (show ¬ way = 0 by first | decide | omega)]
        split
        · rw [if_neg (by first | decide | omega)]; omega
        · rw [if_pos (by first | decide | omega)]
      · simp only [if_neg c2]
        by_cases c0 : way = 0
        · simp only [if_pos c0]
          split
          · rw [if_neg (by first | decide | omega)]; omega
          · rw [if_pos (by first | decide | omega)]
        · simp only [if_neg c0, Int.add_zero]
          rw [if_pos (by first | decide | omega)]; omega
theorem r_way {i : Int} (hi : 0 ≤ i ∧ i < 5) : G12_wayAt v i = some (gw i, v) := by
  unfold G12_wayAt G12_wayAt_0 gw
  by_cases c : i = 0
  · rw [if_pos c, if_pos c]
  · rw [if_neg c, if_neg c, gd3_t (by first | decide | omega)]
theorem r_to (h : RT v w) (hW : WW w) {s i : Int} (hs : 0 ≤ s ∧ s < w 1 0) (hi : 0 ≤ i ∧ i < 5) (h25 : v 25 s = n 1 s) (hc : 0 ≤ n 1 s ∧ n 1 s < w 0 0 * w 0 1) : G12_comesTo v s (gw i) = some (cAy w n s i, v) := by
  have hw := hW.1
  unfold WS at hw
  unfold G12_comesTo G12_comesTo_0 cAy
  rw [gdx_t (by first | decide | omega), h25]
  by_cases c : gw i = 4
  · rw [if_pos c, c]; rfl
  · rw [if_neg c, gdx_t (by first | decide | omega), r_bsd h hW hc, bs1]
/-- sums from a wave on, none before lo -/
def sfr (f : Int → Int) (K lo i : Int) : Int := if i ≤ lo then smd f (K - lo).toNat lo else smd f (K - i).toNat i
theorem sfr_lt {f : Int → Int} {K lo i : Int} (h : i < lo) : sfr f K lo i = sfr f K lo (i + 1) := by unfold sfr; rw [if_pos (by first | decide | omega), if_pos (by first | decide | omega)]
theorem sfr_ge {f : Int → Int} {K lo i : Int} (h : lo ≤ i) (hk : i < K) : sfr f K lo i = f i + sfr f K lo (i + 1) := by
  have e : ∀ j, j < K → smd f (K - j).toNat j = f j + smd f (K - (j + 1)).toNat (j + 1) := fun j hj => by
    rw [show (K - j).toNat = (K - (j + 1)).toNat + 1 by first | decide | omega, smd_s]
  unfold sfr
  rw [if_neg (show ¬ i + 1 ≤ lo by first | decide | omega)]
  split
  · rw [show lo = i by first | decide | omega]; exact e i hk
  · exact e i hk
theorem sfr_z {f : Int → Int} {K lo i : Int} (h : K ≤ i) (hl : lo ≤ K) : sfr f K lo i = 0 := by
  unfold sfr
  split
  · rw [show (K - lo).toNat = 0 by first | decide | omega]; rfl
  · rw [show (K - i).toNat = 0 by first | decide | omega]; rfl
theorem ff_toc (hW : WW w) {x i : Int} (hi : 0 ≤ i ∧ i < w 8 1) : x ≤ w 11 i ↔ ff w x ≤ i := by
  have hw := hW.1
  unfold WS at hw
  obtain ⟨v1, v2, v3, v4⟩ := ff_spec (w := w) (by first | decide | omega) x
  constructor
  · intro h
    rcases Int.lt_or_le i (ff w x) with z | z
    · have := v3 i hi.1 z; omega
    · exact z
  · intro h
    have h4 := v4 (by first | decide | omega)
    by_cases z2 : i = ff w x
    · rw [z2]; exact h4
    · have := wv_lt hW v1 (show ff w x < i by first | decide | omega) (by first | decide | omega); omega
def PG (q : Int) : Nat → Int → Prop := fun b i => PNm b i ∨ ((b = 35 ∨ b = 36) ∧ i = q)
def PG0 : Nat → Int → Prop := fun b i => PNm b i ∨ b = 35 ∨ b = 36
theorem PG_0 {q : Int} : ∀ b i, PG q b i → PG0 b i := by intro b i h; rcases h with h | h; exact Or.inl h; exact Or.inr h.1
theorem PG_q : ∀ b i, PG0 b i → PMq b i := by intro b i h; unfold PG0 PNm at h; unfold PMq; omega
theorem gn_b (hW : WW w) {s t a b k : Int} {o : Bool} (hk : 0 ≤ k ∧ k < w 8 1) (ha : 0 ≤ a ∧ a < w 0 0 * w 0 1) (hb : 0 ≤ b ∧ b < w 0 0 * w 0 1) : (0 ≤ gnO w s a b o k ∧ gnO w s a b o k ≤ 900) ∧ (0 ≤ gnT w t a b o k ∧ gnT w t a b o k ≤ 900) := by
  have h1 := wov_b hW (s := s) hk ha
  have h2 := wov_b hW (s := t) hk hb
  unfold gnO gnT
  constructor <;> split <;> omega
theorem r_lg78 (hW : WW w) (hS : SN w n) {s t p a b : Int} (hs : 0 ≤ s ∧ s < w 1 0) (ht : 0 ≤ t ∧ t < w 1 0) (hp : 0 ≤ p ∧ p < 25) (ha : 0 ≤ a ∧ a < w 0 0 * w 0 1) (hb : 0 ≤ b ∧ b < w 0 0 * w 0 1) {kk : Mem → Int → Int → Int → Option Mem} : ∀ (d f : Nat) (i : Int) (v : Mem), 0 ≤ i → w 8 1 - i = d → d < f → RT v w → SV w n v → (0 ≤ v 35 p ∧ v 35 p ≤ 900 * i) → (0 ≤ v 36 p ∧ v 36 p ≤ 900 * i) → ∃ v', G12_layGame_78 kk f v s t p a b i = kk v' s t (p + 1) ∧ Fm (PG p) v v' ∧ v' 35 p = v 35 p + sfr (gnO w s a b (decide (s < t))) (w 8 1) (ff w (n 0 0)) i ∧ v' 36 p = v 36 p + sfr (gnT w t a b (decide (s < t))) (w 8 1) (ff w (n 0 0)) i := by
  have hw := hW.1
  unfold WS at hw
  obtain ⟨w1, w2, _, _⟩ := ff_spec (w := w) (by first | decide | omega) (n 0 0)
  intro d
  induction d with
  | zero =>
    intro f i v a1 a2 a3 hR hV h35 h36
    obtain ⟨f, rfl⟩ : ∃ j, f = j + 1 := ⟨f - 1, by first | decide | omega⟩
    rw [G12_layGame_78, hR.1.2.2.2.2.1, if_pos (by first | decide | omega), gd3_t (by first | decide | omega), sfr_z (by first | decide | omega) w2, sfr_z (by first | decide | omega) w2]
    exact ⟨v, rfl, Fm.rf, by first | decide | omega, by first | decide | omega⟩
  | succ d ih =>
    intro f i v a1 a2 a3 hR hV h35 h36
    obtain ⟨f, rfl⟩ : ∃ j, f = j + 1 := ⟨f - 1, by first | decide | omega⟩
    have hi : 0 ≤ i ∧ i < w 8 1 := by omega
    have hto := ff_toc hW (x := n 0 0) hi
    rw [G12_layGame_78, hR.1.2.2.2.2.1, if_neg (by first | decide | omega), r_toC hR hS hV (by first | decide | omega), bs1]
    by_cases c1 : n 0 0 ≤ w 11 i
    · have hlo := hto.mp c1
      simp only [if_pos (show (0 ≤ i ∧ i < w 8 1) ∧ n 0 0 ≤ w 11 i from ⟨hi, c1⟩), if_neg i10]
      have hm := (hW.2.2.2.1 i hi.1 hi.2).2.1
      have e12 := (hR.2.2.2.2.1 i hi.1 hi.2).1
      obtain ⟨u1, e1, g1⟩ := m_pk hR hW (mn := w 11 i) (by first | decide | omega)
      rw [gdx_t (by first | decide | omega), e12, e1, bs1, hV.2.2.2.2]
      have hx := pxM_b (way := -1) (mn := w 11 i) hW
      have hR1 := hR.pn g1
      have hV1 := hV.q (by first | decide | omega) (g1.mono PNm_q)
      rw [m_far hR1 hW ha hx, bs1]
      simp only
      rw [m_far hR1 hW hb hx, bs1]
      simp only
      rw [← gM3]
      have hg := gn_b hW (s := s) (t := t) (a := a) (b := b) (o := decide (s < t)) hi ha hb
      have r35 : u1 35 = v 35 := funext fun j => g1 35 j (by unfold PNm; first | decide | omega)
      have r36 : u1 36 = v 36 := funext fun j => g1 36 j (by unfold PNm; first | decide | omega)
      have one : cnd w a b (decide (s < t)) i = true → ∃ v', G12_layGame_151 kk (fun m x1 x2 x3 x4 x5 x6 => G12_layGame_78 kk f m x1 x2 x3 x4 x5 x6) u1 s t p a b i = kk v' s t (p + 1) ∧ Fm (PG p) v v' ∧ v' 35 p = v 35 p + sfr (gnO w s a b (decide (s < t))) (w 8 1) (ff w (n 0 0)) i ∧ v' 36 p = v 36 p + sfr (gnT w t a b (decide (s < t))) (w 8 1) (ff w (n 0 0)) i := by
        intro z
        have eO : gnO w s a b (decide (s < t)) i = worthV w (gM w (-1) 1 s) (gM w (-1) 3 i) i a := by unfold gnO; rw [if_pos z]; rfl
        have eT : gnT w t a b (decide (s < t)) i = 0 := by unfold gnT; rw [if_pos z]
        obtain ⟨u2, e2, g2⟩ := r_gain hR1 hW hV1.2.2.2.2 hs hi ha
        rw [← eO] at e2
        have s35 : u2 35 = v 35 := by rw [← r35]; exact funext fun j => g2 35 j (by unfold PNm; first | decide | omega)
        have s36 : u2 36 = v 36 := by rw [← r36]; exact funext fun j => g2 36 j (by unfold PNm; first | decide | omega)
        unfold G12_layGame_151
        rw [gdx_t (by first | decide | omega), e2, bs1]
        simp only
        rw [gdx_t (by first | decide | omega), r35, gd3_t (by first | decide | omega), wt_e, gd3_t (by first | decide | omega)]
        have g3 : Fm (PG p) v (up u2 35 p (v 35 p + gnO w s a b (decide (s < t)) i)) := ((g1.tr g2).mono (fun b i y => Or.inl y)).w (Or.inr ⟨Or.inl rfl, rfl⟩)
        have gq : Fm PMq v (up u2 35 p (v 35 p + gnO w s a b (decide (s < t)) i)) := (g3.mono PG_0).mono PG_q
        obtain ⟨v', z1, z2, z3, z4⟩ := ih f (i + 1) (up u2 35 p (v 35 p + gnO w s a b (decide (s < t)) i)) (by first | decide | omega) (by first | decide | omega) (by first | decide | omega) (hR.q gq) (hV.q (by first | decide | omega) gq) (by rw [up_e]; first | decide | omega) (by rw [up_a (by first | decide | omega), s36]; first | decide | omega)
        refine ⟨v', z1, g3.tr z2, ?_, ?_⟩
        · rw [z3, up_e, sfr_ge hlo hi.2]; omega
        · rw [z4, up_a (by first | decide | omega), s36, sfr_ge hlo hi.2, eT]; omega
      have two : ¬ cnd w a b (decide (s < t)) i = true → ∃ v', G12_layGame_172 kk (fun m x1 x2 x3 x4 x5 x6 => G12_layGame_78 kk f m x1 x2 x3 x4 x5 x6) u1 s t p a b i = kk v' s t (p + 1) ∧ Fm (PG p) v v' ∧ v' 35 p = v 35 p + sfr (gnO w s a b (decide (s < t))) (w 8 1) (ff w (n 0 0)) i ∧ v' 36 p = v 36 p + sfr (gnT w t a b (decide (s < t))) (w 8 1) (ff w (n 0 0)) i := by
        intro z
        have eO : gnO w s a b (decide (s < t)) i = 0 := by unfold gnO; rw [if_neg z]
        have eT : gnT w t a b (decide (s < t)) i = worthV w (gM w (-1) 1 t) (gM w (-1) 3 i) i b := by unfold gnT; rw [if_neg z]; rfl
        obtain ⟨u2, e2, g2⟩ := r_gain hR1 hW hV1.2.2.2.2 ht hi hb
        rw [← eT] at e2
        have s35 : u2 35 = v 35 := by rw [← r35]; exact funext fun j => g2 35 j (by unfold PNm; first | decide | omega)
        have s36 : u2 36 = v 36 := by rw [← r36]; exact funext fun j => g2 36 j (by unfold PNm; first | decide | omega)
        unfold G12_layGame_172
        rw [gdx_t (by first | decide | omega), e2, bs1]
        simp only
        rw [gdx_t (by first | decide | omega), r36, gd3_t (by first | decide | omega), wt_e, gd3_t (by first | decide | omega)]
        have g3 : Fm (PG p) v (up u2 36 p (v 36 p + gnT w t a b (decide (s < t)) i)) := ((g1.tr g2).mono (fun b i y => Or.inl y)).w (Or.inr ⟨Or.inr rfl, rfl⟩)
        have gq : Fm PMq v (up u2 36 p (v 36 p + gnT w t a b (decide (s < t)) i)) := (g3.mono PG_0).mono PG_q
        obtain ⟨v', z1, z2, z3, z4⟩ := ih f (i + 1) (up u2 36 p (v 36 p + gnT w t a b (decide (s < t)) i)) (by first | decide | omega) (by first | decide | omega) (by first | decide | omega) (hR.q gq) (hV.q (by first | decide | omega) gq) (by rw [up_a (by first | decide | omega), s35]; first | decide | omega) (by rw [up_e]; first | decide | omega)
        refine ⟨v', z1, g3.tr z2, ?_, ?_⟩
        · rw [z3, up_a (by first | decide | omega), s35, sfr_ge hlo hi.2, eO]; omega
        · rw [z4, up_e, sfr_ge hlo hi.2]; omega
      have hcd : cnd w a b (decide (s < t)) i = true ↔ (fr w a (gM w (-1) 3 i) < fr w b (gM w (-1) 3 i) ∨ (fr w a (gM w (-1) 3 i) = fr w b (gM w (-1) 3 i) ∧ s < t)) := by unfold cnd; simp only [Bool.or_eq_true, Bool.and_eq_true, decide_eq_true_iff]
      by_cases d1 : fr w a (gM w (-1) 3 i) < fr w b (gM w (-1) 3 i)
      · rw [if_pos d1]; exact one (hcd.mpr (Or.inl d1))
      · rw [if_neg d1]
        by_cases d2 : fr w a (gM w (-1) 3 i) = fr w b (gM w (-1) 3 i)
        · rw [if_pos d2]
          by_cases d3 : t ≤ s
          · rw [if_pos d3]; exact two (fun y => by rcases hcd.mp y with q | q; exact d1 q; first | decide | omega)
          · rw [if_neg d3]; exact one (hcd.mpr (Or.inr ⟨d2, by first | decide | omega⟩))
        · rw [if_neg d2]; exact two (fun y => by rcases hcd.mp y with q | q; exact d1 q; exact d2 q.1)
    · have hlo : i < ff w (n 0 0) := by
        rcases Int.lt_or_le i (ff w (n 0 0)) with z | z
        · exact z
        · exact absurd (hto.mpr z) c1
      simp only [if_neg (show ¬ ((0 ≤ i ∧ i < w 8 1) ∧ n 0 0 ≤ w 11 i) from fun q => c1 q.2), if_true]
      rw [gd3_t (by first | decide | omega)]
      obtain ⟨v', z1, z2, z3, z4⟩ := ih f (i + 1) v (by first | decide | omega) (by first | decide | omega) (by first | decide | omega) hR hV (by first | decide | omega) (by first | decide | omega)
      rw [sfr_lt hlo, sfr_lt hlo]
      exact ⟨v', z1, z2, z3, z4⟩
/-- what is laid for pair p -/
def LGp (v w n : Mem) (s t p : Int) : Prop := (cAy w n s (p / 5) ≠ -1 ∧ cAy w n t (p % 5) ≠ -1 ∧ v 35 p = sO w s (cAy w n s (p / 5)) (cAy w n t (p % 5)) (decide (s < t)) (ff w (n 0 0)) ∧ v 36 p = sT w t (cAy w n s (p / 5)) (cAy w n t (p % 5)) (decide (s < t)) (ff w (n 0 0)) ∧ 0 ≤ v 35 p ∧ 0 ≤ v 36 p) ∨ ((cAy w n s (p / 5) = -1 ∨ cAy w n t (p % 5) = -1) ∧ v 35 p = -1 ∧ v 36 p = -1)
theorem LGp.fr {v v' : Mem} {s t p q : Int} (h : LGp v w n s t p) (f : Fm (PG q) v v') (hq : p ≠ q) : LGp v' w n s t p := by
  unfold LGp at *
  rw [f 35 p (by unfold PG PNm; first | decide | omega), f 36 p (by unfold PG PNm; first | decide | omega)]
  exact h
theorem r_lg2 (hW : WW w) (hS : SN w n) {s t : Int} (hs : 0 ≤ s ∧ s < w 1 0) (ht : 0 ≤ t ∧ t < w 1 0) : ∀ (d f : Nat) (p : Int) (v : Mem), 0 ≤ p → 25 - p = d → d < f → RT v w → SV w n v → (∀ q, 0 ≤ q → q < p → LGp v w n s t q) → ∃ v', G12_layGame_2 f v s t p = some v' ∧ Fm PG0 v v' ∧ ∀ q, 0 ≤ q → q < 25 → LGp v' w n s t q := by
  have hw := hW.1
  unfold WS at hw
  have hcs := (hS.1.2 s hs.1 hs.2).1
  have hct := (hS.1.2 t ht.1 ht.2).1
  obtain ⟨w1, w2, _, _⟩ := ff_spec (w := w) (by first | decide | omega) (n 0 0)
  intro d
  induction d with
  | zero =>
    intro f p v a1 a2 a3 hR hV h
    obtain ⟨f, rfl⟩ : ∃ j, f = j + 1 := ⟨f - 1, by first | decide | omega⟩
    rw [G12_layGame_2, if_pos (by first | decide | omega)]
    exact ⟨v, rfl, Fm.rf, fun q p1 p2 => h q p1 (by first | decide | omega)⟩
  | succ d ih =>
    intro f p v a1 a2 a3 hR hV h
    obtain ⟨f, rfl⟩ : ∃ j, f = j + 1 := ⟨f - 1, by first | decide | omega⟩
    have hd : 0 ≤ p / 5 ∧ p / 5 < 5 := by omega
    have hmo : 0 ≤ p % 5 ∧ p % 5 < 5 := by omega
    have k25 : ∀ x, 0 ≤ x → x < w 1 0 → v 25 x = n 1 x := fun x q1 q2 => by have := (hV.1.1 x q1 q2).1; rwa [show 5 * (0 : Int) + x = x by first | decide | omega] at this
    rw [G12_layGame_2, if_neg (by first | decide | omega), gdd_t (by first | decide | omega), r_way hd, bs1]
    simp only
    rw [r_to hR hW hs hd (k25 s hs.1 hs.2) hcs, bs1]
    simp only
    rw [gdd_t (by first | decide | omega), r_way hmo, bs1]
    simp only
    rw [r_to hR hW ht hmo (k25 t ht.1 ht.2) hct, bs1, gdx_t (by first | decide | omega), wt_e, gdx_t (by first | decide | omega), wt_e]
    simp only
    have g1 : Fm (PG p) v (up (up v 35 p (-1)) 36 p (-1)) := (Fm.w1 (Or.inr ⟨Or.inl rfl, rfl⟩)).w (Or.inr ⟨Or.inr rfl, rfl⟩)
    have bad : (cAy w n s (p / 5) = -1 ∨ cAy w n t (p % 5) = -1) → ∃ v', G12_layGame_2 f (up (up v 35 p (-1)) 36 p (-1)) s t (p + 1) = some v' ∧ Fm PG0 v v' ∧ ∀ q, 0 ≤ q → q < 25 → LGp v' w n s t q := fun z => by
      have gq := (g1.mono PG_0).mono PG_q
      obtain ⟨v', z1, z2, z3⟩ := ih f (p + 1) _ (by first | decide | omega) (by first | decide | omega) (by first | decide | omega) (hR.q gq) (hV.q (by first | decide | omega) gq) (fun q p1 p2 => by
        by_cases zq : q = p
        · subst zq
          right
          rw [up_a (show (35 : Nat) ≠ 36 by first | decide | omega), up_e, up_e]
          exact ⟨z, rfl, rfl⟩
        · exact (h q p1 (by first | decide | omega)).fr g1 zq)
      exact ⟨v', z1, (g1.mono PG_0).tr z2, z3⟩
    have bs := cAy_b (n := n) hW hcs hd
    have bt := cAy_b (n := n) hW hct hmo
    by_cases c1 : cAy w n s (p / 5) < 0
    · rw [if_pos c1, gd3_t (by first | decide | omega)]; exact bad (Or.inl (by first | decide | omega))
    · rw [if_neg c1]
      by_cases c2 : 0 ≤ cAy w n t (p % 5)
      · rw [if_pos c2, gdx_t (by first | decide | omega), wt_e, gdx_t (by first | decide | omega), wt_e]
        have g2 : Fm (PG p) v (up (up (up (up v 35 p (-1)) 36 p (-1)) 35 p 0) 36 p 0) := (g1.w (Or.inr ⟨Or.inl rfl, rfl⟩)).w (Or.inr ⟨Or.inr rfl, rfl⟩)
        have gq := (g2.mono PG_0).mono PG_q
        have ha : 0 ≤ cAy w n s (p / 5) ∧ cAy w n s (p / 5) < w 0 0 * w 0 1 := by omega
        have hb : 0 ≤ cAy w n t (p % 5) ∧ cAy w n t (p % 5) < w 0 0 * w 0 1 := by omega
        obtain ⟨u, e1, g3, k1, k2⟩ := r_lg78 hW hS hs ht (p := p) (by first | decide | omega) ha hb (kk := fun m x1 x2 x3 => G12_layGame_2 f m x1 x2 x3) (w 8 1).toNat 1024 0 _ (by first | decide | omega) (by first | decide | omega) (by first | decide | omega) (hR.q gq) (hV.q (by first | decide | omega) gq) (by rw [up_a (by first | decide | omega), up_e]; first | decide | omega) (by rw [up_e]; first | decide | omega)
        rw [e1]
        rw [up_a (show (35 : Nat) ≠ 36 by first | decide | omega), up_e, Int.zero_add] at k1
        rw [up_e, Int.zero_add] at k2
        have g4 : Fm (PG p) v u := g2.tr g3
        have gq4 := (g4.mono PG_0).mono PG_q
        have eO : sfr (gnO w s (cAy w n s (p / 5)) (cAy w n t (p % 5)) (decide (s < t))) (w 8 1) (ff w (n 0 0)) 0 = sO w s (cAy w n s (p / 5)) (cAy w n t (p % 5)) (decide (s < t)) (ff w (n 0 0)) := by unfold sfr sO; rw [if_pos w1]
        have eT : sfr (gnT w t (cAy w n s (p / 5)) (cAy w n t (p % 5)) (decide (s < t))) (w 8 1) (ff w (n 0 0)) 0 = sT w t (cAy w n s (p / 5)) (cAy w n t (p % 5)) (decide (s < t)) (ff w (n 0 0)) := by unfold sfr sT; rw [if_pos w1]
        have bO := smd_b (f := gnO w s (cAy w n s (p / 5)) (cAy w n t (p % 5)) (decide (s < t))) (B := 900) (w 8 1 - ff w (n 0 0)).toNat (ff w (n 0 0)) (fun k p1 p2 => (gn_b hW (t := t) (by first | decide | omega) ha hb).1)
        have bT := smd_b (f := gnT w t (cAy w n s (p / 5)) (cAy w n t (p % 5)) (decide (s < t))) (B := 900) (w 8 1 - ff w (n 0 0)).toNat (ff w (n 0 0)) (fun k p1 p2 => (gn_b hW (s := s) (by first | decide | omega) ha hb).2)
        rw [eO] at k1
        rw [eT] at k2
        obtain ⟨v', z1, z2, z3⟩ := ih f (p + 1) u (by first | decide | omega) (by first | decide | omega) (by first | decide | omega) (hR.q gq4) (hV.q (by first | decide | omega) gq4) (fun q p1 p2 => by
          by_cases zq : q = p
          · subst zq
            exact Or.inl ⟨by first | decide | omega, by first | decide | omega, k1, k2, by rw [k1]; exact bO.1, by rw [k2]; exact bT.1⟩
          · exact (h q p1 (by first | decide | omega)).fr g4 zq)
        exact ⟨v', z1, (g4.mono PG_0).tr z2, z3⟩
      · rw [if_neg c2, gd3_t (by first | decide | omega)]; exact bad (Or.inr (by first | decide | omega))
theorem r_isR13 {s t p : Int} (hp : 0 ≤ p ∧ p < 25) (h : ∀ q, 0 ≤ q → q < 25 → LGp v w n s t q) (h0 : 0 ≤ v 35 p) : ∀ (d f : Nat) (j : Int), 0 ≤ j → 5 - j = d → d < f → ∃ x, G12_isRest_13 f v p j = some (x, v) ∧ ((x = 1 ∧ ∀ q, j ≤ q → q < 5 → okJ w n s t (ff w (n 0 0)) (p / 5) (p % 5) q) ∨ (x = 0 ∧ ∃ q, j ≤ q ∧ q < 5 ∧ ¬ okJ w n s t (ff w (n 0 0)) (p / 5) (p % 5) q)) := by
  have hp0 : cAy w n s (p / 5) ≠ -1 ∧ cAy w n t (p % 5) ≠ -1 ∧ v 35 p = sO w s (cAy w n s (p / 5)) (cAy w n t (p % 5)) (decide (s < t)) (ff w (n 0 0)) ∧ v 36 p = sT w t (cAy w n s (p / 5)) (cAy w n t (p % 5)) (decide (s < t)) (ff w (n 0 0)) ∧ 0 ≤ v 35 p ∧ 0 ≤ v 36 p := by
    rcases h p hp.1 hp.2 with y | y
    · exact y
    · omega
  obtain ⟨p1, p2, p3, p4, p5, p6⟩ := hp0
  intro d
  induction d with
  | zero =>
    intro f j a1 a2 a3
    obtain ⟨f, rfl⟩ : ∃ q, f = q + 1 := ⟨f - 1, by first | decide | omega⟩
    rw [G12_isRest_13, if_pos (by first | decide | omega)]
    exact ⟨1, rfl, Or.inl ⟨rfl, fun q p1 p2 => by first | decide | omega⟩⟩
  | succ d ih =>
    intro f j a1 a2 a3
    obtain ⟨f, rfl⟩ : ∃ q, f = q + 1 := ⟨f - 1, by first | decide | omega⟩
    obtain ⟨x, ex, hx⟩ := ih f (j + 1) (by first | decide | omega) (by first | decide | omega) (by first | decide | omega)
    rw [G12_isRest_13, if_neg (by first | decide | omega), gdd_t (by first | decide | omega), gdx_t (by first | decide | omega), gdx_t (by first | decide | omega), gdd_t (by first | decide | omega), gdx_t (by first | decide | omega), gdx_t (by first | decide | omega), gd3_t (by first | decide | omega)]
    have hA := h (5 * j + p % 5) (by first | decide | omega) (by first | decide | omega)
    have hB := h (p / 5 * 5 + j) (by first | decide | omega) (by first | decide | omega)
    unfold LGp at hA hB
    rw [show (5 * j + p % 5) / 5 = j by first | decide | omega, show (5 * j + p % 5) % 5 = p % 5 by first | decide | omega] at hA
    rw [show (p / 5 * 5 + j) / 5 = p / 5 by first | decide | omega, show (p / 5 * 5 + j) % 5 = j by first | decide | omega] at hB
    have iA : (v 35 (5 * j + p % 5) ≤ v 35 p) ↔ (cAy w n s j = -1 ∨ sO w s (cAy w n s j) (cAy w n t (p % 5)) (decide (s < t)) (ff w (n 0 0)) ≤ sO w s (cAy w n s (p / 5)) (cAy w n t (p % 5)) (decide (s < t)) (ff w (n 0 0))) := by
      rw [← p3]
      rcases hA with ⟨y1, y2, y3, y4, y5, y6⟩ | ⟨y1, y2, y3⟩
      · rw [← y3]; exact ⟨Or.inr, fun z => z.elim (fun q => absurd q y1) id⟩
      · rw [y2]
        have : cAy w n s j = -1 := by rcases y1 with q | q; exact q; exact absurd q p2
        exact ⟨fun _ => Or.inl this, fun _ => by first | decide | omega⟩
    have iB : (v 36 (p / 5 * 5 + j) ≤ v 36 p) ↔ (cAy w n t j = -1 ∨ sT w t (cAy w n s (p / 5)) (cAy w n t j) (decide (s < t)) (ff w (n 0 0)) ≤ sT w t (cAy w n s (p / 5)) (cAy w n t (p % 5)) (decide (s < t)) (ff w (n 0 0))) := by
      rw [← p4]
      rcases hB with ⟨y1, y2, y3, y4, y5, y6⟩ | ⟨y1, y2, y3⟩
      · rw [← y4]; exact ⟨Or.inr, fun z => z.elim (fun q => absurd q y2) id⟩
      · rw [y3]
        have : cAy w n t j = -1 := by rcases y1 with q | q; exact absurd q p1; exact q
        exact ⟨fun _ => Or.inl this, fun _ => by first | decide | omega⟩
    by_cases c1 : v 35 p < v 35 (5 * j + p % 5)
    · rw [if_pos c1]
      exact ⟨0, rfl, Or.inr ⟨rfl, j, by first | decide | omega, by first | decide | omega, fun y => by have := iA.mpr y.1; first | decide | omega⟩⟩
    · rw [if_neg c1]
      by_cases c2 : v 36 (p / 5 * 5 + j) ≤ v 36 p
      · rw [if_pos c2]
        refine ⟨x, ex, ?_⟩
        rcases hx with ⟨y1, y2⟩ | ⟨y1, q, y2, y3, y4⟩
        · refine Or.inl ⟨y1, fun q z1 z2 => ?_⟩
          by_cases z : q = j
          · rw [z]; exact ⟨iA.mp (by first | decide | omega), iB.mp c2⟩
          · exact y2 q (by first | decide | omega) z2
        · exact Or.inr ⟨y1, q, by first | decide | omega, y3, y4⟩
      · rw [if_neg c2]
        exact ⟨0, rfl, Or.inr ⟨rfl, j, by first | decide | omega, by first | decide | omega, fun y => c2 (iB.mpr y.2)⟩⟩
theorem r_isR {s t p : Int} (hp : 0 ≤ p ∧ p < 25) (h : ∀ q, 0 ≤ q → q < 25 → LGp v w n s t q) : G12_isRest v p = some ((if okR w n s t (ff w (n 0 0)) (p / 5) (p % 5) = true then 1 else 0), v) := by
  unfold G12_isRest G12_isRest_0
  rw [gdx_t (by first | decide | omega)]
  by_cases c : 0 ≤ v 35 p
  · rw [if_pos c]
    obtain ⟨x, e, hx⟩ := r_isR13 hp h c 5 1024 0 (by first | decide | omega) (by first | decide | omega) (by first | decide | omega)
    rw [e]
    congr 2
    rcases hx with ⟨y1, y2⟩ | ⟨y1, q, y2, y3, y4⟩
    · have hh := h p hp.1 hp.2
      unfold LGp at hh
      have c1 : cAy w n s (p / 5) ≠ -1 ∧ cAy w n t (p % 5) ≠ -1 := by omega
      rw [if_pos (okR_iff.mpr ⟨c1.1, c1.2, fun j p q => y2 j p q⟩), y1]
    · rw [if_neg (fun z => y4 ((okR_iff.mp z).2.2 q y2 y3)), y1]
  · rw [if_neg c, if_neg]
    intro z
    have := okR_iff.mp z
    have hh := h p hp.1 hp.2
    unfold LGp at hh
    omega
theorem r_ra {s t x : Int} (hx : -1 ≤ x ∧ x ≤ 2147483647) (h : ∀ q, 0 ≤ q → q < 25 → LGp v w n s t q) : ∀ (d f : Nat) (p c : Int), 0 ≤ p → 25 - p = d → d < f → (0 ≤ c ∧ c ≤ p) → (x = -1 ∨ c ≤ x) → G12_restAt_12 f v x c p = some ((if 0 ≤ x then nth (rsL (okR w n s t (ff w (n 0 0))) d p) (x - c) else c + (rsL (okR w n s t (ff w (n 0 0))) d p).length), v) := by
  intro d
  induction d with
  | zero =>
    intro f p c a1 a2 a3 a4 a5
    obtain ⟨f, rfl⟩ : ∃ q, f = q + 1 := ⟨f - 1, by first | decide | omega⟩
    rw [G12_restAt_12, if_pos (by first | decide | omega)]
    have e : rsL (okR w n s t (ff w (n 0 0))) 0 p = [] := rfl
    rw [e]
    by_cases c1 : 0 ≤ x
    · rw [if_pos c1, if_pos c1]
      unfold nth
      rw [if_pos (by simp; first | decide | omega)]
    · rw [if_neg c1, if_neg c1]
      simp
  | succ d ih =>
    intro f p c a1 a2 a3 a4 a5
    obtain ⟨f, rfl⟩ : ∃ q, f = q + 1 := ⟨f - 1, by first | decide | omega⟩
    rw [G12_restAt_12, if_neg (by first | decide | omega), r_isR ⟨a1, by first | decide | omega⟩ h, bs1, rsL_s]
    by_cases c1 : okR w n s t (ff w (n 0 0)) (p / 5) (p % 5) = true
    · simp only [if_pos c1, if_neg i10]
      have b1 := gw_b (i := p / 5) (by first | decide | omega)
      have b2 := gw_b (i := p % 5) (by first | decide | omega)
      by_cases c2 : c = x
      · rw [if_pos c2, gdd_t (by first | decide | omega), r_way (by first | decide | omega), bs1]
        simp only
        rw [gdd_t (by first | decide | omega), r_way (by first | decide | omega), bs1]
        simp only
        rw [gd3_t (by first | decide | omega), if_pos (by first | decide | omega), nth_c _ _ (by first | decide | omega), if_pos (by first | decide | omega)]
      · rw [if_neg c2, gd3_t (by first | decide | omega), gd3_t (by first | decide | omega), ih f (p + 1) (c + 1) (by first | decide | omega) (by first | decide | omega) (by first | decide | omega) (by first | decide | omega) (by first | decide | omega)]
        congr 2
        by_cases c3 : 0 ≤ x
        · rw [if_pos c3, if_pos c3, nth_c _ _ (by first | decide | omega), if_neg (by first | decide | omega), show x - c - 1 = x - (c + 1) by first | decide | omega]
        · rw [if_neg c3, if_neg c3]; simp; omega
    · simp only [if_neg c1, if_true]
      rw [gd3_t (by first | decide | omega), ih f (p + 1) c (by first | decide | omega) (by first | decide | omega) (by first | decide | omega) (by first | decide | omega) (by first | decide | omega)]
theorem r_rest (hR : RT v w) (hW : WW w) (hS : SN w n) (hV : SV w n v) {s t x : Int} (hs : 0 ≤ s ∧ s < w 1 0) (ht : 0 ≤ t ∧ t < w 1 0) (hx : -1 ≤ x ∧ x ≤ 2147483647) : ∃ v', G12_restAt v s t x = some ((if 0 ≤ x then nth (rsL (okR w n s t (ff w (n 0 0))) 25 0) x else ((rsL (okR w n s t (ff w (n 0 0))) 25 0).length : Int)), v') ∧ Fm PMq v v' := by
  unfold G12_restAt G12_restAt_0 G12_layGame G12_layGame_0
  obtain ⟨u, e, g1, k⟩ := r_lg2 hW hS hs ht 25 1024 0 v (by first | decide | omega) (by first | decide | omega) (by first | decide | omega) hR hV (fun q p1 p2 => by first | decide | omega)
  rw [e, bs1, r_ra hx k 25 1024 0 0 (by first | decide | omega) (by first | decide | omega) (by first | decide | omega) (by first | decide | omega) (by first | decide | omega), Int.sub_zero, Int.zero_add]
  exact ⟨u, rfl, g1.mono PG_q⟩
theorem rsL_len (ok : Int → Int → Bool) : ∀ (e : Nat) (p : Int), (rsL ok e p).length ≤ e := by
  intro e
  induction e with
  | zero => intro p; exact Nat.le_refl 0
  | succ e ihe => intro p; rw [rsL_s]; split <;> have := ihe (p + 1) <;> simp <;> omega
theorem Rel.w102 (h : Rel m v) : W102 m := by obtain ⟨T, _, _, _, _, _, _, a3⟩ := h; exact a3
theorem a_rests (h : Rel m v) (x y : Int) : Agr (G11_rests m x y) (G12_rests v x y) := by
  have h1 := h.v0
  unfold G11_rests G11_rests_0 G12_rests G12_rests_0
  rw [wt_e]
  generalize up v 0 2 0 = u at h1 ⊢
  obtain ⟨T, w, g, n, t1, t2, hc, hn, hW, hG, hE, hS, hR, hV, hL, -, -, -⟩ := h1.use
  rw [c_isS t2 hc.1, r_isS hR, bs1, bs1]
  by_cases c1 : 0 ≤ x ∧ x < w 1 0
  · simp only [if_pos c1, if_neg i10]
    rw [c_isS t2 hc.1, r_isS hR, bs1, bs1]
    by_cases c2 : 0 ≤ y ∧ y < w 1 0
    · simp only [if_pos c2, if_neg i10]
      by_cases c3 : x = y
      · rw [if_pos c3, if_pos c3]; exact agr0 h1 _ rfl rfl
      · rw [if_neg c3, if_neg c3]
        obtain ⟨m1, e1, g1, w1, k1, k2⟩ := c_game t2 hc hn hW hG hE h1.w102 c1 c2 (hS.1.2 x c1.1 c1.2).1 (hS.1.2 y c2.1 c2.2).1
        obtain ⟨u1, e2, g2⟩ := r_rest hR hW hS hV c1 c2 (x := -1) (by first | decide | omega)
        rw [e1, bs1, e2, bs1, k1, if_neg (by first | decide | omega)]
        exact ⟨_, _, _, rfl, rfl, h1.q2 g1 w1 g2⟩
    · simp only [if_neg c2, if_true]; exact agr0 h1 _ rfl rfl
  · simp only [if_neg c1, if_true]; exact agr0 h1 _ rfl rfl
theorem a_rest (h : Rel m v) (x y z : Int) (hz : z ≤ 2147483647) : Agr (G11_rest m x y z) (G12_rest v x y z) := by
  have h1 := h.v0
  unfold G11_rest G11_rest_0 G12_rest G12_rest_0
  rw [wt_e]
  generalize up v 0 2 0 = u at h1 ⊢
  obtain ⟨T, w, g, n, t1, t2, hc, hn, hW, hG, hE, hS, hR, hV, hL, -, -, -⟩ := h1.use
  rw [c_isS t2 hc.1, r_isS hR, bs1, bs1]
  by_cases c1 : 0 ≤ x ∧ x < w 1 0
  · simp only [if_pos c1, if_neg i10]
    rw [c_isS t2 hc.1, r_isS hR, bs1, bs1]
    by_cases c2 : 0 ≤ y ∧ y < w 1 0
    · simp only [if_pos c2, if_neg i10]
      by_cases c3 : x = y
      · rw [if_pos c3, if_pos c3]; exact agr0 h1 _ rfl rfl
      · rw [if_neg c3, if_neg c3]
        by_cases c4 : 0 ≤ z
        · rw [if_pos c4, if_neg (show ¬ z < 0 by first | decide | omega)]
          obtain ⟨m1, e1, g1, w1, k1, k2⟩ := c_game t2 hc hn hW hG hE h1.w102 c1 c2 (hS.1.2 x c1.1 c1.2).1 (hS.1.2 y c2.1 c2.2).1
          obtain ⟨u1, e2, g2⟩ := r_rest hR hW hS hV c1 c2 (x := z) (by first | decide | omega)
          have hl := rsL_len (okR w n x y (ff w (n 0 0))) 25 0
          rw [e1, bs1, e2, bs1, k1, if_pos c4]
          unfold nth
          by_cases c5 : ((rsL (okR w n x y (ff w (n 0 0))) 25 0).length : Int) ≤ z
          · rw [if_pos c5, if_pos c5]
            exact ⟨_, _, _, rfl, rfl, h1.q2 g1 w1 g2⟩
          · rw [if_neg c5, if_neg c5, gdx_t (by first | decide | omega)]
            have := frt_nth k2 c4 (by first | decide | omega)
            rw [Int.zero_add] at this
            rw [this]
            exact ⟨_, _, _, rfl, rfl, h1.q2 g1 w1 g2⟩
        · rw [if_neg c4, if_pos (show z < 0 by first | decide | omega)]; exact agr0 h1 _ rfl rfl
    · simp only [if_neg c2, if_true]; exact agr0 h1 _ rfl rfl
  · simp only [if_neg c1, if_true]; exact agr0 h1 _ rfl rfl
end Q11
/-! Who is from here. -/
theorem i_orand (a b c : Int32) (h : a ||| c = b ||| c) : a &&& (c ^^^ -1) = b &&& (c ^^^ -1) := by
  have e : ∀ x y : Int32, x &&& (y ^^^ -1) = (x ||| y) &&& (y ^^^ -1) := by
    intro x y
    apply Int32.toBitVec_inj.mp
    rw [Int32.xor_neg_one]
    simp only [Int32.toBitVec_and, Int32.toBitVec_or, Int32.toBitVec_not]
    apply BitVec.eq_of_getLsbD_eq
    intro i hi
    simp only [BitVec.getLsbD_and, BitVec.getLsbD_or, BitVec.getLsbD_not]
    cases x.toBitVec.getLsbD i <;> cases y.toBitVec.getLsbD i <;> simp
  rw [e a c, e b c, h]
theorem z_or (A B : Int) : Z3 (b3or A B) = Z3 A ||| Z3 B := (z3_or rfl rfl).symm
/-- both bit sets are one outside of c -/
def BR (a b c : Int) : Prop := Z3 a ||| Z3 c = Z3 b ||| Z3 c
theorem BR.near {a b c : Int} (h : BR a b c) (k : Int) : BR (b3or a k) (b3or b k) c := by
  unfold BR at *
  rw [z_or, z_or, Int32.or_assoc, Int32.or_comm (Z3 k), ← Int32.or_assoc, h, Int32.or_assoc, Int32.or_assoc, Int32.or_comm (Z3 k)]
theorem BR.far {a b c : Int} (h : BR a b c) (k : Int) : BR a (b3or b k) (b3or c k) := by
  unfold BR at *
  rw [z_or, z_or, ← Int32.or_assoc, h, Int32.or_assoc, Int32.or_assoc]
  congr 1
  rw [Int32.or_comm (Z3 k), Int32.or_assoc, Int32.or_self]
theorem BR.ans {a b c : Int} (h : BR a b c) : b3an a (b3xo c (-1)) = b3an b (b3xo c (-1)) := by
  unfold b3an
  congr 1
  have e : Z3 (b3xo c (-1)) = Z3 c ^^^ -1 := (z3_xo (A := c) (B := -1) rfl rfl).symm
  rw [e]
  exact i_orand _ _ _ h
section Q12
variable {m v w g n : Mem} {T : Nat}
theorem r_bf2 (hR : RT v w) (hW : WW w) {x : Int} : ∀ (d k : Nat) (i : Int), 0 ≤ i → w 8 0 - i = d → d < k → G12_beginsFrom_2 k v x i = some ((if sfd (fun t => w 11 (w 9 t)) x d i = -1 then -1 else w 11 (w 9 (sfd (fun t => w 11 (w 9 t)) x d i))), v) := by
  have hw := hW.1
  unfold WS at hw
  intro d
  induction d with
  | zero =>
    intro k i a1 a2 a3
    obtain ⟨k, rfl⟩ : ∃ j, k = j + 1 := ⟨k - 1, by first | decide | omega⟩
    rw [G12_beginsFrom_2, hR.1.2.2.2.1, if_pos (by first | decide | omega)]
    rfl
  | succ d ih =>
    intro k i a1 a2 a3
    obtain ⟨k, rfl⟩ : ∃ j, k = j + 1 := ⟨k - 1, by first | decide | omega⟩
    have hb := wt_lt hW a1 (show i < w 8 0 by first | decide | omega)
    have e1 := hR.2.2.2.1 i a1 (by first | decide | omega)
    have e2 := (hR.2.2.2.2.1 (w 9 i) (by first | decide | omega) (by first | decide | omega)).1
    rw [G12_beginsFrom_2, hR.1.2.2.2.1, if_neg (by first | decide | omega), e1, e2, gdx_t (by first | decide | omega), gdx_t (by first | decide | omega), gdx_t (by first | decide | omega), gdx_t (by first | decide | omega), gd3_t (by first | decide | omega), ih k (i + 1) (by first | decide | omega) (by first | decide | omega) (by first | decide | omega)]
    have es : sfd (fun t => w 11 (w 9 t)) x (d + 1) i = if w 11 (w 9 i) < x then sfd (fun t => w 11 (w 9 t)) x d (i + 1) else i := rfl
    rw [es]
    by_cases c : w 11 (w 9 i) < x
    · rw [if_pos c, if_pos c]
    · rw [if_neg c, if_neg c, if_neg (show ¬ i = -1 by first | decide | omega)]
theorem r_bf (hR : RT v w) (hW : WW w) {x : Int} : G12_beginsFrom v x = some ((if sf w x = -1 then -1 else w 11 (w 9 (sf w x))), v) := by
  have hw := hW.1
  unfold WS at hw
  unfold G12_beginsFrom G12_beginsFrom_0
  rw [r_bf2 hR hW (w 8 0).toNat 1024 0 (by first | decide | omega) (by first | decide | omega) (by first | decide | omega)]
  rfl
/-- struck here, not counted there -/
def CR (m v : Mem) (K : Int) : Prop := ∀ k, 0 ≤ k → k < K → (m 95 k = 0 ∧ v 40 k = 1) ∨ (m 95 k = 1 ∧ v 40 k = 0)
def KN (m : Mem) : Int := if m 90 1 = -1 then m 90 0 else m 90 1
theorem KN_b (h : RNo m v w) : 0 ≤ KN m ∧ KN m ≤ m 90 0 ∧ KN m ≤ 24 := by
  obtain ⟨h1, h2, h3, h4, _⟩ := h
  unfold KN
  split <;> omega
theorem c_kn (m : Mem) : G3_howManyKnown m = some (KN m, m) := by
  unfold G3_howManyKnown G3_howManyKnown_0 KN
  split <;> rfl
theorem r_kn (h : RNo m v w) : G12_knownBy v = some (KN m, v) := by
  obtain ⟨h1, h2, h3, h4, _⟩ := h
  unfold G12_knownBy G12_knownBy_0 KN
  rw [← h3, ← h1]
  by_cases c : m 90 1 = -1
  · rw [if_neg (by first | decide | omega), if_pos c]
  · rw [if_pos (by first | decide | omega), if_neg c]
def P95 : Nat → Prop := fun b => b = 95
def P40 : Nat → Int → Prop := fun b _ => b = 40
theorem RNo.pq {m' v' : Mem} (h : RNo m v w) (f : Fr PQ m m') (g : Fm PMq v v') : RNo m' v' w := by
  unfold RNo
  have v39 : v' 39 = v 39 := funext fun i => g 39 i (by unfold PMq; first | decide | omega)
  rw [f.row (show ¬ PQ 90 by unfold PQ; first | decide | omega), f.row (show ¬ PQ 91 by unfold PQ; first | decide | omega), f.row (show ¬ PQ 92 by unfold PQ; first | decide | omega), f.row (show ¬ PQ 93 by unfold PQ; first | decide | omega), f.row (show ¬ PQ 94 by unfold PQ; first | decide | omega), v39, g 0 74 (by unfold PMq; first | decide | omega), g 0 75 (by unfold PMq; first | decide | omega)]
  exact h
theorem P95_q : ∀ b, P95 b → PQ' b := by intro b h; unfold P95 at h; unfold PQ' PQ; omega
theorem P40_q : ∀ b i, P40 b i → PMq b i := by intro b i h; unfold P40 at h; unfold PMq; omega
theorem lc_dn {K : Int} : ∀ (d f f' : Nat) (i : Int) (m v : Mem), -1 ≤ i → i < K → i + 1 = d → d < f → d < f' → RNo m v w → K ≤ m 90 0 → CR m v K → ∃ m' v', G3_findStruck_29 f m i = some m' ∧ (∀ x, G12_locals_47 f' v x i = G12_locals_100 1024 v' x 0 0 0) ∧ Fr P95 m m' ∧ Fm P40 v v' ∧ CR m' v' K := by
  intro d
  induction d with
  | zero =>
    intro f f' i m v a1 a2 a3 a4 a5 hN hK hC
    obtain ⟨f, rfl⟩ : ∃ j, f = j + 1 := ⟨f - 1, by first | decide | omega⟩
    obtain ⟨f', rfl⟩ : ∃ j, f' = j + 1 := ⟨f' - 1, by first | decide | omega⟩
    refine ⟨m, v, ?_, fun x => ?_, Fr.rf, Fm.rf, hC⟩
    · rw [G3_findStruck_29, if_pos (by first | decide | omega)]
    · rw [G12_locals_47, if_pos (by first | decide | omega)]
  | succ d ih =>
    intro f f' i m v a1 a2 a3 a4 a5 hN hK hC
    obtain ⟨f, rfl⟩ : ∃ j, f = j + 1 := ⟨f - 1, by first | decide | omega⟩
    obtain ⟨f', rfl⟩ : ∃ j, f' = j + 1 := ⟨f' - 1, by first | decide | omega⟩
    have h24 := hN.2.1
    have same : ∃ m' v', G3_findStruck_29 f m (i + -1) = some m' ∧ (∀ x, G12_locals_47 f' v x (i + -1) = G12_locals_100 1024 v' x 0 0 0) ∧ Fr P95 m m' ∧ Fm P40 v v' ∧ CR m' v' K := ih f f' (i + -1) m v (by first | decide | omega) (by first | decide | omega) (by first | decide | omega) (by first | decide | omega) (by first | decide | omega) hN hK hC
    have hCi := hC i (by first | decide | omega) (by first | decide | omega)
    have hNi := hN.2.2.2.2 i (by first | decide | omega) (by first | decide | omega)
    by_cases c1 : m 95 i = 0
    · have c1' : ¬ v 40 i = 0 := by omega
      by_cases c2 : m 94 i = -1
      · have c2' : 0 ≤ v 39 (3 * i) := by omega
        obtain ⟨m', v', z1, z2, z3⟩ := same
        refine ⟨m', v', ?_, fun x => ?_, z3⟩
        · rw [G3_findStruck_29, if_neg (by first | decide | omega), gdx_t (by first | decide | omega), if_pos c1, gdx_t (by first | decide | omega), if_pos c2, gd3_t (by first | decide | omega)]; exact z1
        · rw [G12_locals_47, if_neg (by first | decide | omega), gdx_t (by first | decide | omega), if_neg c1', gdx_t (by first | decide | omega), if_pos c2', gd3_t (by first | decide | omega)]; exact z2 x
      · have c2' : ¬ 0 ≤ v 39 (3 * i) := by omega
        have e1 : v 39 (3 * i + 1) = m 94 i := by omega
        have b1 : 0 ≤ m 94 i ∧ m 94 i < i := by omega
        have f1 : Fr P95 m (up m 95 (m 94 i) 1) := Fr.up Fr.rf rfl
        have f2 : Fm P40 v (up v 40 (m 94 i) 0) := Fm.w1 rfl
        obtain ⟨m', v', z1, z2, z3, z4, z5⟩ := ih f f' (i + -1) (up m 95 (m 94 i) 1) (up v 40 (m 94 i) 0) (by first | decide | omega) (by first | decide | omega) (by first | decide | omega) (by first | decide | omega) (by first | decide | omega) (hN.pq (f1.mono (fun b z => (P95_q b z).1)) (f2.mono P40_q)) (by rw [up_a (by first | decide | omega)]; exact hK) (fun k p1 p2 => by
          by_cases z : k = m 94 i
          · right; rw [z, up_e, up_e]; exact ⟨rfl, rfl⟩
          · rw [up_i z, up_i z]; exact hC k p1 p2)
        refine ⟨m', v', ?_, fun x => ?_, f1.tr z3, f2.tr z4, z5⟩
        · rw [G3_findStruck_29, if_neg (by first | decide | omega), gdx_t (by first | decide | omega), if_pos c1, gdx_t (by first | decide | omega), if_neg c2, gdx_t (by first | decide | omega), gdx_t (by first | decide | omega), gdb_t (by first | decide | omega), wt_e, gd3_t (by first | decide | omega)]; exact z1
        · rw [G12_locals_47, if_neg (by first | decide | omega), gdx_t (by first | decide | omega), if_neg c1', gdx_t (by first | decide | omega), if_neg c2', gdx_t (by first | decide | omega), e1, gdx_t (by first | decide | omega), gdb_t (by first | decide | omega), wt_e, gd3_t (by first | decide | omega)]; exact z2 x
    · have c1' : v 40 i = 0 := by omega
      obtain ⟨m', v', z1, z2, z3⟩ := same
      refine ⟨m', v', ?_, fun x => ?_, z3⟩
      · rw [G3_findStruck_29, if_neg (by first | decide | omega), gdx_t (by first | decide | omega), if_neg c1, gd3_t (by first | decide | omega)]; exact z1
      · rw [G12_locals_47, if_neg (by first | decide | omega), gdx_t (by first | decide | omega), if_pos c1', gd3_t (by first | decide | omega)]; exact z2 x
theorem lc_up {K : Int} : ∀ (d f f' : Nat) (i : Int) (m v : Mem), 0 ≤ i → K - i = d → d < f → d < f' → RNo m v w → KN m = K → CR m v i → ∃ m' v', G3_findStruck_7 f m K i = some m' ∧ (∀ x, G12_locals_19 f' v x i = G12_locals_100 1024 v' x 0 0 0) ∧ Fr P95 m m' ∧ Fm P40 v v' ∧ CR m' v' K := by
  intro d
  induction d with
  | zero =>
    intro f f' i m v a1 a2 a3 a4 hN hK hC
    obtain ⟨f, rfl⟩ : ∃ j, f = j + 1 := ⟨f - 1, by first | decide | omega⟩
    obtain ⟨f', rfl⟩ : ∃ j, f' = j + 1 := ⟨f' - 1, by first | decide | omega⟩
    have hk := KN_b hN
    have hi : i = K := by omega
    subst hi
    obtain ⟨m', v', z1, z2, z3, z4, z5⟩ := lc_dn (w := w) (K := i) i.toNat 1024 1024 (i - 1) m v (by first | decide | omega) (by first | decide | omega) (by first | decide | omega) (by first | decide | omega) (by first | decide | omega) hN (by first | decide | omega) hC
    refine ⟨m', v', ?_, fun x => ?_, z3, z4, z5⟩
    · rw [G3_findStruck_7, if_pos (by first | decide | omega), gd3_t (by first | decide | omega)]; exact z1
    · rw [G12_locals_19, r_kn hN, bs1]
      simp only
      rw [if_pos (by first | decide | omega), r_kn hN, bs1]
      simp only
      rw [gd3_t (by first | decide | omega), hK]; exact z2 x
  | succ d ih =>
    intro f f' i m v a1 a2 a3 a4 hN hK hC
    obtain ⟨f, rfl⟩ : ∃ j, f = j + 1 := ⟨f - 1, by first | decide | omega⟩
    obtain ⟨f', rfl⟩ : ∃ j, f' = j + 1 := ⟨f' - 1, by first | decide | omega⟩
    have hk := KN_b hN
    have f1 : Fr P95 m (up m 95 i 0) := Fr.up Fr.rf rfl
    have f2 : Fm P40 v (up v 40 i 1) := Fm.w1 rfl
    have ek : KN (up m 95 i 0) = KN m := by unfold KN; rw [up_a (by first | decide | omega), up_a (by first | decide | omega)]
    obtain ⟨m', v', z1, z2, z3, z4, z5⟩ := ih f f' (i + 1) (up m 95 i 0) (up v 40 i 1) (by first | decide | omega) (by first | decide | omega) (by first | decide | omega) (by first | decide | omega) (hN.pq (f1.mono (fun b z => (P95_q b z).1)) (f2.mono P40_q)) (by rw [ek]; exact hK) (fun k p1 p2 => by
      by_cases z : k = i
      · left; rw [z, up_e, up_e]; exact ⟨rfl, rfl⟩
      · rw [up_i z, up_i z]; exact hC k p1 (by first | decide | omega))
    refine ⟨m', v', ?_, fun x => ?_, f1.tr z3, f2.tr z4, z5⟩
    · rw [G3_findStruck_7, if_neg (by first | decide | omega), gdx_t (by first | decide | omega), gdb_t (by first | decide | omega), wt_e, gd3_t (by first | decide | omega)]; exact z1
    · rw [G12_locals_19, r_kn hN, bs1]
      simp only
      rw [if_neg (by first | decide | omega), gdx_t (by first | decide | omega), gdb_t (by first | decide | omega), wt_e, gd3_t (by first | decide | omega)]; exact z2 x
theorem lc_main (hW : WW w) {K x : Int} : ∀ (d f f' : Nat) (i a b c : Int) (m v : Mem), 0 ≤ i → K - i = d → d < f → d < f' → BR a b c → m 0 3 = (T : Int) → CX m 51 T w g → GB w g → GE w g (gM w (-1)) → RT v w → v 0 66 = -1 → RNo m v w → KN m = K → CR m v K → ∃ y v', G11_locals_26 f m x a c i = some (y, m) ∧ G12_locals_100 f' v x b c i = some (y, v') ∧ Fm PNm v v' := by
  have hw := hW.1
  unfold WS at hw
  intro d
  induction d with
  | zero =>
    intro f f' i a b c m v a1 a2 a3 a4 hB t2 hc hG hE hR h66 hN hK hC
    obtain ⟨f, rfl⟩ : ∃ j, f = j + 1 := ⟨f - 1, by first | decide | omega⟩
    obtain ⟨f', rfl⟩ : ∃ j, f' = j + 1 := ⟨f' - 1, by first | decide | omega⟩
    rw [G11_locals_26, c_kn, bs1, G12_locals_100, r_kn hN, bs1]
    simp only
    rw [if_pos (by first | decide | omega), if_pos (by first | decide | omega), hB.ans]
    exact ⟨_, v, rfl, rfl, Fm.rf⟩
  | succ d ih =>
    intro f f' i a b c m v a1 a2 a3 a4 hB t2 hc hG hE hR h66 hN hK hC
    obtain ⟨f, rfl⟩ : ∃ j, f = j + 1 := ⟨f - 1, by first | decide | omega⟩
    obtain ⟨f', rfl⟩ : ∃ j, f' = j + 1 := ⟨f' - 1, by first | decide | omega⟩
    have hk := KN_b hN
    have hT := hc.1.1
    have hCi := hC i (by first | decide | omega) (by first | decide | omega)
    have hNi := hN.2.2.2.2 i (by first | decide | omega) (by first | decide | omega)
    have next : ∀ (a' b' c' : Int) (v1 : Mem), BR a' b' c' → Fm PNm v v1 → ∃ y v', G11_locals_26 f m x a' c' (i + 1) = some (y, m) ∧ G12_locals_100 f' v1 x b' c' (i + 1) = some (y, v') ∧ Fm PNm v v' := by
      intro a' b' c' v1 hB' fv
      have fq := fv.mono PNm_q
      obtain ⟨y, v', z1, z2, z3⟩ := ih f f' (i + 1) a' b' c' m v1 (by first | decide | omega) (by first | decide | omega) (by first | decide | omega) (by first | decide | omega) hB' t2 hc hG hE (hR.q fq) (by rw [fv 0 66 (by unfold PNm; first | decide | omega)]; exact h66) (hN.pq Fr.rf fq) hK (fun k p1 p2 => by
        rw [fv 40 k (by unfold PNm; first | decide | omega)]; exact hC k p1 p2)
      exact ⟨y, v', z1, z2, fv.tr z3⟩
    rw [G11_locals_26, c_kn, bs1, G12_locals_100, r_kn hN, bs1]
    simp only
    rw [if_neg (by first | decide | omega), if_neg (by first | decide | omega), gdx_t (show 0 ≤ i ∧ i < 24 by first | decide | omega)]
    unfold G3_isKnownSeat G3_isKnownSeat_0
    rw [gdx_t (show 0 ≤ i ∧ i < 24 by first | decide | omega)]
    by_cases c1 : m 95 i = 0
    · rw [if_pos c1, if_neg (show ¬ v 40 i = 0 by first | decide | omega), gdx_t (show 0 ≤ i ∧ i < 24 by first | decide | omega), gdx_t (show 0 ≤ 3 * i ∧ 3 * i < 72 by first | decide | omega)]
      by_cases c2 : m 94 i = -1
      · obtain ⟨s1, s2, s3, s4, s5, s6, s7⟩ : m 94 i = -1 ∧ v 39 (3 * i) = m 91 i ∧ (0 ≤ m 91 i ∧ m 91 i ≤ 199) ∧ v 39 (3 * i + 1) = m 92 i ∧ isS w (m 92 i) ∧ v 39 (3 * i + 2) = m 93 i ∧ isC w (m 93 i) := by
          rcases hNi with y | y
          · exact y
          · omega
        unfold isC at s7
        have hsb := sf_b (w := w) (by first | decide | omega) (m 91 i)
        rw [if_pos c2, bs1, if_pos (show 0 ≤ v 39 (3 * i) by first | decide | omega)]
        simp only
        rw [if_neg i10, gdx_t (show 0 ≤ i ∧ i < 24 by first | decide | omega), t2, Int.toNat_natCast, g_sf hc.1 (by first | decide | omega) (fun t p q => by have := wt_lt hW p q; first | decide | omega), bs1, s2, r_bf hR hW, bs1]
        simp only
        unfold G11_locals_74
        by_cases c3 : sf w (m 91 i) = -1
        · rw [if_pos c3]
          simp only [if_pos c3]
          rw [if_neg (show ¬ (0 : Int) ≤ -1 by first | decide | omega), gdx_t (by first | decide | omega), gd3_t (by first | decide | omega), gd3_t (by first | decide | omega)]
          exact next a b c v hB Fm.rf
        · have hl := wt_lt hW (t := sf w (m 91 i)) (by first | decide | omega) (by first | decide | omega)
          have hv := (hW.2.2.2.1 (w 9 (sf w (m 91 i))) hl.1 hl.2.2).2.1
          have hp := hG.2 (w 9 (sf w (m 91 i))) hl.1 hl.2.2
          rw [if_neg c3]
          simp only [if_neg c3]
          have e9 : m (T + 9) (sf w (m 91 i)) = w 9 (sf w (m 91 i)) := hc.1.2.2 9 _ (by first | decide | omega)
          rw [gdx_t (by first | decide | omega), gdx_t (by first | decide | omega), gdx_t (by first | decide | omega), t2, Int.toNat_natCast, e9, g_farOf hc hW ⟨hl.1, hl.2.2⟩ s7 hp, bs1]
          simp only
          obtain ⟨v1, e1, f1⟩ := m_pk hR hW (mn := w 11 (w 9 (sf w (m 91 i)))) (by first | decide | omega)
          have hx := pxM_b (way := -1) (mn := w 11 (w 9 (sf w (m 91 i)))) hW
          rw [gdx_t (show 0 ≤ 3 * i ∧ 3 * i < 72 by first | decide | omega), if_pos (show 0 ≤ w 11 (w 9 (sf w (m 91 i))) by first | decide | omega), gdx_t (by first | decide | omega), gdx_t (by first | decide | omega), e1, bs1, h66]
          simp only
          rw [s6, m_far (hR.pn f1) hW s7 hx, bs1]
          simp only
          have eg : g 3 (w 9 (sf w (m 91 i))) = pxM w (-1) (w 11 (w 9 (sf w (m 91 i)))) := hE.2 _ hl.1 hl.2.2
          rw [eg, s4, f1 39 _ (by unfold PNm; first | decide | omega), s4]
          by_cases c4 : fr w (m 93 i) (pxM w (-1) (w 11 (w 9 (sf w (m 91 i))))) ≤ x
          · rw [if_neg (show ¬ x < fr w (m 93 i) (pxM w (-1) (w 11 (w 9 (sf w (m 91 i))))) by first | decide | omega), if_pos c4, gd3_t (by first | decide | omega), gd3_t (by first | decide | omega)]
            exact next _ _ c v1 (hB.near _) f1
          · rw [if_pos (show x < fr w (m 93 i) (pxM w (-1) (w 11 (w 9 (sf w (m 91 i))))) by first | decide | omega), if_neg c4, gdx_t (by first | decide | omega), gd3_t (by first | decide | omega), gd3_t (by first | decide | omega)]
            exact next _ _ _ v1 (hB.far _) f1
      · rw [if_neg c2, bs1, if_neg (show ¬ 0 ≤ v 39 (3 * i) by first | decide | omega)]
        simp only [if_true]
        unfold G11_locals_74
        rw [if_pos rfl, gd3_t (by first | decide | omega), gd3_t (by first | decide | omega)]
        exact next a b c v hB Fm.rf
    · rw [if_neg c1, bs1, if_pos (show v 40 i = 0 by first | decide | omega)]
      simp only [if_true]
      unfold G11_locals_74
      rw [if_pos rfl, gd3_t (by first | decide | omega), gd3_t (by first | decide | omega)]
      exact next a b c v hB Fm.rf
theorem a_locals (h : Rel m v) (x : Int) : Agr (G11_locals m x) (G12_locals v x) := by
  have h1 := h.v0
  unfold G11_locals G11_locals_0 G12_locals G12_locals_0
  rw [wt_e]
  generalize up v 0 2 0 = u at h1 ⊢
  obtain ⟨T, w, g, n, t1, t2, hc, hn, hW, hG, hE, hS, hR, hV, hL, ew, -, -⟩ := h1.use
  have hN : RNo m u w := by
    obtain ⟨T', hRS, hRI, hN, _⟩ := h1
    have : T' = T := by have := hRS.1.2.1; omega
    subst this
    rw [ew]; exact hN
  rw [r_isIn, bs1]
  by_cases c1 : 0 ≤ x ∧ x ≤ 12
  · simp only [if_pos c1, if_neg i10]
    rw [if_neg (by first | decide | omega), if_pos c1.2]
    have hk := KN_b hN
    obtain ⟨m1, u1, e1, e2, f1, f2, hC⟩ := lc_up (w := w) (K := KN m) (KN m).toNat 1024 1024 0 m u (by first | decide | omega) (by first | decide | omega) (by first | decide | omega) (by first | decide | omega) hN rfl (fun k p1 p2 => by first | decide | omega)
    have q1 : Fr PQ' m m1 := f1.mono P95_q
    have q2 : Fm PMq u u1 := f2.mono P40_q
    unfold G3_findStruck G3_findStruck_0
    rw [c_kn, bs1]
    simp only
    rw [e1, bs1, e2]
    have hT := hc.1.1
    obtain ⟨y, u2, z1, z2, z3⟩ := lc_main (T := T) (g := g) hW (K := KN m) (x := x) (KN m).toNat 1024 1024 0 0 0 0 m1 u1 (by first | decide | omega) (by first | decide | omega) (by first | decide | omega) (by first | decide | omega) rfl (by rw [f1 0 3 (by unfold P95; first | decide | omega)]; exact t2) (hc.fr f1 (by intro b q; unfold P95; first | decide | omega)) hG hE (hR.q q2) (by rw [f2 0 66 (by unfold P40; first | decide | omega)]; exact hV.2.2.2.2) (hN.pq (q1.mono (fun b z => z.1)) q2) (by unfold KN; rw [f1 90 0 (by unfold P95; first | decide | omega), f1 90 1 (by unfold P95; first | decide | omega)]) hC
    exact agr h1 y z1 z2 q1 (q2.tr (z3.mono PNm_q))
  · simp only [if_neg c1, if_true]
    by_cases c2 : x < 0
    · rw [if_pos c2]; exact agr0 h1 _ rfl rfl
    · rw [if_neg c2, if_neg (by first | decide | omega)]; exact agr0 h1 _ rfl rfl
end Q12
/-! What each part of the relation rests on; notes; go; look. -/
theorem Fm.rw1 {P : Nat → Int → Prop} {m m' : Mem} (f : Fm P m m') {b : Nat} (h : ∀ i, ¬ P b i) : m' b = m b := funext fun i => f b i (h i)
theorem Fr.fm {P : Nat → Prop} {m m' : Mem} (f : Fr P m m') : Fm (fun b _ => P b) m m' := f
section Q13
variable {m v m' v' w n : Mem} {T : Nat} {P Q : Nat → Int → Prop}
/-- what is told, on both sides -/
def RA (m v : Mem) (T : Nat) : Prop := ((T = 2 ∨ T = 24) ∧ m 0 3 = (T : Int) ∧ m 0 4 = 26 - (T : Int) ∧ m 51 0 = (T : Int)) ∧ WW (sl 21 m T) ∧ GE (sl 21 m T) (sl 3 m 51) (gM (sl 21 m T) (-1)) ∧ RT v (sl 21 m T)
theorem RS.ra (h : RS m v T) : RA m v T := ⟨h.1, h.2.1, h.2.2.1, h.2.2.2.2.1⟩
theorem RA.rs (h : RA m v T) (h1 : SN (sl 21 m T) (sl 6 m 69)) (h2 : SV (sl 21 m T) (sl 6 m 69) v) : RS m v T := ⟨h.1, h.2.1, h.2.2.1, h1, h.2.2.2, h2⟩
theorem RA.f (h : RA m v T) (f : Fm P m m') (g : Fm Q v v') (hp : ∀ b i, (b = 0 ∧ (i = 3 ∨ i = 4)) ∨ (2 ≤ b ∧ b ≤ 45) ∨ (51 ≤ b ∧ b ≤ 54) → ¬ P b i) (hq : ∀ b i, (b = 0 ∧ 12 ≤ i ∧ i ≤ 17) ∨ (4 ≤ b ∧ b ≤ 20) → ¬ Q b i) : RA m' v' T ∧ sl 21 m' T = sl 21 m T := by
  obtain ⟨⟨t1, t2, t3, t4⟩, r1, r2, r4⟩ := h
  have ew : sl 21 m' T = sl 21 m T := sl_c (fun b x y => f.rw1 (fun i => hp b i (by first | decide | omega)))
  have eg : sl 3 m' 51 = sl 3 m 51 := sl_c (fun b x y => f.rw1 (fun i => hp b i (by first | decide | omega)))
  refine ⟨⟨⟨t1, ?_, ?_, ?_⟩, ?_, ?_, ?_⟩, ew⟩
  · rw [f 0 3 (hp 0 3 (by first | decide | omega))]; exact t2
  · rw [f 0 4 (hp 0 4 (by first | decide | omega))]; exact t3
  · rw [f 51 0 (hp 51 0 (by first | decide | omega))]; exact t4
  · rw [ew]; exact r1
  · rw [ew, eg]; exact r2
  · rw [ew]; exact r4.fr g hq
theorem SV.f (h : SV w n v) (g : Fm Q v v') (hw : w 1 0 ≤ 5 ∧ w 8 1 ≤ 28) (hq : ∀ b i, (b = 0 ∧ (i = 64 ∨ i = 65 ∨ i = 66)) ∨ ((25 ≤ b ∧ b ≤ 29) ∧ 0 ≤ i ∧ i < 5) ∨ (b = 30 ∧ 0 ≤ i ∧ i < 28) ∨ ((31 ≤ b ∧ b ≤ 33) ∧ i = 0) → ¬ Q b i) : SV w n v' := by
  obtain ⟨⟨h1, h2, h3, h4, h5⟩, h6, h7, h8, h9⟩ := h
  refine ⟨⟨fun i p q => ?_, fun k p q => ?_, ?_, ?_, ?_⟩, ?_, ?_, fun i p q => ?_, ?_⟩
  · rw [g 25 _ (hq _ _ (by first | decide | omega)), g 26 _ (hq _ _ (by first | decide | omega)), g 27 _ (hq _ _ (by first | decide | omega))]; exact h1 i p q
  · rw [g 30 _ (hq _ _ (by first | decide | omega))]; exact h2 k p q
  · rw [g 32 _ (hq _ _ (by first | decide | omega))]; exact h3
  · rw [g 33 _ (hq _ _ (by first | decide | omega))]; exact h4
  · rw [g 0 65 (hq _ _ (by first | decide | omega))]; exact h5
  · rw [g 31 _ (hq _ _ (by first | decide | omega))]; exact h6
  · rw [g 0 64 (hq _ _ (by first | decide | omega))]; exact h7
  · rw [g 28 _ (hq _ _ (by first | decide | omega)), g 29 _ (hq _ _ (by first | decide | omega))]; exact h8 i p q
  · rw [g 0 66 (hq _ _ (by first | decide | omega))]; exact h9
/-- the image, the told part standing -/
def RIw (m v w : Mem) : Prop := m 0 10 = v 0 80 ∧ (m 0 10 = 0 ∨ (m 0 10 = 1 ∧ SN w (sl 6 m 83) ∧ SI w (sl 6 m 83) v))
theorem RIw.f (h : RIw m v w) (f : Fm P m m') (g : Fm Q v v') (hp : ∀ b i, (b = 0 ∧ i = 10) ∨ (83 ≤ b ∧ b ≤ 89) → ¬ P b i) (hq : ∀ b i, (b = 0 ∧ 80 ≤ i ∧ i ≤ 86) ∨ b = 42 → ¬ Q b i) : RIw m' v' w := by
  have ei : sl 6 m' 83 = sl 6 m 83 := sl_c (fun b x y => f.rw1 (fun i => hp b i (by first | decide | omega)))
  unfold RIw SI at *
  rw [ei, f 0 10 (hp _ _ (by first | decide | omega)), g 0 80 (hq _ _ (by first | decide | omega)), g.rw1 (fun i => hq 42 i (by first | decide | omega)), g 0 82 (hq _ _ (by first | decide | omega)), g 0 83 (hq _ _ (by first | decide | omega)), g 0 84 (hq _ _ (by first | decide | omega)), g 0 85 (hq _ _ (by first | decide | omega)), g 0 86 (hq _ _ (by first | decide | omega))]
  exact h
theorem RNo.f (h : RNo m v w) (f : Fm P m m') (g : Fm Q v v') (hp : ∀ b i, (90 ≤ b ∧ b ≤ 94) → ¬ P b i) (hq : ∀ b i, (b = 0 ∧ (i = 74 ∨ i = 75)) ∨ b = 39 → ¬ Q b i) : RNo m' v' w := by
  unfold RNo
  rw [f.rw1 (fun i => hp 90 i (by first | decide | omega)), f.rw1 (fun i => hp 91 i (by first | decide | omega)), f.rw1 (fun i => hp 92 i (by first | decide | omega)), f.rw1 (fun i => hp 93 i (by first | decide | omega)), f.rw1 (fun i => hp 94 i (by first | decide | omega)), g.rw1 (fun i => hq 39 i (by first | decide | omega)), g 0 74 (hq _ _ (by first | decide | omega)), g 0 75 (hq _ _ (by first | decide | omega))]
  exact h
theorem RU.f (h : RU m v w n) (f : Fm P m m') (g : Fm Q v v') (hp : ∀ b i, (96 ≤ b ∧ b ≤ 98) → ¬ P b i) (hq : ∀ b i, (b = 0 ∧ i = 78) ∨ b = 41 → ¬ Q b i) : RU m' v' w n := by
  unfold RU UH
  rw [f.rw1 (fun i => hp 96 i (by first | decide | omega)), f.rw1 (fun i => hp 97 i (by first | decide | omega)), f.rw1 (fun i => hp 98 i (by first | decide | omega)), g.rw1 (fun i => hq 41 i (by first | decide | omega)), g 0 78 (hq _ _ (by first | decide | omega))]
  exact h
theorem RTp.f (h : RTp m v) (f : Fm P m m') (g : Fm Q v v') (hp : ∀ b i, (b = 0 ∧ i = 1) ∨ b = 1 ∨ b = 48 → ¬ P b i) (hq : ∀ b i, (b = 0 ∧ i = 1) ∨ b = 1 ∨ b = 2 → ¬ Q b i) : RTp m' v' := by
  unfold RTp
  rw [f 0 1 (hp _ _ (by first | decide | omega)), f.rw1 (fun i => hp 1 i (by first | decide | omega)), f.rw1 (fun i => hp 48 i (by first | decide | omega)), g 0 1 (hq _ _ (by first | decide | omega)), g.rw1 (fun i => hq 1 i (by first | decide | omega)), g.rw1 (fun i => hq 2 i (by first | decide | omega))]
  exact h
/-- all of it, apart -/
theorem Rel.all (h : Rel m v) : ∃ T, RA m v T ∧ SN (sl 21 m T) (sl 6 m 69) ∧ SV (sl 21 m T) (sl 6 m 69) v ∧ RIw m v (sl 21 m T) ∧ RNo m v (sl 21 m T) ∧ RU m v (sl 21 m T) (sl 6 m 69) ∧ RTp m v ∧ (m 46 8 = v 0 4 ∧ m 46 9 = v 0 5) ∧ W102 m := by
  obtain ⟨T, h1, h2, h3, h4, h5, h6, h7⟩ := h
  exact ⟨T, h1.ra, h1.2.2.2.1, h1.2.2.2.2.2, h2, h3, h4, h5, h6, h7⟩
theorem Rel.of (h : RA m v T ∧ SN (sl 21 m T) (sl 6 m 69) ∧ SV (sl 21 m T) (sl 6 m 69) v ∧ RIw m v (sl 21 m T) ∧ RNo m v (sl 21 m T) ∧ RU m v (sl 21 m T) (sl 6 m 69) ∧ RTp m v ∧ (m 46 8 = v 0 4 ∧ m 46 9 = v 0 5) ∧ W102 m) : Rel m v := by
  obtain ⟨h1, h2, h3, h4, h5, h6, h7, h8, h9⟩ := h
  exact ⟨T, h1.rs h2 h3, h4, h5, h6, h7, h8, h9⟩
/-- what notes change -/
def Pn : Nat → Int → Prop := fun b _ => 90 ≤ b ∧ b ≤ 94
def Qn : Nat → Int → Prop := fun b i => (b = 0 ∧ (i = 2 ∨ i = 74 ∨ i = 75)) ∨ b = 39
theorem Rel.note (h : Rel m v) (f : Fm Pn m m') (g : Fm Qn v v') (hN : ∀ T, RA m v T → RNo m v (sl 21 m T) → RNo m' v' (sl 21 m T)) : Rel m' v' := by
  obtain ⟨T, h1, h2, h3, h4, h5, h6, h7, h8, h9⟩ := h.all
  obtain ⟨k1, ew⟩ := h1.f f g (by intro b i q; unfold Pn; first | decide | omega) (by intro b i q; unfold Qn; first | decide | omega)
  have en : sl 6 m' 69 = sl 6 m 69 := sl_c (fun b x y => f.rw1 (fun i => by unfold Pn; first | decide | omega))
  have hw := h1.2.1.1
  unfold WS at hw
  refine Rel.of (T := T) ⟨k1, ?_, ?_, ?_, ?_, ?_, ?_, ?_, ?_⟩
  · rw [ew, en]; exact h2
  · rw [ew, en]; exact h3.f g (by first | decide | omega) (by intro b i q; unfold Qn; first | decide | omega)
  · rw [ew]; exact h4.f f g (by intro b i q; unfold Pn; first | decide | omega) (by intro b i q; unfold Qn; first | decide | omega)
  · rw [ew]; exact hN T h1 h5
  · rw [ew, en]; exact h6.f f g (by intro b i q; unfold Pn; first | decide | omega) (by intro b i q; unfold Qn; first | decide | omega)
  · exact h7.f f g (by intro b i q; unfold Pn; first | decide | omega) (by intro b i q; unfold Qn; first | decide | omega)
  · rw [f 46 8 (by unfold Pn; first | decide | omega), f 46 9 (by unfold Pn; first | decide | omega), g 0 4 (by unfold Qn; first | decide | omega), g 0 5 (by unfold Qn; first | decide | omega)]; exact h8
  · intro i p q; rw [f 102 i (by unfold Pn; first | decide | omega)]; exact h9 i p q
theorem a_known (h : Rel m v) (x : Int) : Agr (G11_known m x) (G12_known v x) := by
  have h1 := h.v0
  unfold G11_known G11_known_0 G12_known G12_known_0
  simp only [wt_e]
  generalize up v 0 2 0 = u at h1 ⊢
  obtain ⟨T, _, _, _, _, hN, _⟩ := h1.all
  rw [r_isIn, bs1, ← hN.1]
  by_cases c : -1 ≤ x ∧ x ≤ m 90 0
  · simp only [if_pos c, if_neg i10]
    rw [if_neg (by first | decide | omega), if_pos c.2]
    refine ⟨1, _, _, rfl, rfl, h1.note (Fm.w1 (by unfold Pn; first | decide | omega)) (Fm.w1 (by unfold Qn; first | decide | omega)) (fun T' _ k => ?_)⟩
    obtain ⟨k1, k2, k3, k4, k5⟩ := k
    unfold RNo
    rw [up_i (show (0 : Int) ≠ 1 by first | decide | omega), up_e, up_i (show (74 : Int) ≠ 75 by first | decide | omega), up_e, up_b (show 91 ≠ 90 by first | decide | omega), up_b (show 92 ≠ 90 by first | decide | omega), up_b (show 93 ≠ 90 by first | decide | omega), up_b (show 94 ≠ 90 by first | decide | omega), up_b (show 39 ≠ 0 by first | decide | omega)]
    exact ⟨k1, k2, rfl, c, k5⟩
  · simp only [if_neg c, if_true]
    by_cases c2 : x < -1
    · rw [if_pos c2]; exact agr0 h1 _ rfl rfl
    · rw [if_neg c2, if_neg (by first | decide | omega)]; exact agr0 h1 _ rfl rfl
theorem r_noted {a b c : Int} (h : 0 ≤ v 0 74 ∧ v 0 74 < 24) : ∃ v', G12_noted v a b c = some (v 0 74, v') ∧ Fm Qn v v' ∧ v' 0 74 = v 0 74 + 1 ∧ v' 0 75 = v 0 75 ∧ v' 39 (3 * v 0 74) = a ∧ v' 39 (3 * v 0 74 + 1) = b ∧ v' 39 (3 * v 0 74 + 2) = c ∧ ∀ i, i < 3 * v 0 74 → v' 39 i = v 39 i := by
  unfold G12_noted G12_noted_0
  have e : ∀ (z : Mem) (i y : Int), up z 39 i y 0 74 = z 0 74 := fun z i y => up_a (by first | decide | omega)
  rw [gdx_t (by first | decide | omega), wt_e]
  rw [e, gdx_t (by first | decide | omega), wt_e, e, e, gdx_t (by first | decide | omega), wt_e, e, e, e, gd3_t (by first | decide | omega), wt_e, up_e, gd3_t (by first | decide | omega), show v 0 74 + 1 - 1 = v 0 74 by first | decide | omega]
  have fq : ∀ i, Qn 39 i := fun i => Or.inr rfl
  refine ⟨_, rfl, (((Fm.w1 (fq _)).w (fq _)).w (fq _)).w (Or.inl ⟨rfl, Or.inr (Or.inl rfl)⟩), up_e, ?_, ?_, ?_, ?_, fun i hi => ?_⟩
  · rw [up_i (by first | decide | omega), up_a (by first | decide | omega), up_a (by first | decide | omega), up_a (by first | decide | omega)]
  · rw [up_a (by first | decide | omega), up_i (by first | decide | omega), up_i (by first | decide | omega), up_e]
  · rw [up_a (by first | decide | omega), up_i (by first | decide | omega), up_e]
  · rw [up_a (by first | decide | omega), up_e]
  · rw [up_a (by first | decide | omega), up_i (by first | decide | omega), up_i (by first | decide | omega), up_i (by first | decide | omega)]
theorem c_seatN {a b c : Int} (h : 0 ≤ m 90 0 ∧ m 90 0 ≤ 24) : ∃ m', G3_addSeat m a b c = some ((if m 90 0 < 24 then m 90 0 else -1), m') ∧ Fm Pn m m' ∧ (m 90 0 < 24 → m' 90 0 = m 90 0 + 1 ∧ m' 90 1 = m 90 1 ∧ m' 91 (m 90 0) = a ∧ m' 92 (m 90 0) = b ∧ m' 93 (m 90 0) = c ∧ m' 94 (m 90 0) = -1 ∧ ∀ i, i ≠ m 90 0 → m' 91 i = m 91 i ∧ m' 92 i = m 92 i ∧ m' 93 i = m 93 i ∧ m' 94 i = m 94 i) ∧ (¬ m 90 0 < 24 → m' = m) := by
  unfold G3_addSeat G3_addSeat_0
  by_cases c1 : m 90 0 < 24
  · have e : ∀ (z : Mem) (r : Nat) (i y j : Int), 91 ≤ r → up z r i y 90 j = z 90 j := fun z r i y j hr => up_a (by first | decide | omega)
    have e1 := e m 91 (m 90 0) a 0 (by first | decide | omega)
    have e2 := (e (up m 91 (m 90 0) a) 92 (m 90 0) b 0 (by first | decide | omega)).trans e1
    have e3 := (e (up (up m 91 (m 90 0) a) 92 (m 90 0) b) 93 (m 90 0) c 0 (by first | decide | omega)).trans e2
    have e4 := (e (up (up (up m 91 (m 90 0) a) 92 (m 90 0) b) 93 (m 90 0) c) 94 (m 90 0) (-1) 0 (by first | decide | omega)).trans e3
    rw [if_pos c1, if_pos c1, gdx_t (by first | decide | omega), wt_e, e1, gdx_t (by first | decide | omega), wt_e, e2, gdx_t (by first | decide | omega), wt_e, e3, gdx_t (by first | decide | omega), wt_e, e4, gd3_t (by first | decide | omega), wt_e, up_e, gd3_t (by first | decide | omega), show m 90 0 + 1 - 1 = m 90 0 by first | decide | omega]
    refine ⟨_, rfl, ((((Fm.w1 (by unfold Pn; first | decide | omega)).w (by unfold Pn; first | decide | omega)).w (by unfold Pn; first | decide | omega)).w (by unfold Pn; first | decide | omega)).w (by unfold Pn; first | decide | omega), fun _ => ⟨up_e, ?_, ?_, ?_, ?_, ?_, fun i hi => ⟨?_, ?_, ?_, ?_⟩⟩, fun q => absurd c1 q⟩
    · rw [up_i (by first | decide | omega), up_a (by first | decide | omega), up_a (by first | decide | omega), up_a (by first | decide | omega), up_a (by first | decide | omega)]
    · rw [up_a (by first | decide | omega), up_a (by first | decide | omega), up_a (by first | decide | omega), up_a (by first | decide | omega), up_e]
    · rw [up_a (by first | decide | omega), up_a (by first | decide | omega), up_a (by first | decide | omega), up_e]
    · rw [up_a (by first | decide | omega), up_a (by first | decide | omega), up_e]
    · rw [up_a (by first | decide | omega), up_e]
    · rw [up_a (by first | decide | omega), up_a (by first | decide | omega), up_a (by first | decide | omega), up_a (by first | decide | omega), up_i hi]
    · rw [up_a (by first | decide | omega), up_a (by first | decide | omega), up_a (by first | decide | omega), up_i hi, up_a (by first | decide | omega)]
    · rw [up_a (by first | decide | omega), up_a (by first | decide | omega), up_i hi, up_a (by first | decide | omega), up_a (by first | decide | omega)]
    · rw [up_a (by first | decide | omega), up_i hi, up_a (by first | decide | omega), up_a (by first | decide | omega), up_a (by first | decide | omega)]
  · rw [if_neg c1, if_neg c1]
    exact ⟨m, rfl, Fm.rf, fun q => absurd q c1, fun _ => rfl⟩
theorem c_strikeN {a : Int} (h : 0 ≤ m 90 0 ∧ m 90 0 ≤ 24) : ∃ m', G3_addStrike m a = some ((if m 90 0 < 24 then m 90 0 else -1), m') ∧ Fm Pn m m' ∧ (m 90 0 < 24 → m' 90 0 = m 90 0 + 1 ∧ m' 90 1 = m 90 1 ∧ m' 94 (m 90 0) = a ∧ ∀ i, i ≠ m 90 0 → m' 91 i = m 91 i ∧ m' 92 i = m 92 i ∧ m' 93 i = m 93 i ∧ m' 94 i = m 94 i) ∧ (¬ m 90 0 < 24 → m' = m) := by
  unfold G3_addStrike G3_addStrike_0
  by_cases c1 : m 90 0 < 24
  · have e : ∀ (z : Mem) (r : Nat) (i y j : Int), 91 ≤ r → up z r i y 90 j = z 90 j := fun z r i y j hr => up_a (by first | decide | omega)
    have e1 := e m 92 (m 90 0) (-1) 0 (by first | decide | omega)
    have e2 := (e (up m 92 (m 90 0) (-1)) 94 (m 90 0) a 0 (by first | decide | omega)).trans e1
    rw [if_pos c1, if_pos c1, gdx_t (by first | decide | omega), wt_e, e1, gdx_t (by first | decide | omega), wt_e, e2, gd3_t (by first | decide | omega), wt_e, up_e, gd3_t (by first | decide | omega), show m 90 0 + 1 - 1 = m 90 0 by first | decide | omega]
    refine ⟨_, rfl, ((Fm.w1 (by unfold Pn; first | decide | omega)).w (by unfold Pn; first | decide | omega)).w (by unfold Pn; first | decide | omega), fun _ => ⟨up_e, ?_, ?_, fun i hi => ⟨?_, ?_, ?_, ?_⟩⟩, fun q => absurd c1 q⟩
    · rw [up_i (by first | decide | omega), up_a (by first | decide | omega), up_a (by first | decide | omega)]
    · rw [up_a (by first | decide | omega), up_e]
    · rw [up_a (by first | decide | omega), up_a (by first | decide | omega), up_a (by first | decide | omega)]
    · rw [up_a (by first | decide | omega), up_a (by first | decide | omega), up_i hi]
    · rw [up_a (by first | decide | omega), up_a (by first | decide | omega), up_a (by first | decide | omega)]
    · rw [up_a (by first | decide | omega), up_i hi, up_a (by first | decide | omega)]
  · rw [if_neg c1, if_neg c1]
    exact ⟨m, rfl, Fm.rf, fun q => absurd q c1, fun _ => rfl⟩
theorem a_note (h : Rel m v) (x y z : Int) : Agr (G11_note m x y z) (G12_note v x y z) := by
  have h1 := h.v0
  unfold G11_note G11_note_0 G12_note G12_note_0
  rw [wt_e]
  generalize up v 0 2 0 = u at h1 ⊢
  obtain ⟨T, hA, _, _, _, hN, _⟩ := h1.all
  obtain ⟨n1, n2, n3, n4, n5⟩ := hN
  have t2 := hA.1.2.1
  have hR := hA.2.2.2
  have hW := hA.2.1
  have hX := TX_sl (m := m) hA.1.1
  rw [← n1, r_isIn, bs1]
  by_cases c0 : 0 ≤ x ∧ x ≤ 199
  · simp only [if_pos c0, if_neg i10]
    rw [if_neg (by first | decide | omega), if_neg (by first | decide | omega), c_isS t2 hX, r_isS hR, bs1, bs1]
    by_cases c1 : 0 ≤ y ∧ y < sl 21 m T 1 0
    · simp only [if_pos c1, if_neg i10]
      rw [c_isC t2 hX hW, r_isC hR hW, bs1, bs1]
      by_cases c2 : 0 ≤ z ∧ z < sl 21 m T 0 0 * sl 21 m T 0 1
      · simp only [if_pos c2, if_neg i10]
        obtain ⟨m', e1, f1, k1, k2⟩ := c_seatN (m := m) (a := x) (b := y) (c := z) n2
        rw [e1, bs1]
        by_cases c3 : m 90 0 < 24
        · rw [if_neg (show ¬ m 90 0 = 24 by first | decide | omega)]
          obtain ⟨u', e2, f2, p1, p2, p3, p4, p5, p6⟩ := r_noted (v := u) (a := x) (b := y) (c := z) (by first | decide | omega)
          obtain ⟨q1, q2, q3, q4, q5, q6, q7⟩ := k1 c3
          rw [e2, bs1]
          simp only [if_pos c3]
          rw [← n1]
          rw [← n1] at p1 p3 p4 p5 p6
          refine ⟨_, _, _, rfl, rfl, h1.note f1 f2 (fun T' hA' hN' => ?_)⟩
          have eT : T' = T := by have := hA'.1.2.1; omega
          subst eT
          refine ⟨by first | decide | omega, by first | decide | omega, by first | decide | omega, by first | decide | omega, fun k a1 a2 => ?_⟩
          by_cases ck : k = m 90 0
          · left
            rw [ck, q3, q4, q5, q6, p3, p4, p5]
            exact ⟨rfl, rfl, c0, rfl, c1, rfl, c2⟩
          · obtain ⟨i1, i2, i3, i4⟩ := q7 k ck
            rw [i1, i2, i3, i4, p6 _ (by first | decide | omega), p6 _ (by first | decide | omega), p6 _ (by first | decide | omega)]
            exact n5 k a1 (by first | decide | omega)
        · rw [if_pos (show m 90 0 = 24 by first | decide | omega)]
          simp only [if_neg c3]
          rw [k2 c3]; exact agr0 h1 _ rfl rfl
      · simp only [if_neg c2, if_true]
        split <;> exact agr0 h1 _ rfl rfl
    · simp only [if_neg c1, if_true]
      split <;> exact agr0 h1 _ rfl rfl
  · simp only [if_neg c0, if_true]
    have e : (if x < 0 then some (-1, m) else if 199 < x then some (-1, m) else (G11_isSurfer m y).bind fun o3 => if o3.1 = 0 then some (-1, o3.2) else (G11_isCell o3.2 z).bind fun o6 => if o6.1 = 0 then some (-1, o6.2) else (G3_addSeat o6.2 x y z).bind fun o11 => some (o11.1, o11.2)) = some ((-1 : Int), m) := by
      by_cases c1 : x < 0
      · rw [if_pos c1]
      · rw [if_neg c1, if_pos (by first | decide | omega)]
    rw [e]
    split <;> exact agr0 h1 _ rfl rfl
theorem a_strike (h : Rel m v) (x : Int) : Agr (G11_strike m x) (G12_strike v x) := by
  have h1 := h.v0
  unfold G11_strike G11_strike_0 G12_strike G12_strike_0
  rw [wt_e]
  generalize up v 0 2 0 = u at h1 ⊢
  obtain ⟨T, hA, _, _, _, hN, _⟩ := h1.all
  obtain ⟨n1, n2, n3, n4, n5⟩ := hN
  rw [← n1]
  by_cases c0 : x < 0
  · rw [if_pos c0, if_pos c0]
    split <;> exact agr0 h1 _ rfl rfl
  · rw [if_neg c0, if_neg c0]
    by_cases c1 : x < m 90 0
    · rw [if_pos c1, if_pos c1]
      obtain ⟨m', e1, f1, k1, k2⟩ := c_strikeN (m := m) (a := x) n2
      rw [e1, bs1]
      by_cases c3 : m 90 0 < 24
      · rw [if_neg (show ¬ m 90 0 = 24 by first | decide | omega)]
        obtain ⟨u', e2, f2, p1, p2, p3, p4, p5, p6⟩ := r_noted (v := u) (a := -1) (b := x) (c := 0) (by first | decide | omega)
        obtain ⟨q1, q2, q6, q7⟩ := k1 c3
        rw [e2, bs1]
        simp only [if_pos c3]
        rw [← n1]
        rw [← n1] at p1 p3 p4 p5 p6
        refine ⟨_, _, _, rfl, rfl, h1.note f1 f2 (fun T' hA' hN' => ?_)⟩
        have eT : T' = T := by have := hA'.1.2.1; have := hA.1.2.1; omega
        subst eT
        refine ⟨by first | decide | omega, by first | decide | omega, by first | decide | omega, by first | decide | omega, fun k a1 a2 => ?_⟩
        by_cases ck : k = m 90 0
        · right
          rw [ck, q6, p3, p4]
          exact ⟨by first | decide | omega, by first | decide | omega, rfl, rfl⟩
        · obtain ⟨i1, i2, i3, i4⟩ := q7 k ck
          rw [i1, i2, i3, i4, p6 _ (by first | decide | omega), p6 _ (by first | decide | omega), p6 _ (by first | decide | omega)]
          exact n5 k a1 (by first | decide | omega)
      · rw [if_pos (show m 90 0 = 24 by first | decide | omega)]
        simp only [if_neg c3]
        rw [k2 c3]; exact agr0 h1 _ rfl rfl
    · rw [if_neg c1, if_neg c1]
      split <;> exact agr0 h1 _ rfl rfl
end Q13
/-! go, on both sides, whatever it says; look. -/
def Tot (X Y : Option (Int × Mem)) : Prop := ∃ a b m' v', X = some (a, m') ∧ Y = some (b, v') ∧ Rel m' v'
section Q14
variable {m v w g n : Mem} {T : Nat}
theorem stk_at {f : Int → Int} {l : List Int} {N : Int} (h : stkO f 0 l) (hm : ∀ e ∈ l, 0 ≤ e ∧ e < N) {k : Int} (hk : 0 ≤ k ∧ k < l.length) : 0 ≤ f k ∧ f k < N := by
  have h1 := frt_nth (stk_frt h) hk.1 (by rw [List.length_reverse]; exact hk.2)
  rw [Int.zero_add] at h1
  rw [h1]
  have hl : k.toNat < l.reverse.length := by rw [List.length_reverse]; omega
  rw [List.getD_eq_getElem?_getD, List.getElem?_eq_getElem hl]
  show 0 ≤ l.reverse[k.toNat] ∧ l.reverse[k.toNat] < N
  exact hm _ (List.mem_reverse.mp (List.getElem_mem hl))
theorem mul_b {a b : Int} (ha : 0 ≤ a ∧ a ≤ 100) (hb : 0 ≤ b ∧ b ≤ 100) : 0 ≤ a * (100 - b) ∧ a * (100 - b) ≤ 10000 := by
  refine ⟨Int.mul_nonneg ha.1 (by first | decide | omega), ?_⟩
  have h1 : a * (100 - b) ≤ 100 * (100 - b) := Int.mul_le_mul_of_nonneg_right ha.2 (by first | decide | omega)
  omega
theorem c_cr28 {x L z N : Int} (hN : N ≤ 5) (hL : 0 ≤ L ∧ L ≤ 5) (h1 : ∀ k, 0 ≤ k → k < L → 0 ≤ m (51 + 6) k ∧ m (51 + 6) k < N) (h2 : ∀ e, 0 ≤ e → e < N → 0 ≤ m (51 + 2) e ∧ m (51 + 2) e ≤ 100) : ∀ (d f : Nat) (i a : Int), 0 ≤ i → L - i = d → d < f → (0 ≤ a ∧ a ≤ 100) → ∃ y, G6_crossingOdds_28 f m 51 x L z a i = some (y, m) ∧ 0 ≤ y ∧ y ≤ 100 := by
  intro d
  induction d with
  | zero =>
    intro f i a a1 a2 a3 a4
    obtain ⟨f, rfl⟩ : ∃ j, f = j + 1 := ⟨f - 1, by first | decide | omega⟩
    rw [G6_crossingOdds_28, if_pos (by first | decide | omega), gd3_t (by first | decide | omega)]
    exact ⟨_, rfl, by first | decide | omega, by first | decide | omega⟩
  | succ d ih =>
    intro f i a a1 a2 a3 a4
    obtain ⟨f, rfl⟩ : ∃ j, f = j + 1 := ⟨f - 1, by first | decide | omega⟩
    have b1 := h1 i a1 (by first | decide | omega)
    have b2 := h2 _ b1.1 b1.2
    have b3 := mul_b a4 b2
    obtain ⟨y1, e1, p1⟩ := ih f (i + 1) a (by first | decide | omega) (by first | decide | omega) (by first | decide | omega) a4
    obtain ⟨y2, e2, p2⟩ := ih f (i + 1) (a * (100 - m (51 + 2) (m (51 + 6) i)) / 100) (by first | decide | omega) (by first | decide | omega) (by first | decide | omega) (by first | decide | omega)
    have t : ∃ y, G6_crossingOdds_74 (fun m a0 x2 x4 x5 x6 x7 => G6_crossingOdds_28 f m a0 x2 x4 x5 x6 x7) m 51 x L z a i (m (51 + 6) i) = some (y, m) ∧ 0 ≤ y ∧ y ≤ 100 := by
      unfold G6_crossingOdds_74
      rw [gdx_t (by first | decide | omega), gd3_t (by first | decide | omega), gdd_t (by first | decide | omega), gd3_t (by first | decide | omega)]
      exact ⟨y2, e2, p2⟩
    rw [G6_crossingOdds_28, if_neg (by first | decide | omega), gdx_t (by first | decide | omega), gdx_t (by first | decide | omega), gdx_t (by first | decide | omega), gd3_t (by first | decide | omega), e1]
    by_cases c1 : z < m (51 + 8) (m (51 + 6) i)
    · rw [if_pos c1]; exact t
    · rw [if_neg c1]
      by_cases c2 : m (51 + 8) (m (51 + 6) i) = z
      · rw [if_pos c2]
        by_cases c3 : m (51 + 6) i ≤ x
        · rw [if_pos c3]; exact ⟨y1, rfl, p1⟩
        · rw [if_neg c3]; exact t
      · rw [if_neg c2]; exact ⟨y1, rfl, p1⟩
theorem c_cross (hc : CX m 51 T w g) (hW : WW w) (hG : GB w g) (hn : NX m 69 n) (hS : SN w n) {s k : Int} (hs : 0 ≤ s ∧ s < w 1 0) (hk : 0 ≤ k ∧ k < w 8 1) : ∃ y m', G6_crossingOdds m 51 69 s k = some (y, m') ∧ Fr (PL 51) m m' ∧ 0 ≤ y ∧ y ≤ 100 := by
  have hw := hW.1
  unfold WS at hw
  have e69 : m 69 0 = n 0 0 := hn.2.1 0
  obtain ⟨m1, e1, f1, hL⟩ := g_line hc hW hG hn hS.1 (n 0 0) hk
  have hc1 := hc.pl f1
  have hn1 := hn.pl (Or.inl rfl) f1
  unfold G6_crossingOdds G6_crossingOdds_0
  rw [e69, e1, bs1]
  simp only
  rw [g_key hc1 hW hG hn1 hS.1 hs hk, bs1]
  simp only
  have hlen : ((lu w g n k (n 0 0)).length : Int) ≤ 5 := by
    have := lu_len (w := w) (g := g) (n := n) (v := k) (mn := n 0 0) (by first | decide | omega)
    omega
  obtain ⟨y, e2, p⟩ := c_cr28 (m := m1) (x := s) (L := (lu w g n k (n 0 0)).length) (z := keyV w g n k s) (N := w 1 0) (by first | decide | omega) (by first | decide | omega) (fun j p q => stk_at hL.1 (fun e he => by have := lu_mem he (by first | decide | omega); first | decide | omega) ⟨p, q⟩) (fun e p q => by
    have e2 : m1 (51 + 2) e = g 2 e := hc1.2.2.2 2 e (by first | decide | omega) (by first | decide | omega)
    rw [e2]; exact (hG.1 e p q).2.2) (lu w g n k (n 0 0)).length 1024 0 100 (by first | decide | omega) (by first | decide | omega) (by first | decide | omega) (by first | decide | omega)
  exact ⟨y, m1, e2, f1, p⟩
theorem r_go54 (hW : WW w) {s k z c : Int} (hs : 0 ≤ s ∧ s < w 1 0) (hk : 0 ≤ k ∧ k < w 8 1) (hz : 0 ≤ z ∧ z ≤ 999) (hc : 0 ≤ c ∧ c < w 0 0 * w 0 1) (hR : RT v w) (h66 : v 0 66 = -1) (h25 : v 25 s = c) (hL : 0 ≤ v 0 69 ∧ v 0 69 ≤ 5) (h1 : ∀ k, 0 ≤ k → k < v 0 69 → 0 ≤ v 34 k ∧ v 34 k < w 1 0) : ∀ (d f : Nat) (i a b : Int), 0 ≤ i → v 0 69 - i = d → d < f → (0 ≤ a ∧ a ≤ 100) → ∃ y v', G12_go_54 f v s k z a b i = some (y, v') ∧ Fm PNm v v' := by
  have hw := hW.1
  unfold WS at hw
  intro d
  induction d with
  | zero =>
    intro f i a b a1 a2 a3 a4
    obtain ⟨f, rfl⟩ : ∃ j, f = j + 1 := ⟨f - 1, by first | decide | omega⟩
    obtain ⟨v1, e1, f1⟩ := r_gain hR hW h66 hs hk hc
    rw [G12_go_54, if_pos (by first | decide | omega), gdx_t (by first | decide | omega), h25, e1, bs1]
    have hm : 0 ≤ z * (100 - a) ∧ z * (100 - a) ≤ 999 * 100 := by
      refine ⟨Int.mul_nonneg hz.1 (by first | decide | omega), ?_⟩
      have h1 : z * (100 - a) ≤ 999 * (100 - a) := Int.mul_le_mul_of_nonneg_right hz.2 (by first | decide | omega)
      omega
    rw [gd3_t (by first | decide | omega)]
    split
    · exact ⟨_, _, rfl, f1⟩
    · exact ⟨_, _, rfl, f1⟩
  | succ d ih =>
    intro f i a b a1 a2 a3 a4
    obtain ⟨f, rfl⟩ : ∃ j, f = j + 1 := ⟨f - 1, by first | decide | omega⟩
    have b1 := h1 i a1 (by first | decide | omega)
    have e9 := (hR.2.2.1 _ b1.1 b1.2).2.2.2.2.1
    have b2 := (hW.2.1 _ b1.1 b1.2).2.2.2.1
    rw [← e9] at b2
    have b3 := mul_b a4 b2
    have t : ∀ a', (0 ≤ a' ∧ a' ≤ 100) → ∃ y v', G12_go_91 (fun m x1 x2 x3 x4 x5 x6 => G12_go_54 f m x1 x2 x3 x4 x5 x6) v s k z a' b i = some (y, v') ∧ Fm PNm v v' := by
      intro a' ha'
      obtain ⟨y1, v1, e1, p1⟩ := ih f (i + 1) a' 1 (by first | decide | omega) (by first | decide | omega) (by first | decide | omega) ha'
      obtain ⟨y0, v0, e0, p0⟩ := ih f (i + 1) a' 0 (by first | decide | omega) (by first | decide | omega) (by first | decide | omega) ha'
      unfold G12_go_91 G12_go_107
      rw [gdx_t (by first | decide | omega), gd3_t (by first | decide | omega)]
      simp only [gd3_t (show -2147483648 ≤ i + 1 ∧ i + 1 ≤ 2147483647 by first | decide | omega)]
      split
      · split
        · exact ⟨y1, v1, e1, p1⟩
        · exact ⟨y0, v0, e0, p0⟩
      · exact ⟨y1, v1, e1, p1⟩
    rw [G12_go_54, if_neg (by first | decide | omega), gdx_t (by first | decide | omega), gdx_t (by first | decide | omega), gd3_t (by first | decide | omega), gdd_t (by first | decide | omega)]
    split
    · exact t a a4
    · exact t _ (by first | decide | omega)
theorem t_go (h : Rel m v) (x y z : Int) : Tot (G11_go m x y z) (G12_go v x y z) := by
  have h1 := h.v0
  unfold G11_go G11_go_0 G12_go G12_go_0
  rw [wt_e]
  generalize up v 0 2 0 = u at h1 ⊢
  obtain ⟨T, w, g, n, t1, t2, hc, hn, hW, hG, hE, hS, hR, hV, hL, -, -, -⟩ := h1.use
  have hw := hW.1
  unfold WS at hw
  rw [c_isS t2 hc.1, r_isS hR, bs1, bs1]
  by_cases c1 : 0 ≤ x ∧ x < w 1 0
  · simp only [if_pos c1, if_neg i10]
    rw [c_toC t2 hc.1 hn (by first | decide | omega), r_toC hR hS hV (by first | decide | omega), bs1, bs1]
    by_cases c2 : (0 ≤ y ∧ y < w 8 1) ∧ n 0 0 ≤ w 11 y
    · simp only [if_pos c2, if_neg i10]
      rw [r_isIn, bs1]
      by_cases c3 : 0 ≤ z ∧ z ≤ 999
      · simp only [if_pos c3, if_neg i10]
        have hcell := (hS.1.2 x c1.1 c1.2).1
        have hg := hG.1 x c1.1 c1.2
        have hp := hG.2 y c2.1.1 c2.1.2
        have e70 : m (69 + 1) x = n 1 x := hn.2.2 1 x (by first | decide | omega)
        obtain ⟨m1, e1, f1⟩ := g_worth hc hW (x := x) (v := y) (c := n 1 x) (by first | decide | omega) ⟨hg.1, hg.2.1⟩ c2.1 hcell hp
        have hc1 := hc.pn f1
        have hn1 : NX m1 69 n := hn.fr f1 (by intro b p q; unfold PN; first | decide | omega)
        obtain ⟨o, m2, e2, f2, o1, o2⟩ := c_cross hc1 hW hG hn1 hS c1 c2.1
        have k25 : u 25 x = n 1 x := by have := (hV.1.1 x c1.1 c1.2).1; rwa [show 5 * (0 : Int) + x = x by first | decide | omega] at this
        obtain ⟨u1, e3, f3, k3, k4⟩ := m_ord hR hW (Or.inl rfl) hV.1 hS.1 hL hV.2.2.2.2 (fun q => by first | decide | omega) (by have := hS.2.1; first | decide | omega) c2.1
        have hR1 := hR.po f3
        have h66 : u1 0 66 = -1 := by rw [f3 0 66 (by unfold PO PNm; first | decide | omega)]; exact hV.2.2.2.2
        have h25 : u1 25 x = n 1 x := by rw [f3 25 x (by unfold PO PNm; first | decide | omega)]; exact k25
        have hlen := lu_len (w := w) (g := gM w (-1)) (n := n) (v := y) (mn := n 0 0) (by first | decide | omega)
        obtain ⟨q, u2, e4, f4⟩ := r_go54 hW (z := z) c1 c2.1 c3 hcell hR1 h66 h25 (by first | decide | omega) (fun k p q => stk_at k3 (fun e he => by have := lu_mem he (by first | decide | omega); first | decide | omega) ⟨p, by first | decide | omega⟩) (lu w (gM w (-1)) n y (n 0 0)).length 1024 0 100 0 (by first | decide | omega) (by first | decide | omega) (by first | decide | omega) (by first | decide | omega)
        have hm : 0 ≤ z * o ∧ z * o ≤ 999 * 100 := by
          refine ⟨Int.mul_nonneg c3.1 o1, ?_⟩
          have h1 : z * o ≤ 999 * o := Int.mul_le_mul_of_nonneg_right c3.2 o1
          omega
        rw [if_neg (by first | decide | omega), if_pos c3.2, gdx_t (by first | decide | omega), e70, e1, bs1]
        simp only
        rw [e2, bs1]
        simp only
        rw [gd3_t (by first | decide | omega), hV.2.2.1, e3, bs1, e4]
        have hrel : Rel m2 u2 := h1.q ((f1.mono PN_Q).tr (f2.mono PL_Q)) ((f3.mono PO_q).tr (f4.mono PNm_q))
        split
        · exact ⟨_, _, _, _, rfl, rfl, hrel⟩
        · exact ⟨_, _, _, _, rfl, rfl, hrel⟩
      · simp only [if_neg c3, if_true]
        split
        · exact ⟨_, _, _, _, rfl, rfl, h1⟩
        · rw [if_neg (by first | decide | omega)]; exact ⟨_, _, _, _, rfl, rfl, h1⟩
    · simp only [if_neg c2, if_true]; exact ⟨_, _, _, _, rfl, rfl, h1⟩
  · simp only [if_neg c1, if_true]; exact ⟨_, _, _, _, rfl, rfl, h1⟩
/-- look: the reference's side, told by the class's memory -/
theorem a_look (h : Rel m v) (x y : Int) : ∃ T : Nat, (T = 2 ∨ T = 24) ∧ m 0 3 = (T : Int) ∧ (0 ≤ m (T + 1) 0 ∧ m (T + 1) 0 ≤ 5) ∧ ((¬ (0 ≤ x ∧ x < m (T + 1) 0) ∧ ∃ v', G12_look v x y = some (0, v') ∧ v' 0 2 = 1 ∧ Rel m v') ∨ ((0 ≤ x ∧ x < m (T + 1) 0) ∧ ((¬ (0 ≤ y ∧ y ≤ 5) ∧ ∃ v', G12_look v x y = some (0, v') ∧ v' 0 2 = 2 ∧ Rel m v') ∨ ((0 ≤ y ∧ y ≤ 3) ∧ ∃ v', G12_look v x y = some (m (70 + y.toNat) x, v') ∧ v' 0 2 = 0 ∧ Rel m v') ∨ (y = 4 ∧ (-2147483648 ≤ m (T + 5) x - m 74 x ∧ m (T + 5) x - m 74 x ≤ 2147483647) ∧ ∃ v', G12_look v x y = some (m (T + 5) x - m 74 x, v') ∧ v' 0 2 = 0 ∧ Rel m v') ∨ (y = 5 ∧ ∃ a m' v', G11_farNow m x = some (a, m') ∧ G12_look v x y = some (a, v') ∧ v' 0 2 = 0 ∧ Rel m' v')))) := by
  have h1 := h.v0
  have h02 : up v 0 2 0 0 2 = 0 := up_e
  unfold G12_look G12_look_0 G12_fails G12_fails_0
  simp only [wt_e]
  generalize up v 0 2 0 = u at h1 h02 ⊢
  obtain ⟨T, w, g, n, t1, t2, hc, hn, hW, hG, hE, hS, hR, hV, hL, -, -, -⟩ := h1.use
  have hw := hW.1
  unfold WS at hw
  have e1 : m (T + 1) 0 = w 1 0 := hc.1.2.2 1 0 (by first | decide | omega)
  refine ⟨T, t1, t2, by first | decide | omega, ?_⟩
  rw [r_isS hR, bs1, e1]
  have rv : ∀ x, Rel m (up u 0 2 x) := fun x => h1.q Fr.rf (Fm.w1 (by unfold PMq; first | decide | omega))
  by_cases c1 : 0 ≤ x ∧ x < w 1 0
  · right
    refine ⟨c1, ?_⟩
    simp only [if_pos c1, if_neg i10, bs1]
    have q1 := hV.1.1 x c1.1 c1.2
    have q2 := hV.2.2.2.1 x c1.1 c1.2
    have e0 : 5 * (0 : Int) + x = x := by omega
    rw [e0] at q1
    have en : ∀ c : Nat, c ≤ 6 → m (69 + c) x = n c x := fun c h => hn.2.2 c x h
    by_cases y0 : y = 0
    · right; left
      refine ⟨by first | decide | omega, u, ?_, h02, h1⟩
      have := en 1 (by first | decide | omega)
      rw [if_pos y0, gdx_t (by first | decide | omega), q1.1, ← this, y0]; rfl
    · rw [if_neg y0]
      by_cases y1 : y = 1
      · right; left
        refine ⟨by first | decide | omega, u, ?_, h02, h1⟩
        have := en 2 (by first | decide | omega)
        rw [if_pos y1, gdx_t (by first | decide | omega), q1.2.1, ← this, y1]; rfl
      · rw [if_neg y1]
        by_cases y2 : y = 2
        · right; left
          refine ⟨by first | decide | omega, u, ?_, h02, h1⟩
          have := en 3 (by first | decide | omega)
          rw [if_pos y2, gdx_t (by first | decide | omega), q1.2.2, ← this, y2]; rfl
        · rw [if_neg y2]
          by_cases y3 : y = 3
          · right; left
            refine ⟨by first | decide | omega, u, ?_, h02, h1⟩
            have := en 4 (by first | decide | omega)
            rw [if_pos y3, gdx_t (by first | decide | omega), q2.1, ← this, y3]; rfl
          · rw [if_neg y3]
            by_cases y4 : y = 4
            · right; right; left
              have a1 := en 5 (by first | decide | omega)
              have a2 : m (T + 5) x = w 5 x := hc.1.2.2 5 x (by first | decide | omega)
              have b1 := hS.2.2.1 x c1.1 c1.2
              have b2 := (hW.2.1 x c1.1 c1.2).2.2.1
              have a3 : m 74 x = n 5 x := a1
              refine ⟨y4, by rw [a2, a3]; first | decide | omega, u, ?_, h02, h1⟩
              rw [if_pos y4, gdx_t (by first | decide | omega), q2.2, a2, a3]
            · rw [if_neg y4]
              by_cases y5 : y = 5
              · right; right; right
                obtain ⟨m', e2, f2⟩ := c_fn hc t2 hn hW hS c1
                have hcell := (hS.1.2 x c1.1 c1.2).1
                obtain ⟨u1, e3, f3⟩ := m_pk hR hW (mn := n 0 0) (by have := hS.2.1; first | decide | omega)
                have hx := pxM_b (way := -1) (mn := n 0 0) hW
                have ep : pxM w (-1) (n 0 0) = pkX w (n 0 0) := by unfold pxM; rw [if_neg (by first | decide | omega)]
                refine ⟨y5, _, m', u1, e2, ?_, ?_, h1.q (f2.mono PN_Q) (f3.mono PNm_q)⟩
                · rw [if_pos y5, gdx_t (by first | decide | omega), hV.2.1, e3, bs1, hV.2.2.2.2]
                  simp only
                  rw [q1.1, m_far (hR.pn f3) hW hcell hx, bs1, ep]
                · rw [f3 0 2 (by unfold PNm; first | decide | omega)]; exact h02
              · left
                rw [if_neg y5]
                exact ⟨by first | decide | omega, _, rfl, up_e, rv 2⟩
  · left
    simp only [if_neg c1, if_true, bs1]
    exact ⟨c1, _, rfl, up_e, rv 1⟩
end Q14
/-! What can be undone: stroke, rule, undo. -/
section Q15
variable {m v m' v' w n n' : Mem} {T : Nat}
theorem sl_up {k : Nat} {a c : Nat} {i y : Int} (h : c ≤ k) : sl k (up m (a + c) i y) a = up (sl k m a) c i y := by
  funext d j
  by_cases c1 : d ≤ k
  · rw [sl_e c1]
    by_cases c2 : d = c
    · subst c2
      by_cases c3 : j = i
      · subst c3; rw [up_e, up_e]
      · rw [up_i c3, up_i c3, sl_e c1]
    · rw [up_a (show a + d ≠ a + c by first | decide | omega), up_a c2, sl_e c1]
  · rw [up_a (show d ≠ c by first | decide | omega)]
    unfold sl
    rw [if_neg c1, if_neg c1]
theorem sl_up0 {k : Nat} {a : Nat} {i y : Int} : sl k (up m a i y) a = up (sl k m a) 0 i y := sl_up (c := 0) (Nat.zero_le k)
theorem sl_out {k : Nat} {a b : Nat} {i y : Int} (h : b < a ∨ a + k < b) : sl k (up m b i y) a = sl k m a := sl_c (fun c x z => up_b (by first | decide | omega))
theorem SN.cell (h : SN w n) {s c : Int} (hc : 0 ≤ c ∧ c < w 0 0 * w 0 1) : SN w (up n 1 s c) := by
  obtain ⟨⟨h1, h2⟩, h3, h4, h5⟩ := h
  have e : ∀ b i, b ≠ 1 → up n 1 s c b i = n b i := fun b i q => up_a q
  unfold SN NB
  simp only [e 0 _ (by first | decide | omega), e 2 _ (by first | decide | omega), e 3 _ (by first | decide | omega), e 4 _ (by first | decide | omega), e 5 _ (by first | decide | omega), e 6 _ (by first | decide | omega)]
  refine ⟨⟨h1, fun i p q => ⟨?_, (h2 i p q).2⟩⟩, h3, h4, h5⟩
  by_cases z : i = s
  · rw [z, up_e]; exact hc
  · rw [up_i z]; exact (h2 i p q).1
theorem SN.str (h : SN w n) {s y : Int} (hy : 0 ≤ y ∧ y ≤ w 5 s) : SN w (up n 5 s y) := by
  obtain ⟨⟨h1, h2⟩, h3, h4, h5⟩ := h
  have e : ∀ b i, b ≠ 5 → up n 5 s y b i = n b i := fun b i q => up_a q
  unfold SN NB
  simp only [e 0 _ (by first | decide | omega), e 1 _ (by first | decide | omega), e 2 _ (by first | decide | omega), e 3 _ (by first | decide | omega), e 4 _ (by first | decide | omega), e 6 _ (by first | decide | omega)]
  refine ⟨⟨h1, h2⟩, h3, fun i p q => ?_, h5⟩
  have := h4 i p q
  by_cases z : i = s
  · rw [z, up_e]; rw [z] at this; exact ⟨this.1, this.2.1, hy.1, hy.2⟩
  · rw [up_i z]; exact this
theorem SN.rul (h : SN w n) {r : Int} (hr : 0 ≤ r ∧ r ≤ 3) : SN w (up n 0 1 r) := by
  obtain ⟨⟨h1, h2⟩, h3, h4, h5⟩ := h
  have e : ∀ b i, b ≠ 0 → up n 0 1 r b i = n b i := fun b i q => up_a q
  have e0 : ∀ i, i ≠ 1 → up n 0 1 r 0 i = n 0 i := fun i q => up_i q
  unfold SN NB
  simp only [up_e, e0 0 (by first | decide | omega), e0 2 (by first | decide | omega), e0 3 (by first | decide | omega), e0 4 (by first | decide | omega), e 1 _ (by first | decide | omega), e 2 _ (by first | decide | omega), e 3 _ (by first | decide | omega), e 4 _ (by first | decide | omega), e 5 _ (by first | decide | omega), e 6 _ (by first | decide | omega)]
  exact ⟨⟨⟨hr.1, hr.2, h1.2.2⟩, h2⟩, h3, h4, h5⟩
theorem SV.cell (h : SV w n v) {s c : Int} : SV w (up n 1 s c) (up v 25 s c) := by
  obtain ⟨⟨h1, h2, h3, h4, h5⟩, h6, h7, h8, h9⟩ := h
  have e : ∀ b i, b ≠ 1 → up n 1 s c b i = n b i := fun b i q => up_a q
  have e2 : ∀ b i, b ≠ 25 → up v 25 s c b i = v b i := fun b i q => up_a q
  unfold SV NM
  simp only [e 0 _ (by first | decide | omega), e 2 _ (by first | decide | omega), e 3 _ (by first | decide | omega), e 4 _ (by first | decide | omega), e 5 _ (by first | decide | omega), e 6 _ (by first | decide | omega), e2 0 _ (by first | decide | omega), e2 26 _ (by first | decide | omega), e2 27 _ (by first | decide | omega), e2 28 _ (by first | decide | omega), e2 29 _ (by first | decide | omega), e2 30 _ (by first | decide | omega), e2 31 _ (by first | decide | omega), e2 32 _ (by first | decide | omega), e2 33 _ (by first | decide | omega)]
  refine ⟨⟨fun i p q => ⟨?_, (h1 i p q).2⟩, h2, h3, h4, h5⟩, h6, h7, h8, h9⟩
  have := (h1 i p q).1
  rw [show 5 * (0 : Int) + i = i by first | decide | omega] at this ⊢
  by_cases z : i = s
  · rw [z, up_e, up_e]
  · rw [up_i z, up_i z]; exact this
theorem SV.str (h : SV w n v) {s y : Int} : SV w (up n 5 s y) (up v 29 s (w 5 s - y)) := by
  obtain ⟨⟨h1, h2, h3, h4, h5⟩, h6, h7, h8, h9⟩ := h
  have e : ∀ b i, b ≠ 5 → up n 5 s y b i = n b i := fun b i q => up_a q
  have e2 : ∀ b i, b ≠ 29 → up v 29 s (w 5 s - y) b i = v b i := fun b i q => up_a q
  unfold SV NM
  simp only [e 0 _ (by first | decide | omega), e 1 _ (by first | decide | omega), e 2 _ (by first | decide | omega), e 3 _ (by first | decide | omega), e 4 _ (by first | decide | omega), e 6 _ (by first | decide | omega), e2 0 _ (by first | decide | omega), e2 25 _ (by first | decide | omega), e2 26 _ (by first | decide | omega), e2 27 _ (by first | decide | omega), e2 28 _ (by first | decide | omega), e2 30 _ (by first | decide | omega), e2 31 _ (by first | decide | omega), e2 32 _ (by first | decide | omega), e2 33 _ (by first | decide | omega)]
  refine ⟨⟨h1, h2, h3, h4, h5⟩, h6, h7, fun i p q => ⟨(h8 i p q).1, ?_⟩, h9⟩
  have := (h8 i p q).2
  by_cases z : i = s
  · rw [z, up_e, up_e]
  · rw [up_i z, up_i z]; exact this
theorem SV.rul (h : SV w n v) {r : Int} : SV w (up n 0 1 r) (up v 0 64 r) := by
  obtain ⟨⟨h1, h2, h3, h4, h5⟩, h6, h7, h8, h9⟩ := h
  have e : ∀ b i, b ≠ 0 → up n 0 1 r b i = n b i := fun b i q => up_a q
  have e0 : ∀ i, i ≠ 1 → up n 0 1 r 0 i = n 0 i := fun i q => up_i q
  have e2 : ∀ b i, b ≠ 0 → up v 0 64 r b i = v b i := fun b i q => up_a q
  have e3 : ∀ i, i ≠ 64 → up v 0 64 r 0 i = v 0 i := fun i q => up_i q
  unfold SV NM
  simp only [up_e, e0 0 (by first | decide | omega), e0 2 (by first | decide | omega), e0 3 (by first | decide | omega), e0 4 (by first | decide | omega), e3 65 (by first | decide | omega), e3 66 (by first | decide | omega), e 1 _ (by first | decide | omega), e 2 _ (by first | decide | omega), e 3 _ (by first | decide | omega), e 4 _ (by first | decide | omega), e 5 _ (by first | decide | omega), e 6 _ (by first | decide | omega), e2 25 _ (by first | decide | omega), e2 26 _ (by first | decide | omega), e2 27 _ (by first | decide | omega), e2 28 _ (by first | decide | omega), e2 29 _ (by first | decide | omega), e2 30 _ (by first | decide | omega), e2 31 _ (by first | decide | omega), e2 32 _ (by first | decide | omega), e2 33 _ (by first | decide | omega)]
  exact ⟨⟨h1, h2, h3, h4, h5⟩, h6, trivial, h8, h9⟩
/-- the class puts one more call on -/
def Pu : Nat → Int → Prop := fun b _ => 96 ≤ b ∧ b ≤ 98
theorem c_add45 {s y c : Int} (hc : m 96 0 = c) (h : 0 ≤ c ∧ c < 20) : G9_add_45 m s y = some (up (up (up m 97 c s) 98 c y) 96 0 (c + 1)) := by
  unfold G9_add_45
  have e1 : up m 97 c s 96 0 = c := by rw [up_a (by first | decide | omega)]; exact hc
  have e2 : up (up m 97 c s) 98 c y 96 0 = c := by rw [up_a (by first | decide | omega)]; exact e1
  rw [hc, gdx_t (by first | decide | omega), wt_e, e1, gdx_t (by first | decide | omega), wt_e, e2, gd3_t (by first | decide | omega), wt_e]
theorem c_add {s y : Int} (h : 0 ≤ m 96 0 ∧ m 96 0 ≤ 20) : ∃ m', G9_add m s y = some m' ∧ Fm Pu m m' ∧ (m 96 0 < 20 → m' 96 0 = m 96 0 + 1 ∧ m' 97 (m 96 0) = s ∧ m' 98 (m 96 0) = y ∧ ∀ j, 0 ≤ j → j < m 96 0 → m' 97 j = m 97 j ∧ m' 98 j = m 98 j) ∧ (m 96 0 = 20 → m' 96 0 = 20 ∧ m' 97 19 = s ∧ m' 98 19 = y ∧ ∀ j, 0 ≤ j → j < 19 → m' 97 j = m 97 (j + 1) ∧ m' 98 j = m 98 (j + 1)) := by
  unfold G9_add G9_add_0
  by_cases c : m 96 0 < 20
  · rw [if_pos c, c_add45 rfl ⟨h.1, c⟩]
    refine ⟨_, rfl, ((Fm.w1 (by unfold Pu; first | decide | omega)).w (by unfold Pu; first | decide | omega)).w (by unfold Pu; first | decide | omega), fun _ => ⟨up_e, ?_, ?_, fun j p q => ⟨?_, ?_⟩⟩, fun q => by first | decide | omega⟩
    · rw [up_a (by first | decide | omega), up_a (by first | decide | omega), up_e]
    · rw [up_a (by first | decide | omega), up_e]
    · rw [up_a (by first | decide | omega), up_a (by first | decide | omega), up_i (by first | decide | omega)]
    · rw [up_a (by first | decide | omega), up_i (by first | decide | omega), up_a (by first | decide | omega)]
  · rw [if_neg c, wt_e, wt_e, wt_e, c_add45 (c := 19) up_e (by first | decide | omega)]
    refine ⟨_, rfl, ?_, fun q => absurd q c, fun _ => ⟨up_e, ?_, ?_, fun j p q => ⟨?_, ?_⟩⟩⟩
    · intro b i q
      unfold Pu at q
      rw [up_a (by first | decide | omega), up_a (by first | decide | omega), up_a (by first | decide | omega), up_a (by first | decide | omega), cpy_a (by first | decide | omega), cpy_a (by first | decide | omega)]
    · rw [up_a (by first | decide | omega), up_a (by first | decide | omega), up_e]
    · rw [up_a (by first | decide | omega), up_e]
    · rw [up_a (by first | decide | omega), up_a (by first | decide | omega), up_i (by first | decide | omega), up_a (by first | decide | omega), cpy_a (by first | decide | omega), cpy_in (by first | decide | omega), show 1 + (j - 0) = j + 1 by first | decide | omega]
    · rw [up_a (by first | decide | omega), up_i (by first | decide | omega), up_a (by first | decide | omega), up_a (by first | decide | omega), cpy_in (by first | decide | omega), cpy_a (by first | decide | omega), show 1 + (j - 0) = j + 1 by first | decide | omega]
/-- the reference remembers all -/
def Qu : Nat → Int → Prop := fun b i => b = 41 ∨ (b = 0 ∧ i = 78)
def rowN (v v' : Mem) (c : Int) : Prop := (∀ s, 0 ≤ s → s < 5 → v' 41 (11 * c + s) = v 25 s ∧ v' 41 (11 * c + 5 + s) = v 29 s) ∧ v' 41 (11 * c + 10) = v 0 64
theorem r_rem51 {c : Int} (hc : 0 ≤ c ∧ c < 20) : ∀ (d k : Nat) (i : Int) (v : Mem), 0 ≤ i → 5 - i = d → d < k → v 0 78 = c → (∀ s, 0 ≤ s → s < i → v 41 (11 * c + s) = v 25 s ∧ v 41 (11 * c + 5 + s) = v 29 s) → ∃ v', G12_remember_51 k v i = some v' ∧ Fm Qu v v' ∧ v' 0 78 = c + 1 ∧ rowN v v' c ∧ ∀ j, j < 11 * c → v' 41 j = v 41 j := by
  intro d
  induction d with
  | zero =>
    intro k i v a1 a2 a3 h78 h
    obtain ⟨k, rfl⟩ : ∃ j, k = j + 1 := ⟨k - 1, by first | decide | omega⟩
    have e1 : ∀ y, up v 41 (11 * c + 10) y 0 78 = c := fun y => by rw [up_a (by first | decide | omega)]; exact h78
    rw [G12_remember_51, if_pos (by first | decide | omega), h78, gdx_t (by first | decide | omega), wt_e, e1, gd3_t (by first | decide | omega), wt_e]
    refine ⟨_, rfl, (Fm.w1 (Or.inl rfl)).w (Or.inr ⟨rfl, rfl⟩), up_e, ⟨fun s p q => ⟨?_, ?_⟩, ?_⟩, fun j hj => ?_⟩
    · rw [up_a (by first | decide | omega), up_i (by first | decide | omega)]; exact (h s p (by first | decide | omega)).1
    · rw [up_a (by first | decide | omega), up_i (by first | decide | omega)]; exact (h s p (by first | decide | omega)).2
    · rw [up_a (by first | decide | omega), up_e]
    · rw [up_a (by first | decide | omega), up_i (by first | decide | omega)]
  | succ d ih =>
    intro k i v a1 a2 a3 h78 h
    obtain ⟨k, rfl⟩ : ∃ j, k = j + 1 := ⟨k - 1, by first | decide | omega⟩
    have e1 : ∀ y, up v 41 (11 * c + i) y 0 78 = c := fun y => by rw [up_a (by first | decide | omega)]; exact h78
    rw [G12_remember_51, if_neg (by first | decide | omega), h78, gdx_t (by first | decide | omega), gdx_t (by first | decide | omega), wt_e, e1, gdx_t (by first | decide | omega), gdx_t (by first | decide | omega), wt_e, gd3_t (by first | decide | omega), up_a (show (29 : Nat) ≠ 41 by first | decide | omega)]
    have f1 : Fm Qu v (up (up v 41 (11 * c + i) (v 25 i)) 41 (11 * c + 5 + i) (v 29 i)) := (Fm.w1 (Or.inl rfl)).w (Or.inl rfl)
    obtain ⟨v', z1, z2, z3, z4, z5⟩ := ih k (i + 1) (up (up v 41 (11 * c + i) (v 25 i)) 41 (11 * c + 5 + i) (v 29 i)) (by first | decide | omega) (by first | decide | omega) (by first | decide | omega) (by rw [up_a (by first | decide | omega)]; exact e1 _) (fun s p q => by
      rw [up_a (show (25 : Nat) ≠ 41 by first | decide | omega), up_a (show (25 : Nat) ≠ 41 by first | decide | omega), up_a (show (29 : Nat) ≠ 41 by first | decide | omega), up_a (show (29 : Nat) ≠ 41 by first | decide | omega)]
      by_cases z : s = i
      · subst z
        rw [up_i (by first | decide | omega), up_e, up_e]; exact ⟨rfl, rfl⟩
      · rw [up_i (by first | decide | omega), up_i (by first | decide | omega), up_i (by first | decide | omega), up_i (by first | decide | omega)]; exact h s p (by first | decide | omega))
    refine ⟨v', z1, f1.tr z2, z3, ?_, fun j hj => ?_⟩
    · unfold rowN at *
      rw [up_b (show 25 ≠ 41 by first | decide | omega), up_b (show 25 ≠ 41 by first | decide | omega), up_b (show 29 ≠ 41 by first | decide | omega), up_b (show 29 ≠ 41 by first | decide | omega), up_a (show (0 : Nat) ≠ 41 by first | decide | omega), up_a (show (0 : Nat) ≠ 41 by first | decide | omega)] at z4
      exact z4
    · rw [z5 j hj, up_i (by first | decide | omega), up_i (by first | decide | omega)]
theorem r_rem11 : ∀ (d k : Nat) (i : Int) (v u : Mem), 0 ≤ i → 209 - i = d → d < k → v 0 78 = 20 → Fm Qu u v → (∀ j, 0 ≤ j → j < i → v 41 j = u 41 (j + 11)) → (∀ j, i ≤ j → v 41 j = u 41 j) → ∃ v', G12_remember_11 k v i = some v' ∧ Fm Qu u v' ∧ v' 0 78 = 20 ∧ rowN u v' 19 ∧ ∀ j, 0 ≤ j → j < 209 → v' 41 j = u 41 (j + 11) := by
  intro d
  induction d with
  | zero =>
    intro k i v u a1 a2 a3 h78 f h1 h2
    obtain ⟨k, rfl⟩ : ∃ j, k = j + 1 := ⟨k - 1, by first | decide | omega⟩
    rw [G12_remember_11, if_pos (by first | decide | omega), h78, gd3_t (by first | decide | omega), wt_e]
    obtain ⟨v', z1, z2, z3, z4, z5⟩ := r_rem51 (c := 19) (by first | decide | omega) 5 1024 0 (up v 0 78 (20 - 1)) (by first | decide | omega) (by first | decide | omega) (by first | decide | omega) up_e (fun s p q => by first | decide | omega)
    have f1 : Fm Qu v (up v 0 78 (20 - 1)) := Fm.w1 (Or.inr ⟨rfl, rfl⟩)
    refine ⟨v', z1, (f.tr f1).tr z2, z3, ?_, fun j p q => ?_⟩
    · unfold rowN at *
      rw [up_b (show 25 ≠ 0 by first | decide | omega), up_b (show 29 ≠ 0 by first | decide | omega), up_i (show (64 : Int) ≠ 78 by first | decide | omega), f.rw1 (b := 25) (fun i => by unfold Qu; first | decide | omega), f.rw1 (b := 29) (fun i => by unfold Qu; first | decide | omega), f 0 64 (by unfold Qu; first | decide | omega)] at z4
      exact z4
    · rw [z5 j (by first | decide | omega), up_a (by first | decide | omega)]; exact h1 j p (by first | decide | omega)
  | succ d ih =>
    intro k i v u a1 a2 a3 h78 f h1 h2
    obtain ⟨k, rfl⟩ : ∃ j, k = j + 1 := ⟨k - 1, by first | decide | omega⟩
    rw [G12_remember_11, if_neg (by first | decide | omega), gdx_t (by first | decide | omega), gdx_t (by first | decide | omega), wt_e, gd3_t (by first | decide | omega)]
    exact ih k (i + 1) (up v 41 i (v 41 (i + 11))) u (by first | decide | omega) (by first | decide | omega) (by first | decide | omega) (by rw [up_a (by first | decide | omega)]; exact h78) (f.w (Or.inl rfl)) (fun j p q => by
      by_cases z : j = i
      · rw [z, up_e]; exact h2 _ (by first | decide | omega)
      · rw [up_i z]; exact h1 j p (by first | decide | omega)) (fun j p => by rw [up_i (by first | decide | omega)]; exact h2 j (by first | decide | omega))
theorem r_rem (h : 0 ≤ v 0 78 ∧ v 0 78 ≤ 20) : ∃ v', G12_remember v = some v' ∧ Fm Qu v v' ∧ (v 0 78 < 20 → v' 0 78 = v 0 78 + 1 ∧ rowN v v' (v 0 78) ∧ ∀ j, j < 11 * v 0 78 → v' 41 j = v 41 j) ∧ (v 0 78 = 20 → v' 0 78 = 20 ∧ rowN v v' 19 ∧ ∀ j, 0 ≤ j → j < 209 → v' 41 j = v 41 (j + 11)) := by
  unfold G12_remember G12_remember_0
  by_cases c : v 0 78 = 20
  · rw [if_pos c]
    obtain ⟨v', z1, z2, z3, z4, z5⟩ := r_rem11 209 1024 0 v v (by first | decide | omega) (by first | decide | omega) (by first | decide | omega) c Fm.rf (fun j p q => by first | decide | omega) (fun j p => rfl)
    exact ⟨v', z1, z2, fun q => by first | decide | omega, fun _ => ⟨z3, z4, z5⟩⟩
  · rw [if_neg c]
    obtain ⟨v', z1, z2, z3, z4, z5⟩ := r_rem51 (c := v 0 78) (by first | decide | omega) 5 1024 0 v (by first | decide | omega) (by first | decide | omega) (by first | decide | omega) rfl (fun s p q => by first | decide | omega)
    exact ⟨v', z1, z2, fun _ => ⟨z3, z4, z5⟩, fun q => absurd q c⟩
/-- one more call that can be undone -/
theorem u_add (h : RU m v w n) (h5 : w 1 0 ≤ 5) (hS : SN w n) (hV : SV w n v) {sx bf : Int} {m1 m2 v1 : Mem} (e96 : m1 96 0 = m 96 0) (e97 : m1 97 = m 97) (e98 : m1 98 = m 98)
    (hm : (m1 96 0 < 20 → m2 96 0 = m1 96 0 + 1 ∧ m2 97 (m1 96 0) = sx ∧ m2 98 (m1 96 0) = bf ∧ ∀ j, 0 ≤ j → j < m1 96 0 → m2 97 j = m1 97 j ∧ m2 98 j = m1 98 j) ∧ (m1 96 0 = 20 → m2 96 0 = 20 ∧ m2 97 19 = sx ∧ m2 98 19 = bf ∧ ∀ j, 0 ≤ j → j < 19 → m2 97 j = m1 97 (j + 1) ∧ m2 98 j = m1 98 (j + 1)))
    (hv : (v 0 78 < 20 → v1 0 78 = v 0 78 + 1 ∧ rowN v v1 (v 0 78) ∧ ∀ j, j < 11 * v 0 78 → v1 41 j = v 41 j) ∧ (v 0 78 = 20 → v1 0 78 = 20 ∧ rowN v v1 19 ∧ ∀ j, 0 ≤ j → j < 209 → v1 41 j = v 41 (j + 11)))
    (hx : (sx = -1 ∧ bf = n 0 1 ∧ ∀ s, 0 ≤ s → s < w 1 0 → n 1 s = n' 1 s ∧ n 5 s = n' 5 s) ∨ (isS w sx ∧ n 0 1 = n' 0 1 ∧ ∀ s, 0 ≤ s → s < w 1 0 → n 1 s = (if s = sx then bf else n' 1 s) ∧ n 5 s = (if s = sx then n' 5 s - 1 else n' 5 s))) : RU m2 v1 w n' := by
  obtain ⟨u1, u2, CE, ST, RR, g1, g2, g3⟩ := h
  rw [e96, e97, e98] at hm
  have k25 : ∀ s, 0 ≤ s → s < w 1 0 → v 25 s = n 1 s ∧ v 29 s = w 5 s - n 5 s := fun s p q => by
    have h1 := (hV.1.1 s p q).1
    rw [show 5 * (0 : Int) + s = s by first | decide | omega] at h1
    exact ⟨h1, (hV.2.2.2.1 s p q).2⟩
  have hb : ∀ s, 0 ≤ s → s < w 1 0 → isC w (n 1 s) ∧ 0 ≤ n 5 s ∧ n 5 s ≤ w 5 s := fun s p q => ⟨(hS.1.2 s p q).1, (hS.2.2.1 s p q).2.2⟩
  have hr := hS.1.1
  by_cases c : m 96 0 < 20
  · obtain ⟨p1, p2, p3, p4⟩ := hm.1 c
    obtain ⟨q1, ⟨q2, q3⟩, q4⟩ := hv.1 (by first | decide | omega)
    refine ⟨by first | decide | omega, by first | decide | omega, fun j s => if j = m 96 0 + 1 then n' 1 s else CE j s, fun j s => if j = m 96 0 + 1 then n' 5 s else ST j s, fun j => if j = m 96 0 + 1 then n' 0 1 else RR j, fun s p q => ?_, ?_, fun j p q => ?_⟩
    · rw [p1]; exact ⟨if_pos rfl, if_pos rfl⟩
    · rw [p1]; exact if_pos rfl
    · rw [p1] at q
      simp only [if_neg (show ¬ j = m 96 0 + 1 by first | decide | omega)]
      by_cases z : j = m 96 0
      · subst z
        simp only [if_true]
        refine ⟨fun s a b => ?_, ?_, ?_, ?_⟩
        · have k := k25 s a b
          have k2 := q2 s a (by first | decide | omega)
          rw [← u1] at k2
          rw [(g1 s a b).1, (g1 s a b).2, k2.1, k2.2]
          exact ⟨k.1, k.2, (hb s a b).1, (hb s a b).2⟩
        · rw [g2]
          rw [← u1] at q3
          rw [q3]; exact hV.2.2.1
        · rw [g2]; exact ⟨hr.1, hr.2.1⟩
        · rw [p2, p3, g2]
          rcases hx with ⟨x1, x2, x3⟩ | ⟨x1, x2, x3⟩
          · left
            exact ⟨x1, x2.symm, fun s a b => ⟨(g1 s a b).1.trans (x3 s a b).1, (g1 s a b).2.trans (x3 s a b).2⟩⟩
          · right
            exact ⟨x1, x2, fun s a b => ⟨(g1 s a b).1.trans (x3 s a b).1, (g1 s a b).2.trans (x3 s a b).2⟩⟩
      · simp only [if_neg (show ¬ j + 1 = m 96 0 + 1 by first | decide | omega)]
        have g := g3 j p (by first | decide | omega)
        rw [(p4 j p (by first | decide | omega)).1, (p4 j p (by first | decide | omega)).2]
        refine ⟨fun s a b => ?_, ?_, g.2.2⟩
        · rw [q4 _ (by first | decide | omega), q4 _ (by first | decide | omega)]; exact g.1 s a b
        · rw [q4 _ (by first | decide | omega)]; exact g.2.1
  · have c20 : m 96 0 = 20 := by omega
    obtain ⟨p1, p2, p3, p4⟩ := hm.2 c20
    obtain ⟨q1, ⟨q2, q3⟩, q4⟩ := hv.2 (by first | decide | omega)
    rw [c20] at g1 g2
    refine ⟨by first | decide | omega, by first | decide | omega, fun j s => if j = 20 then n' 1 s else CE (j + 1) s, fun j s => if j = 20 then n' 5 s else ST (j + 1) s, fun j => if j = 20 then n' 0 1 else RR (j + 1), fun s p q => ?_, ?_, fun j p q => ?_⟩
    · rw [p1]; exact ⟨if_pos rfl, if_pos rfl⟩
    · rw [p1]; exact if_pos rfl
    · rw [p1] at q
      simp only [if_neg (show ¬ j = 20 by first | decide | omega)]
      by_cases z : j = 19
      · subst z
        simp only [show (19 : Int) + 1 = 20 by first | decide | omega, if_true]
        refine ⟨fun s a b => ?_, ?_, ?_, ?_⟩
        · have k := k25 s a b
          have k2 := q2 s a (by first | decide | omega)
          rw [(g1 s a b).1, (g1 s a b).2, k2.1, k2.2]
          exact ⟨k.1, k.2, (hb s a b).1, (hb s a b).2⟩
        · rw [g2, q3]; exact hV.2.2.1
        · rw [g2]; exact ⟨hr.1, hr.2.1⟩
        · rw [p2, p3, g2]
          rcases hx with ⟨x1, x2, x3⟩ | ⟨x1, x2, x3⟩
          · left
            exact ⟨x1, x2.symm, fun s a b => ⟨(g1 s a b).1.trans (x3 s a b).1, (g1 s a b).2.trans (x3 s a b).2⟩⟩
          · right
            exact ⟨x1, x2, fun s a b => ⟨(g1 s a b).1.trans (x3 s a b).1, (g1 s a b).2.trans (x3 s a b).2⟩⟩
      · simp only [if_neg (show ¬ j + 1 = 20 by first | decide | omega)]
        have g := g3 (j + 1) (by first | decide | omega) (by first | decide | omega)
        rw [(p4 j p (by first | decide | omega)).1, (p4 j p (by first | decide | omega)).2]
        refine ⟨fun s a b => ?_, ?_, g.2.2⟩
        · rw [q4 _ (by first | decide | omega) (by first | decide | omega), q4 _ (by first | decide | omega) (by first | decide | omega), show 11 * j + s + 11 = 11 * (j + 1) + s by first | decide | omega, show 11 * j + 5 + s + 11 = 11 * (j + 1) + 5 + s by first | decide | omega]; exact g.1 s a b
        · rw [q4 _ (by first | decide | omega) (by first | decide | omega), show 11 * j + 10 + 11 = 11 * (j + 1) + 10 by first | decide | omega]; exact g.2.1
/-- what stroke, rule and undo change -/
def Ps : Nat → Int → Prop := fun b _ => (69 ≤ b ∧ b ≤ 75) ∨ (96 ≤ b ∧ b ≤ 98)
def Qs : Nat → Int → Prop := fun b i => (b = 0 ∧ (i = 2 ∨ i = 64 ∨ i = 78)) ∨ b = 25 ∨ b = 29 ∨ b = 41
theorem Rel.step (h : Rel m v) (f : Fm Ps m m') (g : Fm Qs v v') (hk : ∀ T, RA m v T → SN (sl 21 m T) (sl 6 m 69) → SV (sl 21 m T) (sl 6 m 69) v → RU m v (sl 21 m T) (sl 6 m 69) → SN (sl 21 m T) (sl 6 m' 69) ∧ SV (sl 21 m T) (sl 6 m' 69) v' ∧ RU m' v' (sl 21 m T) (sl 6 m' 69)) : Rel m' v' := by
  obtain ⟨T, h1, h2, h3, h4, h5, h6, h7, h8, h9⟩ := h.all
  obtain ⟨k1, ew⟩ := h1.f f g (by intro b i q; unfold Ps; first | decide | omega) (by intro b i q; unfold Qs; first | decide | omega)
  obtain ⟨j1, j2, j3⟩ := hk T h1 h2 h3 h6
  refine Rel.of (T := T) ⟨k1, ?_, ?_, ?_, ?_, ?_, ?_, ?_, ?_⟩
  · rw [ew]; exact j1
  · rw [ew]; exact j2
  · rw [ew]; exact h4.f f g (by intro b i q; unfold Ps; first | decide | omega) (by intro b i q; unfold Qs; first | decide | omega)
  · rw [ew]; exact h5.f f g (by intro b i q; unfold Ps; first | decide | omega) (by intro b i q; unfold Qs; first | decide | omega)
  · rw [ew]; exact j3
  · exact h7.f f g (by intro b i q; unfold Ps; first | decide | omega) (by intro b i q; unfold Qs; first | decide | omega)
  · rw [f 46 8 (by unfold Ps; first | decide | omega), f 46 9 (by unfold Ps; first | decide | omega), g 0 4 (by unfold Qs; first | decide | omega), g 0 5 (by unfold Qs; first | decide | omega)]; exact h8
  · intro i p q; rw [f 102 i (by unfold Ps; first | decide | omega)]; exact h9 i p q
theorem Pu_s : ∀ b i, Pu b i → Ps b i := by intro b i h; unfold Pu at h; unfold Ps; omega
theorem Qu_s : ∀ b i, Qu b i → Qs b i := by intro b i h; unfold Qu at h; unfold Qs; omega
theorem a_rule (h : Rel m v) (x : Int) : Agr (G11_rule m x) (G12_rule v x) := by
  have h1 := h.v0
  unfold G11_rule G11_rule_0 G12_rule G12_rule_0
  rw [wt_e]
  generalize up v 0 2 0 = u at h1 ⊢
  obtain ⟨T, hA, hS, hV, _, _, hU, _⟩ := h1.all
  rw [c_isR, r_isIn, bs1, bs1]
  by_cases c0 : 0 ≤ x ∧ x ≤ 3
  · simp only [if_pos c0, if_neg i10]
    have e1 : u 0 64 = m 69 1 := hV.2.2.1
    rw [e1]
    by_cases c1 : x = m 69 1
    · rw [if_pos c1, if_pos c1]; exact agr0 h1 _ rfl rfl
    · rw [if_neg c1, if_neg c1]
      obtain ⟨m1, e2, f2, k2⟩ := c_add (m := m) (s := -1) (y := m 69 1) hU.2.1
      obtain ⟨u1, e3, f3, k3⟩ := r_rem (v := u) (by have := hU.1; have := hU.2.1; first | decide | omega)
      rw [e2, bs1, e3, bs1, wt_e, wt_e]
      refine ⟨1, _, _, rfl, rfl, h1.step ((f2.mono Pu_s).w (by unfold Ps; first | decide | omega)) ((f3.mono Qu_s).w (by unfold Qs; first | decide | omega)) (fun T' hA' hS' hV' hU' => ?_)⟩
      have en : sl 6 m1 69 = sl 6 m 69 := sl_c (fun b p q => f2.rw1 (fun i => by unfold Pu; first | decide | omega))
      rw [sl_up0, en]
      refine ⟨hS'.rul c0, (hV'.f f3 ?_ ?_).rul, ?_⟩
      · have hw := hA'.2.1.1; unfold WS at hw; omega
      · intro b i q; unfold Qu; omega
      · have hw := hA'.2.1.1
        unfold WS at hw
        have hU2 : RU m1 u1 (sl 21 m T') (up (sl 6 m 69) 0 1 x) := u_add hU' (by first | decide | omega) hS' hV' (m1 := m) rfl rfl rfl k2 k3 (Or.inl ⟨rfl, rfl, fun s p q => by rw [up_a (by first | decide | omega), up_a (by first | decide | omega)]; exact ⟨rfl, rfl⟩⟩)
        exact hU2.f (P := fun b i => b = 69) (Q := fun b i => b = 0 ∧ i = 64) (Fm.w1 rfl) (Fm.w1 ⟨rfl, rfl⟩) (by intro b i q; first | decide | omega) (by intro b i q; first | decide | omega)
  · simp only [if_neg c0, if_true]; exact agr0 h1 _ rfl rfl
theorem a_stroke (h : Rel m v) (x y : Int) : Agr (G11_stroke m x y) (G12_stroke v x y) := by
  have h1 := h.v0
  unfold G11_stroke G11_stroke_0 G12_stroke G12_stroke_0
  rw [wt_e]
  generalize up v 0 2 0 = u at h1 ⊢
  obtain ⟨T, w, g, n, t1, t2, hc, hn, hW, hG, hE, hS, hR, hV, hL, ew, eg, en⟩ := h1.use
  have hw := hW.1
  unfold WS at hw
  rw [c_isS t2 hc.1, r_isS hR, bs1, bs1]
  by_cases c1 : 0 ≤ x ∧ x < w 1 0
  · simp only [if_pos c1, if_neg i10]
    rw [r_isIn, bs1]
    by_cases c2 : 0 ≤ y ∧ y ≤ 3
    · simp only [if_pos c2, if_neg i10]
      rw [if_neg (by first | decide | omega), if_pos (show y < 4 by first | decide | omega)]
      have hcell := (hS.1.2 x c1.1 c1.2).1
      have e70 : m (69 + 1) x = n 1 x := hn.2.2 1 x (by first | decide | omega)
      have e73 : m (69 + 4) x = n 4 x := hn.2.2 4 x (by first | decide | omega)
      have e74 : m (69 + 5) x = n 5 x := hn.2.2 5 x (by first | decide | omega)
      have e69 : m 69 0 = n 0 0 := hn.2.1 0
      have eT5 : m (T + 5) x = w 5 x := hc.1.2.2 5 x (by first | decide | omega)
      have k25 : u 25 x = n 1 x := by have := (hV.1.1 x c1.1 c1.2).1; rwa [show 5 * (0 : Int) + x = x by first | decide | omega] at this
      have k28 := hV.2.2.2.1 x c1.1 c1.2
      have hb := hS.2.2.1 x c1.1 c1.2
      have hpace := (hW.2.1 x c1.1 c1.2).2.2.1
      have hbs := bsd_b hW (c := n 1 x) (way := y) hcell (by first | decide | omega)
      rw [gdx_t (show 0 ≤ x ∧ x < 5 by first | decide | omega), gdx_t (show 0 ≤ x ∧ x < 10 by first | decide | omega), t2, Int.toNat_natCast, e70, g_bsd hc.1 (by first | decide | omega) (by first | decide | omega) hcell, k25, r_bsd hR hW hcell, bs1, bs1]
      simp only
      by_cases c3 : bsd w (n 1 x) y = -1
      · rw [if_pos c3, if_pos (by first | decide | omega)]; exact agr0 h1 _ rfl rfl
      · rw [if_neg c3, if_neg (by first | decide | omega), gdx_t (show 0 ≤ x ∧ x < 10 by first | decide | omega), k28.1, gdx_t (show 0 ≤ x ∧ x < 5 by first | decide | omega), k28.2]
        unfold G4_isIn G4_isIn_0
        rw [gdx_t (show 0 ≤ x ∧ x < 5 by first | decide | omega), e69, e73]
        by_cases c4 : n 0 0 < n 4 x
        · rw [if_pos c4, if_pos (show 0 < n 4 x by have := hS.2.1; first | decide | omega), bs1]
          simp only [if_true]
          exact agr0 h1 _ rfl rfl
        · rw [if_neg c4, if_neg (show ¬ 0 < n 4 x by first | decide | omega), bs1]
          simp only [if_neg i10]
          rw [gdx_t (show 0 ≤ x ∧ x < 5 by first | decide | omega), gdx_t (show 0 ≤ x ∧ x < 5 by first | decide | omega), t2, Int.toNat_natCast, e74, eT5]
          by_cases c5 : n 5 x < w 5 x
          · rw [if_pos c5, if_neg (show ¬ w 5 x - n 5 x = 0 by first | decide | omega), gdx_t (show 0 ≤ x ∧ x < 5 by first | decide | omega), wt_e]
            have e74' : up m (69 + 1) x (bsd w (n 1 x) y) (69 + 5) x = n 5 x := by rw [up_a (by first | decide | omega)]; exact e74
            rw [e74', gdx_t (show 0 ≤ x ∧ x < 5 by first | decide | omega), gdx_t (show 0 ≤ x ∧ x < 5 by first | decide | omega), gd3_t (by first | decide | omega), wt_e]
            have hA : RA m u T ∧ RU m u w n := by
              obtain ⟨T', hA, _, _, _, _, hU, _⟩ := h1.all
              have : T' = T := by have := hA.1.2.1; omega
              subst this
              rw [ew, en]; exact ⟨hA, hU⟩
            have e96 : up (up m (69 + 1) x (bsd w (n 1 x) y)) (69 + 5) x (n 5 x + 1) 96 = m 96 := by rw [up_b (by first | decide | omega), up_b (by first | decide | omega)]
            have e97 : up (up m (69 + 1) x (bsd w (n 1 x) y)) (69 + 5) x (n 5 x + 1) 97 = m 97 := by rw [up_b (by first | decide | omega), up_b (by first | decide | omega)]
            have e98 : up (up m (69 + 1) x (bsd w (n 1 x) y)) (69 + 5) x (n 5 x + 1) 98 = m 98 := by rw [up_b (by first | decide | omega), up_b (by first | decide | omega)]
            obtain ⟨m1, e2, f2, k2⟩ := c_add (m := up (up m (69 + 1) x (bsd w (n 1 x) y)) (69 + 5) x (n 5 x + 1)) (s := x) (y := n 1 x) (by rw [e96]; exact hA.2.2.1)
            obtain ⟨u1, e3, f3, k3⟩ := r_rem (v := u) (by have := hA.2.1; have := hA.2.2.1; first | decide | omega)
            have k29' : up u1 25 x (bsd w (n 1 x) y) 29 x = w 5 x - n 5 x := by rw [up_a (by first | decide | omega), f3 29 x (by unfold Qu; first | decide | omega)]; exact k28.2
            rw [e2, bs1, e3, bs1, gdx_t (show 0 ≤ x ∧ x < 10 by first | decide | omega), wt_e, gdx_t (show 0 ≤ x ∧ x < 5 by first | decide | omega), gdx_t (show 0 ≤ x ∧ x < 5 by first | decide | omega), k29', gd3_t (by first | decide | omega), wt_e]
            have fm : Fm Ps m m1 := ((Fm.w1 (by unfold Ps; first | decide | omega)).w (by unfold Ps; first | decide | omega)).tr (f2.mono Pu_s)
            have fv : Fm Qs u (up (up u1 25 x (bsd w (n 1 x) y)) 29 x (w 5 x - n 5 x - 1)) := ((f3.mono Qu_s).w (by unfold Qs; first | decide | omega)).w (by unfold Qs; first | decide | omega)
            refine ⟨_, _, _, rfl, rfl, h1.step fm fv (fun T' hA' hS' hV' hU' => ?_)⟩
            have eT : T' = T := by have := hA'.1.2.1; omega
            subst eT
            rw [← ew] at hS' hV' hU' ⊢
            rw [← en] at hS' hV' hU'
            have e6 : sl 6 m1 69 = up (up n 1 x (bsd w (n 1 x) y)) 5 x (n 5 x + 1) := by
              have : sl 6 m1 69 = sl 6 (up (up m (69 + 1) x (bsd w (n 1 x) y)) (69 + 5) x (n 5 x + 1)) 69 := sl_c (fun b p q => f2.rw1 (fun i => by unfold Pu; first | decide | omega))
              rw [this, sl_up (by first | decide | omega), sl_up (by first | decide | omega), ← en]
            rw [e6]
            refine ⟨(hS'.cell (by first | decide | omega)).str (by first | decide | omega), ?_, ?_⟩
            · have hv1 := ((hV'.f f3 (by first | decide | omega) (by intro b i q; unfold Qu; first | decide | omega)).cell (s := x) (c := bsd w (n 1 x) y)).str (s := x) (y := n 5 x + 1)
              rw [show w 5 x - (n 5 x + 1) = w 5 x - n 5 x - 1 by first | decide | omega] at hv1
              exact hv1
            · have hU2 : RU m1 u1 w (up (up n 1 x (bsd w (n 1 x) y)) 5 x (n 5 x + 1)) := u_add hU' (by first | decide | omega) hS' hV' (by rw [e96]) e97 e98 k2 k3 (Or.inr ⟨c1, by rw [up_a (by first | decide | omega), up_a (by first | decide | omega)], fun s p q => by
                by_cases z : s = x
                · rw [z, if_pos rfl, if_pos rfl, up_e]; exact ⟨rfl, by first | decide | omega⟩
                · rw [if_neg z, if_neg z, up_a (show (1 : Nat) ≠ 5 by first | decide | omega), up_i z, up_i z, up_a (show (5 : Nat) ≠ 1 by first | decide | omega)]; exact ⟨rfl, rfl⟩⟩)
              exact hU2.f (P := fun _ _ => False) (Q := fun b i => b = 25 ∨ b = 29) Fm.rf ((Fm.w1 (Or.inl rfl)).w (Or.inr rfl)) (fun b i q => id) (by intro b i q; first | decide | omega)
          · rw [if_neg c5, if_pos (show w 5 x - n 5 x = 0 by first | decide | omega)]; exact agr0 h1 _ rfl rfl
    · simp only [if_neg c2, if_true]
      split
      · exact agr0 h1 _ rfl rfl
      · rw [if_neg (by first | decide | omega)]; exact agr0 h1 _ rfl rfl
  · simp only [if_neg c1, if_true]; exact agr0 h1 _ rfl rfl
end Q15
/-! undo, keep, back, minutes. -/
section Q16
variable {m v m' v' w g n n' : Mem} {T : Nat}
theorem SV.set (h : SV w n v) (f : Fm Qs v v') (hw : w 1 0 ≤ 5 ∧ w 8 1 ≤ 28) (h1 : ∀ s, 0 ≤ s → s < w 1 0 → v' 25 s = n' 1 s ∧ v' 29 s = w 5 s - n' 5 s) (h2 : v' 0 64 = n' 0 1) (h3 : ∀ i, i ≠ 1 → n' 0 i = n 0 i) (h4 : n' 2 = n 2 ∧ n' 3 = n 3 ∧ n' 4 = n 4 ∧ n' 6 = n 6) : SV w n' v' := by
  obtain ⟨⟨a1, a2, a3, a4, a5⟩, a6, a7, a8, a9⟩ := h
  unfold SV NM
  rw [h4.1, h4.2.1, h4.2.2.1, h4.2.2.2, h3 0 (by first | decide | omega), h3 2 (by first | decide | omega), h3 3 (by first | decide | omega), h3 4 (by first | decide | omega), f.rw1 (b := 26) (fun i => by unfold Qs; first | decide | omega), f.rw1 (b := 27) (fun i => by unfold Qs; first | decide | omega), f.rw1 (b := 28) (fun i => by unfold Qs; first | decide | omega), f.rw1 (b := 30) (fun i => by unfold Qs; first | decide | omega), f.rw1 (b := 31) (fun i => by unfold Qs; first | decide | omega), f.rw1 (b := 32) (fun i => by unfold Qs; first | decide | omega), f.rw1 (b := 33) (fun i => by unfold Qs; first | decide | omega), f 0 65 (by unfold Qs; first | decide | omega), f 0 66 (by unfold Qs; first | decide | omega)]
  refine ⟨⟨fun i p q => ⟨?_, (a1 i p q).2⟩, a2, a3, a4, a5⟩, a6, h2, fun i p q => ⟨(a8 i p q).1, (h1 i p q).2⟩, a9⟩
  rw [show 5 * (0 : Int) + i = i by first | decide | omega]
  exact (h1 i p q).1
theorem r_un26 {c : Int} (hc : 0 ≤ c ∧ c < 20) : ∀ (d k : Nat) (i : Int) (v : Mem), 0 ≤ i → 5 - i = d → d < k → v 0 78 = c → (∀ s, 0 ≤ s → s < i → v 25 s = v 41 (11 * c + s) ∧ v 29 s = v 41 (11 * c + 5 + s)) → ∃ v', G12_undo_26 k v i = some (c, v') ∧ Fm (fun b i => b = 25 ∨ b = 29 ∨ (b = 0 ∧ i = 64)) v v' ∧ (∀ s, 0 ≤ s → s < 5 → v' 25 s = v 41 (11 * c + s) ∧ v' 29 s = v 41 (11 * c + 5 + s)) ∧ v' 0 64 = v 41 (11 * c + 10) := by
  intro d
  induction d with
  | zero =>
    intro k i v a1 a2 a3 h78 h
    obtain ⟨k, rfl⟩ : ∃ j, k = j + 1 := ⟨k - 1, by first | decide | omega⟩
    have e : ∀ y, up v 0 64 y 0 78 = c := fun y => by rw [up_i (by first | decide | omega)]; exact h78
    rw [G12_undo_26, if_pos (by first | decide | omega), h78, gdx_t (by first | decide | omega), wt_e, e]
    refine ⟨_, rfl, Fm.w1 (Or.inr (Or.inr ⟨rfl, rfl⟩)), fun s p q => ?_, up_e⟩
    rw [up_a (by first | decide | omega), up_a (by first | decide | omega)]
    exact h s p (by first | decide | omega)
  | succ d ih =>
    intro k i v a1 a2 a3 h78 h
    obtain ⟨k, rfl⟩ : ∃ j, k = j + 1 := ⟨k - 1, by first | decide | omega⟩
    have e1 : ∀ y, up v 25 i y 0 78 = c := fun y => by rw [up_a (by first | decide | omega)]; exact h78
    rw [G12_undo_26, if_neg (by first | decide | omega), h78, gdx_t (by first | decide | omega), gdx_t (by first | decide | omega), wt_e, e1, gdx_t (by first | decide | omega), gdx_t (by first | decide | omega), wt_e, gd3_t (by first | decide | omega), up_a (show (41 : Nat) ≠ 25 by first | decide | omega)]
    have f1 : Fm (fun b i => b = 25 ∨ b = 29 ∨ (b = 0 ∧ i = 64)) v (up (up v 25 i (v 41 (11 * c + i))) 29 i (v 41 (11 * c + 5 + i))) := (Fm.w1 (Or.inl rfl)).w (Or.inr (Or.inl rfl))
    have e41 : up (up v 25 i (v 41 (11 * c + i))) 29 i (v 41 (11 * c + 5 + i)) 41 = v 41 := by rw [up_b (by first | decide | omega), up_b (by first | decide | omega)]
    obtain ⟨v', z1, z2, z3, z4⟩ := ih k (i + 1) (up (up v 25 i (v 41 (11 * c + i))) 29 i (v 41 (11 * c + 5 + i))) (by first | decide | omega) (by first | decide | omega) (by first | decide | omega) (by rw [up_a (by first | decide | omega)]; exact e1 _) (fun s p q => by
      rw [e41]
      by_cases z : s = i
      · rw [z, up_a (by first | decide | omega), up_e, up_e]; exact ⟨rfl, rfl⟩
      · rw [up_a (show (25 : Nat) ≠ 29 by first | decide | omega), up_i z, up_i z, up_a (show (29 : Nat) ≠ 25 by first | decide | omega)]; exact h s p (by first | decide | omega))
    rw [e41] at z3 z4
    exact ⟨v', z1, f1.tr z2, z3, z4⟩
theorem a_undo (h : Rel m v) : Agr (G11_undo m) (G12_undo v) := by
  have h1 := h.v0
  unfold G11_undo G11_undo_0 G12_undo G12_undo_0 G11_undo_97
  simp only [wt_e]
  generalize up v 0 2 0 = u at h1 ⊢
  obtain ⟨T, hA, hS, hV, _, _, hU, _⟩ := h1.all
  obtain ⟨u1, u2, CE, ST, RR, g1, g2, g3⟩ := hU
  rw [← u1]
  by_cases c : 1 ≤ m 96 0
  · rw [if_pos c, if_neg (show ¬ m 96 0 = 0 by first | decide | omega), gd3_t (show -2147483648 ≤ m 96 0 - 1 ∧ m 96 0 - 1 ≤ 2147483647 by first | decide | omega), gd3_t (show -2147483648 ≤ m 96 0 - 1 ∧ m 96 0 - 1 ≤ 2147483647 by first | decide | omega)]
    obtain ⟨k1, k2, k3, k4⟩ := g3 (m 96 0 - 1) (by first | decide | omega) (by first | decide | omega)
    rw [show m 96 0 - 1 + 1 = m 96 0 by first | decide | omega] at k4
    have b97 : ∀ y i, up m 96 0 y 97 i = m 97 i := fun y i => up_a (by first | decide | omega)
    have b98 : ∀ y i, up m 96 0 y 98 i = m 98 i := fun y i => up_a (by first | decide | omega)
    have hw := hA.2.1.1
    unfold WS at hw
    obtain ⟨v', e2, f2, p1, p2⟩ := r_un26 (c := m 96 0 - 1) (by first | decide | omega) 5 1024 0 (up u 0 78 (m 96 0 - 1)) (by first | decide | omega) (by first | decide | omega) (by first | decide | omega) up_e (fun s p q => by first | decide | omega)
    have e41 : up u 0 78 (m 96 0 - 1) 41 = u 41 := up_b (by first | decide | omega)
    rw [e41] at p1 p2
    rw [e2, up_e, b97, b98, gdx_t (show 0 ≤ m 96 0 - 1 ∧ m 96 0 - 1 < 20 by first | decide | omega), gdx_t (show 0 ≤ m 96 0 - 1 ∧ m 96 0 - 1 < 20 by first | decide | omega)]
    have fv : Fm Qs u v' := (Fm.w1 (by unfold Qs; first | decide | omega)).tr (f2.mono (by intro b i q; unfold Qs; first | decide | omega))
    have v41 : v' 41 = u 41 := by rw [f2.rw1 (fun i => by first | decide | omega)]; exact e41
    have v78 : v' 0 78 = m 96 0 - 1 := by rw [f2 0 78 (by first | decide | omega)]; exact up_e
    -- the undo's own part, for any next memory
    have fin : ∀ m', Fm Ps m m' → m' 96 0 = m 96 0 - 1 → m' 97 = m 97 → m' 98 = m 98 → SN (sl 21 m T) (sl 6 m' 69) → (∀ s, 0 ≤ s → s < sl 21 m T 1 0 → CE (m 96 0 - 1) s = sl 6 m' 69 1 s ∧ ST (m 96 0 - 1) s = sl 6 m' 69 5 s) → RR (m 96 0 - 1) = sl 6 m' 69 0 1 → (∀ i, i ≠ 1 → sl 6 m' 69 0 i = sl 6 m 69 0 i) → (sl 6 m' 69 2 = sl 6 m 69 2 ∧ sl 6 m' 69 3 = sl 6 m 69 3 ∧ sl 6 m' 69 4 = sl 6 m 69 4 ∧ sl 6 m' 69 6 = sl 6 m 69 6) → Agr (some (m 96 0 - 1, m')) (some (m 96 0 - 1, v')) := by
      intro m' fm q96 q97 q98 qS q1 q2 q3 q4
      refine ⟨_, _, _, rfl, rfl, h1.step fm fv (fun T' hA' hS' hV' hU' => ?_)⟩
      have eT : T' = T := by have := hA'.1.2.1; have := hA.1.2.1; omega
      subst eT
      refine ⟨qS, hV'.set fv (by first | decide | omega) (fun s p q => ?_) ?_ q3 q4, ?_⟩
      · have := p1 s p (by first | decide | omega)
        rw [this.1, this.2, (k1 s p q).1, (k1 s p q).2.1, (q1 s p q).1, (q1 s p q).2]; exact ⟨rfl, rfl⟩
      · rw [p2, k2]; exact q2
      · refine ⟨by first | decide | omega, by first | decide | omega, CE, ST, RR, ?_, ?_, fun j p q => ?_⟩
        · rw [q96]; exact q1
        · rw [q96]; exact q2
        · rw [q97, q98, v41]; exact g3 j p (by first | decide | omega)
    have e6 : sl 6 (up m 96 0 (m 96 0 - 1)) 69 = sl 6 m 69 := sl_out (by first | decide | omega)
    by_cases c2 : m 97 (m 96 0 - 1) = -1
    · rw [if_pos c2]
      rcases k4 with ⟨y1, y2, y3⟩ | ⟨y1, y2, y3⟩
      · have e7 : sl 6 (up (up m 96 0 (m 96 0 - 1)) 69 1 (m 98 (m 96 0 - 1))) 69 = up (sl 6 m 69) 0 1 (m 98 (m 96 0 - 1)) := by rw [sl_up0, e6]
        have ea : up (up m 96 0 (m 96 0 - 1)) 69 1 (m 98 (m 96 0 - 1)) 96 0 = m 96 0 - 1 := by rw [up_a (by first | decide | omega), up_e]
        rw [ea]
        refine fin _ ((Fm.w1 (by unfold Ps; first | decide | omega)).w (by unfold Ps; first | decide | omega)) ea (by rw [up_b (by first | decide | omega), up_b (by first | decide | omega)]) (by rw [up_b (by first | decide | omega), up_b (by first | decide | omega)]) ?_ ?_ ?_ ?_ ?_
        · rw [e7]; exact hS.rul (by first | decide | omega)
        · rw [e7]; intro s p q
          rw [up_a (by first | decide | omega), up_a (by first | decide | omega), (y3 s p q).1, (y3 s p q).2]; exact g1 s p q
        · rw [e7, up_e]; exact y2
        · rw [e7]; intro i hi; exact up_i hi
        · rw [e7]; exact ⟨up_b (by first | decide | omega), up_b (by first | decide | omega), up_b (by first | decide | omega), up_b (by first | decide | omega)⟩
      · unfold isS at y1; omega
    · rw [if_neg c2]
      rcases k4 with ⟨y1, y2, y3⟩ | ⟨y1, y2, y3⟩
      · exact absurd y1 c2
      · unfold isS at y1
        have e74 : up (up m 96 0 (m 96 0 - 1)) (69 + 1) (m 97 (m 96 0 - 1)) (m 98 (m 96 0 - 1)) (69 + 5) (m 97 (m 96 0 - 1)) = sl 6 m 69 5 (m 97 (m 96 0 - 1)) := by rw [up_a (by first | decide | omega), up_a (by first | decide | omega), sl_e (by first | decide | omega)]
        have kx := k1 _ y1.1 y1.2
        have gx := g1 _ y1.1 y1.2
        have yx := y3 _ y1.1 y1.2
        rw [if_pos rfl, if_pos rfl] at yx
        have hpc := (hA.2.1.2.1 _ y1.1 y1.2).2.2.1
        have ea : up (up (up m 96 0 (m 96 0 - 1)) (69 + 1) (m 97 (m 96 0 - 1)) (m 98 (m 96 0 - 1))) (69 + 5) (m 97 (m 96 0 - 1)) (sl 6 m 69 5 (m 97 (m 96 0 - 1)) - 1) 96 0 = m 96 0 - 1 := by rw [up_a (by first | decide | omega), up_a (by first | decide | omega), up_e]
        rw [gdx_t (by first | decide | omega), gdx_t (by first | decide | omega), gdx_t (by first | decide | omega), e74, gd3_t (by first | decide | omega), ea]
        have e7 : sl 6 (up (up (up m 96 0 (m 96 0 - 1)) (69 + 1) (m 97 (m 96 0 - 1)) (m 98 (m 96 0 - 1))) (69 + 5) (m 97 (m 96 0 - 1)) (sl 6 m 69 5 (m 97 (m 96 0 - 1)) - 1)) 69 = up (up (sl 6 m 69) 1 (m 97 (m 96 0 - 1)) (m 98 (m 96 0 - 1))) 5 (m 97 (m 96 0 - 1)) (sl 6 m 69 5 (m 97 (m 96 0 - 1)) - 1) := by rw [sl_up (by first | decide | omega), sl_up (by first | decide | omega), e6]
        refine fin _ (((Fm.w1 (by unfold Ps; first | decide | omega)).w (by unfold Ps; first | decide | omega)).w (by unfold Ps; first | decide | omega)) ea (by rw [up_b (by first | decide | omega), up_b (by first | decide | omega), up_b (by first | decide | omega)]) (by rw [up_b (by first | decide | omega), up_b (by first | decide | omega), up_b (by first | decide | omega)]) ?_ ?_ ?_ ?_ ?_
        · rw [e7]
          unfold isC at kx
          refine (hS.cell ?_).str ?_
          · rw [← yx.1]; exact kx.2.2.1
          · rw [← gx.2, ← yx.2]; exact kx.2.2.2
        · rw [e7]; intro s p q
          by_cases z : s = m 97 (m 96 0 - 1)
          · rw [z, up_e, up_a (by first | decide | omega), up_e, yx.1, yx.2, gx.2]; exact ⟨rfl, rfl⟩
          · have ys := y3 s p q
            rw [if_neg z, if_neg z] at ys
            rw [up_i z, up_a (show (1 : Nat) ≠ 5 by first | decide | omega), up_i z, up_a (show (5 : Nat) ≠ 1 by first | decide | omega), ys.1, ys.2]; exact g1 s p q
        · rw [e7, up_a (by first | decide | omega), up_a (by first | decide | omega), y2]; exact g2
        · rw [e7]; intro i hi; rw [up_a (by first | decide | omega), up_a (by first | decide | omega)]
        · rw [e7]
          refine ⟨?_, ?_, ?_, ?_⟩ <;> rw [up_b (by first | decide | omega), up_b (by first | decide | omega)]
  · rw [if_neg c, if_pos (by first | decide | omega)]; exact agr0 h1 _ rfl rfl
/-- one minute as another, where it matters -/
def NE (n n' : Mem) : Prop := (∀ i, 0 ≤ i → i < 5 → n' 0 i = n 0 i) ∧ (∀ c i, 1 ≤ c → c ≤ 5 → 0 ≤ i → i < 5 → n' c i = n c i) ∧ ∀ i, 0 ≤ i → i < 28 → n' 6 i = n 6 i
theorem SN.ne (h : SN w n) (e : NE n n') (hw : w 1 0 ≤ 5 ∧ w 8 1 ≤ 28) : SN w n' := by
  obtain ⟨⟨h1, h2⟩, h3, h4, h5⟩ := h
  obtain ⟨e0, e1, e2⟩ := e
  unfold SN NB
  rw [e0 0 (by first | decide | omega) (by first | decide | omega), e0 1 (by first | decide | omega) (by first | decide | omega), e0 2 (by first | decide | omega) (by first | decide | omega), e0 3 (by first | decide | omega) (by first | decide | omega), e0 4 (by first | decide | omega) (by first | decide | omega)]
  refine ⟨⟨h1, fun i p q => ?_⟩, h3, fun i p q => ?_, fun k p q => ?_⟩
  · rw [e1 1 i (by first | decide | omega) (by first | decide | omega) p (by first | decide | omega), e1 2 i (by first | decide | omega) (by first | decide | omega) p (by first | decide | omega), e1 3 i (by first | decide | omega) (by first | decide | omega) p (by first | decide | omega), e1 4 i (by first | decide | omega) (by first | decide | omega) p (by first | decide | omega)]; exact h2 i p q
  · rw [e1 4 i (by first | decide | omega) (by first | decide | omega) p (by first | decide | omega), e1 5 i (by first | decide | omega) (by first | decide | omega) p (by first | decide | omega)]; exact h4 i p q
  · rw [e2 k p (by first | decide | omega)]; exact h5 k p q
theorem r_kp96 : ∀ (d k : Nat) (i : Int) (v : Mem), 0 ≤ i → 28 - i = d → d < k → (∀ j, 0 ≤ j → j < i → v 42 (25 + j) = v 30 j) → ∃ v', G12_keep_96 k v i = some (v 31 0, v') ∧ Fm (fun b i => b = 42 ∨ (b = 0 ∧ 82 ≤ i ∧ i ≤ 86)) v v' ∧ (∀ j, j < 25 → v' 42 j = v 42 j) ∧ (∀ j, 0 ≤ j → j < 28 → v' 42 (25 + j) = v 30 j) ∧ v' 0 82 = v 31 0 ∧ v' 0 83 = v 0 64 ∧ v' 0 84 = v 32 0 ∧ v' 0 85 = v 33 0 ∧ v' 0 86 = v 0 65 := by
  intro d
  induction d with
  | zero =>
    intro k i v a1 a2 a3 h
    obtain ⟨k, rfl⟩ : ∃ j, k = j + 1 := ⟨k - 1, by first | decide | omega⟩
    rw [G12_keep_96, if_pos (by first | decide | omega), wt_e, wt_e, wt_e, wt_e, wt_e]
    have e0 : ∀ (z : Mem) (i y j : Int), j ≠ i → up z 0 i y 0 j = z 0 j := fun z i y j q => up_i q
    have e1 : ∀ (z : Mem) (b : Nat) (i y j : Int), b ≠ 0 → up z 0 i y b j = z b j := fun z b i y j q => up_a q
    simp only [e1 _ 31 _ _ _ (by first | decide | omega), e1 _ 32 _ _ _ (by first | decide | omega), e1 _ 33 _ _ _ (by first | decide | omega), e0 _ 82 _ 64 (by first | decide | omega), e0 _ 84 _ 65 (by first | decide | omega), e0 _ 83 _ 65 (by first | decide | omega), e0 _ 82 _ 65 (by first | decide | omega), e0 _ 85 _ 65 (by first | decide | omega)]
    refine ⟨_, rfl, ((((Fm.w1 (by first | decide | omega)).w (by first | decide | omega)).w (by first | decide | omega)).w (by first | decide | omega)).w (by first | decide | omega), fun j hj => ?_, fun j p q => ?_, ?_, ?_, ?_, ?_, up_e⟩
    · simp only [e1 _ 42 _ _ _ (by first | decide | omega)]
    · simp only [e1 _ 42 _ _ _ (by first | decide | omega)]; exact h j p (by first | decide | omega)
    · rw [e0 _ _ _ _ (by first | decide | omega), e0 _ _ _ _ (by first | decide | omega), e0 _ _ _ _ (by first | decide | omega), e0 _ _ _ _ (by first | decide | omega), up_e]
    · rw [e0 _ _ _ _ (by first | decide | omega), e0 _ _ _ _ (by first | decide | omega), e0 _ _ _ _ (by first | decide | omega), up_e]
    · rw [e0 _ _ _ _ (by first | decide | omega), e0 _ _ _ _ (by first | decide | omega), up_e]
    · rw [e0 _ _ _ _ (by first | decide | omega), up_e]
  | succ d ih =>
    intro k i v a1 a2 a3 h
    obtain ⟨k, rfl⟩ : ∃ j, k = j + 1 := ⟨k - 1, by first | decide | omega⟩
    rw [G12_keep_96, if_neg (by first | decide | omega), gdx_t (by first | decide | omega), gdx_t (by first | decide | omega), wt_e, gd3_t (by first | decide | omega)]
    have eb : ∀ b j, b ≠ 42 → up v 42 (25 + i) (v 30 i) b j = v b j := fun b j q => up_a q
    obtain ⟨v', z1, z2, z3, z4, z5⟩ := ih k (i + 1) (up v 42 (25 + i) (v 30 i)) (by first | decide | omega) (by first | decide | omega) (by first | decide | omega) (fun j p q => by
      rw [eb 30 j (by first | decide | omega)]
      by_cases z : j = i
      · rw [z, up_e]
      · rw [up_i (by first | decide | omega)]; exact h j p (by first | decide | omega))
    simp only [eb 30 _ (by first | decide | omega), eb 31 _ (by first | decide | omega), eb 32 _ (by first | decide | omega), eb 33 _ (by first | decide | omega), eb 0 _ (by first | decide | omega)] at z1 z4 z5
    refine ⟨v', z1, (Fm.w1 (Or.inl rfl)).tr z2, fun j hj => ?_, z4, z5⟩
    rw [z3 j hj, up_i (by first | decide | omega)]
theorem r_kp12 : ∀ (d k : Nat) (i : Int) (v : Mem), 0 ≤ i → 5 - i = d → d < k → (∀ j, 0 ≤ j → j < i → v 42 j = v 25 j ∧ v 42 (5 + j) = v 26 j ∧ v 42 (10 + j) = v 27 j ∧ v 42 (15 + j) = v 28 j ∧ v 42 (20 + j) = v 29 j) → ∃ v', G12_keep_12 k v i = some (v 31 0, v') ∧ Fm (fun b i => b = 42 ∨ (b = 0 ∧ 82 ≤ i ∧ i ≤ 86)) v v' ∧ (∀ j, 0 ≤ j → j < 5 → v' 42 j = v 25 j ∧ v' 42 (5 + j) = v 26 j ∧ v' 42 (10 + j) = v 27 j ∧ v' 42 (15 + j) = v 28 j ∧ v' 42 (20 + j) = v 29 j) ∧ (∀ j, 0 ≤ j → j < 28 → v' 42 (25 + j) = v 30 j) ∧ v' 0 82 = v 31 0 ∧ v' 0 83 = v 0 64 ∧ v' 0 84 = v 32 0 ∧ v' 0 85 = v 33 0 ∧ v' 0 86 = v 0 65 := by
  intro d
  induction d with
  | zero =>
    intro k i v a1 a2 a3 h
    obtain ⟨k, rfl⟩ : ∃ j, k = j + 1 := ⟨k - 1, by first | decide | omega⟩
    rw [G12_keep_12, if_pos (by first | decide | omega)]
    obtain ⟨v', z1, z2, z3, z4⟩ := r_kp96 28 1024 0 v (by first | decide | omega) (by first | decide | omega) (by first | decide | omega) (fun j p q => by first | decide | omega)
    refine ⟨v', z1, z2, fun j p q => ?_, z4⟩
    rw [z3 _ (by first | decide | omega), z3 _ (by first | decide | omega), z3 _ (by first | decide | omega), z3 _ (by first | decide | omega), z3 _ (by first | decide | omega)]
    exact h j p (by first | decide | omega)
  | succ d ih =>
    intro k i v a1 a2 a3 h
    obtain ⟨k, rfl⟩ : ∃ j, k = j + 1 := ⟨k - 1, by first | decide | omega⟩
    have eb : ∀ (z : Mem) (a y : Int) b j, b ≠ 42 → up z 42 a y b j = z b j := fun z a y b j q => up_a q
    rw [G12_keep_12, if_neg (by first | decide | omega)]
    simp only [gdx_t (show 0 ≤ i ∧ i < 10 by first | decide | omega), gdx_t (show 0 ≤ i ∧ i < 5 by first | decide | omega), gdx_t (show 0 ≤ i ∧ i < 53 by first | decide | omega), gdx_t (show 0 ≤ 5 + i ∧ 5 + i < 53 by first | decide | omega), gdx_t (show 0 ≤ 10 + i ∧ 10 + i < 53 by first | decide | omega), gdx_t (show 0 ≤ 15 + i ∧ 15 + i < 53 by first | decide | omega), gdx_t (show 0 ≤ 20 + i ∧ 20 + i < 53 by first | decide | omega), gd3_t (show -2147483648 ≤ i + 1 ∧ i + 1 ≤ 2147483647 by first | decide | omega), wt_e, eb _ _ _ 26 _ (by first | decide | omega), eb _ _ _ 27 _ (by first | decide | omega), eb _ _ _ 28 _ (by first | decide | omega), eb _ _ _ 29 _ (by first | decide | omega)]
    obtain ⟨v', z1, z2, z3, z4, z5⟩ := ih k (i + 1) (up (up (up (up (up v 42 i (v 25 i)) 42 (5 + i) (v 26 i)) 42 (10 + i) (v 27 i)) 42 (15 + i) (v 28 i)) 42 (20 + i) (v 29 i)) (by first | decide | omega) (by first | decide | omega) (by first | decide | omega) (fun j p q => by
      simp only [eb _ _ _ 25 _ (by first | decide | omega), eb _ _ _ 26 _ (by first | decide | omega), eb _ _ _ 27 _ (by first | decide | omega), eb _ _ _ 28 _ (by first | decide | omega), eb _ _ _ 29 _ (by first | decide | omega)]
      by_cases z : j = i
      · subst z
        refine ⟨?_, ?_, ?_, ?_, up_e⟩
        · rw [up_i (by first | decide | omega), up_i (by first | decide | omega), up_i (by first | decide | omega), up_i (by first | decide | omega), up_e]
        · rw [up_i (by first | decide | omega), up_i (by first | decide | omega), up_i (by first | decide | omega), up_e]
        · rw [up_i (by first | decide | omega), up_i (by first | decide | omega), up_e]
        · rw [up_i (by first | decide | omega), up_e]
      · have hh := h j p (by first | decide | omega)
        refine ⟨?_, ?_, ?_, ?_, ?_⟩ <;> rw [up_i (by first | decide | omega), up_i (by first | decide | omega), up_i (by first | decide | omega), up_i (by first | decide | omega), up_i (by first | decide | omega)]
        · exact hh.1
        · exact hh.2.1
        · exact hh.2.2.1
        · exact hh.2.2.2.1
        · exact hh.2.2.2.2)
    simp only [eb _ _ _ 25 _ (by first | decide | omega), eb _ _ _ 26 _ (by first | decide | omega), eb _ _ _ 27 _ (by first | decide | omega), eb _ _ _ 28 _ (by first | decide | omega), eb _ _ _ 29 _ (by first | decide | omega), eb _ _ _ 30 _ (by first | decide | omega), eb _ _ _ 31 _ (by first | decide | omega), eb _ _ _ 32 _ (by first | decide | omega), eb _ _ _ 33 _ (by first | decide | omega), eb _ _ _ 0 _ (by first | decide | omega)] at z1 z3 z4 z5
    exact ⟨v', z1, (((((Fm.w1 (Or.inl rfl)).w (Or.inl rfl)).w (Or.inl rfl)).w (Or.inl rfl)).w (Or.inl rfl)).tr z2, z3, z4, z5⟩
theorem a_keep (h : Rel m v) : Agr (G11_keep m) (G12_keep v) := by
  have h1 := h.v0
  unfold G11_keep G11_keep_0 G12_keep G12_keep_0
  rw [wt_e, wt_e]
  generalize up v 0 2 0 = u at h1 ⊢
  obtain ⟨T, hA, hS, hV, hI, hN, hU, hP, hF, hX⟩ := h1.all
  have hw := hA.2.1.1
  unfold WS at hw
  obtain ⟨m1, e1, f1, k1, k2, k3⟩ := c_tall (m := m) (a := 83) (b := 69) (by first | decide | omega) (by first | decide | omega) (by first | decide | omega)
  obtain ⟨u1, e2, f2, p1, p2, p3, p4, p5, p6, p7⟩ := r_kp12 5 1024 0 (up u 0 80 1) (by first | decide | omega) (by first | decide | omega) (by first | decide | omega) (fun j p q => by first | decide | omega)
  rw [e1, bs1, wt_e, e2]
  have ea : up m1 0 10 1 69 0 = m 69 0 := by rw [up_a (by first | decide | omega), f1 69 0 (by unfold PA; first | decide | omega)]
  have eb : up u 0 80 1 31 0 = m 69 0 := by rw [up_a (by first | decide | omega)]; exact hV.2.1
  rw [ea, eb]
  have fm : Fm (fun b i => (83 ≤ b ∧ b ≤ 89) ∨ (b = 0 ∧ i = 10)) m (up m1 0 10 1) := (f1.fm.mono (fun b i q => by unfold PA at q; first | decide | omega)).w (Or.inr ⟨rfl, rfl⟩)
  have fv : Fm (fun b i => b = 42 ∨ (b = 0 ∧ 80 ≤ i ∧ i ≤ 86)) u u1 := (Fm.w1 (by first | decide | omega)).tr (f2.mono (fun b i q => by first | decide | omega))
  obtain ⟨j1, ew⟩ := hA.f fm fv (by intro b i q; first | decide | omega) (by intro b i q; first | decide | omega)
  have en : sl 6 (up m1 0 10 1) 69 = sl 6 m 69 := sl_c (fun b x y => fm.rw1 (fun i => by first | decide | omega))
  have hne : NE (sl 6 m 69) (sl 6 (up m1 0 10 1) 83) := by
    rw [sl_out (by first | decide | omega)]
    refine ⟨fun i p q => ?_, fun c i a b p q => ?_, fun i p q => ?_⟩
    · rw [sl_e (by first | decide | omega), sl_e (by first | decide | omega)]; exact k1 i p q
    · rw [sl_e (by first | decide | omega), sl_e (by first | decide | omega)]; exact k2 c i a b p q
    · rw [sl_e (by first | decide | omega), sl_e (by first | decide | omega)]; exact k3 i p q
  have u0 : ∀ b i, b ≠ 0 → up u 0 80 1 b i = u b i := fun b i q => up_a q
  simp only [u0 25 _ (by first | decide | omega), u0 26 _ (by first | decide | omega), u0 27 _ (by first | decide | omega), u0 28 _ (by first | decide | omega), u0 29 _ (by first | decide | omega), u0 30 _ (by first | decide | omega), u0 31 _ (by first | decide | omega), u0 32 _ (by first | decide | omega), u0 33 _ (by first | decide | omega), up_i (show (64 : Int) ≠ 80 by first | decide | omega), up_i (show (65 : Int) ≠ 80 by first | decide | omega)] at p1 p2 p3 p4 p5 p6 p7
  refine ⟨_, _, _, rfl, rfl, Rel.of (T := T) ⟨j1, ?_, ?_, ?_, ?_, ?_, ?_, ?_, ?_⟩⟩
  · rw [ew, en]; exact hS
  · rw [ew, en]; exact hV.f fv (by first | decide | omega) (by intro b i q; first | decide | omega)
  · rw [ew]
    have e80 : u1 0 80 = 1 := by rw [f2 0 80 (by first | decide | omega)]; exact up_e
    refine ⟨by rw [up_e, e80], Or.inr ⟨up_e, hS.ne hne (by first | decide | omega), ?_⟩⟩
    obtain ⟨⟨a1, a2, a3, a4, a5⟩, a6, a7, a8, a9⟩ := hV
    obtain ⟨n0, n1, n2⟩ := hne
    refine ⟨fun s p q => ?_, fun k p q => ?_, ?_, ?_, ?_, ?_, ?_⟩
    · have b1 := p1 s p (by first | decide | omega)
      have b2 := a1 s p q
      have b3 := a8 s p q
      rw [show 5 * (0 : Int) + s = s by first | decide | omega] at b2
      rw [n1 1 s (by first | decide | omega) (by first | decide | omega) p (by first | decide | omega), n1 2 s (by first | decide | omega) (by first | decide | omega) p (by first | decide | omega), n1 3 s (by first | decide | omega) (by first | decide | omega) p (by first | decide | omega), n1 4 s (by first | decide | omega) (by first | decide | omega) p (by first | decide | omega), n1 5 s (by first | decide | omega) (by first | decide | omega) p (by first | decide | omega), b1.1, b1.2.1, b1.2.2.1, b1.2.2.2.1, b1.2.2.2.2]
      exact ⟨b2.1, b2.2.1, b2.2.2, b3.1, b3.2⟩
    · have b2 := a2 k p q
      rw [show 28 * (0 : Int) + k = k by first | decide | omega] at b2
      rw [p2 k p (by first | decide | omega), n2 k p (by first | decide | omega)]; exact b2
    · rw [p3, n0 0 (by first | decide | omega) (by first | decide | omega)]; exact a6
    · rw [p4, n0 1 (by first | decide | omega) (by first | decide | omega)]; exact a7
    · rw [p5, n0 3 (by first | decide | omega) (by first | decide | omega)]; exact a3
    · rw [p6, n0 4 (by first | decide | omega) (by first | decide | omega)]; exact a4
    · rw [p7, n0 2 (by first | decide | omega) (by first | decide | omega)]; exact a5
  · rw [ew]; exact hN.f fm fv (by intro b i q; first | decide | omega) (by intro b i q; first | decide | omega)
  · rw [ew, en]; exact hU.f fm fv (by intro b i q; first | decide | omega) (by intro b i q; first | decide | omega)
  · exact hP.f fm fv (by intro b i q; first | decide | omega) (by intro b i q; first | decide | omega)
  · rw [fm 46 8 (by first | decide | omega), fm 46 9 (by first | decide | omega), fv 0 4 (by first | decide | omega), fv 0 5 (by first | decide | omega)]; exact hF
  · intro i p q; rw [fm 102 i (by first | decide | omega)]; exact hX i p q
theorem r_bk100 : ∀ (d k : Nat) (i : Int) (v : Mem), 0 ≤ i → 28 - i = d → d < k → (∀ j, 0 ≤ j → j < i → v 30 j = v 42 (25 + j)) → ∃ v', G12_back_100 k v i = some (v 0 82, v') ∧ Fm (fun b i => b = 30 ∨ ((31 ≤ b ∧ b ≤ 33) ∧ i = 0) ∨ (b = 0 ∧ (i = 64 ∨ i = 65 ∨ i = 78))) v v' ∧ (∀ j, 0 ≤ j → j < 28 → v' 30 j = v 42 (25 + j)) ∧ v' 31 0 = v 0 82 ∧ v' 0 64 = v 0 83 ∧ v' 32 0 = v 0 84 ∧ v' 33 0 = v 0 85 ∧ v' 0 65 = v 0 86 ∧ v' 0 78 = 0 := by
  intro d
  induction d with
  | zero =>
    intro k i v a1 a2 a3 h
    obtain ⟨k, rfl⟩ : ∃ j, k = j + 1 := ⟨k - 1, by first | decide | omega⟩
    rw [G12_back_100, if_pos (by first | decide | omega)]
    simp only [wt_e]
    refine ⟨_, ?_, (((((Fm.w1 (a := 31) (i := 0) (v := v 0 82) (by first | decide | omega)).w (a := 0) (i := 64) (v := v 0 83) (by first | decide | omega)).w (a := 32) (i := 0) (v := v 0 84) (by first | decide | omega)).w (a := 33) (i := 0) (v := v 0 85) (by first | decide | omega)).w (a := 0) (i := 65) (v := v 0 86) (by first | decide | omega)).w (a := 0) (i := 78) (v := 0) (by first | decide | omega), fun j p q => ?_, ?_, ?_, ?_, ?_, ?_, up_e⟩
    · simp only [up_a (show (0 : Nat) ≠ 31 by first | decide | omega), up_a (show (0 : Nat) ≠ 32 by first | decide | omega), up_a (show (0 : Nat) ≠ 33 by first | decide | omega), up_a (show (31 : Nat) ≠ 0 by first | decide | omega), up_a (show (31 : Nat) ≠ 32 by first | decide | omega), up_a (show (31 : Nat) ≠ 33 by first | decide | omega), up_i (show (84 : Int) ≠ 64 by first | decide | omega), up_i (show (85 : Int) ≠ 64 by first | decide | omega), up_i (show (86 : Int) ≠ 64 by first | decide | omega), up_e]
    · rw [up_a (by first | decide | omega), up_a (by first | decide | omega), up_a (by first | decide | omega), up_a (by first | decide | omega), up_a (by first | decide | omega), up_a (by first | decide | omega)]; exact h j p (by first | decide | omega)
    · rw [up_a (by first | decide | omega), up_a (by first | decide | omega), up_a (by first | decide | omega), up_a (by first | decide | omega), up_a (by first | decide | omega), up_e]
    · rw [up_i (by first | decide | omega), up_i (by first | decide | omega), up_a (by first | decide | omega), up_a (by first | decide | omega), up_e]
    · rw [up_a (by first | decide | omega), up_a (by first | decide | omega), up_a (by first | decide | omega), up_e]
    · rw [up_a (by first | decide | omega), up_a (by first | decide | omega), up_e]
    · rw [up_i (by first | decide | omega), up_e]
  | succ d ih =>
    intro k i v a1 a2 a3 h
    obtain ⟨k, rfl⟩ : ∃ j, k = j + 1 := ⟨k - 1, by first | decide | omega⟩
    rw [G12_back_100, if_neg (by first | decide | omega), gdx_t (by first | decide | omega), gdx_t (by first | decide | omega), wt_e, gd3_t (by first | decide | omega)]
    have eb : ∀ b j, b ≠ 30 → up v 30 i (v 42 (25 + i)) b j = v b j := fun b j q => up_a q
    obtain ⟨v', z1, z2, z3, z4⟩ := ih k (i + 1) (up v 30 i (v 42 (25 + i))) (by first | decide | omega) (by first | decide | omega) (by first | decide | omega) (fun j p q => by
      rw [eb 42 _ (by first | decide | omega)]
      by_cases z : j = i
      · rw [z, up_e]
      · rw [up_i (by first | decide | omega)]; exact h j p (by first | decide | omega))
    simp only [eb 42 _ (by first | decide | omega), eb 0 _ (by first | decide | omega)] at z1 z3 z4
    exact ⟨v', z1, (Fm.w1 (Or.inl rfl)).tr z2, z3, z4⟩
theorem r_bk16 : ∀ (d k : Nat) (i : Int) (v : Mem), 0 ≤ i → 5 - i = d → d < k → (∀ j, 0 ≤ j → j < i → v 25 j = v 42 j ∧ v 26 j = v 42 (5 + j) ∧ v 27 j = v 42 (10 + j) ∧ v 28 j = v 42 (15 + j) ∧ v 29 j = v 42 (20 + j)) → ∃ v', G12_back_16 k v i = some (v 0 82, v') ∧ Fm (fun b i => (25 ≤ b ∧ b ≤ 30) ∨ ((31 ≤ b ∧ b ≤ 33) ∧ i = 0) ∨ (b = 0 ∧ (i = 64 ∨ i = 65 ∨ i = 78))) v v' ∧ (∀ j, 0 ≤ j → j < 5 → v' 25 j = v 42 j ∧ v' 26 j = v 42 (5 + j) ∧ v' 27 j = v 42 (10 + j) ∧ v' 28 j = v 42 (15 + j) ∧ v' 29 j = v 42 (20 + j)) ∧ (∀ j, 0 ≤ j → j < 28 → v' 30 j = v 42 (25 + j)) ∧ v' 31 0 = v 0 82 ∧ v' 0 64 = v 0 83 ∧ v' 32 0 = v 0 84 ∧ v' 33 0 = v 0 85 ∧ v' 0 65 = v 0 86 ∧ v' 0 78 = 0 := by
  intro d
  induction d with
  | zero =>
    intro k i v a1 a2 a3 h
    obtain ⟨k, rfl⟩ : ∃ j, k = j + 1 := ⟨k - 1, by first | decide | omega⟩
    rw [G12_back_16, if_pos (by first | decide | omega)]
    obtain ⟨v', z1, z2, z3, z4⟩ := r_bk100 28 1024 0 v (by first | decide | omega) (by first | decide | omega) (by first | decide | omega) (fun j p q => by first | decide | omega)
    refine ⟨v', z1, z2.mono (fun b i q => by first | decide | omega), fun j p q => ?_, z3, z4⟩
    rw [z2 25 j (by first | decide | omega), z2 26 j (by first | decide | omega), z2 27 j (by first | decide | omega), z2 28 j (by first | decide | omega), z2 29 j (by first | decide | omega)]
    exact h j p (by first | decide | omega)
  | succ d ih =>
    intro k i v a1 a2 a3 h
    obtain ⟨k, rfl⟩ : ∃ j, k = j + 1 := ⟨k - 1, by first | decide | omega⟩
    have eb : ∀ (z : Mem) (a : Nat) (i y : Int) j, a ≠ 42 → up z a i y 42 j = z 42 j := fun z a i y j q => up_a (fun e => q e.symm)
    rw [G12_back_16, if_neg (by first | decide | omega)]
    simp only [gdx_t (show 0 ≤ i ∧ i < 10 by first | decide | omega), gdx_t (show 0 ≤ i ∧ i < 5 by first | decide | omega), gdx_t (show 0 ≤ i ∧ i < 53 by first | decide | omega), gdx_t (show 0 ≤ 5 + i ∧ 5 + i < 53 by first | decide | omega), gdx_t (show 0 ≤ 10 + i ∧ 10 + i < 53 by first | decide | omega), gdx_t (show 0 ≤ 15 + i ∧ 15 + i < 53 by first | decide | omega), gdx_t (show 0 ≤ 20 + i ∧ 20 + i < 53 by first | decide | omega), gd3_t (show -2147483648 ≤ i + 1 ∧ i + 1 ≤ 2147483647 by first | decide | omega), wt_e, eb _ 25 _ _ _ (by first | decide | omega), eb _ 26 _ _ _ (by first | decide | omega), eb _ 27 _ _ _ (by first | decide | omega), eb _ 28 _ _ _ (by first | decide | omega)]
    have e42 : ∀ j, up (up (up (up (up v 25 i (v 42 i)) 26 i (v 42 (5 + i))) 27 i (v 42 (10 + i))) 28 i (v 42 (15 + i))) 29 i (v 42 (20 + i)) 42 j = v 42 j := fun j => by
      rw [eb _ _ _ _ _ (by first | decide | omega), eb _ _ _ _ _ (by first | decide | omega), eb _ _ _ _ _ (by first | decide | omega), eb _ _ _ _ _ (by first | decide | omega), eb _ _ _ _ _ (by first | decide | omega)]
    have e0 : ∀ j, up (up (up (up (up v 25 i (v 42 i)) 26 i (v 42 (5 + i))) 27 i (v 42 (10 + i))) 28 i (v 42 (15 + i))) 29 i (v 42 (20 + i)) 0 j = v 0 j := fun j => by
      rw [up_a (by first | decide | omega), up_a (by first | decide | omega), up_a (by first | decide | omega), up_a (by first | decide | omega), up_a (by first | decide | omega)]
    obtain ⟨v', z1, z2, z3, z4, z5⟩ := ih k (i + 1) (up (up (up (up (up v 25 i (v 42 i)) 26 i (v 42 (5 + i))) 27 i (v 42 (10 + i))) 28 i (v 42 (15 + i))) 29 i (v 42 (20 + i))) (by first | decide | omega) (by first | decide | omega) (by first | decide | omega) (fun j p q => by
      simp only [e42]
      by_cases z : j = i
      · subst z
        refine ⟨?_, ?_, ?_, ?_, up_e⟩
        · rw [up_a (by first | decide | omega), up_a (by first | decide | omega), up_a (by first | decide | omega), up_a (by first | decide | omega), up_e]
        · rw [up_a (by first | decide | omega), up_a (by first | decide | omega), up_a (by first | decide | omega), up_e]
        · rw [up_a (by first | decide | omega), up_a (by first | decide | omega), up_e]
        · rw [up_a (by first | decide | omega), up_e]
      · have hh := h j p (by first | decide | omega)
        refine ⟨?_, ?_, ?_, ?_, ?_⟩
        · rw [up_a (by first | decide | omega), up_a (by first | decide | omega), up_a (by first | decide | omega), up_a (by first | decide | omega), up_i z]; exact hh.1
        · rw [up_a (by first | decide | omega), up_a (by first | decide | omega), up_a (by first | decide | omega), up_i z, up_a (by first | decide | omega)]; exact hh.2.1
        · rw [up_a (by first | decide | omega), up_a (by first | decide | omega), up_i z, up_a (by first | decide | omega), up_a (by first | decide | omega)]; exact hh.2.2.1
        · rw [up_a (by first | decide | omega), up_i z, up_a (by first | decide | omega), up_a (by first | decide | omega), up_a (by first | decide | omega)]; exact hh.2.2.2.1
        · rw [up_i z, up_a (by first | decide | omega), up_a (by first | decide | omega), up_a (by first | decide | omega), up_a (by first | decide | omega)]; exact hh.2.2.2.2)
    simp only [e42, e0] at z1 z3 z4 z5
    exact ⟨v', z1, (((((Fm.w1 (by first | decide | omega)).w (by first | decide | omega)).w (by first | decide | omega)).w (by first | decide | omega)).w (by first | decide | omega)).tr z2, z3, z4, z5⟩
theorem a_back (h : Rel m v) : Agr (G11_back m) (G12_back v) := by
  have h1 := h.v0
  unfold G11_back G11_back_0 G12_back G12_back_0
  simp only [wt_e]
  generalize up v 0 2 0 = u at h1 ⊢
  obtain ⟨T, hA, hS, hV, hI, hN, hU, hP, hF, hX⟩ := h1.all
  have hw := hA.2.1.1
  unfold WS at hw
  rw [← hI.1]
  by_cases c : m 0 10 = 0
  · rw [if_pos c, if_pos c]; exact agr0 h1 _ rfl rfl
  · rw [if_neg c, if_neg c]
    obtain ⟨iS, iV⟩ : SN (sl 21 m T) (sl 6 m 83) ∧ SI (sl 21 m T) (sl 6 m 83) u := by
      rcases hI.2 with q | q
      · exact absurd q c
      · exact q.2
    obtain ⟨m1, e1, f1, k1, k2, k3⟩ := c_tall (m := m) (a := 69) (b := 83) (by first | decide | omega) (by first | decide | omega) (by first | decide | omega)
    obtain ⟨u1, e2, f2, p1, p2, p3, p4, p5, p6, p7, p8⟩ := r_bk16 5 1024 0 u (by first | decide | omega) (by first | decide | omega) (by first | decide | omega) (fun j p q => by first | decide | omega)
    rw [e1, bs1, e2]
    have ea : up m1 96 0 0 69 0 = m 83 0 := by rw [up_a (by first | decide | omega)]; exact k1 0 (by first | decide | omega) (by first | decide | omega)
    have eb : u 0 82 = m 83 0 := iV.2.2.1
    rw [ea, eb]
    have fm : Fm (fun b i => (69 ≤ b ∧ b ≤ 75) ∨ (b = 96 ∧ i = 0)) m (up m1 96 0 0) := (f1.fm.mono (fun b i q => by unfold PA at q; first | decide | omega)).w (Or.inr ⟨rfl, rfl⟩)
    obtain ⟨j1, ew⟩ := hA.f fm f2 (by intro b i q; first | decide | omega) (by intro b i q; first | decide | omega)
    have hne : NE (sl 6 m 83) (sl 6 (up m1 96 0 0) 69) := by
      rw [sl_out (by first | decide | omega)]
      refine ⟨fun i p q => ?_, fun c i a b p q => ?_, fun i p q => ?_⟩
      · rw [sl_e (by first | decide | omega), sl_e (by first | decide | omega)]; exact k1 i p q
      · rw [sl_e (by first | decide | omega), sl_e (by first | decide | omega)]; exact k2 c i a b p q
      · rw [sl_e (by first | decide | omega), sl_e (by first | decide | omega)]; exact k3 i p q
    obtain ⟨s1, s2, s3, s4, s5, s6, s7⟩ := iV
    refine ⟨_, _, _, rfl, rfl, Rel.of (T := T) ⟨j1, ?_, ?_, ?_, ?_, ?_, ?_, ?_, ?_⟩⟩
    · rw [ew]; exact iS.ne hne (by first | decide | omega)
    · rw [ew]
      obtain ⟨n0, n1, n2⟩ := hne
      refine ⟨⟨fun s p q => ?_, fun k p q => ?_, ?_, ?_, ?_⟩, ?_, ?_, fun s p q => ?_, ?_⟩
      · have b1 := p1 s p (by first | decide | omega)
        have b2 := s1 s p q
        rw [show 5 * (0 : Int) + s = s by first | decide | omega, n1 1 s (by first | decide | omega) (by first | decide | omega) p (by first | decide | omega), n1 2 s (by first | decide | omega) (by first | decide | omega) p (by first | decide | omega), n1 3 s (by first | decide | omega) (by first | decide | omega) p (by first | decide | omega), b1.1, b1.2.1, b1.2.2.1]
        exact ⟨b2.1, b2.2.1, b2.2.2.1⟩
      · rw [show 28 * (0 : Int) + k = k by first | decide | omega, p2 k p (by first | decide | omega), n2 k p (by first | decide | omega)]; exact s2 k p q
      · rw [p5, n0 3 (by first | decide | omega) (by first | decide | omega)]; exact s5
      · rw [p6, n0 4 (by first | decide | omega) (by first | decide | omega)]; exact s6
      · rw [p7, n0 2 (by first | decide | omega) (by first | decide | omega)]; exact s7
      · rw [p3, n0 0 (by first | decide | omega) (by first | decide | omega)]; exact s3
      · rw [p4, n0 1 (by first | decide | omega) (by first | decide | omega)]; exact s4
      · have b1 := p1 s p (by first | decide | omega)
        have b2 := s1 s p q
        rw [n1 4 s (by first | decide | omega) (by first | decide | omega) p (by first | decide | omega), n1 5 s (by first | decide | omega) (by first | decide | omega) p (by first | decide | omega), b1.2.2.2.1, b1.2.2.2.2]
        exact ⟨b2.2.2.2.1, b2.2.2.2.2⟩
      · rw [f2 0 66 (by first | decide | omega)]; exact hV.2.2.2.2
    · rw [ew]; exact hI.f fm f2 (by intro b i q; first | decide | omega) (by intro b i q; first | decide | omega)
    · rw [ew]; exact hN.f fm f2 (by intro b i q; first | decide | omega) (by intro b i q; first | decide | omega)
    · rw [ew]
      have e96 : up m1 96 0 0 96 0 = 0 := up_e
      refine ⟨by rw [e96, p8], by rw [e96]; first | decide | omega, fun _ s => sl 6 (up m1 96 0 0) 69 1 s, fun _ s => sl 6 (up m1 96 0 0) 69 5 s, fun _ => sl 6 (up m1 96 0 0) 69 0 1, fun s p q => ⟨rfl, rfl⟩, rfl, fun j p q => by rw [e96] at q; first | decide | omega⟩
    · exact hP.f fm f2 (by intro b i q; first | decide | omega) (by intro b i q; first | decide | omega)
    · rw [fm 46 8 (by first | decide | omega), fm 46 9 (by first | decide | omega), f2 0 4 (by first | decide | omega), f2 0 5 (by first | decide | omega)]; exact hF
    · intro i p q; rw [fm 102 i (by first | decide | omega)]; exact hX i p q
end Q16
/-! minutes. -/
section Q17
variable {m v m' v' w g n n' : Mem} {T : Nat}
theorem bw_till (hW : WW w) {v mn : Int} (hs : 0 ≤ w 1 0) (hv : 0 ≤ v ∧ v < w 8 1) (hn : 0 ≤ n 0 2 ∧ n 0 2 < 2147483648) {i : Int} (hi : n 4 i ≤ 1000) : (bw w g n v mn) 4 i ≤ 1000 := by
  have hm := (hW.2.2.2.1 v hv.1 hv.2).2.1
  have ha : ∀ e, 1 ≤ awayN w (g 1 e) v ∧ awayN w (g 1 e) v ≤ 30 := fun e => away_b w (g 1 e) v
  have up4 : ∀ (z : Mem) (e y : Int), z 4 i ≤ 1000 → y ≤ 1000 → up z 4 e y 4 i ≤ 1000 := fun z e y h1 h2 => by
    by_cases c : i = e
    · rw [c, up_e]; exact h2
    · rw [up_i c]; exact h1
  obtain ⟨y, _, h | ⟨e, _, h⟩ | ⟨e, k, _, _, h⟩⟩ := bw_cases (g := g) hs v mn hn
  · rw [h, up_a (by first | decide | omega), up_a (by first | decide | omega), up_a (by first | decide | omega)]; exact hi
  · rw [h]
    unfold bw2
    have := ha e
    refine up4 _ _ _ ?_ (by first | decide | omega)
    rw [up_a (by first | decide | omega), up_a (by first | decide | omega), up_a (by first | decide | omega)]; exact hi
  · rw [h]
    unfold bw2
    have := ha e
    have := ha k
    refine up4 _ _ _ (up4 _ _ _ ?_ (by first | decide | omega)) (by first | decide | omega)
    rw [up_a (by first | decide | omega), up_a (by first | decide | omega), up_a (by first | decide | omega), up_a (by first | decide | omega), up_a (by first | decide | omega)]; exact hi
theorem ff_next (hW : WW w) (mn : Int) : ff w (mn + 1) = if ff w mn < w 8 1 ∧ w 11 (ff w mn) = mn then ff w mn + 1 else ff w mn := by
  have hw := hW.1
  unfold WS at hw
  obtain ⟨h1, h2, h3, h4⟩ := ff_spec (w := w) (by first | decide | omega) mn
  by_cases c : ff w mn < w 8 1 ∧ w 11 (ff w mn) = mn
  · rw [if_pos c]
    refine ff_eq (by first | decide | omega) (by first | decide | omega) (fun k p q => ?_) (fun q => ?_)
    · by_cases z : k = ff w mn
      · rw [z]; omega
      · have := h3 k p (by first | decide | omega); omega
    · have := wv_lt hW h1 (show ff w mn < ff w mn + 1 by first | decide | omega) q; omega
  · rw [if_neg c]
    refine ff_eq (by first | decide | omega) (by first | decide | omega) (fun k p q => ?_) (fun q => ?_)
    · have := h3 k p q; omega
    · have := h4 q; omega
/-- what is so of the minute after the wave of minute mn, before the next begins -/
theorem mnt_sn (hW : WW w) (hS : SN w n) : NB w (mnt w g n (n 0 0)) (2 * ff w (n 0 0 + 1)) ∧ (mnt w g n (n 0 0)) 0 0 = n 0 0 ∧ (mnt w g n (n 0 0)) 0 1 = n 0 1 ∧ (∀ i, 0 ≤ i → i < w 1 0 → (mnt w g n (n 0 0)) 4 i ≤ 1000) ∧ ∀ k, 0 ≤ k → k < w 8 1 → ((mnt w g n (n 0 0)) 6 k = -2 ↔ n 0 0 + 1 ≤ w 11 k) := by
  have hw := hW.1
  unfold WS at hw
  obtain ⟨h1, h2, h3, h4⟩ := ff_spec (w := w) (by first | decide | omega) (n 0 0)
  have hn2 := hS.1.1
  rw [ff_next hW]
  unfold mnt
  by_cases c : ff w (n 0 0) < w 8 1 ∧ w 11 (ff w (n 0 0)) = n 0 0
  · rw [if_pos c, if_pos c]
    obtain ⟨k1, k2, k3, k4, k5, k6⟩ := bw_keep (g := g) (w := w) (n := n) (by first | decide | omega) (ff w (n 0 0)) (n 0 0) (by first | decide | omega)
    refine ⟨?_, k3, k4, fun i p q => bw_till hW (by first | decide | omega) ⟨h1, c.1⟩ (by first | decide | omega) (hS.2.2.1 i p q).2.1, fun k p q => ?_⟩
    · rw [show 2 * (ff w (n 0 0) + 1) = 2 * ff w (n 0 0) + 2 by first | decide | omega]
      exact bw_nb hW hS.1 (by first | decide | omega) ⟨h1, c.1⟩
    · by_cases z : k = ff w (n 0 0)
      · rw [z]
        exact ⟨fun q => absurd q k6, fun q => by first | decide | omega⟩
      · rw [k5 k z, hS.2.2.2 k p q]
        have : w 11 k ≠ n 0 0 := by
          rcases Int.lt_or_le k (ff w (n 0 0)) with y | y
          · have := h3 k p y; omega
          · have := wv_lt hW h1 (show ff w (n 0 0) < k by first | decide | omega) q; omega
        omega
  · rw [if_neg c, if_neg c]
    refine ⟨hS.1, rfl, rfl, fun i p q => (hS.2.2.1 i p q).2.1, fun k p q => ?_⟩
    rw [hS.2.2.2 k p q]
    have : w 11 k ≠ n 0 0 := by
      rcases Int.lt_or_le k (ff w (n 0 0)) with y | y
      · have := h3 k p y; omega
      · have h5 := h4 (by first | decide | omega)
        by_cases z : k = ff w (n 0 0)
        · rw [z]; intro e; exact c ⟨by first | decide | omega, e⟩
        · have := wv_lt hW h1 (show ff w (n 0 0) < k by first | decide | omega) q; omega
    omega
theorem c_bm12 {N mn : Int} (hN : 0 ≤ N ∧ N ≤ 5) : ∀ (d k : Nat) (i : Int) (m : Mem), 0 ≤ i → N - i = d → d < k → m 69 0 = mn → ∃ m', G4_beginMinute_12 k m 69 N i = some m' ∧ Fr (fun b => b = 73 ∨ b = 74) m m' ∧ ∀ s, 0 ≤ s → s < N → m' 73 s = (if s < i then m 73 s else if mn < m 73 s then m 73 s else 0) ∧ m' 74 s = (if s < i then m 74 s else 0) := by
  intro d
  induction d with
  | zero =>
    intro k i m a1 a2 a3 h0
    obtain ⟨k, rfl⟩ : ∃ j, k = j + 1 := ⟨k - 1, by first | decide | omega⟩
    rw [G4_beginMinute_12, if_pos (by first | decide | omega)]
    refine ⟨m, rfl, Fr.rf, fun s p q => ?_⟩
    rw [if_pos (by first | decide | omega), if_pos (by first | decide | omega)]; exact ⟨rfl, rfl⟩
  | succ d ih =>
    intro k i m a1 a2 a3 h0
    obtain ⟨k, rfl⟩ : ∃ j, k = j + 1 := ⟨k - 1, by first | decide | omega⟩
    have nx : ∀ m1 : Mem, Fr (fun b => b = 73 ∨ b = 74) m m1 → (∀ s, s ≠ i → m1 73 s = m 73 s) → m1 73 i = (if mn < m 73 i then m 73 i else 0) → m1 74 = m 74 → ∃ m', G4_beginMinute_36 (fun m a0 x1 x2 => G4_beginMinute_12 k m a0 x1 x2) m1 69 N i = some m' ∧ Fr (fun b => b = 73 ∨ b = 74) m m' ∧ ∀ s, 0 ≤ s → s < N → m' 73 s = (if s < i then m 73 s else if mn < m 73 s then m 73 s else 0) ∧ m' 74 s = (if s < i then m 74 s else 0) := by
      intro m1 f1 k1 k2 k3
      unfold G4_beginMinute_36
      rw [gdx_t (by first | decide | omega), wt_e, gd3_t (by first | decide | omega)]
      have f2 : Fr (fun b => b = 73 ∨ b = 74) m (up m1 (69 + 5) i 0) := f1.up (Or.inr rfl)
      obtain ⟨m', z1, z2, z3⟩ := ih k (i + 1) (up m1 (69 + 5) i 0) (by first | decide | omega) (by first | decide | omega) (by first | decide | omega) (by rw [f2 69 0 (by first | decide | omega)]; exact h0)
      refine ⟨m', z1, f2.tr z2, fun s p q => ?_⟩
      have h3 := z3 s p q
      rw [up_a (show (73 : Nat) ≠ 69 + 5 by first | decide | omega)] at h3
      rw [h3.1, h3.2]
      by_cases c : s = i
      · subst c
        simp only [if_pos (show s < s + 1 by first | decide | omega), if_neg (show ¬ s < s by first | decide | omega)]
        exact ⟨k2, up_e⟩
      · have e74 : up m1 (69 + 5) i 0 74 s = m 74 s := by rw [show (69 + 5 : Nat) = 74 from rfl, up_i c, k3]
        rw [k1 s c, e74]
        by_cases c2 : s < i
        · simp only [if_pos (show s < i + 1 by first | decide | omega), if_pos c2]; exact ⟨trivial, trivial⟩
        · simp only [if_neg (show ¬ s < i + 1 by first | decide | omega), if_neg c2]; exact ⟨trivial, trivial⟩
    rw [G4_beginMinute_12, if_neg (by first | decide | omega)]
    unfold G4_isIn G4_isIn_0
    rw [gdx_t (by first | decide | omega), h0]
    by_cases c : mn < m (69 + 4) i
    · rw [if_pos c, bs1]
      simp only [if_true]
      exact nx m Fr.rf (fun s _ => rfl) (by rw [if_pos c]) rfl
    · rw [if_neg c, bs1]
      simp only [if_neg i10]
      rw [gdx_t (by first | decide | omega), wt_e]
      exact nx _ (Fr.rf.up (Or.inl rfl)) (fun s q => up_i q) (by rw [if_neg c]; exact up_e) (up_b (by first | decide | omega))
/-- what a passing minute changes -/
def Pm : Nat → Int → Prop := fun b _ => (55 ≤ b ∧ b ≤ 59) ∨ (69 ≤ b ∧ b ≤ 75) ∨ b = 96
theorem c_pass (t2 : m 0 3 = (T : Int)) (hc : CX m 51 T w g) (hn : NX m 69 n) (hW : WW w) (hG : GB w g) (hS : SN w n) : ∃ m', G11_passMinute m = some m' ∧ Fm Pm m m' ∧ m' 96 0 = 0 ∧ m' 69 0 = n 0 0 + 1 ∧ (∀ i, i ≠ 0 → m' 69 i = (mnt w g n (n 0 0)) 0 i) ∧ m' 70 = (mnt w g n (n 0 0)) 1 ∧ m' 71 = (mnt w g n (n 0 0)) 2 ∧ m' 72 = (mnt w g n (n 0 0)) 3 ∧ m' 75 = (mnt w g n (n 0 0)) 6 ∧ ∀ s, 0 ≤ s → s < w 1 0 → m' 73 s = (if n 0 0 + 1 < (mnt w g n (n 0 0)) 4 s then (mnt w g n (n 0 0)) 4 s else 0) ∧ m' 74 s = 0 := by
  have hw := hW.1
  unfold WS at hw
  have hT := hc.1.1
  have e69 : m 69 0 = n 0 0 := hn.2.1 0
  obtain ⟨h1, h2, h3, h4⟩ := ff_spec (w := w) (by first | decide | omega) (n 0 0)
  have e81 : m (T + 8) 1 = w 8 1 := hc.1.2.2 8 1 (by first | decide | omega)
  have eT11 : m (T + 11) (ff w (n 0 0)) = w 11 (ff w (n 0 0)) := hc.1.2.2 11 _ (by first | decide | omega)
  have hmn := hS.2.1
  have st : ∃ m1, G11_passMinute m = G11_passMinute_66 m1 ∧ Fr (PW 51 69) m m1 ∧ NX m1 69 (mnt w g n (n 0 0)) := by
    unfold G11_passMinute G11_passMinute_0 mnt
    rw [e69, t2, Int.toNat_natCast, g_ff hc.1 (by first | decide | omega), bs1]
    simp only
    rw [t2, Int.toNat_natCast, e81]
    by_cases c1 : w 8 1 ≤ ff w (n 0 0)
    · rw [if_pos c1, if_neg (show ¬ (ff w (n 0 0) < w 8 1 ∧ w 11 (ff w (n 0 0)) = n 0 0) by first | decide | omega)]
      exact ⟨m, rfl, Fr.rf, hn⟩
    · rw [if_neg c1, gdx_t (by first | decide | omega), eT11, e69]
      by_cases c2 : w 11 (ff w (n 0 0)) = n 0 0
      · rw [if_pos c2, if_pos (show ff w (n 0 0) < w 8 1 ∧ w 11 (ff w (n 0 0)) = n 0 0 by first | decide | omega)]
        obtain ⟨m1, e1, f1, k1⟩ := g_bring hc hW hG hn hS.1 (by first | decide | omega) (v := ff w (n 0 0)) (by first | decide | omega)
        rw [e1, bs1]
        rw [c2] at k1
        exact ⟨m1, rfl, f1, k1⟩
      · rw [if_neg c2, if_neg (show ¬ (ff w (n 0 0) < w 8 1 ∧ w 11 (ff w (n 0 0)) = n 0 0) by first | decide | omega)]
        exact ⟨m, rfl, Fr.rf, hn⟩
  obtain ⟨m1, e1, f1, k1⟩ := st
  obtain ⟨_, q0, _, _, _⟩ := mnt_sn (g := g) hW hS
  have f1' : ∀ b i, ¬ ((55 ≤ b ∧ b ≤ 59) ∨ (69 ≤ b ∧ b ≤ 75)) → m1 b i = m b i := fun b i q => f1 b i (by unfold PW PL PA; first | decide | omega)
  have g0 : m1 0 3 = (T : Int) := by rw [f1' 0 3 (by first | decide | omega)]; exact t2
  have g1 : m1 (T + 1) 0 = w 1 0 := by rw [f1' (T + 1) 0 (by first | decide | omega)]; exact hc.1.2.2 1 0 (by first | decide | omega)
  have g69 : m1 69 0 = n 0 0 := by rw [← q0]; exact k1.2.1 0
  obtain ⟨m2, e2, f2, k2⟩ := c_bm12 (N := w 1 0) (mn := n 0 0 + 1) (by first | decide | omega) (w 1 0).toNat 1024 0 (up m1 69 0 (n 0 0 + 1)) (by first | decide | omega) (by first | decide | omega) (by first | decide | omega) up_e
  rw [e1]
  unfold G11_passMinute_66 G4_beginMinute G4_beginMinute_0
  rw [g0, Int.toNat_natCast, g1, g69, gd3_t (by first | decide | omega), wt_e, e2, bs1, wt_e]
  have r : ∀ b i, b ≠ 73 → b ≠ 74 → b ≠ 96 → up m2 96 0 0 b i = up m1 69 0 (n 0 0 + 1) b i := fun b i p q s => by rw [up_a s, f2 b i (by first | decide | omega)]
  refine ⟨_, rfl, fun b i q => ?_, up_e, ?_, fun i hi => ?_, ?_, ?_, ?_, ?_, fun s p q => ?_⟩
  · unfold Pm at q
    rw [r b i (by first | decide | omega) (by first | decide | omega) (by first | decide | omega), up_a (by first | decide | omega), f1' b i (by first | decide | omega)]
  · rw [r 69 0 (by first | decide | omega) (by first | decide | omega) (by first | decide | omega), up_e]
  · rw [r 69 i (by first | decide | omega) (by first | decide | omega) (by first | decide | omega), up_i hi]; exact k1.2.1 i
  · funext i; rw [r 70 i (by first | decide | omega) (by first | decide | omega) (by first | decide | omega), up_a (by first | decide | omega)]; exact k1.2.2 1 i (by first | decide | omega)
  · funext i; rw [r 71 i (by first | decide | omega) (by first | decide | omega) (by first | decide | omega), up_a (by first | decide | omega)]; exact k1.2.2 2 i (by first | decide | omega)
  · funext i; rw [r 72 i (by first | decide | omega) (by first | decide | omega) (by first | decide | omega), up_a (by first | decide | omega)]; exact k1.2.2 3 i (by first | decide | omega)
  · funext i; rw [r 75 i (by first | decide | omega) (by first | decide | omega) (by first | decide | omega), up_a (by first | decide | omega)]; exact k1.2.2 6 i (by first | decide | omega)
  · have h5 := k2 s p q
    simp only [if_neg (show ¬ s < 0 by first | decide | omega), up_a (show (73 : Nat) ≠ 69 by first | decide | omega)] at h5
    have e73 : m1 73 s = (mnt w g n (n 0 0)) 4 s := k1.2.2 4 s (by first | decide | omega)
    rw [e73] at h5
    rw [up_a (by first | decide | omega), up_a (by first | decide | omega)]; exact h5
theorem r_mn49 {kk : Mem → Int → Int → Option (Int × Mem)} {x y : Int} (hy : 0 ≤ y ∧ y ≤ 99) (h5 : 0 ≤ w 1 0 ∧ w 1 0 ≤ 5) : ∀ (d k : Nat) (i : Int) (v : Mem), 0 ≤ i → w 1 0 - i = d → d < k → v 0 14 = w 1 0 → ∃ v', G12_minutes_49 kk k v x y i = kk v' x (y + 1) ∧ Fm (fun b _ => b = 29) v v' ∧ ∀ s, 0 ≤ s → s < w 1 0 → v' 29 s = if s < i then v 29 s else v 8 s := by
  intro d
  induction d with
  | zero =>
    intro k i v a1 a2 a3 h14
    obtain ⟨k, rfl⟩ : ∃ j, k = j + 1 := ⟨k - 1, by first | decide | omega⟩
    rw [G12_minutes_49, h14, if_pos (by first | decide | omega), gd3_t (by first | decide | omega)]
    exact ⟨v, rfl, Fm.rf, fun s p q => by rw [if_pos (by first | decide | omega)]⟩
  | succ d ih =>
    intro k i v a1 a2 a3 h14
    obtain ⟨k, rfl⟩ : ∃ j, k = j + 1 := ⟨k - 1, by first | decide | omega⟩
    rw [G12_minutes_49, h14, if_neg (by first | decide | omega), gdx_t (by first | decide | omega), gdx_t (by first | decide | omega), wt_e, gd3_t (by first | decide | omega)]
    obtain ⟨v', z1, z2, z3⟩ := ih k (i + 1) (up v 29 i (v 8 i)) (by first | decide | omega) (by first | decide | omega) (by first | decide | omega) (by rw [up_a (by first | decide | omega)]; exact h14)
    refine ⟨v', z1, (Fm.w1 rfl).tr z2, fun s p q => ?_⟩
    rw [z3 s p q, up_a (show (8 : Nat) ≠ 29 by first | decide | omega)]
    by_cases c : s = i
    · rw [c, if_pos (by first | decide | omega), if_neg (by first | decide | omega), up_e]
    · rw [up_i c]
      by_cases c2 : s < i
      · rw [if_pos (by first | decide | omega), if_pos c2]
      · rw [if_neg (by first | decide | omega), if_neg c2]
/-- all but what can be undone -/
def Rel0 (m v : Mem) : Prop := ∃ T, RA m v T ∧ SN (sl 21 m T) (sl 6 m 69) ∧ SV (sl 21 m T) (sl 6 m 69) v ∧ RIw m v (sl 21 m T) ∧ RNo m v (sl 21 m T) ∧ RTp m v ∧ (m 46 8 = v 0 4 ∧ m 46 9 = v 0 5) ∧ W102 m
theorem Rel.r0 (h : Rel m v) : Rel0 m v := by
  obtain ⟨T, h1, h2, h3, h4, h5, h6, h7, h8, h9⟩ := h.all
  exact ⟨T, h1, h2, h3, h4, h5, h7, h8, h9⟩
theorem Rel0.rel (h : Rel0 m v) (h96 : m 96 0 = 0) : Rel m (up v 0 78 0) := by
  obtain ⟨T, h1, h2, h3, h4, h5, h7, h8, h9⟩ := h
  have fm : Fm (fun b i => b = 0 ∧ i = 78) v (up v 0 78 0) := Fm.w1 ⟨rfl, rfl⟩
  have hw := h1.2.1.1
  unfold WS at hw
  refine Rel.of (T := T) ⟨(h1.f (P := fun _ _ => False) Fm.rf fm (fun _ _ _ => id) (by intro b i q; first | decide | omega)).1, h2, h3.f fm (by first | decide | omega) (by intro b i q; first | decide | omega), h4.f (P := fun _ _ => False) Fm.rf fm (fun _ _ _ => id) (by intro b i q; first | decide | omega), h5.f (P := fun _ _ => False) Fm.rf fm (fun _ _ _ => id) (by intro b i q; first | decide | omega), ?_, h7.f (P := fun _ _ => False) Fm.rf fm (fun _ _ _ => id) (by intro b i q; first | decide | omega), ?_, h9⟩
  · exact ⟨by rw [up_e, h96], by first | decide | omega, fun _ s => sl 6 m 69 1 s, fun _ s => sl 6 m 69 5 s, fun _ => sl 6 m 69 0 1, fun s p q => ⟨rfl, rfl⟩, rfl, fun j p q => by first | decide | omega⟩
  · rw [up_i (by first | decide | omega), up_i (by first | decide | omega)]; exact h8
theorem one_min (h : Rel0 m v) (hmn : m 69 0 ≤ 198) {kk : Mem → Int → Int → Option (Int × Mem)} {x y : Int} (hy : 0 ≤ y ∧ y ≤ 99) : ∃ m' v1 v', G11_passMinute m = some m' ∧ G12_aMinute v 0 (v 0 64) = some v1 ∧ G12_minutes_49 kk 1024 v1 x y 0 = kk v' x (y + 1) ∧ Rel0 m' v' ∧ m' 96 0 = 0 ∧ m' 69 0 = m 69 0 + 1 := by
  obtain ⟨T, hA, hS, hV, hI, hN, hP, hF, hX⟩ := h
  have hW := hA.2.1
  have hw := hW.1
  unfold WS at hw
  have hc := CX_sl hA.1.1 (Or.inl rfl) hA.1.2.2.2
  have hn : NX m 69 (sl 6 m 69) := NX_sl (Or.inl rfl)
  have hG : GB (sl 21 m T) (sl 3 m 51) := by
    refine ⟨fun i p q => ?_, fun k p q => ?_⟩
    · obtain ⟨x, y⟩ := hA.2.2.1.1 i p q
      have hc := hW.2.1 i p q
      rw [x, y]
      exact ⟨hc.2.1.1, hc.2.1.2, hc.2.2.2.1.1, hc.2.2.2.1.2⟩
    · rw [hA.2.2.1.2 k p q]
      exact pxM_b (way := -1) (mn := sl 21 m T 11 k) hW
  obtain ⟨m', e1, f1, b1, b2, b3, b4, b5, b6, b7, b8⟩ := c_pass hA.1.2.1 hc hn hW hG hS
  obtain ⟨s1, s2, s3, s4, s5⟩ := mnt_sn (g := sl 3 m 51) hW hS
  have hge : mnt (sl 21 m T) (sl 3 m 51) (sl 6 m 69) (sl 6 m 69 0 0) = mnt (sl 21 m T) (gM (sl 21 m T) (-1)) (sl 6 m 69) (sl 6 m 69 0 0) := mnt_ge hA.2.2.1 (by first | decide | omega) (by first | decide | omega) _
  have e00 : sl 6 m 69 0 0 = m 69 0 := sl_e (by first | decide | omega) 0
  have hTL : TLM v 0 (sl 21 m T) (sl 6 m 69) (-1) 0 (sl 6 m 69 0 0) := by
    intro i p q
    right
    refine ⟨by first | decide | omega, ?_⟩
    have h1 := (hV.2.2.2.1 i p q).1
    have h2 := (hS.2.2.1 i p q).1
    rw [show 5 * (0 : Int) + i = i by first | decide | omega, h1]
    split
    · rename_i c
      rcases h2 with z | z
      · exact z
      · omega
    · rfl
  obtain ⟨v1, e2, f2, c1, c2, c3⟩ := m_min hA.2.2.2 hW (Or.inl rfl) hV.1 hS.1 (by have := (ff_spec (w := sl 21 m T) (by first | decide | omega) (sl 6 m 69 0 0)); first | decide | omega) (mn := sl 6 m 69 0 0) (by have := hS.2.1; first | decide | omega) hV.2.2.2.2 (fun q => by first | decide | omega) hV.2.1 hTL
  rw [← hge] at c2 c3
  have hR1 := hA.2.2.2.pm f2
  obtain ⟨v', e3, f3, d1⟩ := r_mn49 (kk := kk) (x := x) (y := y) (w := sl 21 m T) hy (by first | decide | omega) (sl 21 m T 1 0).toNat 1024 0 v1 (by first | decide | omega) (by first | decide | omega) (by first | decide | omega) hR1.1.2.2.1
  have f2' : Fm (fun b i => PMn 0 b i ∨ b = 29) v v' := (f2.mono (fun b i q => Or.inl q)).tr (f3.mono (fun b i q => Or.inr q))
  obtain ⟨j1, ew⟩ := hA.f f1 f2' (by intro b i q; unfold Pm; first | decide | omega) (by intro b i q; unfold PMn PCm PO PNm; first | decide | omega)
  rw [hV.2.2.1]
  -- the new minute, cell by cell
  have w0 : sl 6 m' 69 0 0 = sl 6 m 69 0 0 + 1 := by rw [sl_e (by first | decide | omega)]; exact b2
  have w0' : ∀ i, i ≠ 0 → sl 6 m' 69 0 i = mnt (sl 21 m T) (sl 3 m 51) (sl 6 m 69) (sl 6 m 69 0 0) 0 i := fun i q => by rw [sl_e (by first | decide | omega)]; exact b3 i q
  have w1 : sl 6 m' 69 1 = mnt (sl 21 m T) (sl 3 m 51) (sl 6 m 69) (sl 6 m 69 0 0) 1 := by rw [sl_r (by first | decide | omega)]; exact b4
  have w2 : sl 6 m' 69 2 = mnt (sl 21 m T) (sl 3 m 51) (sl 6 m 69) (sl 6 m 69 0 0) 2 := by rw [sl_r (by first | decide | omega)]; exact b5
  have w3 : sl 6 m' 69 3 = mnt (sl 21 m T) (sl 3 m 51) (sl 6 m 69) (sl 6 m 69 0 0) 3 := by rw [sl_r (by first | decide | omega)]; exact b6
  have w6 : sl 6 m' 69 6 = mnt (sl 21 m T) (sl 3 m 51) (sl 6 m 69) (sl 6 m 69 0 0) 6 := by rw [sl_r (by first | decide | omega)]; exact b7
  have w4 : ∀ s, 0 ≤ s → s < sl 21 m T 1 0 → sl 6 m' 69 4 s = (if sl 6 m 69 0 0 + 1 < mnt (sl 21 m T) (sl 3 m 51) (sl 6 m 69) (sl 6 m 69 0 0) 4 s then mnt (sl 21 m T) (sl 3 m 51) (sl 6 m 69) (sl 6 m 69 0 0) 4 s else 0) ∧ sl 6 m' 69 5 s = 0 := fun s p q => by
    rw [sl_e (by first | decide | omega), sl_e (by first | decide | omega)]; exact b8 s p q
  refine ⟨m', v1, v', e1, e2, e3, ⟨T, j1, ?_, ?_, ?_, ?_, ?_, ?_, ?_⟩, b1, by rw [b2, e00]⟩
  · rw [ew]
    obtain ⟨t1, t2⟩ := s1
    refine ⟨⟨?_, fun i p q => ?_⟩, by rw [w0]; have := hS.2.1; first | decide | omega, fun i p q => ?_, fun k p q => ?_⟩
    · rw [w0, w0' 1 (by first | decide | omega), w0' 2 (by first | decide | omega), w0' 3 (by first | decide | omega), w0' 4 (by first | decide | omega)]; exact t1
    · have t3 := t2 i p q
      rw [w0, w1, w2, w3, (w4 i p q).1]
      refine ⟨t3.1, t3.2.1, t3.2.2.1, ?_⟩
      split <;> omega
    · have t3 := t2 i p q
      have t4 := s4 i p q
      have t5 := (hW.2.1 i p q).2.2.1
      rw [(w4 i p q).1, (w4 i p q).2, w0]
      refine ⟨?_, ?_, by first | decide | omega, by first | decide | omega⟩
      · split
        · right; assumption
        · left; rfl
      · split <;> omega
    · rw [w6, w0]; exact s5 k p q
  · rw [ew]
    obtain ⟨t1, t2, t3, t4, t5⟩ := c2
    have g29 : ∀ b i, b ≠ 29 → v' b i = v1 b i := fun b i q => f3 b i q
    refine ⟨⟨fun i p q => ?_, fun k p q => ?_, ?_, ?_, ?_⟩, ?_, ?_, fun i p q => ⟨?_, ?_⟩, ?_⟩
    · rw [g29 25 _ (by first | decide | omega), g29 26 _ (by first | decide | omega), g29 27 _ (by first | decide | omega), w1, w2, w3]; exact t1 i p q
    · rw [g29 30 _ (by first | decide | omega), w6]; exact t2 k p q
    · rw [g29 32 _ (by first | decide | omega), w0' 3 (by first | decide | omega)]; exact t3
    · rw [g29 33 _ (by first | decide | omega), w0' 4 (by first | decide | omega)]; exact t4
    · rw [g29 0 65 (by first | decide | omega), w0' 2 (by first | decide | omega)]; exact t5
    · rw [g29 31 0 (by first | decide | omega), w0]; exact c1
    · rw [f2' 0 64 (by unfold PMn PCm PO PNm; first | decide | omega), w0' 1 (by first | decide | omega), s3]; exact hV.2.2.1
    · have t6 := c3 i p q
      rw [g29 28 i (by first | decide | omega), (w4 i p q).1]
      rcases t6 with ⟨y1, _⟩ | ⟨_, y2⟩
      · omega
      · rw [show 5 * (0 : Int) + i = i by first | decide | omega] at y2
        rw [y2]
        by_cases c : sl 6 m 69 0 0 + 1 < mnt (sl 21 m T) (sl 3 m 51) (sl 6 m 69) (sl 6 m 69 0 0) 4 i
        · rw [if_pos c, if_neg (by first | decide | omega)]
        · rw [if_neg c, if_pos (by first | decide | omega)]
    · rw [d1 i p q, if_neg (by first | decide | omega), (w4 i p q).2, (hR1.2.2.1 i p q).2.2.2.1]; omega
    · rw [f2' 0 66 (by unfold PMn PCm PO PNm; first | decide | omega)]; exact hV.2.2.2.2
  · rw [ew]; exact hI.f f1 f2' (by intro b i q; unfold Pm; first | decide | omega) (by intro b i q; unfold PMn PCm PO PNm; first | decide | omega)
  · rw [ew]; exact hN.f f1 f2' (by intro b i q; unfold Pm; first | decide | omega) (by intro b i q; unfold PMn PCm PO PNm; first | decide | omega)
  · exact hP.f f1 f2' (by intro b i q; unfold Pm; first | decide | omega) (by intro b i q; unfold PMn PCm PO PNm; first | decide | omega)
  · rw [f1 46 8 (by unfold Pm; first | decide | omega), f1 46 9 (by unfold Pm; first | decide | omega), f2' 0 4 (by unfold PMn PCm PO PNm; first | decide | omega), f2' 0 5 (by unfold PMn PCm PO PNm; first | decide | omega)]; exact hF
  · intro i p q; rw [f1 102 i (by unfold Pm; first | decide | omega)]; exact hX i p q
theorem mins_l {x : Int} (hx : 1 ≤ x ∧ x ≤ 99) : ∀ (d k k' : Nat) (y : Int) (m v : Mem), 0 ≤ y → x - y = d → d < k → d < k' → Rel0 m v → m 69 0 + d ≤ 199 → (d = 0 → m 96 0 = 0) → Agr (G11_minutes_29 k m x y) (G12_minutes_33 k' v x y) := by
  intro d
  induction d with
  | zero =>
    intro k k' y m v a1 a2 a3 a4 h h1 h2
    obtain ⟨k, rfl⟩ : ∃ j, k = j + 1 := ⟨k - 1, by first | decide | omega⟩
    obtain ⟨k', rfl⟩ : ∃ j, k' = j + 1 := ⟨k' - 1, by first | decide | omega⟩
    rw [G11_minutes_29, if_pos (by first | decide | omega), G12_minutes_33, if_pos (by first | decide | omega), if_neg (by first | decide | omega)]
    unfold G12_minutes_94
    rw [wt_e]
    have hr := h.rel (h2 rfl)
    obtain ⟨T, hA, hS, hV, _⟩ := hr.all
    have e : up v 0 78 0 31 0 = m 69 0 := hV.2.1
    rw [e]
    exact ⟨_, _, _, rfl, rfl, hr⟩
  | succ d ih =>
    intro k k' y m v a1 a2 a3 a4 h h1 h2
    obtain ⟨k, rfl⟩ : ∃ j, k = j + 1 := ⟨k - 1, by first | decide | omega⟩
    obtain ⟨k', rfl⟩ : ∃ j, k' = j + 1 := ⟨k' - 1, by first | decide | omega⟩
    obtain ⟨m', v1, v', e1, e2, e3, hr, h96, h69⟩ := one_min h (by first | decide | omega) (kk := fun m x1 x2 => G12_minutes_33 k' m x1 x2) (x := x) (y := y) (by first | decide | omega)
    rw [G11_minutes_29, if_neg (by first | decide | omega), G12_minutes_33, if_neg (by first | decide | omega), e1, bs1, e2, bs1, e3, gd3_t (by first | decide | omega)]
    exact ih k k' (y + 1) m' v' (by first | decide | omega) (by first | decide | omega) (by first | decide | omega) (by first | decide | omega) hr (by first | decide | omega) (fun _ => h96)
theorem a_minutes (h : Rel m v) (x : Int) : Agr (G11_minutes m x) (G12_minutes v x) := by
  have h1 := h.v0
  unfold G11_minutes G11_minutes_0 G12_minutes G12_minutes_0
  rw [wt_e]
  generalize up v 0 2 0 = u at h1 ⊢
  obtain ⟨T, hA, hS, hV, _⟩ := h1.all
  have e31 : u 31 0 = m 69 0 := hV.2.1
  have e00 : sl 6 m 69 0 0 = m 69 0 := sl_e (by first | decide | omega) 0
  have hmn := hS.2.1
  rw [r_isIn, bs1]
  by_cases c : 0 ≤ x ∧ x ≤ 99
  · simp only [if_pos c, if_neg i10]
    rw [if_neg (by first | decide | omega), if_neg (by first | decide | omega), e31, gd3_t (by first | decide | omega), gd3_t (by first | decide | omega)]
    by_cases c2 : m 69 0 + x ≤ 199
    · rw [if_pos c2, if_pos c2]
      by_cases c3 : x = 0
      · rw [c3]
        rw [G11_minutes_29, if_pos (by first | decide | omega), G12_minutes_33, if_pos (by first | decide | omega), if_pos (by first | decide | omega)]
        unfold G12_minutes_94
        rw [wt_e, up_a (by first | decide | omega), e31]
        have e : up u 0 78 (u 0 78) = u := by
          funext b i
          by_cases z : b = 0 ∧ i = 78
          · rw [z.1, z.2, up_e]
          · unfold up; rw [if_neg z]
        rw [e]; exact agr0 h1 _ rfl rfl
      · exact mins_l (by first | decide | omega) x.toNat 1024 1024 0 m u (by first | decide | omega) (by first | decide | omega) (by first | decide | omega) (by first | decide | omega) h1.r0 (by first | decide | omega) (fun q => by first | decide | omega)
    · rw [if_neg c2, if_neg c2]; exact agr0 h1 _ rfl rfl
  · simp only [if_neg c, if_true]
    split
    · exact agr0 h1 _ rfl rfl
    · rw [if_pos (by first | decide | omega)]; exact agr0 h1 _ rfl rfl
end Q17
/-! feed. -/
theorem by_b (a : Int) : -128 ≤ b3by a ∧ b3by a ≤ 127 ∧ b3by a % 256 = (Z3 a).toInt % 256 := by
  have h : b3by a = (Z3 a).toInt.bmod 256 := by
    unfold b3by
    have e : ∀ x : Int8, vp_nar .byte x.toInt32 = x.toInt32 := fun x => by
      unfold vp_nar
      show (Int32.toInt8 x.toInt32).toInt32 = x.toInt32
      rw [Int8.toInt8_toInt32]
    rw [e, Int8.toInt_toInt32, Int32.toInt_toInt8]
  rw [h]
  refine ⟨?_, ?_, ?_⟩
  · have := Int.le_bmod (x := (Z3 a).toInt) (m := 256) (by first | decide | omega); omega
  · have := Int.bmod_lt (x := (Z3 a).toInt) (m := 256) (by first | decide | omega); omega
  · exact Int.bmod_emod
theorem an255 (a : Int) : b3an a 255 = (Z3 a).toInt % 256 := by
  unfold b3an
  have e1 : (Z3 a &&& Z3 255).toBitVec.toNat = (Z3 a).toBitVec.toNat % 2 ^ 8 := by
    rw [Int32.toBitVec_and, BitVec.toNat_and]
    have : (Z3 255).toBitVec.toNat = 2 ^ 8 - 1 := by decide
    rw [this]
    exact Nat.and_two_pow_sub_one_eq_mod _ 8
  have e2 : (Z3 a &&& Z3 255).toInt = ((Z3 a &&& Z3 255).toBitVec.toNat : Int) := by
    refine bv_nn (n := 31) _ ?_
    rw [e1]
    have := Nat.mod_lt (Z3 a).toBitVec.toNat (show 2 ^ 8 > 0 by decide)
    omega
  rw [e2, e1]
  have e3 : (Z3 a).toInt = (Z3 a).toBitVec.toInt := rfl
  rw [e3, BitVec.toInt_eq_toNat_cond]
  split <;> omega
/-- byte j of x -/
def cby (x j : Int) : Int := b3by (b3sr x (b3an (24 - 8 * j) 31))
def rby (x j : Int) : Int := b3an (b3sr x (b3an (24 - 8 * j) 31)) 255
theorem cr_by (x j : Int) : (-128 ≤ cby x j ∧ cby x j ≤ 127) ∧ rby x j = cby x j % 256 := by
  have h := by_b (b3sr x (b3an (24 - 8 * j) 31))
  refine ⟨⟨h.1, h.2.1⟩, ?_⟩
  show b3an (b3sr x (b3an (24 - 8 * j) 31)) 255 = b3by (b3sr x (b3an (24 - 8 * j) 31)) % 256
  rw [h.2.2]
  exact an255 _
def Pt : Nat → Int → Prop := fun b i => b = 1 ∨ (b = 0 ∧ i = 1)
section Q18
variable {m v m' v' w : Mem} {T : Nat}
theorem c_put3 {x L : Int} (hL : 0 ≤ L ∧ L + 4 ≤ 700) : ∀ (d k : Nat) (j : Int) (m : Mem), 0 ≤ j → 4 - j = d → d < k → m 0 1 = L + j → ∃ m', G11_putOnTape_3 k m x (24 - 8 * j) = some m' ∧ Fm Pt m m' ∧ m' 0 1 = L + 4 ∧ (∀ i, i < L + j → m' 1 i = m 1 i) ∧ ∀ i, j ≤ i → i < 4 → m' 1 (L + i) = cby x i := by
  intro d
  induction d with
  | zero =>
    intro k j m a1 a2 a3 h
    obtain ⟨k, rfl⟩ : ∃ q, k = q + 1 := ⟨k - 1, by first | decide | omega⟩
    rw [G11_putOnTape_3, if_pos (by first | decide | omega)]
    exact ⟨m, rfl, Fm.rf, by first | decide | omega, fun i q => rfl, fun i p q => by first | decide | omega⟩
  | succ d ih =>
    intro k j m a1 a2 a3 h
    obtain ⟨k, rfl⟩ : ∃ q, k = q + 1 := ⟨k - 1, by first | decide | omega⟩
    have e : ∀ y, up m 1 (L + j) y 0 1 = L + j := fun y => by rw [up_a (by first | decide | omega)]; exact h
    rw [G11_putOnTape_3, if_neg (by first | decide | omega), h, if_neg (by first | decide | omega), gdx_t (by first | decide | omega), wt_e, e, gd3_t (by first | decide | omega), wt_e, gd3_t (by first | decide | omega), show 24 - 8 * j + -8 = 24 - 8 * (j + 1) by first | decide | omega]
    obtain ⟨m', z1, z2, z3, z4, z5⟩ := ih k (j + 1) (up (up m 1 (L + j) (cby x j)) 0 1 (L + j + 1)) (by first | decide | omega) (by first | decide | omega) (by first | decide | omega) (by rw [up_e]; first | decide | omega)
    have f1 : Fm Pt m (up (up m 1 (L + j) (cby x j)) 0 1 (L + j + 1)) := (Fm.w1 (Or.inl rfl)).w (Or.inr ⟨rfl, rfl⟩)
    refine ⟨m', z1, f1.tr z2, z3, fun i q => ?_, fun i p q => ?_⟩
    · rw [z4 i (by first | decide | omega), up_a (by first | decide | omega), up_i (by first | decide | omega)]
    · by_cases c : i = j
      · rw [c, z4 _ (by first | decide | omega), up_a (by first | decide | omega), up_e]
      · exact z5 i (by first | decide | omega) q
theorem c_put (x : Int) (hL : 0 ≤ m 0 1 ∧ m 0 1 + 4 ≤ 700) : ∃ m', G11_putOnTape m x = some m' ∧ Fm Pt m m' ∧ m' 0 1 = m 0 1 + 4 ∧ (∀ i, i < m 0 1 → m' 1 i = m 1 i) ∧ ∀ i, 0 ≤ i → i < 4 → m' 1 (m 0 1 + i) = cby x i := by
  obtain ⟨m', z1, z2, z3, z4, z5⟩ := c_put3 (x := x) (L := m 0 1) hL 4 1024 0 m (by first | decide | omega) (by first | decide | omega) (by first | decide | omega) (by first | decide | omega)
  exact ⟨m', z1, z2, z3, fun i q => z4 i (by first | decide | omega), z5⟩
def xsl (a b c d e : Int) (i : Int) : Int := if 4 ≤ i then (if 8 ≤ i then (if 12 ≤ i then (if 16 ≤ i then e else d) else c) else b) else a
theorem r_fd23 {a b c e f L : Int} (hL : 0 ≤ L ∧ L + 20 ≤ 700) : ∀ (d k : Nat) (i : Int) (v : Mem), 0 ≤ i → 20 - i = d → d < k → v 0 1 = L → ∃ v', G12_feed_23 k v a b c e f i = some (L + 20, v') ∧ Fm Pt v v' ∧ v' 0 1 = L + 20 ∧ (∀ j, j < L + i → v' 1 j = v 1 j) ∧ ∀ j, i ≤ j → j < 20 → v' 1 (L + j) = rby (xsl a b c e f j) (j % 4) := by
  intro d
  induction d with
  | zero =>
    intro k i v a1 a2 a3 h
    obtain ⟨k, rfl⟩ : ∃ q, k = q + 1 := ⟨k - 1, by first | decide | omega⟩
    rw [G12_feed_23, if_pos (by first | decide | omega), h, gd3_t (by first | decide | omega), wt_e, up_e]
    exact ⟨_, rfl, Fm.w1 (Or.inr ⟨rfl, rfl⟩), up_e, fun j q => up_a (by first | decide | omega), fun j p q => by first | decide | omega⟩
  | succ d ih =>
    intro k i v a1 a2 a3 h
    obtain ⟨k, rfl⟩ : ∃ q, k = q + 1 := ⟨k - 1, by first | decide | omega⟩
    have st : ∃ v', G12_feed_76 (fun m x1 x2 x3 x4 x5 x6 => G12_feed_23 k m x1 x2 x3 x4 x5 x6) v a b c e f i (xsl a b c e f i) = some (L + 20, v') ∧ Fm Pt v v' ∧ v' 0 1 = L + 20 ∧ (∀ j, j < L + i → v' 1 j = v 1 j) ∧ ∀ j, i ≤ j → j < 20 → v' 1 (L + j) = rby (xsl a b c e f j) (j % 4) := by
      unfold G12_feed_76
      rw [h, gdx_t (by first | decide | omega), gdd_t (by first | decide | omega), wt_e, gd3_t (by first | decide | omega)]
      obtain ⟨v', z1, z2, z3, z4, z5⟩ := ih k (i + 1) (up v 1 (L + i) (rby (xsl a b c e f i) (i % 4))) (by first | decide | omega) (by first | decide | omega) (by first | decide | omega) (by rw [up_a (by first | decide | omega)]; exact h)
      refine ⟨v', z1, (Fm.w1 (Or.inl rfl)).tr z2, z3, fun j q => ?_, fun j p q => ?_⟩
      · rw [z4 j (by first | decide | omega), up_i (by first | decide | omega)]
      · by_cases c : j = i
        · rw [c, z4 _ (by first | decide | omega), up_e]
        · exact z5 j (by first | decide | omega) q
    rw [G12_feed_23, if_neg (by first | decide | omega)]
    unfold xsl at st
    split at st
    · rename_i q1
      rw [if_pos q1]
      split at st
      · rename_i q2
        rw [if_pos q2]
        split at st
        · rename_i q3
          rw [if_pos q3]
          split at st
          · rename_i q4
            rw [if_pos q4]; exact st
          · rename_i q4
            rw [if_neg q4]; exact st
        · rename_i q3
          rw [if_neg q3]; exact st
      · rename_i q2
        rw [if_neg q2]; exact st
    · rename_i q1
      rw [if_neg q1]; exact st
theorem Rel.tape (h : Rel m v) (f : Fm Pt m m') (g : Fm Pt v v') (hT : RTp m' v') : Rel m' v' := by
  obtain ⟨T, h1, h2, h3, h4, h5, h6, h7, h8, h9⟩ := h.all
  obtain ⟨k1, ew⟩ := h1.f f g (by intro b i q; unfold Pt; first | decide | omega) (by intro b i q; unfold Pt; first | decide | omega)
  have en : sl 6 m' 69 = sl 6 m 69 := sl_c (fun b x y => f.rw1 (fun i => by unfold Pt; first | decide | omega))
  have hw := h1.2.1.1
  unfold WS at hw
  refine Rel.of (T := T) ⟨k1, ?_, ?_, ?_, ?_, ?_, hT, ?_, ?_⟩
  · rw [ew, en]; exact h2
  · rw [ew, en]; exact h3.f g (by first | decide | omega) (by intro b i q; unfold Pt; first | decide | omega)
  · rw [ew]; exact h4.f f g (by intro b i q; unfold Pt; first | decide | omega) (by intro b i q; unfold Pt; first | decide | omega)
  · rw [ew]; exact h5.f f g (by intro b i q; unfold Pt; first | decide | omega) (by intro b i q; unfold Pt; first | decide | omega)
  · rw [ew, en]; exact h6.f f g (by intro b i q; unfold Pt; first | decide | omega) (by intro b i q; unfold Pt; first | decide | omega)
  · rw [f 46 8 (by unfold Pt; first | decide | omega), f 46 9 (by unfold Pt; first | decide | omega), g 0 4 (by unfold Pt; first | decide | omega), g 0 5 (by unfold Pt; first | decide | omega)]; exact h8
  · intro i p q; rw [f 102 i (by unfold Pt; first | decide | omega)]; exact h9 i p q
theorem a_feed (h : Rel m v) (a b c d e : Int) : Agr (G11_feed m a b c d e) (G12_feed v a b c d e) := by
  have h1 := h.v0
  unfold G11_feed G11_feed_0 G12_feed G12_feed_0
  rw [wt_e]
  generalize up v 0 2 0 = u at h1 ⊢
  obtain ⟨T, _, _, _, _, _, _, hP, _⟩ := h1.all
  obtain ⟨p1, p2, p3, p4, p5⟩ := hP
  rw [← p1, gd3_t (by first | decide | omega), gd3_t (by first | decide | omega)]
  by_cases q : m 0 1 + 20 ≤ 700
  · rw [if_pos q, if_pos q]
    obtain ⟨m1, e1, f1, l1, s1, t1⟩ := c_put (m := m) a (by first | decide | omega)
    obtain ⟨m2, e2, f2, l2, s2, t2⟩ := c_put (m := m1) b (by first | decide | omega)
    obtain ⟨m3, e3, f3, l3, s3, t3⟩ := c_put (m := m2) c (by first | decide | omega)
    obtain ⟨m4, e4, f4, l4, s4, t4⟩ := c_put (m := m3) d (by first | decide | omega)
    obtain ⟨m5, e5, f5, l5, s5, t5⟩ := c_put (m := m4) e (by first | decide | omega)
    obtain ⟨u1, e6, f6, l6, s6, t6⟩ := r_fd23 (a := a) (b := b) (c := c) (e := d) (f := e) (L := m 0 1) (by first | decide | omega) 20 1024 0 u (by first | decide | omega) (by first | decide | omega) (by first | decide | omega) p1.symm
    rw [e1, bs1, e2, bs1, e3, bs1, e4, bs1, e5, bs1, e6, show m5 0 1 = m 0 1 + 20 by first | decide | omega]
    refine ⟨_, _, _, rfl, rfl, h1.tape ((((f1.tr f2).tr f3).tr f4).tr f5) f6 ⟨by first | decide | omega, by first | decide | omega, fun i a1 a2 => ?_, ?_, ?_⟩⟩
    · by_cases c1 : i < m 0 1
      · rw [s5 i (by first | decide | omega), s4 i (by first | decide | omega), s3 i (by first | decide | omega), s2 i (by first | decide | omega), s1 i c1, s6 i (by first | decide | omega)]; exact p3 i a1 c1
      · obtain ⟨j, hj⟩ : ∃ j, i = m 0 1 + j := ⟨i - m 0 1, by first | decide | omega⟩
        subst hj
        rw [t6 j (by first | decide | omega) (by first | decide | omega)]
        have key : m5 1 (m 0 1 + j) = cby (xsl a b c d e j) (j % 4) := by
          unfold xsl
          by_cases k1 : 4 ≤ j
          · rw [if_pos k1]
            by_cases k2 : 8 ≤ j
            · rw [if_pos k2]
              by_cases k3 : 12 ≤ j
              · rw [if_pos k3]
                by_cases k4 : 16 ≤ j
                · have := t5 (j - 16) (by first | decide | omega) (by first | decide | omega)
                  rw [if_pos k4, show m 0 1 + j = m4 0 1 + (j - 16) by first | decide | omega, this, show j % 4 = j - 16 by first | decide | omega]
                · have := t4 (j - 12) (by first | decide | omega) (by first | decide | omega)
                  rw [if_neg k4, s5 _ (by first | decide | omega), show m 0 1 + j = m3 0 1 + (j - 12) by first | decide | omega, this, show j % 4 = j - 12 by first | decide | omega]
              · have := t3 (j - 8) (by first | decide | omega) (by first | decide | omega)
                rw [if_neg k3, s5 _ (by first | decide | omega), s4 _ (by first | decide | omega), show m 0 1 + j = m2 0 1 + (j - 8) by first | decide | omega, this, show j % 4 = j - 8 by first | decide | omega]
            · have := t2 (j - 4) (by first | decide | omega) (by first | decide | omega)
              rw [if_neg k2, s5 _ (by first | decide | omega), s4 _ (by first | decide | omega), s3 _ (by first | decide | omega), show m 0 1 + j = m1 0 1 + (j - 4) by first | decide | omega, this, show j % 4 = j - 4 by first | decide | omega]
          · have := t1 j (by first | decide | omega) (by first | decide | omega)
            rw [if_neg k1, s5 _ (by first | decide | omega), s4 _ (by first | decide | omega), s3 _ (by first | decide | omega), s2 _ (by first | decide | omega), this, show j % 4 = j by first | decide | omega]
        rw [key]
        exact cr_by _ _
    · intro i hi
      have hh : ∀ z z' : Mem, Fm Pt z z' → z' 48 i = z 48 i := fun z z' f => f 48 i (by unfold Pt; first | decide | omega)
      rw [hh _ _ f5, hh _ _ f4, hh _ _ f3, hh _ _ f2, hh _ _ f1]; exact p4 i hi
    · intro i hi
      rw [f6 2 i (by unfold Pt; first | decide | omega)]; exact p5 i hi
  · rw [if_neg q, if_neg q]; exact agr0 h1 _ rfl rfl
end Q18
