/-! How both memories belong together between calls. -/
def sl (k : Nat) (m : Mem) (a : Nat) : Mem := fun c i => if c ≤ k then m (a + c) i else 0
theorem sl_e {k : Nat} {m : Mem} {a c : Nat} (h : c ≤ k) (i : Int) : sl k m a c i = m (a + c) i := if_pos h
theorem sl_r {k : Nat} {m : Mem} {a c : Nat} (h : c ≤ k) : sl k m a c = m (a + c) := funext fun i => sl_e h i
theorem sl_c {k : Nat} {m m' : Mem} {a : Nat} (h : ∀ b, a ≤ b → b ≤ a + k → m' b = m b) : sl k m' a = sl k m a := by
  funext c i
  unfold sl
  by_cases c1 : c ≤ k
  · rw [if_pos c1, if_pos c1, h (a + c) (by first | decide | omega) (by first | decide | omega)]
  · rw [if_neg c1, if_neg c1]
theorem TX_sl {m : Mem} {T : Nat} (hT : T = 2 ∨ T = 24) : TX m T (sl 21 m T) := ⟨hT, fun i => (sl_e (Nat.zero_le _) i).symm, fun c i h => (sl_e h i).symm⟩
theorem NX_sl {m : Mem} {a : Nat} (ha : a = 69 ∨ a = 76 ∨ a = 83) : NX m a (sl 6 m a) := ⟨ha, fun i => (sl_e (Nat.zero_le _) i).symm, fun c i h => (sl_e h i).symm⟩
theorem CX_sl {m : Mem} {s T : Nat} (hT : T = 2 ∨ T = 24) (hs : s = 51 ∨ s = 60) (h : m s 0 = (T : Int)) : CX m s T (sl 21 m T) (sl 3 m s) := ⟨TX_sl hT, hs, h, fun c i _ h => (sl_e h i).symm⟩
theorem NX_u {m : Mem} {a : Nat} {n : Mem} (h : NX m a n) (c : Nat) (hc : c ≤ 6) : sl 6 m a c = n c := by
  funext i; rw [sl_e hc]; exact h.2.2 c i hc
/-- a minute as calls may find it -/
def SN (w n : Mem) : Prop := NB w n (2 * ff w (n 0 0)) ∧ (0 ≤ n 0 0 ∧ n 0 0 ≤ 199) ∧ (∀ i, 0 ≤ i → i < w 1 0 → (n 4 i = 0 ∨ n 0 0 < n 4 i) ∧ n 4 i ≤ 1000 ∧ 0 ≤ n 5 i ∧ n 5 i ≤ w 5 i) ∧ ∀ k, 0 ≤ k → k < w 8 1 → (n 6 k = -2 ↔ n 0 0 ≤ w 11 k)
/-- the reference's present minute -/
def SV (w n v : Mem) : Prop := NM v 0 w n ∧ v 31 0 = n 0 0 ∧ v 0 64 = n 0 1 ∧ (∀ i, 0 ≤ i → i < w 1 0 → v 28 i = n 4 i ∧ v 29 i = w 5 i - n 5 i) ∧ v 0 66 = -1
/-- the reference's image -/
def SI (w n v : Mem) : Prop := (∀ s, 0 ≤ s → s < w 1 0 → v 42 s = n 1 s ∧ v 42 (5 + s) = n 2 s ∧ v 42 (10 + s) = n 3 s ∧ v 42 (15 + s) = n 4 s ∧ v 42 (20 + s) = w 5 s - n 5 s) ∧ (∀ k, 0 ≤ k → k < w 8 1 → v 42 (25 + k) = n 6 k) ∧ v 0 82 = n 0 0 ∧ v 0 83 = n 0 1 ∧ v 0 84 = n 0 3 ∧ v 0 85 = n 0 4 ∧ v 0 86 = n 0 2
def RS (m v : Mem) (T : Nat) : Prop := ((T = 2 ∨ T = 24) ∧ m 0 3 = (T : Int) ∧ m 0 4 = 26 - (T : Int) ∧ m 51 0 = (T : Int)) ∧ WW (sl 21 m T) ∧ GE (sl 21 m T) (sl 3 m 51) (gM (sl 21 m T) (-1)) ∧ SN (sl 21 m T) (sl 6 m 69) ∧ RT v (sl 21 m T) ∧ SV (sl 21 m T) (sl 6 m 69) v
def RI (m v : Mem) (T : Nat) : Prop := m 0 10 = v 0 80 ∧ (m 0 10 = 0 ∨ (m 0 10 = 1 ∧ SN (sl 21 m T) (sl 6 m 83) ∧ SI (sl 21 m T) (sl 6 m 83) v))
def isS (w : Mem) (s : Int) : Prop := 0 ≤ s ∧ s < w 1 0
def isC (w : Mem) (c : Int) : Prop := 0 ≤ c ∧ c < w 0 0 * w 0 1
/-- notes and strikes -/
def RNo (m v w : Mem) : Prop := m 90 0 = v 0 74 ∧ (0 ≤ m 90 0 ∧ m 90 0 ≤ 24) ∧ m 90 1 = v 0 75 ∧ (-1 ≤ m 90 1 ∧ m 90 1 ≤ m 90 0) ∧ ∀ k, 0 ≤ k → k < m 90 0 → (m 94 k = -1 ∧ v 39 (3 * k) = m 91 k ∧ (0 ≤ m 91 k ∧ m 91 k ≤ 199) ∧ v 39 (3 * k + 1) = m 92 k ∧ isS w (m 92 k) ∧ v 39 (3 * k + 2) = m 93 k ∧ isC w (m 93 k)) ∨ (0 ≤ m 94 k ∧ m 94 k < k ∧ v 39 (3 * k) = -1 ∧ v 39 (3 * k + 1) = m 94 k)
/-- how it was before each call that can be undone -/
def UH (m v w n : Mem) (CE ST : Int → Int → Int) (RR : Int → Int) : Prop := (∀ s, 0 ≤ s → s < w 1 0 → CE (m 96 0) s = n 1 s ∧ ST (m 96 0) s = n 5 s) ∧ RR (m 96 0) = n 0 1 ∧ ∀ j, 0 ≤ j → j < m 96 0 → (∀ s, 0 ≤ s → s < w 1 0 → v 41 (11 * j + s) = CE j s ∧ v 41 (11 * j + 5 + s) = w 5 s - ST j s ∧ isC w (CE j s) ∧ 0 ≤ ST j s ∧ ST j s ≤ w 5 s) ∧ v 41 (11 * j + 10) = RR j ∧ (0 ≤ RR j ∧ RR j ≤ 3) ∧ ((m 97 j = -1 ∧ RR j = m 98 j ∧ ∀ s, 0 ≤ s → s < w 1 0 → CE j s = CE (j + 1) s ∧ ST j s = ST (j + 1) s) ∨ (isS w (m 97 j) ∧ RR j = RR (j + 1) ∧ ∀ s, 0 ≤ s → s < w 1 0 → CE j s = (if s = m 97 j then m 98 j else CE (j + 1) s) ∧ ST j s = (if s = m 97 j then ST (j + 1) s - 1 else ST (j + 1) s)))
def RU (m v w n : Mem) : Prop := m 96 0 = v 0 78 ∧ (0 ≤ m 96 0 ∧ m 96 0 ≤ 20) ∧ ∃ CE ST RR, UH m v w n CE ST RR
/-- the tape, and the words that both know -/
def lgW : List Int := [642809856, 542157824, 660150450, 643432448, 68627456, 626398208, 642945024, 404455424, 139640832, 693713504, 168927232, 525991936, 102370560, 153393792, 57730048, 486146048, 48365568, 522190848, 202964992, 647107584, 82888832, 647828480, 446125701, 780438784]
def wdM : List Int := [115, 101, 97, 32, 112, 101, 97, 107, 32, 115, 117, 114, 102, 101, 114, 32, 115, 101, 116, 32, 98, 97, 110, 107, 32, 114, 117, 108, 101, 32, 115, 101, 101, 100, 32, 108, 97, 119, 32, 100, 101, 101, 112, 32, 116, 117, 114, 110, 115, 32, 101, 97, 99, 104, 32, 111, 117, 116, 32, 99, 97, 116, 99, 104, 32, 100, 114, 105, 102, 116, 32, 97, 119, 97, 121, 32, 97, 110, 100, 32, 111, 114, 32, 110, 111, 116, 32, 102, 97, 114, 32, 115, 105, 100, 101, 32, 98, 111, 97, 114, 100, 32, 115, 105, 122, 101, 32, 109, 105, 110, 117, 116, 101, 32, 119, 104, 105, 99, 104, 32]
def RTp (m v : Mem) : Prop := m 0 1 = v 0 1 ∧ (0 ≤ m 0 1 ∧ m 0 1 ≤ 700) ∧ (∀ i, 0 ≤ i → i < m 0 1 → (-128 ≤ m 1 i ∧ m 1 i ≤ 127) ∧ v 1 i = m 1 i % 256) ∧ (∀ i : Nat, i < 24 → m 48 i = lgW.getD i 0) ∧ (∀ i : Nat, i < 120 → v 2 i = wdM.getD i 0)
/-- what lies in the row of a game's worths -/
def W102 (m : Mem) : Prop := ∀ i, 0 ≤ i → i < 280 → 0 ≤ m 102 i ∧ m 102 i ≤ 900
def Rel (m v : Mem) : Prop := ∃ T, RS m v T ∧ RI m v T ∧ RNo m v (sl 21 m T) ∧ RU m v (sl 21 m T) (sl 6 m 69) ∧ RTp m v ∧ (m 46 8 = v 0 4 ∧ m 46 9 = v 0 5) ∧ W102 m
/-- what a question may change: of the class -/
def PQ : Nat → Prop := fun b => (55 ≤ b ∧ b ≤ 68) ∨ (76 ≤ b ∧ b ≤ 82) ∨ b = 95 ∨ 99 ≤ b
/-- without the row of worths -/
def PQ' : Nat → Prop := fun b => PQ b ∧ b ≠ 102
/-- of the reference -/
def PMq : Nat → Int → Prop := fun b i => (b = 0 ∧ (i = 2 ∨ i = 54 ∨ i = 67 ∨ i = 69)) ∨ b = 23 ∨ b = 24 ∨ (34 ≤ b ∧ b ≤ 38) ∨ b = 40 ∨ ((25 ≤ b ∧ b ≤ 28) ∧ 5 ≤ i) ∨ (b = 30 ∧ 28 ≤ i) ∨ ((31 ≤ b ∧ b ≤ 33) ∧ i = 1)
theorem PN_Q : ∀ b, PN 51 b → PQ' b := by intro b h; unfold PN at h; unfold PQ' PQ; omega
theorem PL_Q : ∀ b, PL 51 b → PQ' b := by intro b h; unfold PL at h; unfold PQ' PQ; omega
theorem PNm_q : ∀ b i, PNm b i → PMq b i := by intro b i h; unfold PNm at h; unfold PMq; omega
theorem PO_q : ∀ b i, PO b i → PMq b i := by intro b i h; unfold PO PNm at h; unfold PMq; omega
theorem RT.q {v v' w : Mem} (h : RT v w) (f : Fm PMq v v') : RT v' w := h.fr f (by intro b i q; unfold PMq; first | decide | omega)
theorem sl_q {k : Nat} {m m' : Mem} {a : Nat} (f : Fr PQ m m') (h : ∀ b, a ≤ b → b ≤ a + k → ¬ PQ b) : sl k m' a = sl k m a := sl_c (fun b x y => f.row (h b x y))
theorem SV.q {w n v v' : Mem} (h : SV w n v) (hw : w 1 0 ≤ 5 ∧ w 8 1 ≤ 28) (f : Fm PMq v v') : SV w n v' := by
  obtain ⟨⟨h1, h2, h3, h4, h5⟩, h6, h7, h8, h9⟩ := h
  refine ⟨⟨fun i p q => ?_, fun k p q => ?_, ?_, ?_, ?_⟩, ?_, ?_, fun i p q => ?_, ?_⟩
  · rw [f 25 _ (by unfold PMq; first | decide | omega), f 26 _ (by unfold PMq; first | decide | omega), f 27 _ (by unfold PMq; first | decide | omega)]; exact h1 i p q
  · rw [f 30 _ (by unfold PMq; first | decide | omega)]; exact h2 k p q
  · rw [f 32 _ (by unfold PMq; first | decide | omega)]; exact h3
  · rw [f 33 _ (by unfold PMq; first | decide | omega)]; exact h4
  · rw [f 0 65 (by unfold PMq; first | decide | omega)]; exact h5
  · rw [f 31 _ (by unfold PMq; first | decide | omega)]; exact h6
  · rw [f 0 64 (by unfold PMq; first | decide | omega)]; exact h7
  · rw [f 28 _ (by unfold PMq; first | decide | omega), f 29 _ (by unfold PMq; first | decide | omega)]; exact h8 i p q
  · rw [f 0 66 (by unfold PMq; first | decide | omega)]; exact h9
theorem Rel.q2 {m v m' v' : Mem} (h : Rel m v) (f : Fr PQ m m') (hW : W102 m') (g : Fm PMq v v') : Rel m' v' := by
  obtain ⟨T, ⟨⟨t1, t2, t3, t4⟩, r1, r2, r3, r4, r5⟩, ⟨i1, i2⟩, n1, u1, p1, ⟨a1, a2⟩, a3⟩ := h
  have ew : sl 21 m' T = sl 21 m T := sl_q f (by intro b x y; unfold PQ; first | decide | omega)
  have en : sl 6 m' 69 = sl 6 m 69 := sl_q f (by intro b x y; unfold PQ; first | decide | omega)
  have eg : sl 3 m' 51 = sl 3 m 51 := sl_q f (by intro b x y; unfold PQ; first | decide | omega)
  have ei : sl 6 m' 83 = sl 6 m 83 := sl_q f (by intro b x y; unfold PQ; first | decide | omega)
  have e : ∀ b, ¬ PQ b → m' b = m b := fun b h => f.row h
  have hs := r1.1.2.1
  have e0 := e 0 (by unfold PQ; first | decide | omega)
  have v42 : v' 42 = v 42 := funext fun i => g 42 i (by unfold PMq; first | decide | omega)
  have v39 : v' 39 = v 39 := funext fun i => g 39 i (by unfold PMq; first | decide | omega)
  have v41 : v' 41 = v 41 := funext fun i => g 41 i (by unfold PMq; first | decide | omega)
  have v0 : ∀ i, i ≠ 2 → i ≠ 54 → i ≠ 67 → i ≠ 69 → v' 0 i = v 0 i := fun i a b c d => g 0 i (by unfold PMq; first | decide | omega)
  refine ⟨T, ⟨⟨t1, ?_, ?_, ?_⟩, ?_, ?_, ?_, ?_, ?_⟩, ⟨?_, ?_⟩, ?_, ?_, ?_, ⟨?_, ?_⟩, hW⟩
  · rw [e0]; exact t2
  · rw [e0]; exact t3
  · rw [e 51 (by unfold PQ; first | decide | omega)]; exact t4
  · rw [ew]; exact r1
  · rw [ew, eg]; exact r2
  · rw [ew, en]; exact r3
  · rw [ew]; exact r4.q g
  · rw [ew, en]; exact r5.q ⟨by first | decide | omega, by first | decide | omega⟩ g
  · rw [e0, v0 80 (by first | decide | omega) (by first | decide | omega) (by first | decide | omega) (by first | decide | omega)]; exact i1
  · rw [e0, ew, ei]
    unfold SI
    rw [v42, v0 82 (by first | decide | omega) (by first | decide | omega) (by first | decide | omega) (by first | decide | omega), v0 83 (by first | decide | omega) (by first | decide | omega) (by first | decide | omega) (by first | decide | omega), v0 84 (by first | decide | omega) (by first | decide | omega) (by first | decide | omega) (by first | decide | omega), v0 85 (by first | decide | omega) (by first | decide | omega) (by first | decide | omega) (by first | decide | omega), v0 86 (by first | decide | omega) (by first | decide | omega) (by first | decide | omega) (by first | decide | omega)]
    exact i2
  · rw [ew]
    unfold RNo
    rw [e 90 (by unfold PQ; first | decide | omega), e 91 (by unfold PQ; first | decide | omega), e 92 (by unfold PQ; first | decide | omega), e 93 (by unfold PQ; first | decide | omega), e 94 (by unfold PQ; first | decide | omega), v39, v0 74 (by first | decide | omega) (by first | decide | omega) (by first | decide | omega) (by first | decide | omega), v0 75 (by first | decide | omega) (by first | decide | omega) (by first | decide | omega) (by first | decide | omega)]
    exact n1
  · rw [ew, en]
    unfold RU UH
    rw [e 96 (by unfold PQ; first | decide | omega), e 97 (by unfold PQ; first | decide | omega), e 98 (by unfold PQ; first | decide | omega), v41, v0 78 (by first | decide | omega) (by first | decide | omega) (by first | decide | omega) (by first | decide | omega)]
    exact u1
  · unfold RTp
    rw [e0, e 1 (by unfold PQ; first | decide | omega), e 48 (by unfold PQ; first | decide | omega), v0 1 (by first | decide | omega) (by first | decide | omega) (by first | decide | omega) (by first | decide | omega)]
    have v1 : v' 1 = v 1 := funext fun i => g 1 i (by unfold PMq; first | decide | omega)
    have v2 : v' 2 = v 2 := funext fun i => g 2 i (by unfold PMq; first | decide | omega)
    rw [v1, v2]
    exact p1
  · rw [e 46 (by unfold PQ; first | decide | omega), v0 4 (by first | decide | omega) (by first | decide | omega) (by first | decide | omega) (by first | decide | omega)]; exact a1
  · rw [e 46 (by unfold PQ; first | decide | omega), v0 5 (by first | decide | omega) (by first | decide | omega) (by first | decide | omega) (by first | decide | omega)]; exact a2
theorem Rel.q {m v m' v' : Mem} (h : Rel m v) (f : Fr PQ' m m') (g : Fm PMq v v') : Rel m' v' := by
  have hW : W102 m' := by
    obtain ⟨T, _, _, _, _, _, _, a3⟩ := h
    intro i p q
    rw [f 102 i (fun z => z.2 rfl)]
    exact a3 i p q
  exact h.q2 (f.mono (fun b z => z.1)) hW g
/-- what calls may use of it -/
theorem Rel.use {m v : Mem} (h : Rel m v) : ∃ (T : Nat) (w g n : Mem), (T = 2 ∨ T = 24) ∧ m 0 3 = (T : Int) ∧ CX m 51 T w g ∧ NX m 69 n ∧ WW w ∧ GB w g ∧ GE w g (gM w (-1)) ∧ SN w n ∧ RT v w ∧ SV w n v ∧ TLM v 0 w n (-1) 0 (n 0 0) ∧ w = sl 21 m T ∧ g = sl 3 m 51 ∧ n = sl 6 m 69 := by
  obtain ⟨T, ⟨⟨t1, t2, t3, t4⟩, r1, r2, r3, r4, r5⟩, _⟩ := h
  refine ⟨T, _, _, _, t1, t2, CX_sl t1 (Or.inl rfl) t4, NX_sl (Or.inl rfl), r1, ?_, r2, r3, r4, r5, ?_, rfl, rfl, rfl⟩
  · refine ⟨fun i p q => ?_, fun k p q => ?_⟩
    · obtain ⟨x, y⟩ := r2.1 i p q
      have hc := r1.2.1 i p q
      rw [x, y]
      exact ⟨hc.2.1.1, hc.2.1.2, hc.2.2.2.1.1, hc.2.2.2.1.2⟩
    · rw [r2.2 k p q]
      exact pxM_b (way := -1) (mn := sl 21 m T 11 k) r1
  · intro i p q
    right
    refine ⟨by first | decide | omega, ?_⟩
    have h1 := (r5.2.2.2.1 i p q).1
    have h2 := (r3.2.2.1 i p q).1
    have e : 5 * (0 : Int) + i = i := by omega
    rw [e, h1]
    split
    · rename_i c
      rcases h2 with z | z
      · exact z
      · omega
    · rfl
/-! Questions: both answer alike. -/
def Agr (X Y : Option (Int × Mem)) : Prop := ∃ a m' v', X = some (a, m') ∧ Y = some (a, v') ∧ Rel m' v'
theorem agr {m v : Mem} {X Y : Option (Int × Mem)} (h : Rel m v) (a : Int) {m' v' : Mem} (e1 : X = some (a, m')) (e2 : Y = some (a, v')) (f : Fr PQ' m m') (g : Fm PMq v v') : Agr X Y := ⟨a, m', v', e1, e2, h.q f g⟩
theorem agr0 {m v : Mem} {X Y : Option (Int × Mem)} (h : Rel m v) (a : Int) (e1 : X = some (a, m)) (e2 : Y = some (a, v)) : Agr X Y := ⟨a, m, v, e1, e2, h⟩
theorem Rel.v0 {m v : Mem} (h : Rel m v) : Rel m (up v 0 2 0) := h.q Fr.rf (Fm.w1 (by unfold PMq; first | decide | omega))
section Q2
variable {m v w g n : Mem} {T : Nat}
theorem c_isS (hT : m 0 3 = (T : Int)) (h : TX m T w) (s : Int) : G11_isSurfer m s = some ((if 0 ≤ s ∧ s < w 1 0 then 1 else 0), m) := by
  unfold G11_isSurfer G11_isSurfer_0
  rw [hT, Int.toNat_natCast, h.2.2 1 0 (by first | decide | omega)]
  by_cases c1 : s < 0
  · rw [if_pos c1, if_neg (by first | decide | omega)]
  · rw [if_neg c1]
    by_cases c2 : w 1 0 ≤ s
    · rw [if_pos c2, if_neg (by first | decide | omega)]
    · rw [if_neg c2, if_pos (by first | decide | omega)]
theorem r_isS (h : RT v w) (s : Int) : G12_isSurfer v s = some ((if 0 ≤ s ∧ s < w 1 0 then 1 else 0), v) := by
  unfold G12_isSurfer G12_isSurfer_0
  rw [h.1.2.2.1]
  by_cases c1 : s < 0
  · rw [if_pos c1, if_neg (by first | decide | omega)]
  · rw [if_neg c1]
    by_cases c2 : w 1 0 ≤ s
    · rw [if_pos c2, if_neg (by first | decide | omega)]
    · rw [if_neg c2, if_pos (by first | decide | omega)]
theorem c_isV (hT : m 0 3 = (T : Int)) (h : TX m T w) (s : Int) : G11_isWave m s = some ((if 0 ≤ s ∧ s < w 8 1 then 1 else 0), m) := by
  unfold G11_isWave G11_isWave_0
  rw [hT, Int.toNat_natCast, h.2.2 8 1 (by first | decide | omega)]
  by_cases c1 : s < 0
  · rw [if_pos c1, if_neg (by first | decide | omega)]
  · rw [if_neg c1]
    by_cases c2 : w 8 1 ≤ s
    · rw [if_pos c2, if_neg (by first | decide | omega)]
    · rw [if_neg c2, if_pos (by first | decide | omega)]
theorem r_isV (h : RT v w) (s : Int) : G12_isWave v s = some ((if 0 ≤ s ∧ s < w 8 1 then 1 else 0), v) := by
  unfold G12_isWave G12_isWave_0
  rw [h.1.2.2.2.2.1]
  by_cases c1 : s < 0
  · rw [if_pos c1, if_neg (by first | decide | omega)]
  · rw [if_neg c1]
    by_cases c2 : w 8 1 ≤ s
    · rw [if_pos c2, if_neg (by first | decide | omega)]
    · rw [if_neg c2, if_pos (by first | decide | omega)]
theorem cells_b (hW : WW w) : 1 ≤ w 0 0 * w 0 1 ∧ w 0 0 * w 0 1 ≤ 48 := by
  have hw := hW.1
  unfold WS at hw
  have h1 : 1 * 1 ≤ w 0 0 * w 0 1 := Int.mul_le_mul (by first | decide | omega) (by first | decide | omega) (by first | decide | omega) (by first | decide | omega)
  have h2 : w 0 0 * w 0 1 ≤ 8 * 6 := Int.mul_le_mul (by first | decide | omega) (by first | decide | omega) (by first | decide | omega) (by first | decide | omega)
  omega
theorem r_cells (h : RT v w) (hW : WW w) : G12_cells v = some (w 0 0 * w 0 1, v) := by
  have := cells_b hW
  unfold G12_cells G12_cells_0
  rw [h.1.1, h.1.2.1, gd3_t (by first | decide | omega)]
theorem c_isC (hT : m 0 3 = (T : Int)) (h : TX m T w) (hW : WW w) (s : Int) : G11_isCell m s = some ((if 0 ≤ s ∧ s < w 0 0 * w 0 1 then 1 else 0), m) := by
  have hw := hW.1
  unfold WS at hw
  unfold G11_isCell G11_isCell_0
  rw [hT, Int.toNat_natCast, g_cells h (by first | decide | omega) (by first | decide | omega), bs1]
  simp only
  by_cases c1 : s < 0
  · rw [if_pos c1, if_neg (by first | decide | omega)]
  · rw [if_neg c1]
    by_cases c2 : w 0 0 * w 0 1 ≤ s
    · rw [if_pos c2, if_neg (by first | decide | omega)]
    · rw [if_neg c2, if_pos (by first | decide | omega)]
theorem r_isC (h : RT v w) (hW : WW w) (s : Int) : G12_isCell v s = some ((if 0 ≤ s ∧ s < w 0 0 * w 0 1 then 1 else 0), v) := by
  unfold G12_isCell G12_isCell_0
  rw [r_cells h hW, bs1]
  simp only
  by_cases c1 : s < 0
  · rw [if_pos c1, if_neg (by first | decide | omega)]
  · rw [if_neg c1]
    by_cases c2 : w 0 0 * w 0 1 ≤ s
    · rw [if_pos c2, if_neg (by first | decide | omega)]
    · rw [if_neg c2, if_pos (by first | decide | omega)]
theorem r_isIn (v : Mem) (x a b : Int) : G12_isIn v x a b = some ((if a ≤ x ∧ x ≤ b then 1 else 0), v) := by
  unfold G12_isIn G12_isIn_0
  by_cases c1 : x < a
  · rw [if_pos c1, if_neg (by first | decide | omega)]
  · rw [if_neg c1]
    by_cases c2 : b < x
    · rw [if_pos c2, if_neg (by first | decide | omega)]
    · rw [if_neg c2, if_pos (by first | decide | omega)]
theorem c_isR (m : Mem) (x : Int) : G11_isRule m x = some ((if 0 ≤ x ∧ x ≤ 3 then 1 else 0), m) := by
  unfold G11_isRule G11_isRule_0
  by_cases c1 : x < 0
  · rw [if_pos c1, if_neg (by first | decide | omega)]
  · rw [if_neg c1]
    by_cases c2 : 4 ≤ x
    · rw [if_pos c2, if_neg (by first | decide | omega)]
    · rw [if_neg c2, if_pos (by first | decide | omega)]
theorem i10 : ¬ (1 : Int) = 0 := by decide
theorem a_fault (h : Rel m v) (x : Int) : Agr (G11_fault m x) (G12_fault v x) := by
  have h1 := h.v0
  unfold G11_fault G11_fault_0 G12_fault G12_fault_0
  rw [wt_e]
  generalize up v 0 2 0 = u at h1 ⊢
  obtain ⟨T, _, _, _, _, _, ⟨e1, e2⟩, e3⟩ := h1
  rw [e1, e2]
  have h1 : Rel m u := ⟨T, ‹_›, ‹_›, ‹_›, ‹_›, ‹_›, ⟨e1, e2⟩, e3⟩
  split
  · exact agr0 h1 _ rfl rfl
  · split
    · exact agr0 h1 _ rfl rfl
    · exact agr0 h1 _ rfl rfl
-- the first of d places from i on that holds x; none: -1
def fnd (f : Int → Int) (x : Int) : Nat → Int → Int
  | 0, _ => -1
  | d + 1, i => if f i = x then i else fnd f x d (i + 1)
theorem fnd_s (f : Int → Int) (x : Int) (d : Nat) (i : Int) : fnd f x (d + 1) i = if f i = x then i else fnd f x d (i + 1) := rfl
theorem c_nam (hT : m 0 3 = (T : Int)) (h : TX m T w) (h5 : w 1 0 ≤ 5) (x : Int) : ∀ (d k : Nat) (i : Int), 0 ≤ i → w 1 0 - i = d → d < k → G11_named_2 k m x i = some (fnd (w 2) x d i, m) := by
  intro d
  induction d with
  | zero =>
    intro k i a1 a2 a3
    obtain ⟨k, rfl⟩ : ∃ j, k = j + 1 := ⟨k - 1, by first | decide | omega⟩
    rw [G11_named_2, hT, Int.toNat_natCast, h.2.2 1 0 (by first | decide | omega), if_pos (by first | decide | omega)]
    rfl
  | succ d ih =>
    intro k i a1 a2 a3
    obtain ⟨k, rfl⟩ : ∃ j, k = j + 1 := ⟨k - 1, by first | decide | omega⟩
    rw [G11_named_2, hT, Int.toNat_natCast, h.2.2 1 0 (by first | decide | omega), if_neg (by first | decide | omega), gdx_t (by first | decide | omega), h.2.2 2 i (by first | decide | omega), fnd_s, gd3_t (by first | decide | omega), ih k (i + 1) (by first | decide | omega) (by first | decide | omega) (by first | decide | omega)]
    split <;> rfl
end Q2
