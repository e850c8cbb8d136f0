/-! The pure heap: a list of cells by number, the cell of number i lies at b + i; what each instruction does to it; rows that tie both. -/
abbrev PV : Type := Int32 ⊕ Int64 ⊕ Option Nat
abbrev PC : Type := (Nat × vp_A) ⊕ (Nat × List PV)
abbrev PH : Type := List PC
def ph_v (b : Nat) (v : PV) : Value := match v with
  | .inl i => .int i
  | .inr (.inl j) => .long j
  | .inr (.inr none) => .null
  | .inr (.inr (some r)) => .ref (b + r)
def ph_a (b : Nat) (a : vp_A) : vp_A := match a with
  | (n, .inr (.inr (.inr (.inr f)))) => (n, .inr (.inr (.inr (.inr (fun k => (f k).map (fun r => b + r))))))
  | a => a
def ph_e (b : Nat) (cy : Nat → ClassId) (c : PC) : va_E := match c with
  | .inl (t, a) => .inl (cy t, ph_a b a)
  | .inr (ci, fs) => .inr (ci, fs.map (ph_v b))
def ph_w (b : Nat) (cy : Nat → ClassId) (h : PH) : va_W := h.mapIdx (fun i c => (b + i, ph_e b cy c))
def ph_cl : List vw_C := [(RX0, TX0, 13), (RX1, TX1, 7), (RX2, TX2, 3), (RX3, TX3, 7), (RX4, TX4, 11), (RX5, TX5, 11), (RX6, TX6, 9), (RX7, TX7, 7), (RX8, TX8, 14), (RX9, TX9, 3), (RX10, TX10, 8), (RX11, TX11, 14), (RX12, TX12, 87)]
def ph_t (cy : Nat → ClassId) : List (ClassId × FieldType) := [(cy 0, .int), (cy 1, .byte), (cy 2, .boolean), (cy 3, .long), (cy 4, .object "WhoseWave$Law")]
theorem ph_w_at (b : Nat) (cy : Nat → ClassId) (h : PH) (i : Nat) : (ph_w b cy h)[i]? = (h[i]?).map (fun c => (b + i, ph_e b cy c)) := by
  simp [ph_w, List.getElem?_mapIdx]
theorem ph_w_get {b : Nat} {cy : Nat → ClassId} {h : PH} {i : Nat} {c : PC} (e : h[i]? = some c) : (ph_w b cy h)[i]? = some (b + i, ph_e b cy c) := by
  rw [ph_w_at, e]; rfl
theorem ph_w_set (b : Nat) (cy : Nat → ClassId) (h : PH) (i : Nat) (c : PC) : (ph_w b cy h).set i (b + i, ph_e b cy c) = ph_w b cy (h.set i c) := by
  apply List.ext_getElem?
  intro j
  rw [ph_w_at, List.getElem?_set, List.getElem?_set, ph_w_at]
  have hl : (ph_w b cy h).length = h.length := by simp [ph_w]
  rw [hl]
  by_cases hij : i = j
  · subst hij
    by_cases hi : i < h.length
    · simp [hi]
    · simp [hi]
  · simp [hij]
theorem ph_w_push (b : Nat) (cy : Nat → ClassId) (h : PH) (c : PC) : ph_w b cy (h ++ [c]) = ph_w b cy h ++ [(b + h.length, ph_e b cy c)] := by
  simp [ph_w, List.mapIdx_append]
theorem ph_D {A : Nat → Prop} {b : Nat} {cy : Nat → ClassId} {h : PH} (hA : ∀ i, i < h.length → A (b + i)) : va_D A (ph_w b cy h) := by
  have key : ∀ (k : Nat) (q : Nat × va_E), (ph_w b cy h)[k]? = some q → q.1 = b + k ∧ k < h.length := by
    intro k q hk
    rw [ph_w_at] at hk
    cases hc : h[k]? with
    | none => rw [hc] at hk; cases hk
    | some c =>
      rw [hc] at hk
      have e := Option.some.inj hk
      subst e
      exact ⟨rfl, (List.getElem?_eq_some_iff.mp hc).1⟩
  refine ⟨fun i j x y hi hj hxy => ?_, fun k q hk => ?_⟩
  · have e1 := (key i x hi).1
    have e2 := (key j y hj).1
    omega
  · rw [(key k q hk).1]
    exact hA k (key k q hk).2
-- what lies outside the pure heap and never changes: the ways of a game, the language's text, what strings and throws ask for
def ph_gw (j : Nat) : Int32 := [4, 0, 1, 2, 3].getD j 0
def ph_lang : List Int32 := [115, 101, 97, 32, 32, 32, 112, 101, 97, 107, 32, 32, 115, 117, 114, 102, 101, 114, 115, 101, 116, 32, 32, 32, 98, 97, 110, 107, 32, 32, 114, 117, 108, 101, 32, 32, 115, 101, 101, 100, 32, 32, 108, 97, 119, 32, 32, 32, 100, 101, 101, 112, 32, 32, 116, 117, 114, 110, 115, 32, 101, 97, 99, 104, 32, 32, 111, 117, 116, 32, 32, 32, 99, 97, 116, 99, 104, 32, 100, 114, 105, 102, 116, 32, 97, 119, 97, 121, 32, 32, 110, 111, 116, 32, 32, 32, 97, 110, 100, 32, 32, 32, 111, 114, 32, 32, 32, 32, 102, 97, 114, 32, 32, 32, 115, 105, 100, 101, 32, 32, 98, 111, 97, 114, 100, 32, 115, 105, 122, 101, 32, 32, 109, 105, 110, 117, 116, 101, 119, 104, 105, 99, 104, 32]
def ph_E1 : String := "java/lang/IndexOutOfBoundsException"
def ph_E2 : String := "java/util/NoSuchElementException"
def ph_X (cy : Nat → ClassId) (A : Nat → Prop) (U : State) : Prop :=
  va_AO "WhoseWave$Law" U ∧ (∃ t : Nat, va_Z "WhoseWave" "GAME_WAYS" "[I" (.ref t) A U U.heap ∧ va_T .int t 5 (fun j => .int (ph_gw j)) A U U.heap) ∧
  (vk_R "WhoseWave$Tokens" 19 "sea   peak  surferset   bank  rule  seed  law   deep  turns each  out   catch drift away  not   and   or    far   side  board size  minutewhich " (cy 100) U ∧ vk_S 1 [144] [ph_lang] (fun _ => cy 100) (fun _ => cy 101) A U U.heap) ∧
  va_Z "java/lang/String" "COMPACT_STRINGS" "Z" (.int 1) A U U.heap ∧ va_Zq "jdk/internal/util/Preconditions" "SIOOBE_FORMATTER" "Ljava/util/function/BiFunction;" A U U.heap ∧
  vx_Zq Bundle.tN "UNASSIGNED_STACK" Bundle.steD A U U.heap ∧ vx_Zq Bundle.tN "SUPPRESSED_SENTINEL" Bundle.listD A U U.heap ∧ va_Nw (.castable ph_E1 ph_E1) U ∧ va_Nw (.castable ph_E2 ph_E2) U ∧ va_Nw (.fieldLinkNest RX0 84 "WhoseWave" "GAME_WAYS" "[I" "WhoseWave") U
theorem ph_X_move {cy : Nat → ClassId} {A : Nat → Prop} {s U : State} {H : Heap} {locs : List Loc} (h : ph_X cy A s) (hS : va_S A s.heap H locs) (hU : U.heap = H) (hW : s.WarmedH U.vm) : ph_X cy A U := by
  obtain ⟨h1, ⟨t, h2, h3⟩, ⟨h4, h5⟩, h6, h7, h8, h9, h10, h11, h12⟩ := h
  have hq : ∀ a : Nat, a < s.heap.size → ¬ A a → U.heap[a]? = s.heap[a]? := by rw [hU]; exact hS.2.1
  exact ⟨h1.moved hW.alike, ⟨t, (h2.kept hq).moved hW.alike, (h3.kept hq).moved hW.alike⟩, ⟨h4.warm hW, (h5.kept hq).moved hW.alike⟩, (h6.kept hq).moved hW.alike, (h7.kept hq).moved hW.alike, (h8.kept hq).moved hW.alike, (h9.kept hq).moved hW.alike, h10.warmC hW, h11.warmC hW, h12.warmF hW⟩
def ph_I (D : va_G) (cy : Nat → ClassId) (b : Nat) (A : Nat → Prop) (fl : Bool) (h : PH) (s : State) (H : Heap) (locs : List Loc) : Prop :=
  va_P D ph_cl (ph_w b cy h) H ∧ va_K D ph_cl (ph_t cy) s ∧ va_S A s.heap H locs ∧ (∀ i, i < h.length → A (b + i)) ∧ (fl = true → H.size = b + h.length) ∧ ph_X cy A s
def ph_B (D : va_G) (cy : Nat → ClassId) (b : Nat) (A : Nat → Prop) (fl : Bool) (h : PH) (U : State) : Prop :=
  va_P D ph_cl (ph_w b cy h) U.heap ∧ va_K D ph_cl (ph_t cy) U ∧ (∀ i, i < h.length → A (b + i)) ∧ (fl = true → U.heap.size = b + h.length) ∧ ph_X cy A U
theorem ob {α β : Type} {x : Option α} {k : α → Option β} {y : β} (h : x.bind k = some y) : ∃ v, x = some v ∧ k v = some y := by
  cases x with
  | none => cases h
  | some v => exact ⟨v, rfl, h⟩
theorem gd {α : Type} {c : Bool} {x : Option α} {y : α} (h : (cond c x none) = some y) : c = true ∧ x = some y := by
  cases c with
  | false => cases h
  | true => exact ⟨rfl, h⟩
-- the pure instructions
def okO (h : PH) (a ci : Nat) : Bool := match h[a]? with
  | some (.inr (c, _)) => c == ci
  | _ => false
def gV (h : PH) (a ci k : Nat) : Option PV := match h[a]? with
  | some (.inr (c, fs)) => if c = ci then fs[k]? else none
  | _ => none
def gI (h : PH) (a ci k : Nat) : Option Int32 := match gV h a ci k with
  | some (.inl v) => some v
  | _ => none
def gJ (h : PH) (a ci k : Nat) : Option Int64 := match gV h a ci k with
  | some (.inr (.inl v)) => some v
  | _ => none
def gR (h : PH) (a ci k : Nat) : Option Nat := match gV h a ci k with
  | some (.inr (.inr (some r))) => some r
  | _ => none
def pV (h : PH) (a ci k : Nat) (v : PV) : Option PH := match h[a]? with
  | some (.inr (c, fs)) => if c = ci ∧ k < fs.length then some (h.set a (.inr (c, fs.set k v))) else none
  | _ => none
def pI (h : PH) (a ci k : Nat) (v : Int32) : Option PH := pV h a ci k (.inl v)
def pZ (h : PH) (a ci k : Nat) (v : Int32) : Option PH := if v = 0 ∨ v = 1 then pV h a ci k (.inl v) else none
def pJ (h : PH) (a ci k : Nat) (v : Int64) : Option PH := pV h a ci k (.inr (.inl v))
def pR (h : PH) (a ci k : Nat) (r : Nat) : Option PH := pV h a ci k (.inr (.inr (some r)))
def aI (h : PH) (a t : Nat) (i : Int32) : Option Int32 := match h[a]? with
  | some (.inl (t', n, .inl f)) => if t' = t ∧ ¬ (i < 0 ∨ n ≤ i.toNatClampNeg) then some (f i.toNatClampNeg) else none
  | _ => none
def sI (h : PH) (a t : Nat) (i x : Int32) : Option PH := match h[a]? with
  | some (.inl (t', n, .inl f)) => if t' = t ∧ ¬ (i < 0 ∨ n ≤ i.toNatClampNeg) then some (h.set a (.inl (t', n, .inl (upd f i.toNatClampNeg x)))) else none
  | _ => none
def aJ (h : PH) (a : Nat) (i : Int32) : Option Int64 := match h[a]? with
  | some (.inl (t', n, .inr (.inl f))) => if t' = 3 ∧ ¬ (i < 0 ∨ n ≤ i.toNatClampNeg) then some (f i.toNatClampNeg) else none
  | _ => none
def sJ (h : PH) (a : Nat) (i : Int32) (x : Int64) : Option PH := match h[a]? with
  | some (.inl (t', n, .inr (.inl f))) => if t' = 3 ∧ ¬ (i < 0 ∨ n ≤ i.toNatClampNeg) then some (h.set a (.inl (t', n, .inr (.inl (vp_updL f i.toNatClampNeg x))))) else none
  | _ => none
def aR (h : PH) (a : Nat) (i : Int32) : Option Nat := match h[a]? with
  | some (.inl (t', n, .inr (.inr (.inr (.inr f))))) => if t' = 4 ∧ ¬ (i < 0 ∨ n ≤ i.toNatClampNeg) then f i.toNatClampNeg else none
  | _ => none
def sR (h : PH) (a : Nat) (i : Int32) (r : Nat) : Option PH := match h[a]? with
  | some (.inl (t', n, .inr (.inr (.inr (.inr f))))) => if t' = 4 ∧ ¬ (i < 0 ∨ n ≤ i.toNatClampNeg) ∧ okO h r 2 = true then some (h.set a (.inl (t', n, .inr (.inr (.inr (.inr (va_up f i.toNatClampNeg (some r)))))))) else none
  | _ => none
def aL (h : PH) (a : Nat) : Option Int32 := match h[a]? with
  | some (.inl (t, n, _)) => if t < 5 then some (Int32.ofNat n) else none
  | _ => none
def cpI (h : PH) (a0 : Nat) (sp : Int32) (a1 : Nat) (dp n : Int32) : Option PH := match h[a0]?, h[a1]? with
  | some (.inl (t0, n0, .inl f)), some (.inl (t1, n1, .inl g)) => if t0 = 0 ∧ t1 = 0 ∧ ¬ sp < 0 ∧ ¬ dp < 0 ∧ ¬ n < 0 ∧ sp.toNatClampNeg + n.toNatClampNeg ≤ n0 ∧ dp.toNatClampNeg + n.toNatClampNeg ≤ n1 then some (h.set a1 (.inl (t1, n1, .inl (va_cpy f g sp.toNatClampNeg dp.toNatClampNeg n.toNatClampNeg)))) else none
  | _, _ => none
def zI (t n : Nat) : PC := .inl (t, n, .inl (fun _ => 0))
def zJ (n : Nat) : PC := .inl (3, n, .inr (.inl (fun _ => 0)))
def zR (n : Nat) : PC := .inl (4, n, .inr (.inr (.inr (.inr (fun _ => none)))))
def nC (h : PH) (c : PC) : Option PH := some (h ++ [c])
def rz (v : Int32) (h : PH) : Option (Int32 × PH) := if v = 0 ∨ v = 1 then some (v, h) else none
theorem okO_spec {h : PH} {a ci : Nat} (e : okO h a ci = true) : ∃ fs, h[a]? = some (.inr (ci, fs)) := by
  unfold okO at e
  split at e
  · rename_i c fs hc
    have : c = ci := by simpa using e
    exact ⟨fs, by rw [hc, this]⟩
  · cases e
theorem gV_spec {h : PH} {a ci k : Nat} {v : PV} (e : gV h a ci k = some v) : ∃ fs, h[a]? = some (.inr (ci, fs)) ∧ fs[k]? = some v := by
  unfold gV at e
  split at e
  · rename_i c fs hc
    split at e
    · rename_i hci
      subst hci
      exact ⟨fs, hc, e⟩
    · cases e
  · cases e
theorem gI_spec {h : PH} {a ci k : Nat} {v : Int32} (e : gI h a ci k = some v) : gV h a ci k = some (.inl v) := by
  unfold gI at e
  split at e
  · rename_i w hw
    rw [hw, Option.some.inj e]
  · cases e
theorem gJ_spec {h : PH} {a ci k : Nat} {v : Int64} (e : gJ h a ci k = some v) : gV h a ci k = some (.inr (.inl v)) := by
  unfold gJ at e
  split at e
  · rename_i w hw
    rw [hw, Option.some.inj e]
  · cases e
theorem gR_spec {h : PH} {a ci k : Nat} {v : Nat} (e : gR h a ci k = some v) : gV h a ci k = some (.inr (.inr (some v))) := by
  unfold gR at e
  split at e
  · rename_i w hw
    rw [hw, Option.some.inj e]
  · cases e
theorem pV_spec {h h' : PH} {a ci k : Nat} {v : PV} (e : pV h a ci k v = some h') : ∃ fs, h[a]? = some (.inr (ci, fs)) ∧ k < fs.length ∧ h' = h.set a (.inr (ci, fs.set k v)) := by
  unfold pV at e
  split at e
  · rename_i c fs hc
    split at e
    · rename_i hci
      obtain ⟨rfl, hk⟩ := hci
      exact ⟨fs, hc, hk, (Option.some.inj e).symm⟩
    · cases e
  · cases e
theorem aI_spec {h : PH} {a t : Nat} {i v : Int32} (e : aI h a t i = some v) : ∃ n f, h[a]? = some (.inl (t, n, .inl f)) ∧ vp_in i n ∧ v = f i.toNatClampNeg := by
  unfold aI at e
  split at e
  · rename_i t' n f hc
    split at e
    · rename_i hci
      obtain ⟨rfl, hk⟩ := hci
      exact ⟨n, f, hc, hk, (Option.some.inj e).symm⟩
    · cases e
  · cases e
theorem sI_spec {h h' : PH} {a t : Nat} {i x : Int32} (e : sI h a t i x = some h') : ∃ n f, h[a]? = some (.inl (t, n, .inl f)) ∧ vp_in i n ∧ h' = h.set a (.inl (t, n, .inl (upd f i.toNatClampNeg x))) := by
  unfold sI at e
  split at e
  · rename_i t' n f hc
    split at e
    · rename_i hci
      obtain ⟨rfl, hk⟩ := hci
      exact ⟨n, f, hc, hk, (Option.some.inj e).symm⟩
    · cases e
  · cases e
theorem aJ_spec {h : PH} {a : Nat} {i : Int32} {v : Int64} (e : aJ h a i = some v) : ∃ n f, h[a]? = some (.inl (3, n, .inr (.inl f))) ∧ vp_in i n ∧ v = f i.toNatClampNeg := by
  unfold aJ at e
  split at e
  · rename_i t' n f hc
    split at e
    · rename_i hci
      obtain ⟨rfl, hk⟩ := hci
      exact ⟨n, f, hc, hk, (Option.some.inj e).symm⟩
    · cases e
  · cases e
theorem sJ_spec {h h' : PH} {a : Nat} {i : Int32} {x : Int64} (e : sJ h a i x = some h') : ∃ n f, h[a]? = some (.inl (3, n, .inr (.inl f))) ∧ vp_in i n ∧ h' = h.set a (.inl (3, n, .inr (.inl (vp_updL f i.toNatClampNeg x)))) := by
  unfold sJ at e
  split at e
  · rename_i t' n f hc
    split at e
    · rename_i hci
      obtain ⟨rfl, hk⟩ := hci
      exact ⟨n, f, hc, hk, (Option.some.inj e).symm⟩
    · cases e
  · cases e
theorem aR_spec {h : PH} {a : Nat} {i : Int32} {v : Nat} (e : aR h a i = some v) : ∃ n f, h[a]? = some (.inl (4, n, .inr (.inr (.inr (.inr f))))) ∧ vp_in i n ∧ f i.toNatClampNeg = some v := by
  unfold aR at e
  split at e
  · rename_i t' n f hc
    split at e
    · rename_i hci
      obtain ⟨rfl, hk⟩ := hci
      exact ⟨n, f, hc, hk, e⟩
    · cases e
  · cases e
theorem sR_spec {h h' : PH} {a : Nat} {i : Int32} {r : Nat} (e : sR h a i r = some h') : ∃ n f, h[a]? = some (.inl (4, n, .inr (.inr (.inr (.inr f))))) ∧ vp_in i n ∧ okO h r 2 = true ∧ h' = h.set a (.inl (4, n, .inr (.inr (.inr (.inr (va_up f i.toNatClampNeg (some r))))))) := by
  unfold sR at e
  split at e
  · rename_i t' n f hc
    split at e
    · rename_i hci
      obtain ⟨rfl, hk, ho⟩ := hci
      exact ⟨n, f, hc, hk, ho, (Option.some.inj e).symm⟩
    · cases e
  · cases e
theorem aL_spec {h : PH} {a : Nat} {v : Int32} (e : aL h a = some v) : ∃ t n g, h[a]? = some (.inl (t, n, g)) ∧ t < 5 ∧ Int32.ofNat n = v := by
  unfold aL at e
  split at e
  · rename_i t n g hc
    split at e
    · rename_i hci
      exact ⟨t, n, g, hc, hci, Option.some.inj e⟩
    · cases e
  · cases e
theorem cpI_spec {h h' : PH} {a0 a1 : Nat} {sp dp n : Int32} (e : cpI h a0 sp a1 dp n = some h') : ∃ n0 f n1 g, h[a0]? = some (.inl (0, n0, .inl f)) ∧ h[a1]? = some (.inl (0, n1, .inl g)) ∧ (¬ sp < 0 ∧ ¬ dp < 0 ∧ ¬ n < 0 ∧ sp.toNatClampNeg + n.toNatClampNeg ≤ n0 ∧ dp.toNatClampNeg + n.toNatClampNeg ≤ n1) ∧ h' = h.set a1 (.inl (0, n1, .inl (va_cpy f g sp.toNatClampNeg dp.toNatClampNeg n.toNatClampNeg))) := by
  unfold cpI at e
  split at e
  · rename_i t0 n0 f t1 n1 g hc0 hc1
    split at e
    · rename_i hci
      obtain ⟨rfl, rfl, hk⟩ := hci
      exact ⟨n0, f, n1, g, hc0, hc1, hk, (Option.some.inj e).symm⟩
    · cases e
  · cases e
