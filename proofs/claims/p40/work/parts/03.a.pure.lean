/-! The pure heap: a list of cells by number, the cell of number i lies at b + i; what each instruction does to it; rows that tie both. -/
abbrev PV : Type := Int32 ⊕ Int64 ⊕ Option Nat
abbrev PC : Type := (Nat × vp_A) ⊕ (Nat × List PV)
abbrev PH : Type := List PC
def ph_v (b : Nat) (v : PV) : Value := match v with
  | .inl i => .int i
  | .inr (.inl j) => .long j
  | .inr (.inr none) => .null
  | .inr (.inr (some r)) => .ref (b + r)
def ph_a (b : Nat) (a : vp_A) : vp_A := match a with
  | (n, .inr (.inr (.inr (.inr f)))) => (n, .inr (.inr (.inr (.inr (fun k => (f k).map (fun r => b + r))))))
  | a => a
def ph_e (b : Nat) (cy : Nat → ClassId) (c : PC) : va_E := match c with
  | .inl (t, a) => .inl (cy t, ph_a b a)
  | .inr (ci, fs) => .inr (ci, fs.map (ph_v b))
def ph_w (b : Nat) (cy : Nat → ClassId) (h : PH) : va_W := h.mapIdx (fun i c => (b + i, ph_e b cy c))
def ph_cl : List vw_C := [(RX0, TX0, 13), (RX1, TX1, 7), (RX2, TX2, 3), (RX3, TX3, 7), (RX4, TX4, 11), (RX5, TX5, 11), (RX6, TX6, 9), (RX7, TX7, 7), (RX8, TX8, 14), (RX9, TX9, 3), (RX10, TX10, 8), (RX11, TX11, 14), (RX12, TX12, 87)]
def ph_t (cy : Nat → ClassId) : List (ClassId × FieldType) := [(cy 0, .int), (cy 1, .byte), (cy 2, .boolean), (cy 3, .long), (cy 4, .object "WhoseWave$Law")]
theorem ph_w_at (b : Nat) (cy : Nat → ClassId) (h : PH) (i : Nat) : (ph_w b cy h)[i]? = (h[i]?).map (fun c => (b + i, ph_e b cy c)) := by
  simp [ph_w, List.getElem?_mapIdx]
theorem ph_w_get {b : Nat} {cy : Nat → ClassId} {h : PH} {i : Nat} {c : PC} (e : h[i]? = some c) : (ph_w b cy h)[i]? = some (b + i, ph_e b cy c) := by
  rw [ph_w_at, e]; rfl
theorem ph_w_set (b : Nat) (cy : Nat → ClassId) (h : PH) (i : Nat) (c : PC) : (ph_w b cy h).set i (b + i, ph_e b cy c) = ph_w b cy (h.set i c) := by
  apply List.ext_getElem?
  intro j
  rw [ph_w_at, List.getElem?_set, List.getElem?_set, ph_w_at]
  have hl : (ph_w b cy h).length = h.length := by simp [ph_w]
  rw [hl]
  by_cases hij : i = j
  · subst hij
    by_cases hi : i < h.length
    · simp [hi]
    · simp [hi]
  · simp [hij]
theorem ph_w_push (b : Nat) (cy : Nat → ClassId) (h : PH) (c : PC) : ph_w b cy (h ++ [c]) = ph_w b cy h ++ [(b + h.length, ph_e b cy c)] := by
  simp [ph_w, List.mapIdx_append]
theorem ph_D {A : Nat → Prop} {b : Nat} {cy : Nat → ClassId} {h : PH} (hA : ∀ i, i < h.length → A (b + i)) : va_D A (ph_w b cy h) := by
  have key : ∀ (k : Nat) (q : Nat × va_E), (ph_w b cy h)[k]? = some q → q.1 = b + k ∧ k < h.length := by
    intro k q hk
    rw [ph_w_at] at hk
    cases hc : h[k]? with
    | none => rw [hc] at hk; cases hk
    | some c =>
      rw [hc] at hk
      have e := Option.some.inj hk
      subst e
      exact ⟨rfl, (List.getElem?_eq_some_iff.mp hc).1⟩
  refine ⟨fun i j x y hi hj hxy => ?_, fun k q hk => ?_⟩
  · have e1 := (key i x hi).1
    have e2 := (key j y hj).1
    omega
  · rw [(key k q hk).1]
    exact hA k (key k q hk).2
-- what lies outside the pure heap and never changes: the ways of a game, the language's text, what strings and throws ask for
def ph_gw (j : Nat) : Int32 := [4, 0, 1, 2, 3].getD j 0
def ph_lang : List Int32 := [115, 101, 97, 32, 32, 32, 112, 101, 97, 107, 32, 32, 115, 117, 114, 102, 101, 114, 115, 101, 116, 32, 32, 32, 98, 97, 110, 107, 32, 32, 114, 117, 108, 101, 32, 32, 115, 101, 101, 100, 32, 32, 108, 97, 119, 32, 32, 32, 100, 101, 101, 112, 32, 32, 116, 117, 114, 110, 115, 32, 101, 97, 99, 104, 32, 32, 111, 117, 116, 32, 32, 32, 99, 97, 116, 99, 104, 32, 100, 114, 105, 102, 116, 32, 97, 119, 97, 121, 32, 32, 110, 111, 116, 32, 32, 32, 97, 110, 100, 32, 32, 32, 111, 114, 32, 32, 32, 32, 102, 97, 114, 32, 32, 32, 115, 105, 100, 101, 32, 32, 98, 111, 97, 114, 100, 32, 115, 105, 122, 101, 32, 32, 109, 105, 110, 117, 116, 101, 119, 104, 105, 99, 104, 32]
def ph_E1 : String := "java/lang/IndexOutOfBoundsException"
def ph_E2 : String := "java/util/NoSuchElementException"
def ph_X (cy : Nat → ClassId) (A : Nat → Prop) (U : State) : Prop :=
  va_AO "WhoseWave$Law" U ∧ (∃ t : Nat, va_Z "WhoseWave" "GAME_WAYS" "[I" (.ref t) A U U.heap ∧ va_T .int t 5 (fun j => .int (ph_gw j)) A U U.heap) ∧
  (vk_R "WhoseWave$Tokens" 19 "sea   peak  surferset   bank  rule  seed  law   deep  turns each  out   catch drift away  not   and   or    far   side  board size  minutewhich " (cy 100) U ∧ vk_S 1 [144] [ph_lang] (fun _ => cy 100) (fun _ => cy 101) A U U.heap) ∧
  va_Z "java/lang/String" "COMPACT_STRINGS" "Z" (.int 1) A U U.heap ∧ va_Zq "jdk/internal/util/Preconditions" "SIOOBE_FORMATTER" "Ljava/util/function/BiFunction;" A U U.heap ∧
  vx_Zq Bundle.tN "UNASSIGNED_STACK" Bundle.steD A U U.heap ∧ vx_Zq Bundle.tN "SUPPRESSED_SENTINEL" Bundle.listD A U U.heap ∧ va_Nw (.castable ph_E1 ph_E1) U ∧ va_Nw (.castable ph_E2 ph_E2) U ∧ va_Nw (.fieldLinkNest RX0 84 "WhoseWave" "GAME_WAYS" "[I" "WhoseWave") U
theorem ph_X_move {cy : Nat → ClassId} {A : Nat → Prop} {s U : State} {H : Heap} {locs : List Loc} (h : ph_X cy A s) (hS : va_S A s.heap H locs) (hU : U.heap = H) (hW : s.WarmedH U.vm) : ph_X cy A U := by
  obtain ⟨h1, ⟨t, h2, h3⟩, ⟨h4, h5⟩, h6, h7, h8, h9, h10, h11, h12⟩ := h
  have hq : ∀ a : Nat, a < s.heap.size → ¬ A a → U.heap[a]? = s.heap[a]? := by rw [hU]; exact hS.2.1
  exact ⟨h1.moved hW.alike, ⟨t, (h2.kept hq).moved hW.alike, (h3.kept hq).moved hW.alike⟩, ⟨h4.warm hW, (h5.kept hq).moved hW.alike⟩, (h6.kept hq).moved hW.alike, (h7.kept hq).moved hW.alike, (h8.kept hq).moved hW.alike, (h9.kept hq).moved hW.alike, h10.warmC hW, h11.warmC hW, h12.warmF hW⟩
def ph_I (D : va_G) (cy : Nat → ClassId) (b : Nat) (A : Nat → Prop) (fl : Bool) (h : PH) (s : State) (H : Heap) (locs : List Loc) : Prop :=
  va_P D ph_cl (ph_w b cy h) H ∧ va_K D ph_cl (ph_t cy) s ∧ va_S A s.heap H locs ∧ (∀ i, i < h.length → A (b + i)) ∧ (fl = true → H.size = b + h.length) ∧ ph_X cy A s
def ph_B (D : va_G) (cy : Nat → ClassId) (b : Nat) (A : Nat → Prop) (fl : Bool) (h : PH) (U : State) : Prop :=
  va_P D ph_cl (ph_w b cy h) U.heap ∧ va_K D ph_cl (ph_t cy) U ∧ (∀ i, i < h.length → A (b + i)) ∧ (fl = true → U.heap.size = b + h.length) ∧ ph_X cy A U
theorem ob {α β : Type} {x : Option α} {k : α → Option β} {y : β} (h : x.bind k = some y) : ∃ v, x = some v ∧ k v = some y := by
  cases x with
  | none => cases h
  | some v => exact ⟨v, rfl, h⟩
theorem gd {α : Type} {c : Bool} {x : Option α} {y : α} (h : (cond c x none) = some y) : c = true ∧ x = some y := by
  cases c with
  | false => cases h
  | true => exact ⟨rfl, h⟩
-- the pure instructions
def okO (h : PH) (a ci : Nat) : Bool := match h[a]? with
  | some (.inr (c, _)) => c == ci
  | _ => false
def gV (h : PH) (a ci k : Nat) : Option PV := match h[a]? with
  | some (.inr (c, fs)) => if c = ci then fs[k]? else none
  | _ => none
def gI (h : PH) (a ci k : Nat) : Option Int32 := match gV h a ci k with
  | some (.inl v) => some v
  | _ => none
def gJ (h : PH) (a ci k : Nat) : Option Int64 := match gV h a ci k with
  | some (.inr (.inl v)) => some v
  | _ => none
def gR (h : PH) (a ci k : Nat) : Option Nat := match gV h a ci k with
  | some (.inr (.inr (some r))) => some r
  | _ => none
def pV (h : PH) (a ci k : Nat) (v : PV) : Option PH := match h[a]? with
  | some (.inr (c, fs)) => if c = ci ∧ k < fs.length then some (h.set a (.inr (c, fs.set k v))) else none
  | _ => none
def pI (h : PH) (a ci k : Nat) (v : Int32) : Option PH := pV h a ci k (.inl v)
def pZ (h : PH) (a ci k : Nat) (v : Int32) : Option PH := if v = 0 ∨ v = 1 then pV h a ci k (.inl v) else none
def pJ (h : PH) (a ci k : Nat) (v : Int64) : Option PH := pV h a ci k (.inr (.inl v))
def pR (h : PH) (a ci k : Nat) (r : Nat) : Option PH := pV h a ci k (.inr (.inr (some r)))
def aI (h : PH) (a t : Nat) (i : Int32) : Option Int32 := match h[a]? with
  | some (.inl (t', n, .inl f)) => if t' = t ∧ ¬ (i < 0 ∨ n ≤ i.toNatClampNeg) then some (f i.toNatClampNeg) else none
  | _ => none
def sI (h : PH) (a t : Nat) (i x : Int32) : Option PH := match h[a]? with
  | some (.inl (t', n, .inl f)) => if t' = t ∧ ¬ (i < 0 ∨ n ≤ i.toNatClampNeg) then some (h.set a (.inl (t', n, .inl (upd f i.toNatClampNeg x)))) else none
  | _ => none
def aJ (h : PH) (a : Nat) (i : Int32) : Option Int64 := match h[a]? with
  | some (.inl (t', n, .inr (.inl f))) => if t' = 3 ∧ ¬ (i < 0 ∨ n ≤ i.toNatClampNeg) then some (f i.toNatClampNeg) else none
  | _ => none
def sJ (h : PH) (a : Nat) (i : Int32) (x : Int64) : Option PH := match h[a]? with
  | some (.inl (t', n, .inr (.inl f))) => if t' = 3 ∧ ¬ (i < 0 ∨ n ≤ i.toNatClampNeg) then some (h.set a (.inl (t', n, .inr (.inl (vp_updL f i.toNatClampNeg x))))) else none
  | _ => none
def aR (h : PH) (a : Nat) (i : Int32) : Option Nat := match h[a]? with
  | some (.inl (t', n, .inr (.inr (.inr (.inr f))))) => if t' = 4 ∧ ¬ (i < 0 ∨ n ≤ i.toNatClampNeg) then f i.toNatClampNeg else none
  | _ => none
def sR (h : PH) (a : Nat) (i : Int32) (r : Nat) : Option PH := match h[a]? with
  | some (.inl (t', n, .inr (.inr (.inr (.inr f))))) => if t' = 4 ∧ ¬ (i < 0 ∨ n ≤ i.toNatClampNeg) ∧ okO h r 2 = true then some (h.set a (.inl (t', n, .inr (.inr (.inr (.inr (va_up f i.toNatClampNeg (some r)))))))) else none
  | _ => none
def aL (h : PH) (a : Nat) : Option Int32 := match h[a]? with
  | some (.inl (t, n, _)) => if t < 5 then some (Int32.ofNat n) else none
  | _ => none
def cpI (h : PH) (a0 : Nat) (sp : Int32) (a1 : Nat) (dp n : Int32) : Option PH := match h[a0]?, h[a1]? with
  | some (.inl (t0, n0, .inl f)), some (.inl (t1, n1, .inl g)) => if t0 = 0 ∧ t1 = 0 ∧ ¬ sp < 0 ∧ ¬ dp < 0 ∧ ¬ n < 0 ∧ sp.toNatClampNeg + n.toNatClampNeg ≤ n0 ∧ dp.toNatClampNeg + n.toNatClampNeg ≤ n1 then some (h.set a1 (.inl (t1, n1, .inl (va_cpy f g sp.toNatClampNeg dp.toNatClampNeg n.toNatClampNeg)))) else none
  | _, _ => none
def zI (t n : Nat) : PC := .inl (t, n, .inl (fun _ => 0))
def zJ (n : Nat) : PC := .inl (3, n, .inr (.inl (fun _ => 0)))
def zR (n : Nat) : PC := .inl (4, n, .inr (.inr (.inr (.inr (fun _ => none)))))
def nC (h : PH) (c : PC) : Option PH := some (h ++ [c])
def rz (v : Int32) (h : PH) : Option (Int32 × PH) := if v = 0 ∨ v = 1 then some (v, h) else none
theorem okO_spec {h : PH} {a ci : Nat} (e : okO h a ci = true) : ∃ fs, h[a]? = some (.inr (ci, fs)) := by
  unfold okO at e
  split at e
  · rename_i c fs hc
    have : c = ci := by simpa using e
    exact ⟨fs, by rw [hc, this]⟩
  · cases e
theorem gV_spec {h : PH} {a ci k : Nat} {v : PV} (e : gV h a ci k = some v) : ∃ fs, h[a]? = some (.inr (ci, fs)) ∧ fs[k]? = some v := by
  unfold gV at e
  split at e
  · rename_i c fs hc
    split at e
    · rename_i hci
      subst hci
      exact ⟨fs, hc, e⟩
    · cases e
  · cases e
theorem gI_spec {h : PH} {a ci k : Nat} {v : Int32} (e : gI h a ci k = some v) : gV h a ci k = some (.inl v) := by
  unfold gI at e
  split at e
  · rename_i w hw
    rw [hw, Option.some.inj e]
  · cases e
theorem gJ_spec {h : PH} {a ci k : Nat} {v : Int64} (e : gJ h a ci k = some v) : gV h a ci k = some (.inr (.inl v)) := by
  unfold gJ at e
  split at e
  · rename_i w hw
    rw [hw, Option.some.inj e]
  · cases e
theorem gR_spec {h : PH} {a ci k : Nat} {v : Nat} (e : gR h a ci k = some v) : gV h a ci k = some (.inr (.inr (some v))) := by
  unfold gR at e
  split at e
  · rename_i w hw
    rw [hw, Option.some.inj e]
  · cases e
theorem pV_spec {h h' : PH} {a ci k : Nat} {v : PV} (e : pV h a ci k v = some h') : ∃ fs, h[a]? = some (.inr (ci, fs)) ∧ k < fs.length ∧ h' = h.set a (.inr (ci, fs.set k v)) := by
  unfold pV at e
  split at e
  · rename_i c fs hc
    split at e
    · rename_i hci
      obtain ⟨rfl, hk⟩ := hci
      exact ⟨fs, hc, hk, (Option.some.inj e).symm⟩
    · cases e
  · cases e
theorem aI_spec {h : PH} {a t : Nat} {i v : Int32} (e : aI h a t i = some v) : ∃ n f, h[a]? = some (.inl (t, n, .inl f)) ∧ vp_in i n ∧ v = f i.toNatClampNeg := by
  unfold aI at e
  split at e
  · rename_i t' n f hc
    split at e
    · rename_i hci
      obtain ⟨rfl, hk⟩ := hci
      exact ⟨n, f, hc, hk, (Option.some.inj e).symm⟩
    · cases e
  · cases e
theorem sI_spec {h h' : PH} {a t : Nat} {i x : Int32} (e : sI h a t i x = some h') : ∃ n f, h[a]? = some (.inl (t, n, .inl f)) ∧ vp_in i n ∧ h' = h.set a (.inl (t, n, .inl (upd f i.toNatClampNeg x))) := by
  unfold sI at e
  split at e
  · rename_i t' n f hc
    split at e
    · rename_i hci
      obtain ⟨rfl, hk⟩ := hci
      exact ⟨n, f, hc, hk, (Option.some.inj e).symm⟩
    · cases e
  · cases e
theorem aJ_spec {h : PH} {a : Nat} {i : Int32} {v : Int64} (e : aJ h a i = some v) : ∃ n f, h[a]? = some (.inl (3, n, .inr (.inl f))) ∧ vp_in i n ∧ v = f i.toNatClampNeg := by
  unfold aJ at e
  split at e
  · rename_i t' n f hc
    split at e
    · rename_i hci
      obtain ⟨rfl, hk⟩ := hci
      exact ⟨n, f, hc, hk, (Option.some.inj e).symm⟩
    · cases e
  · cases e
theorem sJ_spec {h h' : PH} {a : Nat} {i : Int32} {x : Int64} (e : sJ h a i x = some h') : ∃ n f, h[a]? = some (.inl (3, n, .inr (.inl f))) ∧ vp_in i n ∧ h' = h.set a (.inl (3, n, .inr (.inl (vp_updL f i.toNatClampNeg x)))) := by
  unfold sJ at e
  split at e
  · rename_i t' n f hc
    split at e
    · rename_i hci
      obtain ⟨rfl, hk⟩ := hci
      exact ⟨n, f, hc, hk, (Option.some.inj e).symm⟩
    · cases e
  · cases e
theorem aR_spec {h : PH} {a : Nat} {i : Int32} {v : Nat} (e : aR h a i = some v) : ∃ n f, h[a]? = some (.inl (4, n, .inr (.inr (.inr (.inr f))))) ∧ vp_in i n ∧ f i.toNatClampNeg = some v := by
  unfold aR at e
  split at e
  · rename_i t' n f hc
    split at e
    · rename_i hci
      obtain ⟨rfl, hk⟩ := hci
      exact ⟨n, f, hc, hk, e⟩
    · cases e
  · cases e
theorem sR_spec {h h' : PH} {a : Nat} {i : Int32} {r : Nat} (e : sR h a i r = some h') : ∃ n f, h[a]? = some (.inl (4, n, .inr (.inr (.inr (.inr f))))) ∧ vp_in i n ∧ okO h r 2 = true ∧ h' = h.set a (.inl (4, n, .inr (.inr (.inr (.inr (va_up f i.toNatClampNeg (some r))))))) := by
  unfold sR at e
  split at e
  · rename_i t' n f hc
    split at e
    · rename_i hci
      obtain ⟨rfl, hk, ho⟩ := hci
      exact ⟨n, f, hc, hk, ho, (Option.some.inj e).symm⟩
    · cases e
  · cases e
theorem aL_spec {h : PH} {a : Nat} {v : Int32} (e : aL h a = some v) : ∃ t n g, h[a]? = some (.inl (t, n, g)) ∧ t < 5 ∧ Int32.ofNat n = v := by
  unfold aL at e
  split at e
  · rename_i t n g hc
    split at e
    · rename_i hci
      exact ⟨t, n, g, hc, hci, Option.some.inj e⟩
    · cases e
  · cases e
theorem cpI_spec {h h' : PH} {a0 a1 : Nat} {sp dp n : Int32} (e : cpI h a0 sp a1 dp n = some h') : ∃ n0 f n1 g, h[a0]? = some (.inl (0, n0, .inl f)) ∧ h[a1]? = some (.inl (0, n1, .inl g)) ∧ (¬ sp < 0 ∧ ¬ dp < 0 ∧ ¬ n < 0 ∧ sp.toNatClampNeg + n.toNatClampNeg ≤ n0 ∧ dp.toNatClampNeg + n.toNatClampNeg ≤ n1) ∧ h' = h.set a1 (.inl (0, n1, .inl (va_cpy f g sp.toNatClampNeg dp.toNatClampNeg n.toNatClampNeg))) := by
  unfold cpI at e
  split at e
  · rename_i t0 n0 f t1 n1 g hc0 hc1
    split at e
    · rename_i hci
      obtain ⟨rfl, rfl, hk⟩ := hci
      exact ⟨n0, f, n1, g, hc0, hc1, hk, (Option.some.inj e).symm⟩
    · cases e
  · cases e
/-! Rows of the program that the pure functions read. -/
def gwA (i : Int32) : Option Int32 := if i < 0 ∨ 5 ≤ i.toNatClampNeg then none else some (ph_gw i.toNatClampNeg)
def chV (k : Nat) : Int32 := ((ph_lang.getD k 0 &&& 255).toUInt32 % 65536).toInt32
def chA (i : Int32) : Option Int32 := if i < 0 ∨ 144 ≤ i.toNatClampNeg then none else some (chV i.toNatClampNeg)
def zF0 : List PV := [.inr (.inr none), .inr (.inr none), .inr (.inr none), .inr (.inr none), .inr (.inr none), .inr (.inr none), .inl 0, .inr (.inr none), .inr (.inr none), .inr (.inr none), .inr (.inr none), .inl 0, .inl 0]
def zF1 : List PV := [.inl 0, .inr (.inr none), .inr (.inr none), .inr (.inr none), .inr (.inr none), .inr (.inr none), .inr (.inr none)]
def zF2 : List PV := [.inr (.inr none), .inl 0, .inl 0]
def zF3 : List PV := [.inl 0, .inl 0, .inr (.inr none), .inr (.inr none), .inr (.inr none), .inr (.inr none), .inr (.inr none)]
def zF4 : List PV := [.inl 0, .inl 0, .inl 0, .inl 0, .inl 0, .inr (.inr none), .inr (.inr none), .inr (.inr none), .inr (.inr none), .inr (.inr none), .inr (.inr none)]
def zF5 : List PV := [.inr (.inr none), .inr (.inr none), .inl 0, .inl 0, .inl 0, .inl 0, .inl 0, .inl 0, .inl 0, .inl 0, .inr (.inr none)]
def zF6 : List PV := [.inr (.inr none), .inr (.inr none), .inr (.inr none), .inr (.inr none), .inr (.inr none), .inr (.inr none), .inr (.inr none), .inr (.inr none), .inr (.inr none)]
def zF7 : List PV := [.inr (.inr none), .inr (.inr none), .inl 0, .inl 0, .inl 0, .inl 0, .inl 0]
def zF8 : List PV := [.inl 0, .inl 0, .inl 0, .inl 0, .inr (.inr none), .inr (.inr none), .inl 0, .inl 0, .inl 0, .inl 0, .inl 0, .inr (.inr none), .inl 0, .inl 0]
def zF9 : List PV := [.inl 0, .inr (.inr none), .inr (.inr none)]
def zF10 : List PV := [.inl 0, .inl 0, .inr (.inr none), .inr (.inr none), .inr (.inr none), .inr (.inr none), .inr (.inr none), .inr (.inr none)]
def zF11 : List PV := [.inr (.inr none), .inl 0, .inr (.inr none), .inr (.inr none), .inr (.inr none), .inr (.inr none), .inr (.inr none), .inr (.inr none), .inr (.inr none), .inr (.inr none), .inl 0, .inr (.inr none), .inr (.inr none), .inr (.inr none)]
def zF12 : List PV := [.inr (.inr none), .inl 0, .inl 0, .inr (.inr none), .inl 0, .inl 0, .inl 0, .inl 0, .inl 0, .inl 0, .inl 0, .inl 0, .inl 0, .inl 0, .inl 0, .inl 0, .inl 0, .inl 0, .inl 0, .inl 0, .inl 0, .inl 0, .inl 0, .inl 0, .inl 0, .inr (.inr none), .inr (.inr none), .inr (.inr none), .inr (.inr none), .inr (.inr none), .inr (.inr none), .inr (.inr none), .inr (.inr none), .inr (.inr none), .inr (.inr none), .inr (.inr none), .inr (.inr none), .inr (.inr none), .inr (.inr none), .inr (.inr none), .inr (.inr none), .inr (.inr none), .inr (.inr none), .inl 0, .inr (.inr none), .inr (.inr none), .inl 0, .inl 0, .inl 0, .inl 0, .inl 0, .inl 0, .inr (.inr none), .inr (.inr none), .inl 0, .inr (.inr none), .inr (.inr none), .inr (.inr none), .inr (.inr none), .inr (.inr none), .inr (.inr none), .inr (.inr none), .inr (.inr none), .inr (.inr none), .inl 0, .inr (.inl 0), .inl 0, .inl 0, .inr (.inr none), .inl 0, .inr (.inr none), .inr (.inr none), .inr (.inr none), .inr (.inr none), .inl 0, .inl 0, .inr (.inr none), .inr (.inr none), .inl 0, .inr (.inr none), .inl 0, .inr (.inr none), .inl 0, .inl 0, .inl 0, .inl 0, .inr (.inl 0)]
/-! The pure functions of the methods (written by wip/gen/gen.py, split.py). -/
def F0_isRest_66 (k26 : PH → Nat → Int32 → Int32 → Int32 → Option (Int32 × PH)) (h : PH) (a0 : Nat) (x1 : Int32) (x2 : Int32) (x3 : Int32) : Option (Int32 × PH) := (gR h a0 0 0).bind fun r1 => (aI h r1 0 (5 + x3)).bind fun v4 => if v4 = (-1) then (k26 h a0 x1 x2 (x3 + 1)) else ((gR h a0 0 4).bind fun r6 => (aI h r6 0 ((x1 * 5) + x3)).bind fun v9 => (gR h a0 0 4).bind fun r10 => (aI h r10 0 ((x1 * 5) + x2)).bind fun v13 => if v9 ≤ v13 then (k26 h a0 x1 x2 (x3 + 1)) else (rz 0 h))
def F0_isRest_26  : Nat → PH → Nat → Int32 → Int32 → Int32 → Option (Int32 × PH)
  | 0, _, _, _, _, _ => none
  | n + 1, h, a0, x1, x2, x3 => if 5 ≤ x3 then (rz 1 h) else ((gR h a0 0 0).bind fun r2 => (aI h r2 0 x3).bind fun v5 => if v5 = (-1) then (F0_isRest_66 (fun h a0 x1 x2 x3 => F0_isRest_26  n h a0 x1 x2 x3) h a0 x1 x2 x3) else ((gR h a0 0 3).bind fun r7 => (aI h r7 0 ((x3 * 5) + x2)).bind fun v10 => (gR h a0 0 3).bind fun r11 => (aI h r11 0 ((x1 * 5) + x2)).bind fun v14 => if v10 ≤ v14 then (F0_isRest_66 (fun h a0 x1 x2 x3 => F0_isRest_26  n h a0 x1 x2 x3) h a0 x1 x2 x3) else (rz 0 h)))
def F0_isRest_0  (h : PH) (a0 : Nat) (x1 : Int32) (x2 : Int32) : Option (Int32 × PH) := (gR h a0 0 0).bind fun r1 => (aI h r1 0 x1).bind fun v4 => if v4 = (-1) then (rz 0 h) else ((gR h a0 0 0).bind fun r6 => (aI h r6 0 (5 + x2)).bind fun v9 => if v9 = (-1) then (rz 0 h) else (F0_isRest_26  1024 h a0 x1 x2 0))
def F0_isRest (h : PH) (a0 : Nat) (x1 : Int32) (x2 : Int32) : Option (Int32 × PH) := cond (okO h a0 0) (F0_isRest_0 h a0 x1 x2) none
def F0_findRests_14 (k7 : PH → Nat → Int32 → Option (PH)) : Nat → PH → Nat → Int32 → Int32 → Option (PH)
  | 0, _, _, _, _ => none
  | n + 1, h, a0, x1, x2 => if 5 ≤ x2 then (k7 h a0 (x1 + 1)) else ((F0_isRest h a0 x1 x2).bind fun o2 => if o2.1 = 0 then (F0_findRests_14 k7 n o2.2 a0 x1 (x2 + 1)) else ((gR o2.2 a0 0 5).bind fun r5 => (gI o2.2 a0 0 6).bind fun v7 => (gwA x1).bind fun v12 => (gwA x2).bind fun v16 => (sI o2.2 r5 0 v7 ((10 * v12) + v16)).bind fun h18 => (gI h18 a0 0 6).bind fun v19 => (pI h18 a0 0 6 (v19 + 1)).bind fun h21 => F0_findRests_14 k7 n h21 a0 x1 (x2 + 1)))
def F0_findRests_7  : Nat → PH → Nat → Int32 → Option (PH)
  | 0, _, _, _ => none
  | n + 1, h, a0, x1 => if 5 ≤ x1 then (some h) else (F0_findRests_14 (fun h a0 x1 => F0_findRests_7  n h a0 x1) 1024 h a0 x1 0)
def F0_findRests_0  (h : PH) (a0 : Nat) : Option (PH) := (pI h a0 0 6 0).bind fun h1 => F0_findRests_7  1024 h1 a0 0
def F0_findRests (h : PH) (a0 : Nat) : Option (PH) := cond (okO h a0 0) (F0_findRests_0 h a0) none
def F0_listPlan_10  : Nat → PH → Nat → Int32 → Int32 → Int32 → Option (PH)
  | 0, _, _, _, _, _ => none
  | n + 1, h, a0, x2, x3, x4 => if x2 ≤ x4 then (some h) else (if x4 < x3 then (F0_listPlan_10  n h a0 x2 x3 (x4 + 1)) else ((gR h a0 0 9).bind fun r3 => (aI h r3 2 x4).bind fun v6 => if v6 = 0 then (F0_listPlan_10  n h a0 x2 x3 (x4 + 1)) else ((gR h a0 0 10).bind fun r8 => (gI h a0 0 11).bind fun v10 => (sI h r8 0 v10 x4).bind fun h13 => (gI h13 a0 0 11).bind fun v14 => (pI h13 a0 0 11 (v14 + 1)).bind fun h16 => (gR h16 a0 0 8).bind fun r18 => (aI h16 r18 0 x4).bind fun v21 => F0_listPlan_10  n h16 a0 x2 v21 (x4 + 1))))
def F0_listPlan_0  (h : PH) (a0 : Nat) (x1 : Int32) (x2 : Int32) : Option (PH) := (pI h a0 0 11 0).bind fun h1 => F0_listPlan_10  1024 h1 a0 x2 x1 x1
def F0_listPlan (h : PH) (a0 : Nat) (x1 : Int32) (x2 : Int32) : Option (PH) := cond (okO h a0 0) (F0_listPlan_0 h a0 x1 x2) none
def F10_firstFrom_2  : Nat → PH → Nat → Int32 → Int32 → Option (Int32 × PH)
  | 0, _, _, _, _ => none
  | n + 1, h, a0, x1, x2 => (gI h a0 10 1).bind fun v1 => if v1 ≤ x2 then ((gI h a0 10 1).bind fun v4 => some (v4, h)) else ((gR h a0 10 4).bind fun r6 => (aI h r6 0 x2).bind fun v9 => if v9 < x1 then (F10_firstFrom_2  n h a0 x1 (x2 + 1)) else (some (x2, h)))
def F10_firstFrom_0  (h : PH) (a0 : Nat) (x1 : Int32) : Option (Int32 × PH) := F10_firstFrom_2  1024 h a0 x1 0
def F10_firstFrom (h : PH) (a0 : Nat) (x1 : Int32) : Option (Int32 × PH) := cond (okO h a0 10) (F10_firstFrom_0 h a0 x1) none
def F6_nameAway_0  (h : PH) (a0 : Nat) (x1 : Int32) (x2 : Int32) : Option (PH) := (gR h a0 6 4).bind fun r1 => (sJ h r1 0 (0 : Int64)).bind fun h4 => (gR h4 a0 6 4).bind fun r5 => (sJ h4 r5 1 (0 : Int64)).bind fun h8 => (gR h8 a0 6 4).bind fun r9 => (gR h8 a0 6 1).bind fun r11 => (aI h8 r11 0 x1).bind fun v14 => (sJ h8 r9 2 (Int32.toInt64 v14)).bind fun h16 => (gR h16 a0 6 4).bind fun r17 => (gR h16 a0 6 0).bind fun r19 => (gR h16 r19 8 5).bind fun r21 => (gR h16 r21 10 5).bind fun r23 => (aI h16 r23 0 x2).bind fun v26 => (sJ h16 r17 3 (Int32.toInt64 v26)).bind fun h28 => (gR h28 a0 6 4).bind fun r29 => (gR h28 a0 6 0).bind fun r31 => (gR h28 r31 8 5).bind fun r33 => (gR h28 r33 10 4).bind fun r35 => (aI h28 r35 0 x2).bind fun v38 => (sJ h28 r29 4 (Int32.toInt64 v38)).bind fun h40 => (gR h40 a0 6 4).bind fun r41 => (gR h40 a0 6 0).bind fun r43 => (gR h40 r43 8 5).bind fun r45 => (gR h40 r45 10 7).bind fun r47 => (aI h40 r47 0 x2).bind fun v50 => (sJ h40 r41 5 (Int32.toInt64 v50)).bind fun h52 => some h52
def F6_nameAway (h : PH) (a0 : Nat) (x1 : Int32) (x2 : Int32) : Option (PH) := cond (okO h a0 6) (F6_nameAway_0 h a0 x1 x2) none
def F2_oneIf_0  (h : PH) (x0 : Int32) : Option (Int64 × PH) := if x0 = 0 then (some ((0 : Int64), h)) else (some ((1 : Int64), h))
def F2_oneIf (h : PH) (x0 : Int32) : Option (Int64 × PH) := F2_oneIf_0 h x0
def F2_product_26  (h : PH) (j0 : Int64) (j2 : Int64) (j4 : Int64) (t0 : Int64) : Option (Int64 × PH) := if (lg_cmp t0 (0 : Int64)) ≤ 0 then (some ((j0 * j2), h)) else (if t0 = 0 then none else if (lg_cmp j4 ((1000000000000 : Int64) / t0)) ≤ 0 then (some ((j0 * j2), h)) else (some ((-9223372036854775808 : Int64), h)))
def F2_product_12  (h : PH) (j0 : Int64) (j2 : Int64) (t0 : Int64) : Option (Int64 × PH) := if 0 ≤ (lg_cmp j2 (0 : Int64)) then (F2_product_26  h j0 j2 t0 j2) else (F2_product_26  h j0 j2 t0 (-j2))
def F2_product_0  (h : PH) (j0 : Int64) (j2 : Int64) : Option (Int64 × PH) := if 0 ≤ (lg_cmp j0 (0 : Int64)) then (F2_product_12  h j0 j2 j0) else (F2_product_12  h j0 j2 (-j0))
def F2_product (h : PH) (j0 : Int64) (j2 : Int64) : Option (Int64 × PH) := F2_product_0 h j0 j2
def F2_join_134  (h : PH) (s0 : Int32) : Option (Int64 × PH) := (F2_oneIf h s0).bind fun o1 => some (o1.1, o1.2)
def F2_join_133  (h : PH)  : Option (Int64 × PH) := F2_join_134  h 0
def F2_join_113  (h : PH) (s0 : Int32) : Option (Int64 × PH) := (F2_oneIf h s0).bind fun o1 => some (o1.1, o1.2)
def F2_join_108  (h : PH)  : Option (Int64 × PH) := F2_join_113  h 1
def F2_join_149  (h : PH) (s0 : Int32) : Option (Int64 × PH) := (F2_oneIf h s0).bind fun o1 => some (o1.1, o1.2)
def F2_join_164  (h : PH) (s0 : Int32) : Option (Int64 × PH) := (F2_oneIf h s0).bind fun o1 => some (o1.1, o1.2)
def F2_join_179  (h : PH) (s0 : Int32) : Option (Int64 × PH) := (F2_oneIf h s0).bind fun o1 => some (o1.1, o1.2)
def F2_join_194  (h : PH) (s0 : Int32) : Option (Int64 × PH) := (F2_oneIf h s0).bind fun o1 => some (o1.1, o1.2)
def F2_join_209  (h : PH) (s0 : Int32) : Option (Int64 × PH) := (F2_oneIf h s0).bind fun o1 => some (o1.1, o1.2)
def F2_join_224  (h : PH) (s0 : Int32) : Option (Int64 × PH) := (F2_oneIf h s0).bind fun o1 => some (o1.1, o1.2)
def F2_join_0  (h : PH) (x0 : Int32) (j1 : Int64) (j3 : Int64) : Option (Int64 × PH) := if x0 = 16 then (if (lg_cmp j1 (0 : Int64)) = 0 then (F2_join_133  h) else (if (lg_cmp j3 (0 : Int64)) = 0 then (F2_join_133  h) else (F2_join_134  h 1))) else if x0 = 17 then (if (lg_cmp j1 (0 : Int64)) = 0 then (if (lg_cmp j3 (0 : Int64)) = 0 then (F2_join_113  h 0) else (F2_join_108  h)) else (F2_join_108  h)) else if x0 = 26 then (if 0 ≤ (lg_cmp j1 j3) then (F2_join_149  h 0) else (F2_join_149  h 1)) else if x0 = 27 then (if 0 < (lg_cmp j1 j3) then (F2_join_164  h 0) else (F2_join_164  h 1)) else if x0 = 28 then (if (lg_cmp j1 j3) = 0 then (F2_join_179  h 1) else (F2_join_179  h 0)) else if x0 = 29 then (if (lg_cmp j1 j3) = 0 then (F2_join_194  h 0) else (F2_join_194  h 1)) else if x0 = 30 then (if (lg_cmp j1 j3) < 0 then (F2_join_209  h 0) else (F2_join_209  h 1)) else if x0 = 31 then (if (lg_cmp j1 j3) ≤ 0 then (F2_join_224  h 0) else (F2_join_224  h 1)) else if x0 = 32 then (some ((j1 + j3), h)) else if x0 = 33 then (some ((j1 - j3), h)) else if x0 = 34 then ((F2_product h j1 j3).bind fun o22 => some (o22.1, o22.2)) else if x0 = 35 then (if (lg_cmp j3 (0 : Int64)) = 0 then (some ((-9223372036854775808 : Int64), h)) else (if j3 = 0 then none else some ((j1 / j3), h))) else (some ((-9223372036854775808 : Int64), h))
def F2_join (h : PH) (x0 : Int32) (j1 : Int64) (j3 : Int64) : Option (Int64 × PH) := F2_join_0 h x0 j1 j3
def F2_valueFor_177  (h : PH) (a2 : Nat) (x3 : Int32) : Option (Int64 × PH) := if x3 = 1 then ((aJ h a2 0).bind fun w3 => some (w3, h)) else (some ((-9223372036854775808 : Int64), h))
def F2_valueFor_119 (k5 : PH → Nat → Nat → Nat → Int32 → Int32 → Option (Int64 × PH)) (h : PH) (a0 : Nat) (a1 : Nat) (a2 : Nat) (x3 : Int32) (x4 : Int32) (x5 : Int32) : Option (Int64 × PH) := if x3 ≤ 1 then (k5 h a0 a1 a2 x3 (x4 + 1)) else ((aJ h a2 ((x3 + (-1)) - 1)).bind fun w3 => (aJ h a2 (x3 + (-1))).bind fun w5 => (F2_join h x5 w3 w5).bind fun o6 => if 0 < (lg_cmp o6.1 (1000000000000 : Int64)) then (some ((-9223372036854775808 : Int64), o6.2)) else (if 0 ≤ (lg_cmp o6.1 (-1000000000000 : Int64)) then ((sJ o6.2 a2 ((x3 + (-1)) - 1) o6.1).bind fun h11 => k5 h11 a0 a1 a2 (x3 + (-1)) (x4 + 1)) else (some ((-9223372036854775808 : Int64), o6.2))))
def F2_valueFor_115 (k5 : PH → Nat → Nat → Nat → Int32 → Int32 → Option (Int64 × PH)) (h : PH) (a0 : Nat) (a1 : Nat) (a2 : Nat) (x3 : Int32) (x4 : Int32) (t0 : Int64) (s1 : Int32) (u2 : Nat) : Option (Int64 × PH) := (sJ h u2 s1 t0).bind fun h2 => k5 h2 a0 a1 a2 x3 (x4 + 1)
def F2_valueFor_85 (k5 : PH → Nat → Nat → Nat → Int32 → Int32 → Option (Int64 × PH)) (h : PH) (a0 : Nat) (a1 : Nat) (a2 : Nat) (x3 : Int32) (x4 : Int32) (x5 : Int32) : Option (Int64 × PH) := if x5 = 15 then (if x3 ≤ 0 then (F2_valueFor_119 k5 h a0 a1 a2 x3 x4 x5) else ((aJ h a2 (x3 - 1)).bind fun w4 => if (lg_cmp w4 (0 : Int64)) = 0 then (F2_valueFor_115 k5 h a0 a1 a2 x3 x4 (1 : Int64) (x3 - 1) a2) else (F2_valueFor_115 k5 h a0 a1 a2 x3 x4 (0 : Int64) (x3 - 1) a2))) else (F2_valueFor_119 k5 h a0 a1 a2 x3 x4 x5)
def F2_valueFor_5  : Nat → PH → Nat → Nat → Nat → Int32 → Int32 → Option (Int64 × PH)
  | 0, _, _, _, _, _, _ => none
  | n + 1, h, a0, a1, a2, x3, x4 => (gI h a0 2 1).bind fun v1 => if v1 ≤ x4 then (F2_valueFor_177  h a2 x3) else ((aL h a2).bind fun v4 => if v4 ≤ x3 then (F2_valueFor_177  h a2 x3) else ((gR h a0 2 0).bind fun r7 => (aI h r7 0 x4).bind fun v10 => if 0 ≤ (v10 - 10000) then (if (v10 - 10000) < 18 then (F2_valueFor_85 (fun h a0 a1 a2 x3 x4 => F2_valueFor_5  n h a0 a1 a2 x3 x4) h a0 a1 a2 x3 x4 (v10 - 10000)) else (if 24 ≤ (v10 - 10000) then (F2_valueFor_85 (fun h a0 a1 a2 x3 x4 => F2_valueFor_5  n h a0 a1 a2 x3 x4) h a0 a1 a2 x3 x4 (v10 - 10000)) else ((aJ h a1 ((v10 - 10000) - 18)).bind fun w15 => (sJ h a2 x3 w15).bind fun h17 => F2_valueFor_5  n h17 a0 a1 a2 (x3 + 1) (x4 + 1)))) else ((gR h a0 2 0).bind fun r18 => (aI h r18 0 x4).bind fun v21 => (sJ h a2 x3 (Int32.toInt64 v21)).bind fun h23 => F2_valueFor_5  n h23 a0 a1 a2 (x3 + 1) (x4 + 1))))
def F2_valueFor_0  (h : PH) (a0 : Nat) (a1 : Nat) (a2 : Nat) : Option (Int64 × PH) := F2_valueFor_5  1024 h a0 a1 a2 0 0
def F2_valueFor (h : PH) (a0 : Nat) (a1 : Nat) (a2 : Nat) : Option (Int64 × PH) := cond (okO h a0 2) (F2_valueFor_0 h a0 a1 a2) none
def F6_awayFor_0  (h : PH) (a0 : Nat) (x1 : Int32) (x2 : Int32) : Option (Int32 × PH) := (F6_nameAway h a0 x1 x2).bind fun o1 => (gR o1 a0 6 0).bind fun r3 => (gR o1 r3 8 11).bind fun r5 => (aR o1 r5 2).bind fun r8 => (gR o1 a0 6 4).bind fun r9 => (gR o1 a0 6 5).bind fun r11 => (F2_valueFor o1 r8 r9 r11).bind fun o13 => if (lg_cmp o13.1 (-9223372036854775808 : Int64)) = 0 then (some (5, o13.2)) else (some ((Int64.toInt32 (if (if o13.1 < (30 : Int64) then o13.1 else (30 : Int64)) < (1 : Int64) then (1 : Int64) else (if o13.1 < (30 : Int64) then o13.1 else (30 : Int64)))), o13.2))
def F6_awayFor (h : PH) (a0 : Nat) (x1 : Int32) (x2 : Int32) : Option (Int32 × PH) := cond (okO h a0 6) (F6_awayFor_0 h a0 x1 x2) none
def F8_farFrom_0  (h : PH) (a0 : Nat) (x1 : Int32) (x2 : Int32) : Option (Int32 × PH) := (gI h a0 8 0).bind fun v1 => if 1 ≤ v1 then ((gI h a0 8 0).bind fun v4 => if v4 = 0 then none else (gI h a0 8 0).bind fun v7 => if v7 = 0 then none else (gI h a0 8 3).bind fun v10 => some (((if 0 ≤ ((x1 - x1 / v4 * v4) - x2) then ((x1 - x1 / v4 * v4) - x2) else 0 - ((x1 - x1 / v4 * v4) - x2)) + (if 0 ≤ ((x1 / v7) - v10) then ((x1 / v7) - v10) else 0 - ((x1 / v7) - v10))), h)) else (some (0, h))
def F8_farFrom (h : PH) (a0 : Nat) (x1 : Int32) (x2 : Int32) : Option (Int32 × PH) := cond (okO h a0 8) (F8_farFrom_0 h a0 x1 x2) none
def F8_rowOf_0  (h : PH) (a0 : Nat) (x1 : Int32) : Option (Int32 × PH) := (gI h a0 8 0).bind fun v1 => if v1 ≤ 0 then (some (0, h)) else ((gI h a0 8 0).bind fun v4 => if v4 = 0 then none else some ((x1 / v4), h))
def F8_rowOf (h : PH) (a0 : Nat) (x1 : Int32) : Option (Int32 × PH) := cond (okO h a0 8) (F8_rowOf_0 h a0 x1) none
def F6_nameCatch_0  (h : PH) (a0 : Nat) (x1 : Int32) (x2 : Int32) (x3 : Int32) : Option (PH) := (F6_nameAway h a0 x1 x2).bind fun o1 => (gR o1 a0 6 4).bind fun r3 => (gR o1 a0 6 0).bind fun r5 => (gR o1 a0 6 3).bind fun r7 => (aI o1 r7 0 x2).bind fun v10 => (F8_farFrom o1 r5 x3 v10).bind fun o11 => (sJ o11.2 r3 0 (Int32.toInt64 o11.1)).bind fun h14 => (gR h14 a0 6 4).bind fun r15 => (gR h14 a0 6 0).bind fun r17 => (F8_rowOf h14 r17 x3).bind fun o19 => (gR o19.2 a0 6 0).bind fun r21 => (gI o19.2 r21 8 3).bind fun v23 => (sJ o19.2 r15 1 (Int32.toInt64 (o19.1 - v23))).bind fun h26 => some h26
def F6_nameCatch (h : PH) (a0 : Nat) (x1 : Int32) (x2 : Int32) (x3 : Int32) : Option (PH) := cond (okO h a0 6) (F6_nameCatch_0 h a0 x1 x2 x3) none
def F6_farOf_0  (h : PH) (a0 : Nat) (x1 : Int32) (x2 : Int32) : Option (Int32 × PH) := (gR h a0 6 0).bind fun r1 => (gR h a0 6 3).bind fun r3 => (aI h r3 0 x2).bind fun v6 => (F8_farFrom h r1 x1 v6).bind fun o7 => some (o7.1, o7.2)
def F6_farOf (h : PH) (a0 : Nat) (x1 : Int32) (x2 : Int32) : Option (Int32 × PH) := cond (okO h a0 6) (F6_farOf_0 h a0 x1 x2) none
def F6_oddsAt_0  (h : PH) (a0 : Nat) (x1 : Int32) (x2 : Int32) (x3 : Int32) : Option (Int32 × PH) := (F6_nameCatch h a0 x1 x2 x3).bind fun o1 => (gR o1 a0 6 0).bind fun r3 => (gR o1 r3 8 11).bind fun r5 => (aR o1 r5 0).bind fun r8 => (gR o1 a0 6 4).bind fun r9 => (gR o1 a0 6 5).bind fun r11 => (F2_valueFor o1 r8 r9 r11).bind fun o13 => if (lg_cmp o13.1 (-9223372036854775808 : Int64)) = 0 then ((F6_farOf o13.2 a0 x3 x2).bind fun o16 => some ((if 0 < (100 - (20 * o16.1)) then (100 - (20 * o16.1)) else 0), o16.2)) else (some ((Int64.toInt32 (if (if o13.1 < (100 : Int64) then o13.1 else (100 : Int64)) < (0 : Int64) then (0 : Int64) else (if o13.1 < (100 : Int64) then o13.1 else (100 : Int64)))), o13.2))
def F6_oddsAt (h : PH) (a0 : Nat) (x1 : Int32) (x2 : Int32) (x3 : Int32) : Option (Int32 × PH) := cond (okO h a0 6) (F6_oddsAt_0 h a0 x1 x2 x3) none
def F6_worthAt_0  (h : PH) (a0 : Nat) (x1 : Int32) (x2 : Int32) (x3 : Int32) : Option (Int32 × PH) := (F6_oddsAt h a0 x1 x2 x3).bind fun o1 => (gR o1.2 a0 6 0).bind fun r3 => (gR o1.2 r3 8 5).bind fun r5 => (gR o1.2 r5 10 5).bind fun r7 => (aI o1.2 r7 0 x2).bind fun v10 => some ((o1.1 * v10), o1.2)
def F6_worthAt (h : PH) (a0 : Nat) (x1 : Int32) (x2 : Int32) (x3 : Int32) : Option (Int32 × PH) := cond (okO h a0 6) (F6_worthAt_0 h a0 x1 x2 x3) none
def F0_makePlan_128 (k40 : PH → Nat → Nat → Nat → Int32 → Nat → Int32 → Int32 → Option (PH)) (h : PH) (a0 : Nat) (a1 : Nat) (a2 : Nat) (x3 : Int32) (a4 : Nat) (x5 : Int32) (x6 : Int32) (x7 : Int32) (s0 : Int32) (s1 : Int32) (u2 : Nat) : Option (PH) := (sI h u2 2 s1 (vp_nar .boolean s0)).bind fun h2 => (gR h2 a0 0 7).bind fun r3 => (gR h2 a0 0 7).bind fun r5 => (aI h2 r5 0 (x6 + 1)).bind fun v8 => (sI h2 r3 0 x6 (if x7 < v8 then v8 else x7)).bind fun h10 => k40 h10 a0 a1 a2 x3 a4 x5 (x6 + (-1))
def F0_makePlan_40  : Nat → PH → Nat → Nat → Nat → Int32 → Nat → Int32 → Int32 → Option (PH)
  | 0, _, _, _, _, _, _, _, _ => none
  | n + 1, h, a0, a1, a2, x3, a4, x5, x6 => if x6 < x5 then ((gR h a0 0 7).bind fun r2 => (aI h r2 0 x5).bind fun v5 => (pI h a0 0 12 v5).bind fun h6 => (gI h6 a4 10 1).bind fun v8 => (F0_listPlan h6 a0 x5 v8).bind fun o10 => some o10) else ((gR h a0 0 8).bind fun r12 => (gR h a4 10 4).bind fun r14 => (aI h r14 0 x6).bind fun v17 => (F6_awayFor h a1 x3 x6).bind fun o18 => (F10_firstFrom o18.2 a4 (v17 + o18.1)).bind fun o20 => (sI o20.2 r12 0 x6 o20.1).bind fun h23 => (gR h23 a2 4 5).bind fun r24 => (aI h23 r24 0 x3).bind fun v27 => (F6_worthAt h23 a1 x3 x6 v27).bind fun o28 => (gR o28.2 a0 0 7).bind fun r30 => (gR o28.2 a0 0 8).bind fun r32 => (aI o28.2 r32 0 x6).bind fun v35 => (aI o28.2 r30 0 v35).bind fun v37 => (gR o28.2 a0 0 9).bind fun r38 => (gR o28.2 a0 0 7).bind fun r40 => (aI o28.2 r40 0 (x6 + 1)).bind fun v43 => if (o28.1 + v37) < v43 then (F0_makePlan_128 (fun h a0 a1 a2 x3 a4 x5 x6 => F0_makePlan_40  n h a0 a1 a2 x3 a4 x5 x6) o28.2 a0 a1 a2 x3 a4 x5 x6 (o28.1 + v37) 0 x6 r38) else (F0_makePlan_128 (fun h a0 a1 a2 x3 a4 x5 x6 => F0_makePlan_40  n h a0 a1 a2 x3 a4 x5 x6) o28.2 a0 a1 a2 x3 a4 x5 x6 (o28.1 + v37) 1 x6 r38))
def F0_makePlan_0  (h : PH) (a0 : Nat) (a1 : Nat) (a2 : Nat) (x3 : Int32) : Option (PH) := (gR h a1 6 0).bind fun r1 => (gR h r1 8 5).bind fun r3 => (gI h a2 4 0).bind fun v5 => (F10_firstFrom h r3 v5).bind fun o7 => (gR o7.2 a0 0 7).bind fun r9 => (gI o7.2 r3 10 1).bind fun v11 => (sI o7.2 r9 0 v11 0).bind fun h14 => (gI h14 r3 10 1).bind fun v15 => F0_makePlan_40  1024 h14 a0 a1 a2 x3 r3 o7.1 (v15 - 1)
def F0_makePlan (h : PH) (a0 : Nat) (a1 : Nat) (a2 : Nat) (x3 : Int32) : Option (PH) := cond (okO h a0 0) (F0_makePlan_0 h a0 a1 a2 x3) none
def F8_columnOf_0  (h : PH) (a0 : Nat) (x1 : Int32) : Option (Int32 × PH) := (gI h a0 8 0).bind fun v1 => if v1 ≤ 0 then (some (0, h)) else ((gI h a0 8 0).bind fun v4 => if v4 = 0 then none else some ((x1 - x1 / v4 * v4), h))
def F8_columnOf (h : PH) (a0 : Nat) (x1 : Int32) : Option (Int32 × PH) := cond (okO h a0 8) (F8_columnOf_0 h a0 x1) none
def F8_cellBeside_0  (h : PH) (a0 : Nat) (x1 : Int32) (x2 : Int32) : Option (Int32 × PH) := (F8_columnOf h a0 x1).bind fun o1 => (F8_rowOf o1.2 a0 x1).bind fun o3 => if x2 = 0 then (if o3.1 ≤ 0 then (some ((-1), o3.2)) else ((gI o3.2 a0 8 0).bind fun v7 => some ((x1 - v7), o3.2))) else if x2 = 1 then ((gI o3.2 a0 8 0).bind fun v10 => if (v10 - 1) ≤ o1.1 then (some ((-1), o3.2)) else (some ((x1 + 1), o3.2))) else if x2 = 2 then ((gI o3.2 a0 8 1).bind fun v14 => if (v14 - 1) ≤ o3.1 then (some ((-1), o3.2)) else ((gI o3.2 a0 8 0).bind fun v17 => some ((x1 + v17), o3.2))) else if x2 = 3 then (if o1.1 ≤ 0 then (some ((-1), o3.2)) else (some ((x1 - 1), o3.2))) else (some (x1, o3.2))
def F8_cellBeside (h : PH) (a0 : Nat) (x1 : Int32) (x2 : Int32) : Option (Int32 × PH) := cond (okO h a0 8) (F8_cellBeside_0 h a0 x1 x2) none
def F0_weighWays_46 (k3 : PH → Nat → Nat → Nat → Int32 → Int32 → Int32 → Int32 → Option (PH)) : Nat → PH → Nat → Nat → Nat → Int32 → Int32 → Int32 → Int32 → Int32 → Int32 → Option (PH)
  | 0, _, _, _, _, _, _, _, _, _, _ => none
  | n + 1, h, a0, a1, a2, x3, x4, x5, x6, x7, x8 => if x7 = (-1) then (k3 h a0 a1 a2 x3 x4 x5 (x6 + 1)) else ((gR h a1 6 0).bind fun r2 => (gR h r2 8 5).bind fun r4 => (gI h r4 10 1).bind fun v6 => if v6 ≤ x8 then (k3 h a0 a1 a2 x3 x4 x5 (x6 + 1)) else ((gR h a0 0 1).bind fun r9 => (F6_farOf h a1 x7 x8).bind fun o11 => (sI o11.2 r9 0 (((x4 + x6) * 28) + x8) o11.1).bind fun h14 => (gR h14 a0 0 2).bind fun r15 => (F6_worthAt h14 a1 x3 x8 x7).bind fun o17 => (sI o17.2 r15 0 (((x4 + x6) * 28) + x8) o17.1).bind fun h20 => F0_weighWays_46 k3 n h20 a0 a1 a2 x3 x4 x5 x6 x7 (x8 + 1)))
def F0_weighWays_3  : Nat → PH → Nat → Nat → Nat → Int32 → Int32 → Int32 → Int32 → Option (PH)
  | 0, _, _, _, _, _, _, _, _ => none
  | n + 1, h, a0, a1, a2, x3, x4, x5, x6 => if 5 ≤ x6 then (some h) else ((gR h a1 6 0).bind fun r2 => (gR h a2 4 5).bind fun r4 => (aI h r4 0 x3).bind fun v7 => (gwA x6).bind fun v11 => (F8_cellBeside h r2 v7 v11).bind fun o12 => (gR o12.2 a0 0 0).bind fun r14 => (sI o12.2 r14 0 (x4 + x6) o12.1).bind fun h17 => F0_weighWays_46 (fun h a0 a1 a2 x3 x4 x5 x6 => F0_weighWays_3  n h a0 a1 a2 x3 x4 x5 x6) 1024 h17 a0 a1 a2 x3 x4 x5 x6 o12.1 x5)
def F0_weighWays_0  (h : PH) (a0 : Nat) (a1 : Nat) (a2 : Nat) (x3 : Int32) (x4 : Int32) (x5 : Int32) : Option (PH) := F0_weighWays_3  1024 h a0 a1 a2 x3 x4 x5 0
def F0_weighWays (h : PH) (a0 : Nat) (a1 : Nat) (a2 : Nat) (x3 : Int32) (x4 : Int32) (x5 : Int32) : Option (PH) := cond (okO h a0 0) (F0_weighWays_0 h a0 a1 a2 x3 x4 x5) none
def F0_sharePair_75 (k9 : PH → Nat → Int32 → Int32 → Int32 → Int32 → Int32 → Int32 → Int32 → Option (PH)) (h : PH) (a0 : Nat) (x1 : Int32) (x2 : Int32) (x4 : Int32) (x5 : Int32) (x6 : Int32) (x7 : Int32) (x8 : Int32) (x9 : Int32) : Option (PH) := (gR h a0 0 2).bind fun r1 => (aI h r1 0 x9).bind fun v4 => k9 h a0 x1 x2 x4 x5 (x6 + v4) x7 (x8 + 1)
def F0_sharePair_90 (k9 : PH → Nat → Int32 → Int32 → Int32 → Int32 → Int32 → Int32 → Int32 → Option (PH)) (h : PH) (a0 : Nat) (x1 : Int32) (x2 : Int32) (x4 : Int32) (x5 : Int32) (x6 : Int32) (x7 : Int32) (x8 : Int32) (x10 : Int32) : Option (PH) := (gR h a0 0 2).bind fun r1 => (aI h r1 0 x10).bind fun v4 => k9 h a0 x1 x2 x4 x5 x6 (x7 + v4) (x8 + 1)
def F0_sharePair_9  : Nat → PH → Nat → Int32 → Int32 → Int32 → Int32 → Int32 → Int32 → Int32 → Option (PH)
  | 0, _, _, _, _, _, _, _, _, _ => none
  | n + 1, h, a0, x1, x2, x4, x5, x6, x7, x8 => if x4 ≤ x8 then ((gR h a0 0 3).bind fun r2 => (sI h r2 0 ((x1 * 5) + x2) x6).bind fun h5 => (gR h5 a0 0 4).bind fun r6 => (sI h5 r6 0 ((x1 * 5) + x2) x7).bind fun h9 => some h9) else ((gR h a0 0 1).bind fun r10 => (aI h r10 0 ((x1 * 28) + x8)).bind fun v13 => (gR h a0 0 1).bind fun r14 => (aI h r14 0 (((5 + x2) * 28) + x8)).bind fun v17 => if v13 < v17 then (F0_sharePair_75 (fun h a0 x1 x2 x4 x5 x6 x7 x8 => F0_sharePair_9  n h a0 x1 x2 x4 x5 x6 x7 x8) h a0 x1 x2 x4 x5 x6 x7 x8 ((x1 * 28) + x8)) else ((gR h a0 0 1).bind fun r19 => (aI h r19 0 ((x1 * 28) + x8)).bind fun v22 => (gR h a0 0 1).bind fun r23 => (aI h r23 0 (((5 + x2) * 28) + x8)).bind fun v26 => if v22 = v26 then (if x5 = 0 then (F0_sharePair_90 (fun h a0 x1 x2 x4 x5 x6 x7 x8 => F0_sharePair_9  n h a0 x1 x2 x4 x5 x6 x7 x8) h a0 x1 x2 x4 x5 x6 x7 x8 (((5 + x2) * 28) + x8)) else (F0_sharePair_75 (fun h a0 x1 x2 x4 x5 x6 x7 x8 => F0_sharePair_9  n h a0 x1 x2 x4 x5 x6 x7 x8) h a0 x1 x2 x4 x5 x6 x7 x8 ((x1 * 28) + x8))) else (F0_sharePair_90 (fun h a0 x1 x2 x4 x5 x6 x7 x8 => F0_sharePair_9  n h a0 x1 x2 x4 x5 x6 x7 x8) h a0 x1 x2 x4 x5 x6 x7 x8 (((5 + x2) * 28) + x8))))
def F0_sharePair_0  (h : PH) (a0 : Nat) (x1 : Int32) (x2 : Int32) (x3 : Int32) (x4 : Int32) (x5 : Int32) : Option (PH) := F0_sharePair_9  1024 h a0 x1 x2 x4 x5 0 0 x3
def F0_sharePair (h : PH) (a0 : Nat) (x1 : Int32) (x2 : Int32) (x3 : Int32) (x4 : Int32) (x5 : Int32) : Option (PH) := cond (okO h a0 0) (F0_sharePair_0 h a0 x1 x2 x3 x4 x5) none
def F0_playGame_83 (k40 : PH → Nat → Nat → Int32 → Int32 → Int32 → Int32 → Option (PH)) (k49 : PH → Nat → Nat → Int32 → Int32 → Int32 → Int32 → Int32 → Option (PH)) (h : PH) (a0 : Nat) (a1 : Nat) (x3 : Int32) (x4 : Int32) (x5 : Int32) (x6 : Int32) (x7 : Int32) (s0 : Int32) (s1 : Int32) (s2 : Int32) (s3 : Int32) (s4 : Int32) (u5 : Nat) : Option (PH) := (F0_sharePair h u5 s4 s3 s2 s1 s0).bind fun o1 => k49 o1 a0 a1 x3 x4 x5 x6 (x7 + 1)
def F0_playGame_49 (k40 : PH → Nat → Nat → Int32 → Int32 → Int32 → Int32 → Option (PH)) : Nat → PH → Nat → Nat → Int32 → Int32 → Int32 → Int32 → Int32 → Option (PH)
  | 0, _, _, _, _, _, _, _, _ => none
  | n + 1, h, a0, a1, x3, x4, x5, x6, x7 => if 5 ≤ x7 then (k40 h a0 a1 x3 x4 x5 (x6 + 1)) else ((gR h a1 6 0).bind fun r2 => (gR h r2 8 5).bind fun r4 => (gI h r4 10 1).bind fun v6 => if x4 ≤ x3 then (F0_playGame_83 k40 (fun h a0 a1 x3 x4 x5 x6 x7 => F0_playGame_49 k40 n h a0 a1 x3 x4 x5 x6 x7) h a0 a1 x3 x4 x5 x6 x7 0 v6 x5 x7 x6 a0) else (F0_playGame_83 k40 (fun h a0 a1 x3 x4 x5 x6 x7 => F0_playGame_49 k40 n h a0 a1 x3 x4 x5 x6 x7) h a0 a1 x3 x4 x5 x6 x7 1 v6 x5 x7 x6 a0))
def F0_playGame_40  : Nat → PH → Nat → Nat → Int32 → Int32 → Int32 → Int32 → Option (PH)
  | 0, _, _, _, _, _, _, _ => none
  | n + 1, h, a0, a1, x3, x4, x5, x6 => if 5 ≤ x6 then ((F0_findRests h a0).bind fun o2 => some o2) else (F0_playGame_49 (fun h a0 a1 x3 x4 x5 x6 => F0_playGame_40  n h a0 a1 x3 x4 x5 x6) 1024 h a0 a1 x3 x4 x5 x6 0)
def F0_playGame_0  (h : PH) (a0 : Nat) (a1 : Nat) (a2 : Nat) (x3 : Int32) (x4 : Int32) : Option (PH) := (gR h a1 6 0).bind fun r1 => (gR h r1 8 5).bind fun r3 => (gI h a2 4 0).bind fun v5 => (F10_firstFrom h r3 v5).bind fun o7 => (F0_weighWays o7.2 a0 a1 a2 x3 0 o7.1).bind fun o9 => (F0_weighWays o9 a0 a1 a2 x4 5 o7.1).bind fun o11 => F0_playGame_40  1024 o11 a0 a1 x3 x4 o7.1 0
def F0_playGame (h : PH) (a0 : Nat) (a1 : Nat) (a2 : Nat) (x3 : Int32) (x4 : Int32) : Option (PH) := cond (okO h a0 0) (F0_playGame_0 h a0 a1 a2 x3 x4) none
def F1_add_0  (h : PH) (a0 : Nat) (x1 : Int32) (x2 : Int32) (x3 : Int32) (x4 : Int32) (x5 : Int32) (x6 : Int32) : Option (PH) := (gI h a0 1 0).bind fun v1 => if v1 < 5 then ((gR h a0 1 1).bind fun r4 => (gI h a0 1 0).bind fun v6 => (sI h r4 0 v6 x1).bind fun h9 => (gR h9 a0 1 2).bind fun r10 => (gI h9 a0 1 0).bind fun v12 => (sI h9 r10 0 v12 x2).bind fun h15 => (gR h15 a0 1 3).bind fun r16 => (gI h15 a0 1 0).bind fun v18 => (sI h15 r16 0 v18 x3).bind fun h21 => (gR h21 a0 1 4).bind fun r22 => (gI h21 a0 1 0).bind fun v24 => (sI h21 r22 0 v24 x4).bind fun h27 => (gR h27 a0 1 5).bind fun r28 => (gI h27 a0 1 0).bind fun v30 => (sI h27 r28 0 v30 x5).bind fun h33 => (gR h33 a0 1 6).bind fun r34 => (gI h33 a0 1 0).bind fun v36 => (sI h33 r34 0 v36 x6).bind fun h39 => (gI h39 a0 1 0).bind fun v40 => (pI h39 a0 1 0 (v40 + 1)).bind fun h42 => some h42) else (some h)
def F1_add (h : PH) (a0 : Nat) (x1 : Int32) (x2 : Int32) (x3 : Int32) (x4 : Int32) (x5 : Int32) (x6 : Int32) : Option (PH) := cond (okO h a0 1) (F1_add_0 h a0 x1 x2 x3 x4 x5 x6) none
def F1_hasName_2  : Nat → PH → Nat → Int32 → Int32 → Option (Int32 × PH)
  | 0, _, _, _, _ => none
  | n + 1, h, a0, x1, x2 => (gI h a0 1 0).bind fun v1 => if v1 ≤ x2 then (rz 0 h) else ((gR h a0 1 1).bind fun r4 => (aI h r4 0 x2).bind fun v7 => if v7 = x1 then (rz 1 h) else (F1_hasName_2  n h a0 x1 (x2 + 1)))
def F1_hasName_0  (h : PH) (a0 : Nat) (x1 : Int32) : Option (Int32 × PH) := F1_hasName_2  1024 h a0 x1 0
def F1_hasName (h : PH) (a0 : Nat) (x1 : Int32) : Option (Int32 × PH) := cond (okO h a0 1) (F1_hasName_0 h a0 x1) none
def F2_add_0  (h : PH) (a0 : Nat) (x1 : Int32) : Option (PH) := (gI h a0 2 1).bind fun v1 => (gR h a0 2 0).bind fun r3 => (aL h r3).bind fun v5 => if v5 ≤ v1 then (some h) else ((gR h a0 2 0).bind fun r8 => (gI h a0 2 1).bind fun v10 => (sI h r8 0 v10 x1).bind fun h13 => (gI h13 a0 2 1).bind fun v14 => (pI h13 a0 2 1 (v14 + 1)).bind fun h16 => some h16)
def F2_add (h : PH) (a0 : Nat) (x1 : Int32) : Option (PH) := cond (okO h a0 2) (F2_add_0 h a0 x1) none
def F2_forget_0  (h : PH) (a0 : Nat) : Option (PH) := (pI h a0 2 1 0).bind fun h1 => (pZ h1 a0 2 2 0).bind fun h3 => some h3
def F2_forget (h : PH) (a0 : Nat) : Option (PH) := cond (okO h a0 2) (F2_forget_0 h a0) none
def F3_addSeat_0  (h : PH) (a0 : Nat) (x1 : Int32) (x2 : Int32) (x3 : Int32) : Option (Int32 × PH) := (gI h a0 3 0).bind fun v1 => if v1 < 24 then ((gR h a0 3 2).bind fun r4 => (gI h a0 3 0).bind fun v6 => (sI h r4 0 v6 x1).bind fun h9 => (gR h9 a0 3 3).bind fun r10 => (gI h9 a0 3 0).bind fun v12 => (sI h9 r10 0 v12 x2).bind fun h15 => (gR h15 a0 3 4).bind fun r16 => (gI h15 a0 3 0).bind fun v18 => (sI h15 r16 0 v18 x3).bind fun h21 => (gR h21 a0 3 5).bind fun r22 => (gI h21 a0 3 0).bind fun v24 => (sI h21 r22 0 v24 (-1)).bind fun h27 => (gI h27 a0 3 0).bind fun v28 => (pI h27 a0 3 0 (v28 + 1)).bind fun h30 => (gI h30 a0 3 0).bind fun v32 => some ((v32 - 1), h30)) else (some ((-1), h))
def F3_addSeat (h : PH) (a0 : Nat) (x1 : Int32) (x2 : Int32) (x3 : Int32) : Option (Int32 × PH) := cond (okO h a0 3) (F3_addSeat_0 h a0 x1 x2 x3) none
def F3_addStrike_0  (h : PH) (a0 : Nat) (x1 : Int32) : Option (Int32 × PH) := (gI h a0 3 0).bind fun v1 => if v1 < 24 then ((gR h a0 3 3).bind fun r4 => (gI h a0 3 0).bind fun v6 => (sI h r4 0 v6 (-1)).bind fun h9 => (gR h9 a0 3 5).bind fun r10 => (gI h9 a0 3 0).bind fun v12 => (sI h9 r10 0 v12 x1).bind fun h15 => (gI h15 a0 3 0).bind fun v16 => (pI h15 a0 3 0 (v16 + 1)).bind fun h18 => (gI h18 a0 3 0).bind fun v20 => some ((v20 - 1), h18)) else (some ((-1), h))
def F3_addStrike (h : PH) (a0 : Nat) (x1 : Int32) : Option (Int32 × PH) := cond (okO h a0 3) (F3_addStrike_0 h a0 x1) none
def F3_howManyKnown_0  (h : PH) (a0 : Nat) : Option (Int32 × PH) := (gI h a0 3 1).bind fun v1 => if v1 = (-1) then ((gI h a0 3 0).bind fun v6 => some (v6, h)) else ((gI h a0 3 1).bind fun v4 => some (v4, h))
def F3_howManyKnown (h : PH) (a0 : Nat) : Option (Int32 × PH) := cond (okO h a0 3) (F3_howManyKnown_0 h a0) none
def F3_findStruck_29  : Nat → PH → Nat → Int32 → Option (PH)
  | 0, _, _, _ => none
  | n + 1, h, a0, x2 => if x2 < 0 then (some h) else ((gR h a0 3 6).bind fun r2 => (aI h r2 2 x2).bind fun v5 => if v5 = 0 then ((gR h a0 3 5).bind fun r7 => (aI h r7 0 x2).bind fun v10 => if v10 = (-1) then (F3_findStruck_29  n h a0 (x2 + (-1))) else ((gR h a0 3 6).bind fun r12 => (gR h a0 3 5).bind fun r14 => (aI h r14 0 x2).bind fun v17 => (sI h r12 2 v17 (vp_nar .boolean 1)).bind fun h19 => F3_findStruck_29  n h19 a0 (x2 + (-1)))) else (F3_findStruck_29  n h a0 (x2 + (-1))))
def F3_findStruck_7  : Nat → PH → Nat → Int32 → Int32 → Option (PH)
  | 0, _, _, _, _ => none
  | n + 1, h, a0, x1, x2 => if x1 ≤ x2 then (F3_findStruck_29  1024 h a0 (x1 - 1)) else ((gR h a0 3 6).bind fun r2 => (sI h r2 2 x2 (vp_nar .boolean 0)).bind fun h5 => F3_findStruck_7  n h5 a0 x1 (x2 + 1))
def F3_findStruck_0  (h : PH) (a0 : Nat) : Option (PH) := (F3_howManyKnown h a0).bind fun o1 => F3_findStruck_7  1024 o1.2 a0 o1.1 0
def F3_findStruck (h : PH) (a0 : Nat) : Option (PH) := cond (okO h a0 3) (F3_findStruck_0 h a0) none
def F3_isKnownSeat_0  (h : PH) (a0 : Nat) (x1 : Int32) : Option (Int32 × PH) := (gR h a0 3 6).bind fun r1 => (aI h r1 2 x1).bind fun v4 => if v4 = 0 then ((gR h a0 3 5).bind fun r6 => (aI h r6 0 x1).bind fun v9 => if v9 = (-1) then (rz 1 h) else (rz 0 h)) else (rz 0 h)
def F3_isKnownSeat (h : PH) (a0 : Nat) (x1 : Int32) : Option (Int32 × PH) := cond (okO h a0 3) (F3_isKnownSeat_0 h a0 x1) none
def F4_begin_89  : Nat → PH → Nat → Int32 → Option (PH)
  | 0, _, _, _ => none
  | n + 1, h, a0, x2 => if 28 ≤ x2 then (some h) else ((gR h a0 4 10).bind fun r2 => (sI h r2 0 x2 (-2)).bind fun h5 => F4_begin_89  n h5 a0 (x2 + 1))
def F4_begin_33  : Nat → PH → Nat → Nat → Int32 → Option (PH)
  | 0, _, _, _, _ => none
  | n + 1, h, a0, a1, x2 => if 5 ≤ x2 then (F4_begin_89  1024 h a0 0) else ((gR h a0 4 5).bind fun r2 => (gR h a1 8 4).bind fun r4 => (gR h r4 1 2).bind fun r6 => (aI h r6 0 x2).bind fun v9 => (sI h r2 0 x2 v9).bind fun h11 => (gR h11 a0 4 6).bind fun r12 => (sI h11 r12 0 x2 0).bind fun h15 => (gR h15 a0 4 7).bind fun r16 => (sI h15 r16 0 x2 0).bind fun h19 => (gR h19 a0 4 8).bind fun r20 => (sI h19 r20 0 x2 0).bind fun h23 => (gR h23 a0 4 9).bind fun r24 => (sI h23 r24 0 x2 0).bind fun h27 => F4_begin_33  n h27 a0 a1 (x2 + 1))
def F4_begin_0  (h : PH) (a0 : Nat) (a1 : Nat) : Option (PH) := (pI h a0 4 0 0).bind fun h1 => (gI h1 a1 8 9).bind fun v3 => (pI h1 a0 4 1 v3).bind fun h5 => (gI h5 a1 8 10).bind fun v7 => (pI h5 a0 4 2 v7).bind fun h9 => (pI h9 a0 4 3 0).bind fun h11 => (pI h11 a0 4 4 0).bind fun h13 => F4_begin_33  1024 h13 a0 a1 0
def F4_begin (h : PH) (a0 : Nat) (a1 : Nat) : Option (PH) := cond (okO h a0 4) (F4_begin_0 h a0 a1) none
def F4_isIn_0  (h : PH) (a0 : Nat) (x1 : Int32) (x2 : Int32) : Option (Int32 × PH) := (gR h a0 4 8).bind fun r1 => (aI h r1 0 x1).bind fun v4 => if x2 < v4 then (rz 0 h) else (rz 1 h)
def F4_isIn (h : PH) (a0 : Nat) (x1 : Int32) (x2 : Int32) : Option (Int32 × PH) := cond (okO h a0 4) (F4_isIn_0 h a0 x1 x2) none
def F4_beginMinute_36 (k12 : PH → Nat → Int32 → Int32 → Option (PH)) (h : PH) (a0 : Nat) (x1 : Int32) (x2 : Int32) : Option (PH) := (gR h a0 4 9).bind fun r1 => (sI h r1 0 x2 0).bind fun h4 => k12 h4 a0 x1 (x2 + 1)
def F4_beginMinute_12  : Nat → PH → Nat → Int32 → Int32 → Option (PH)
  | 0, _, _, _, _ => none
  | n + 1, h, a0, x1, x2 => if x1 ≤ x2 then (some h) else ((gI h a0 4 0).bind fun v2 => (F4_isIn h a0 x2 v2).bind fun o4 => if o4.1 = 0 then (F4_beginMinute_36 (fun h a0 x1 x2 => F4_beginMinute_12  n h a0 x1 x2) o4.2 a0 x1 x2) else ((gR o4.2 a0 4 8).bind fun r7 => (sI o4.2 r7 0 x2 0).bind fun h10 => F4_beginMinute_36 (fun h a0 x1 x2 => F4_beginMinute_12  n h a0 x1 x2) h10 a0 x1 x2))
def F4_beginMinute_0  (h : PH) (a0 : Nat) (x1 : Int32) : Option (PH) := (gI h a0 4 0).bind fun v1 => (pI h a0 4 0 (v1 + 1)).bind fun h3 => F4_beginMinute_12  1024 h3 a0 x1 0
def F4_beginMinute (h : PH) (a0 : Nat) (x1 : Int32) : Option (PH) := cond (okO h a0 4) (F4_beginMinute_0 h a0 x1) none
def F4_drawHundredth_0  (h : PH) (a0 : Nat) : Option (Int32 × PH) := (gI h a0 4 2).bind fun v1 => (pI h a0 4 2 (Int64.toInt32 ((((Int32.toInt64 v1) * (1103515245 : Int64)) + (12345 : Int64)) &&& (2147483647 : Int64)))).bind fun h3 => (gI h3 a0 4 2).bind fun v5 => some (((v5 >>> (16 &&& 31)) - (v5 >>> (16 &&& 31)) / 100 * 100), h3)
def F4_drawHundredth (h : PH) (a0 : Nat) : Option (Int32 × PH) := cond (okO h a0 4) (F4_drawHundredth_0 h a0) none
def F4_hadInSum_4  : Nat → PH → Nat → Int32 → Int32 → Int32 → Option (Int32 × PH)
  | 0, _, _, _, _, _ => none
  | n + 1, h, a0, x1, x2, x3 => if x1 ≤ x3 then (some (x2, h)) else ((gR h a0 4 6).bind fun r2 => (aI h r2 0 x3).bind fun v5 => F4_hadInSum_4  n h a0 x1 (x2 + v5) (x3 + 1))
def F4_hadInSum_0  (h : PH) (a0 : Nat) (x1 : Int32) : Option (Int32 × PH) := F4_hadInSum_4  1024 h a0 x1 0 0
def F4_hadInSum (h : PH) (a0 : Nat) (x1 : Int32) : Option (Int32 × PH) := cond (okO h a0 4) (F4_hadInSum_0 h a0 x1) none
def F4_leaveOut_0  (h : PH) (a0 : Nat) (x1 : Int32) : Option (PH) := (gR h a0 4 8).bind fun r1 => (sI h r1 0 x1 2147483647).bind fun h4 => some h4
def F4_leaveOut (h : PH) (a0 : Nat) (x1 : Int32) : Option (PH) := cond (okO h a0 4) (F4_leaveOut_0 h a0 x1) none
def F4_seatAll_2  : Nat → PH → Nat → Int32 → Int32 → Option (PH)
  | 0, _, _, _, _ => none
  | n + 1, h, a0, x1, x2 => if 5 ≤ x2 then (some h) else ((gR h a0 4 5).bind fun r2 => (sI h r2 0 x2 x1).bind fun h5 => F4_seatAll_2  n h5 a0 x1 (x2 + 1))
def F4_seatAll_0  (h : PH) (a0 : Nat) (x1 : Int32) : Option (PH) := F4_seatAll_2  1024 h a0 x1 0
def F4_seatAll (h : PH) (a0 : Nat) (x1 : Int32) : Option (PH) := cond (okO h a0 4) (F4_seatAll_0 h a0 x1) none
def F4_takeAll_0  (h : PH) (a0 : Nat) (a1 : Nat) : Option (PH) := (gI h a1 4 0).bind fun v1 => (pI h a0 4 0 v1).bind fun h3 => (gI h3 a1 4 1).bind fun v5 => (pI h3 a0 4 1 v5).bind fun h7 => (gI h7 a1 4 2).bind fun v9 => (pI h7 a0 4 2 v9).bind fun h11 => (gI h11 a1 4 3).bind fun v13 => (pI h11 a0 4 3 v13).bind fun h15 => (gI h15 a1 4 4).bind fun v17 => (pI h15 a0 4 4 v17).bind fun h19 => (gR h19 a1 4 5).bind fun r21 => (gR h19 a0 4 5).bind fun r23 => (cpI h19 r21 0 r23 0 5).bind fun h25 => (gR h25 a1 4 6).bind fun r27 => (gR h25 a0 4 6).bind fun r29 => (cpI h25 r27 0 r29 0 5).bind fun h31 => (gR h31 a1 4 7).bind fun r33 => (gR h31 a0 4 7).bind fun r35 => (cpI h31 r33 0 r35 0 5).bind fun h37 => (gR h37 a1 4 8).bind fun r39 => (gR h37 a0 4 8).bind fun r41 => (cpI h37 r39 0 r41 0 5).bind fun h43 => (gR h43 a1 4 9).bind fun r45 => (gR h43 a0 4 9).bind fun r47 => (cpI h43 r45 0 r47 0 5).bind fun h49 => (gR h49 a1 4 10).bind fun r51 => (gR h49 a0 4 10).bind fun r53 => (cpI h49 r51 0 r53 0 28).bind fun h55 => some h55
def F4_takeAll (h : PH) (a0 : Nat) (a1 : Nat) : Option (PH) := cond (okO h a0 4) (F4_takeAll_0 h a0 a1) none
def F4_takeForRun_0  (h : PH) (a0 : Nat) (a1 : Nat) (x2 : Int32) (x3 : Int32) : Option (PH) := (F4_takeAll h a0 a1).bind fun o1 => (pI o1 a0 4 1 x2).bind fun h3 => (pI h3 a0 4 2 x3).bind fun h5 => (pI h5 a0 4 3 0).bind fun h7 => (pI h7 a0 4 4 0).bind fun h9 => some h9
def F4_takeForRun (h : PH) (a0 : Nat) (a1 : Nat) (x2 : Int32) (x3 : Int32) : Option (PH) := cond (okO h a0 4) (F4_takeForRun_0 h a0 a1 x2 x3) none
def F4_unlike_24  : Nat → PH → Nat → Int32 → Int32 → Int32 → Int32 → Option (Int32 × PH)
  | 0, _, _, _, _, _, _ => none
  | n + 1, h, a0, x1, x2, x3, x4 => if x1 ≤ x4 then (some ((x2 - x3), h)) else ((gR h a0 4 6).bind fun r2 => (aI h r2 0 x4).bind fun v5 => (gR h a0 4 6).bind fun r6 => (aI h r6 0 x4).bind fun v9 => F4_unlike_24  n h a0 x1 (if x2 < v5 then v5 else x2) (if v9 < x3 then v9 else x3) (x4 + 1))
def F4_unlike_0  (h : PH) (a0 : Nat) (x1 : Int32) : Option (Int32 × PH) := if 1 ≤ x1 then ((gR h a0 4 6).bind fun r2 => (aI h r2 0 0).bind fun v5 => (gR h a0 4 6).bind fun r6 => (aI h r6 0 0).bind fun v9 => F4_unlike_24  1024 h a0 x1 v5 v9 1) else (some (0, h))
def F4_unlike (h : PH) (a0 : Nat) (x1 : Int32) : Option (Int32 × PH) := cond (okO h a0 4) (F4_unlike_0 h a0 x1) none
def F5_refuse_0  (h : PH) (a0 : Nat) (x1 : Int32) : Option (Int32 × PH) := (pI h a0 5 8 x1).bind fun h1 => (gR h1 a0 5 0).bind fun r3 => (gI h1 r3 7 5).bind fun v5 => (pI h1 a0 5 9 v5).bind fun h7 => rz 0 h7
def F5_refuse (h : PH) (a0 : Nat) (x1 : Int32) : Option (Int32 × PH) := cond (okO h a0 5) (F5_refuse_0 h a0 x1) none
def F5_countKnot_0  (h : PH) (a0 : Nat) : Option (Int32 × PH) := (gR h a0 5 10).bind fun r1 => (gI h r1 8 13).bind fun v3 => if v3 < 64 then ((gR h a0 5 10).bind fun r6 => (gI h r6 8 13).bind fun v8 => (pI h r6 8 13 (v8 + 1)).bind fun h10 => rz 1 h10) else ((F5_refuse h a0 2).bind fun o12 => rz o12.1 o12.2)
def F5_countKnot (h : PH) (a0 : Nat) : Option (Int32 × PH) := cond (okO h a0 5) (F5_countKnot_0 h a0) none
def F7_isLetter_0  (h : PH) (x0 : Int32) : Option (Int32 × PH) := if x0 < 97 then (rz 0 h) else (if 122 < x0 then (rz 0 h) else (rz 1 h))
def F7_isLetter (h : PH) (x0 : Int32) : Option (Int32 × PH) := F7_isLetter_0 h x0
def F7_letterBits_0  (h : PH) (x0 : Int32) (x1 : Int32) : Option (Int32 × PH) := some ((((x0 - 97) + 1) <<< ((25 - (5 * x1)) &&& 31)), h)
def F7_letterBits (h : PH) (x0 : Int32) (x1 : Int32) : Option (Int32 × PH) := F7_letterBits_0 h x0 x1
def F5_isFirst_0  (h : PH) (a0 : Nat) (x1 : Int32) : Option (Int32 × PH) := (gI h a0 5 6).bind fun v1 => if (v1 &&& (1 <<< (x1 &&& 31))) = 0 then ((gI h a0 5 6).bind fun v4 => (pI h a0 5 6 (v4 ||| (1 <<< (x1 &&& 31)))).bind fun h6 => rz 1 h6) else ((F5_refuse h a0 3).bind fun o8 => rz o8.1 o8.2)
def F5_isFirst (h : PH) (a0 : Nat) (x1 : Int32) : Option (Int32 × PH) := cond (okO h a0 5) (F5_isFirst_0 h a0 x1) none
def F5_letWait_0  (h : PH) (a0 : Nat) (x1 : Int32) : Option (Int32 × PH) := (gI h a0 5 2).bind fun v1 => (gR h a0 5 1).bind fun r3 => (aL h r3).bind fun v5 => if v1 < v5 then ((gR h a0 5 1).bind fun r8 => (gI h a0 5 2).bind fun v10 => (sI h r8 0 v10 x1).bind fun h13 => (gI h13 a0 5 2).bind fun v14 => (pI h13 a0 5 2 (v14 + 1)).bind fun h16 => rz 1 h16) else ((F5_refuse h a0 2).bind fun o18 => rz o18.1 o18.2)
def F5_letWait (h : PH) (a0 : Nat) (x1 : Int32) : Option (Int32 × PH) := cond (okO h a0 5) (F5_letWait_0 h a0 x1) none
def F7_skipBlanks_40 (k0 : PH → Nat → Option (PH)) (h : PH) (a0 : Nat) : Option (PH) := (gI h a0 7 3).bind fun v1 => (pI h a0 7 3 (v1 + 1)).bind fun h3 => k0 h3 a0
def F7_skipBlanks_0  : Nat → PH → Nat → Option (PH)
  | 0, _, _ => none
  | n + 1, h, a0 => (gI h a0 7 3).bind fun v1 => (gI h a0 7 2).bind fun v3 => if v3 ≤ v1 then (some h) else ((gR h a0 7 1).bind fun r6 => (gI h a0 7 3).bind fun v8 => (aI h r6 1 v8).bind fun v11 => if v11 = 10 then (F7_skipBlanks_40 (fun h a0 => F7_skipBlanks_0  n h a0) h a0) else ((gR h a0 7 1).bind fun r13 => (gI h a0 7 3).bind fun v15 => (aI h r13 1 v15).bind fun v18 => if v18 = 32 then (F7_skipBlanks_40 (fun h a0 => F7_skipBlanks_0  n h a0) h a0) else (some h)))
def F7_skipBlanks (h : PH) (a0 : Nat) : Option (PH) := cond (okO h a0 7) (F7_skipBlanks_0 1024 h a0) none
def F7_wordOf_2  : Nat → PH → Nat → Int32 → Int32 → Option (Int32 × PH)
  | 0, _, _, _, _ => none
  | n + 1, h, a0, x1, x2 => if 24 ≤ x2 then (some (24, h)) else ((gR h a0 7 0).bind fun r2 => (aI h r2 0 x2).bind fun v5 => if v5 = x1 then (some (x2, h)) else (F7_wordOf_2  n h a0 x1 (x2 + 1)))
def F7_wordOf_0  (h : PH) (a0 : Nat) (x1 : Int32) : Option (Int32 × PH) := F7_wordOf_2  1024 h a0 x1 0
def F7_wordOf (h : PH) (a0 : Nat) (x1 : Int32) : Option (Int32 × PH) := cond (okO h a0 7) (F7_wordOf_0 h a0 x1) none
def F7_takeWord_92  (h : PH) (s0 : Int32) (u1 : Nat) : Option (PH) := (pI h u1 7 4 s0).bind fun h1 => some h1
def F7_takeWord_72  (h : PH) (a0 : Nat) (x1 : Int32) : Option (PH) := if x1 ≤ 6 then ((gI h a0 7 6).bind fun v2 => (F7_wordOf h a0 v2).bind fun o4 => F7_takeWord_92  o4.2 o4.1 a0) else (F7_takeWord_92  h 40 a0)
def F7_takeWord_56 (k2 : PH → Nat → Int32 → Option (PH)) (h : PH) (a0 : Nat) (x1 : Int32) : Option (PH) := (gI h a0 7 3).bind fun v1 => (pI h a0 7 3 (v1 + 1)).bind fun h3 => k2 h3 a0 (x1 + 1)
def F7_takeWord_2  : Nat → PH → Nat → Int32 → Option (PH)
  | 0, _, _, _ => none
  | n + 1, h, a0, x1 => (gI h a0 7 3).bind fun v1 => (gI h a0 7 2).bind fun v3 => if v3 ≤ v1 then (F7_takeWord_72  h a0 x1) else ((gR h a0 7 1).bind fun r6 => (gI h a0 7 3).bind fun v8 => (aI h r6 1 v8).bind fun v11 => (F7_isLetter h v11).bind fun o12 => if o12.1 = 0 then (F7_takeWord_72  o12.2 a0 x1) else (if 6 ≤ x1 then (F7_takeWord_56 (fun h a0 x1 => F7_takeWord_2  n h a0 x1) o12.2 a0 x1) else ((gI o12.2 a0 7 6).bind fun v16 => (gR o12.2 a0 7 1).bind fun r18 => (gI o12.2 a0 7 3).bind fun v20 => (aI o12.2 r18 1 v20).bind fun v23 => (F7_letterBits o12.2 v23 x1).bind fun o24 => (pI o24.2 a0 7 6 (v16 ||| o24.1)).bind fun h26 => F7_takeWord_56 (fun h a0 x1 => F7_takeWord_2  n h a0 x1) h26 a0 x1)))
def F7_takeWord_0  (h : PH) (a0 : Nat) : Option (PH) := F7_takeWord_2  1024 h a0 0
def F7_takeWord (h : PH) (a0 : Nat) : Option (PH) := cond (okO h a0 7) (F7_takeWord_0 h a0) none
def F7_isDigit_0  (h : PH) (x0 : Int32) : Option (Int32 × PH) := if x0 < 48 then (rz 0 h) else (if 57 < x0 then (rz 0 h) else (rz 1 h))
/-! The pure functions of the methods (written by wip/gen/gen.py, split.py). -/
def F7_isDigit (h : PH) (x0 : Int32) : Option (Int32 × PH) := F7_isDigit_0 h x0
def F7_takeNumber_68  (h : PH) (a0 : Nat) : Option (PH) := (pI h a0 7 4 25).bind fun h1 => some h1
def F7_takeNumber_0  : Nat → PH → Nat → Option (PH)
  | 0, _, _ => none
  | n + 1, h, a0 => (gI h a0 7 3).bind fun v1 => (gI h a0 7 2).bind fun v3 => if v3 ≤ v1 then (F7_takeNumber_68  h a0) else ((gR h a0 7 1).bind fun r6 => (gI h a0 7 3).bind fun v8 => (aI h r6 1 v8).bind fun v11 => (F7_isDigit h v11).bind fun o12 => if o12.1 = 0 then (F7_takeNumber_68  o12.2 a0) else ((gI o12.2 a0 7 6).bind fun v15 => (gR o12.2 a0 7 1).bind fun r17 => (gI o12.2 a0 7 3).bind fun v19 => (aI o12.2 r17 1 v19).bind fun v22 => (pI o12.2 a0 7 6 (if 1000000 < (((v15 * 10) + v22) - 48) then 1000000 else (((v15 * 10) + v22) - 48))).bind fun h23 => (gI h23 a0 7 3).bind fun v25 => (pI h23 a0 7 3 (v25 + 1)).bind fun h27 => F7_takeNumber_0  n h27 a0))
def F7_takeNumber (h : PH) (a0 : Nat) : Option (PH) := cond (okO h a0 7) (F7_takeNumber_0 1024 h a0) none
def F7_signOf_0  (h : PH) (x0 : Int32) : Option (Int32 × PH) := if x0 = 40 then (some (36, h)) else if x0 = 41 then (some (37, h)) else if x0 = 42 then (some (34, h)) else if x0 = 43 then (some (32, h)) else if x0 = 45 then (some (33, h)) else if x0 = 47 then (some (35, h)) else if x0 = 59 then (some (38, h)) else if x0 = 60 then (some (26, h)) else if x0 = 61 then (some (28, h)) else if x0 = 62 then (some (31, h)) else (some (40, h))
def F7_signOf (h : PH) (x0 : Int32) : Option (Int32 × PH) := F7_signOf_0 h x0
def F7_isNext_0  (h : PH) (a0 : Nat) (x1 : Int32) : Option (Int32 × PH) := (gI h a0 7 3).bind fun v1 => (gI h a0 7 2).bind fun v3 => if v3 ≤ v1 then (rz 0 h) else ((gR h a0 7 1).bind fun r6 => (gI h a0 7 3).bind fun v8 => (aI h r6 1 v8).bind fun v11 => if v11 = x1 then (rz 1 h) else (rz 0 h))
def F7_isNext (h : PH) (a0 : Nat) (x1 : Int32) : Option (Int32 × PH) := cond (okO h a0 7) (F7_isNext_0 h a0 x1) none
def F7_takeSign_102  (h : PH) (a0 : Nat) : Option (PH) := (gI h a0 7 4).bind fun v1 => if v1 = 31 then ((F7_isNext h a0 61).bind fun o4 => if o4.1 = 0 then (some o4.2) else ((pI o4.2 a0 7 4 30).bind fun h7 => (gI h7 a0 7 3).bind fun v9 => (pI h7 a0 7 3 (v9 + 1)).bind fun h11 => some h11)) else (some h)
def F7_takeSign_65  (h : PH) (a0 : Nat) : Option (PH) := (gI h a0 7 4).bind fun v1 => if v1 = 26 then ((F7_isNext h a0 62).bind fun o4 => if o4.1 = 0 then (F7_takeSign_102  o4.2 a0) else ((pI o4.2 a0 7 4 29).bind fun h7 => (gI h7 a0 7 3).bind fun v9 => (pI h7 a0 7 3 (v9 + 1)).bind fun h11 => some h11)) else (F7_takeSign_102  h a0)
def F7_takeSign_0  (h : PH) (a0 : Nat) : Option (PH) := (gR h a0 7 1).bind fun r1 => (gI h a0 7 3).bind fun v3 => (aI h r1 1 v3).bind fun v6 => (gI h a0 7 3).bind fun v7 => (pI h a0 7 3 (v7 + 1)).bind fun h9 => (F7_signOf h9 v6).bind fun o11 => (pI o11.2 a0 7 4 o11.1).bind fun h13 => (gI h13 a0 7 4).bind fun v15 => if v15 = 26 then ((F7_isNext h13 a0 61).bind fun o18 => if o18.1 = 0 then (F7_takeSign_65  o18.2 a0) else ((pI o18.2 a0 7 4 27).bind fun h21 => (gI h21 a0 7 3).bind fun v23 => (pI h21 a0 7 3 (v23 + 1)).bind fun h25 => some h25)) else (F7_takeSign_65  h13 a0)
def F7_takeSign (h : PH) (a0 : Nat) : Option (PH) := cond (okO h a0 7) (F7_takeSign_0 h a0) none
def F7_advance_0  (h : PH) (a0 : Nat) : Option (PH) := (F7_skipBlanks h a0).bind fun o1 => (gI o1 a0 7 3).bind fun v3 => (pI o1 a0 7 5 v3).bind fun h5 => (pI h5 a0 7 6 0).bind fun h7 => (gI h7 a0 7 3).bind fun v9 => (gI h7 a0 7 2).bind fun v11 => if v9 < v11 then ((gR h7 a0 7 1).bind fun r14 => (gI h7 a0 7 3).bind fun v16 => (aI h7 r14 1 v16).bind fun v19 => (F7_isLetter h7 v19).bind fun o20 => if o20.1 = 0 then ((gR o20.2 a0 7 1).bind fun r23 => (gI o20.2 a0 7 3).bind fun v25 => (aI o20.2 r23 1 v25).bind fun v28 => (F7_isDigit o20.2 v28).bind fun o29 => if o29.1 = 0 then ((F7_takeSign o29.2 a0).bind fun o32 => some o32) else ((F7_takeNumber o29.2 a0).bind fun o34 => some o34)) else ((F7_takeWord o20.2 a0).bind fun o36 => some o36)) else ((pI h7 a0 7 4 39).bind fun h38 => some h38)
def F7_advance (h : PH) (a0 : Nat) : Option (PH) := cond (okO h a0 7) (F7_advance_0 h a0) none
def F5_takenNumber_42  (h : PH) (a0 : Nat) : Option (Int32 × PH) := (F5_refuse h a0 2).bind fun o1 => some ((-1), o1.2)
def F5_takenNumber_0  (h : PH) (a0 : Nat) (x1 : Int32) (x2 : Int32) : Option (Int32 × PH) := (gR h a0 5 0).bind fun r1 => (gI h r1 7 4).bind fun v3 => if v3 = 25 then ((gR h a0 5 0).bind fun r6 => (gI h r6 7 6).bind fun v8 => if v8 < x1 then (F5_takenNumber_42  h a0) else ((gR h a0 5 0).bind fun r11 => (gI h r11 7 6).bind fun v13 => if v13 ≤ x2 then ((gR h a0 5 0).bind fun r16 => (gI h r16 7 6).bind fun v18 => some (v18, h)) else (F5_takenNumber_42  h a0))) else ((F5_refuse h a0 1).bind fun o20 => some ((-1), o20.2))
def F5_takenNumber (h : PH) (a0 : Nat) (x1 : Int32) (x2 : Int32) : Option (Int32 × PH) := cond (okO h a0 5) (F5_takenNumber_0 h a0 x1 x2) none
def F5_numberIn_0  (h : PH) (a0 : Nat) (x1 : Int32) (x2 : Int32) : Option (Int32 × PH) := (gR h a0 5 0).bind fun r1 => (F7_advance h r1).bind fun o3 => (F5_takenNumber o3 a0 x1 x2).bind fun o5 => some (o5.1, o5.2)
def F5_numberIn (h : PH) (a0 : Nat) (x1 : Int32) (x2 : Int32) : Option (Int32 × PH) := cond (okO h a0 5) (F5_numberIn_0 h a0 x1 x2) none
def F10_forget_0  (h : PH) (a0 : Nat) : Option (PH) := (pI h a0 10 0 0).bind fun h1 => (pI h1 a0 10 1 0).bind fun h3 => some h3
def F10_forget (h : PH) (a0 : Nat) : Option (PH) := cond (okO h a0 10) (F10_forget_0 h a0) none
def F8_forget_63  : Nat → PH → Nat → Int32 → Option (PH)
  | 0, _, _, _ => none
  | n + 1, h, a0, x1 => if 3 ≤ x1 then ((pI h a0 8 12 0).bind fun h2 => (pI h2 a0 8 13 0).bind fun h4 => some h4) else ((gR h a0 8 11).bind fun r6 => (aR h r6 x1).bind fun r9 => (F2_forget h r9).bind fun o10 => F8_forget_63  n o10 a0 (x1 + 1))
def F8_forget_0  (h : PH) (a0 : Nat) : Option (PH) := (pI h a0 8 0 6).bind fun h1 => (pI h1 a0 8 1 4).bind fun h3 => (pI h3 a0 8 2 0).bind fun h5 => (pI h5 a0 8 3 0).bind fun h7 => (gR h7 a0 8 4).bind fun r9 => (pI h7 r9 1 0 0).bind fun h11 => (gR h11 a0 8 5).bind fun r13 => (F10_forget h11 r13).bind fun o15 => (pI o15 a0 8 6 0).bind fun h17 => (pI h17 a0 8 7 0).bind fun h19 => (pI h19 a0 8 8 0).bind fun h21 => (pI h21 a0 8 9 0).bind fun h23 => (pI h23 a0 8 10 0).bind fun h25 => F8_forget_63  1024 h25 a0 0
def F8_forget (h : PH) (a0 : Nat) : Option (PH) := cond (okO h a0 8) (F8_forget_0 h a0) none
def F7_begin_0  (h : PH) (a0 : Nat) (a1 : Nat) (x2 : Int32) : Option (PH) := (pR h a0 7 1 a1).bind fun h1 => (aL h1 a1).bind fun v3 => (pI h1 a0 7 2 (if v3 < x2 then v3 else x2)).bind fun h5 => (pI h5 a0 7 3 0).bind fun h7 => some h7
def F7_begin (h : PH) (a0 : Nat) (a1 : Nat) (x2 : Int32) : Option (PH) := cond (okO h a0 7) (F7_begin_0 h a0 a1 x2) none
def F5_readStop_0  (h : PH) (a0 : Nat) : Option (Int32 × PH) := (gR h a0 5 0).bind fun r1 => (F7_advance h r1).bind fun o3 => (gR o3 a0 5 0).bind fun r5 => (gI o3 r5 7 4).bind fun v7 => if v7 = 38 then (rz 1 o3) else ((F5_refuse o3 a0 1).bind fun o10 => if o10.1 = 0 then (rz 0 o10.2) else (rz 1 o10.2))
def F5_readStop (h : PH) (a0 : Nat) : Option (Int32 × PH) := cond (okO h a0 5) (F5_readStop_0 h a0) none
def F5_readSea_47  (h : PH) (a0 : Nat) (x1 : Int32) (s0 : Int32) : Option (Int32 × PH) := if s0 = (-1) then (rz 0 h) else ((gR h a0 5 10).bind fun r2 => (pI h r2 8 0 x1).bind fun h4 => (gR h4 a0 5 10).bind fun r6 => (pI h4 r6 8 1 s0).bind fun h8 => (F5_readStop h8 a0).bind fun o10 => rz o10.1 o10.2)
def F5_readSea_0  (h : PH) (a0 : Nat) : Option (Int32 × PH) := (F5_isFirst h a0 0).bind fun o1 => if o1.1 = 0 then (rz 0 o1.2) else ((gI o1.2 a0 5 7).bind fun v4 => if v4 = 0 then ((F5_numberIn o1.2 a0 1 8).bind fun o7 => if o7.1 = (-1) then (F5_readSea_47  o7.2 a0 o7.1 (-1)) else ((F5_numberIn o7.2 a0 1 6).bind fun o10 => F5_readSea_47  o10.2 a0 o7.1 o10.1)) else ((F5_refuse o1.2 a0 4).bind fun o12 => rz o12.1 o12.2))
def F5_readSea (h : PH) (a0 : Nat) : Option (Int32 × PH) := cond (okO h a0 5) (F5_readSea_0 h a0) none
def F5_readPeak_53  (h : PH) (a0 : Nat) (x1 : Int32) (s0 : Int32) : Option (Int32 × PH) := if s0 = (-1) then (rz 0 h) else ((gR h a0 5 10).bind fun r2 => (pI h r2 8 2 x1).bind fun h4 => (gR h4 a0 5 10).bind fun r6 => (pI h4 r6 8 3 s0).bind fun h8 => (F5_readStop h8 a0).bind fun o10 => rz o10.1 o10.2)
def F5_readPeak_0  (h : PH) (a0 : Nat) : Option (Int32 × PH) := (F5_isFirst h a0 1).bind fun o1 => if o1.1 = 0 then (rz 0 o1.2) else ((pZ o1.2 a0 5 7 1).bind fun h4 => (gR h4 a0 5 10).bind fun r6 => (gI h4 r6 8 0).bind fun v8 => (F5_numberIn h4 a0 0 (v8 - 1)).bind fun o10 => if o10.1 = (-1) then (F5_readPeak_53  o10.2 a0 o10.1 (-1)) else ((gR o10.2 a0 5 10).bind fun r13 => (gI o10.2 r13 8 1).bind fun v15 => (F5_numberIn o10.2 a0 0 (v15 - 1)).bind fun o17 => F5_readPeak_53  o17.2 a0 o10.1 o17.1))
def F5_readPeak (h : PH) (a0 : Nat) : Option (Int32 × PH) := cond (okO h a0 5) (F5_readPeak_0 h a0) none
def F5_readSurfer_195  (h : PH) (a0 : Nat) (x1 : Int32) (x2 : Int32) (x3 : Int32) (x4 : Int32) (x5 : Int32) (x6 : Int32) (s0 : Int32) : Option (Int32 × PH) := if s0 = (-1) then (rz 0 h) else ((gR h a0 5 10).bind fun r2 => (gR h r2 8 4).bind fun r4 => (gR h a0 5 10).bind fun r6 => (gI h r6 8 0).bind fun v8 => (F1_add h r4 x1 ((x3 * v8) + x2) x4 x5 x6 s0).bind fun o10 => (F5_readStop o10 a0).bind fun o12 => rz o12.1 o12.2)
def F5_readSurfer_176  (h : PH) (a0 : Nat) (x1 : Int32) (x2 : Int32) (x3 : Int32) (x4 : Int32) (x5 : Int32) (s0 : Int32) : Option (Int32 × PH) := if s0 = (-1) then (F5_readSurfer_195  h a0 x1 x2 x3 x4 x5 s0 (-1)) else ((F5_numberIn h a0 0 100).bind fun o2 => F5_readSurfer_195  o2.2 a0 x1 x2 x3 x4 x5 s0 o2.1)
def F5_readSurfer_157  (h : PH) (a0 : Nat) (x1 : Int32) (x2 : Int32) (x3 : Int32) (x4 : Int32) (s0 : Int32) : Option (Int32 × PH) := if s0 = (-1) then (F5_readSurfer_176  h a0 x1 x2 x3 x4 s0 (-1)) else ((F5_numberIn h a0 0 100).bind fun o2 => F5_readSurfer_176  o2.2 a0 x1 x2 x3 x4 s0 o2.1)
def F5_readSurfer_139  (h : PH) (a0 : Nat) (x1 : Int32) (x2 : Int32) (x3 : Int32) (s0 : Int32) : Option (Int32 × PH) := if s0 = (-1) then (F5_readSurfer_157  h a0 x1 x2 x3 s0 (-1)) else ((F5_numberIn h a0 1 3).bind fun o2 => F5_readSurfer_157  o2.2 a0 x1 x2 x3 s0 o2.1)
def F5_readSurfer_122  (h : PH) (a0 : Nat) (x1 : Int32) (x2 : Int32) (s0 : Int32) : Option (Int32 × PH) := if s0 = (-1) then (F5_readSurfer_139  h a0 x1 x2 s0 (-1)) else ((F5_numberIn h a0 1 9).bind fun o2 => F5_readSurfer_139  o2.2 a0 x1 x2 s0 o2.1)
def F5_readSurfer_0  (h : PH) (a0 : Nat) : Option (Int32 × PH) := (gR h a0 5 10).bind fun r1 => (gR h r1 8 4).bind fun r3 => (gI h r3 1 0).bind fun v5 => if v5 < 5 then ((pZ h a0 5 7 1).bind fun h8 => (gR h8 a0 5 0).bind fun r10 => (F7_advance h8 r10).bind fun o12 => (gR o12 a0 5 0).bind fun r14 => (gI o12 r14 7 4).bind fun v16 => if v16 = 24 then ((gR o12 a0 5 10).bind fun r19 => (gR o12 r19 8 4).bind fun r21 => (gR o12 a0 5 0).bind fun r23 => (gI o12 r23 7 6).bind fun v25 => (F1_hasName o12 r21 v25).bind fun o27 => if o27.1 = 0 then ((gR o27.2 a0 5 0).bind fun r30 => (gI o27.2 r30 7 6).bind fun v32 => (gR o27.2 a0 5 10).bind fun r34 => (gI o27.2 r34 8 0).bind fun v36 => (F5_numberIn o27.2 a0 0 (v36 - 1)).bind fun o38 => if o38.1 = (-1) then (F5_readSurfer_122  o38.2 a0 v32 o38.1 (-1)) else ((gR o38.2 a0 5 10).bind fun r41 => (gI o38.2 r41 8 1).bind fun v43 => (F5_numberIn o38.2 a0 0 (v43 - 1)).bind fun o45 => F5_readSurfer_122  o45.2 a0 v32 o38.1 o45.1)) else ((F5_refuse o27.2 a0 3).bind fun o47 => rz o47.1 o47.2)) else ((F5_refuse o12 a0 1).bind fun o49 => rz o49.1 o49.2)) else ((F5_refuse h a0 2).bind fun o51 => rz o51.1 o51.2)
def F5_readSurfer (h : PH) (a0 : Nat) : Option (Int32 × PH) := cond (okO h a0 5) (F5_readSurfer_0 h a0) none
def F10_firstMinute_0  (h : PH) (a0 : Nat) (x1 : Int32) : Option (Int32 × PH) := (gR h a0 10 4).bind fun r1 => (gR h a0 10 2).bind fun r3 => (aI h r3 0 x1).bind fun v6 => (aI h r1 0 v6).bind fun v8 => some (v8, h)
def F10_firstMinute (h : PH) (a0 : Nat) (x1 : Int32) : Option (Int32 × PH) := cond (okO h a0 10) (F10_firstMinute_0 h a0 x1) none
def F10_lastMinute_0  (h : PH) (a0 : Nat) (x1 : Int32) : Option (Int32 × PH) := (F10_firstMinute h a0 x1).bind fun o1 => (gR o1.2 a0 10 3).bind fun r3 => (aI o1.2 r3 0 x1).bind fun v6 => some (((o1.1 + v6) - 1), o1.2)
def F10_lastMinute (h : PH) (a0 : Nat) (x1 : Int32) : Option (Int32 × PH) := cond (okO h a0 10) (F10_lastMinute_0 h a0 x1) none
def F10_beginSet_0  (h : PH) (a0 : Nat) : Option (PH) := (gI h a0 10 0).bind fun v1 => if 4 ≤ v1 then (some h) else ((gR h a0 10 2).bind fun r4 => (gI h a0 10 0).bind fun v6 => (gI h a0 10 1).bind fun v8 => (sI h r4 0 v6 v8).bind fun h11 => (gR h11 a0 10 3).bind fun r12 => (gI h11 a0 10 0).bind fun v14 => (sI h11 r12 0 v14 0).bind fun h17 => (gI h17 a0 10 0).bind fun v18 => (pI h17 a0 10 0 (v18 + 1)).bind fun h20 => some h20)
def F10_beginSet (h : PH) (a0 : Nat) : Option (PH) := cond (okO h a0 10) (F10_beginSet_0 h a0) none
def F10_add_0  (h : PH) (a0 : Nat) (x1 : Int32) (x2 : Int32) : Option (PH) := (gI h a0 10 1).bind fun v1 => if 28 ≤ v1 then (some h) else ((gI h a0 10 0).bind fun v4 => if 1 ≤ v4 then ((gR h a0 10 3).bind fun r7 => (gI h a0 10 0).bind fun v9 => (aI h r7 0 (v9 - 1)).bind fun v12 => (sI h r7 0 (v9 - 1) (v12 + 1)).bind fun h14 => (gR h14 a0 10 4).bind fun r15 => (gI h14 a0 10 1).bind fun v17 => (sI h14 r15 0 v17 x1).bind fun h20 => (gR h20 a0 10 5).bind fun r21 => (gI h20 a0 10 1).bind fun v23 => (sI h20 r21 0 v23 x2).bind fun h26 => (gR h26 a0 10 6).bind fun r27 => (gI h26 a0 10 1).bind fun v29 => (gI h26 a0 10 0).bind fun v31 => (sI h26 r27 0 v29 (v31 - 1)).bind fun h34 => (gR h34 a0 10 7).bind fun r35 => (gI h34 a0 10 1).bind fun v37 => (gR h34 a0 10 3).bind fun r39 => (gI h34 a0 10 0).bind fun v41 => (aI h34 r39 0 (v41 - 1)).bind fun v44 => (sI h34 r35 0 v37 v44).bind fun h46 => (gI h46 a0 10 1).bind fun v47 => (pI h46 a0 10 1 (v47 + 1)).bind fun h49 => some h49) else (some h))
def F10_add (h : PH) (a0 : Nat) (x1 : Int32) (x2 : Int32) : Option (PH) := cond (okO h a0 10) (F10_add_0 h a0 x1 x2) none
def F5_readSet_101 (k70 : PH → Nat → Nat → Int32 → Int32 → Option (Int32 × PH)) (h : PH) (a0 : Nat) (a1 : Nat) (x2 : Int32) (x3 : Int32) : Option (Int32 × PH) := (F5_takenNumber h a0 1 9).bind fun o1 => if o1.1 = (-1) then (rz 0 o1.2) else (if x3 = 7 then ((F5_refuse o1.2 a0 2).bind fun o7 => rz o7.1 o7.2) else ((F10_add o1.2 a1 (x2 + x3) o1.1).bind fun o5 => k70 o5 a0 a1 x2 (x3 + 1)))
def F5_readSet_70  : Nat → PH → Nat → Nat → Int32 → Int32 → Option (Int32 × PH)
  | 0, _, _, _, _, _ => none
  | n + 1, h, a0, a1, x2, x3 => if 7 < x3 then (rz 0 h) else ((gR h a0 5 0).bind fun r2 => (F7_advance h r2).bind fun o4 => if x3 ≤ 0 then (F5_readSet_101 (fun h a0 a1 x2 x3 => F5_readSet_70  n h a0 a1 x2 x3) o4 a0 a1 x2 x3) else ((gR o4 a0 5 0).bind fun r7 => (gI o4 r7 7 4).bind fun v9 => if v9 = 38 then (rz 1 o4) else (F5_readSet_101 (fun h a0 a1 x2 x3 => F5_readSet_70  n h a0 a1 x2 x3) o4 a0 a1 x2 x3)))
def F5_readSet_64  (h : PH) (a0 : Nat) (a1 : Nat) (x2 : Int32) : Option (Int32 × PH) := (F10_beginSet h a1).bind fun o1 => F5_readSet_70  1024 o1 a0 a1 x2 0
def F5_readSet_0  (h : PH) (a0 : Nat) : Option (Int32 × PH) := (gR h a0 5 10).bind fun r1 => (gR h r1 8 5).bind fun r3 => (gI h r3 10 0).bind fun v5 => if v5 < 4 then ((F5_numberIn h a0 0 99).bind fun o8 => if o8.1 = (-1) then (rz 0 o8.2) else ((gI o8.2 r3 10 0).bind fun v11 => if v11 ≤ 0 then (F5_readSet_64  o8.2 a0 r3 o8.1) else ((gI o8.2 r3 10 0).bind fun v14 => (F10_lastMinute o8.2 r3 (v14 - 1)).bind fun o16 => if o16.1 < o8.1 then (F5_readSet_64  o16.2 a0 r3 o8.1) else ((F5_refuse o16.2 a0 5).bind fun o19 => rz o19.1 o19.2)))) else ((F5_refuse h a0 2).bind fun o21 => rz o21.1 o21.2)
def F5_readSet (h : PH) (a0 : Nat) : Option (Int32 × PH) := cond (okO h a0 5) (F5_readSet_0 h a0) none
def F5_readBank_51  (h : PH) (a0 : Nat) (x1 : Int32) (x2 : Int32) (s0 : Int32) : Option (Int32 × PH) := if s0 = (-1) then (rz 0 h) else ((gR h a0 5 10).bind fun r2 => (pI h r2 8 6 x1).bind fun h4 => (gR h4 a0 5 10).bind fun r6 => (pI h4 r6 8 7 x2).bind fun h8 => (gR h8 a0 5 10).bind fun r10 => (pI h8 r10 8 8 s0).bind fun h12 => (F5_readStop h12 a0).bind fun o14 => rz o14.1 o14.2)
def F5_readBank_34  (h : PH) (a0 : Nat) (x1 : Int32) (s0 : Int32) : Option (Int32 × PH) := if s0 = (-1) then (F5_readBank_51  h a0 x1 s0 (-1)) else ((F5_numberIn h a0 1 9).bind fun o2 => F5_readBank_51  o2.2 a0 x1 s0 o2.1)
def F5_readBank_0  (h : PH) (a0 : Nat) : Option (Int32 × PH) := (F5_isFirst h a0 4).bind fun o1 => if o1.1 = 0 then (rz 0 o1.2) else ((F5_numberIn o1.2 a0 1 20).bind fun o4 => if o4.1 = (-1) then (F5_readBank_34  o4.2 a0 o4.1 (-1)) else ((F5_numberIn o4.2 a0 1 20).bind fun o7 => F5_readBank_34  o7.2 a0 o4.1 o7.1))
def F5_readBank (h : PH) (a0 : Nat) : Option (Int32 × PH) := cond (okO h a0 5) (F5_readBank_0 h a0) none
def F5_readRule_37  (h : PH) (a0 : Nat) : Option (Int32 × PH) := (F5_refuse h a0 1).bind fun o1 => rz o1.1 o1.2
def F5_readRule_0  (h : PH) (a0 : Nat) : Option (Int32 × PH) := (F5_isFirst h a0 5).bind fun o1 => if o1.1 = 0 then (rz 0 o1.2) else ((gR o1.2 a0 5 0).bind fun r4 => (F7_advance o1.2 r4).bind fun o6 => (gR o6 a0 5 0).bind fun r8 => (gI o6 r8 7 4).bind fun v10 => if (v10 - 8) < 0 then (F5_readRule_37  o6 a0) else (if (v10 - 8) < 4 then ((gR o6 a0 5 10).bind fun r14 => (pI o6 r14 8 9 (v10 - 8)).bind fun h16 => (F5_readStop h16 a0).bind fun o18 => rz o18.1 o18.2) else (F5_readRule_37  o6 a0)))
def F5_readRule (h : PH) (a0 : Nat) : Option (Int32 × PH) := cond (okO h a0 5) (F5_readRule_0 h a0) none
def F5_readSeed_0  (h : PH) (a0 : Nat) : Option (Int32 × PH) := (F5_isFirst h a0 6).bind fun o1 => if o1.1 = 0 then (rz 0 o1.2) else ((F5_numberIn o1.2 a0 0 99999).bind fun o4 => if o4.1 = (-1) then (rz 0 o4.2) else ((gR o4.2 a0 5 10).bind fun r7 => (pI o4.2 r7 8 10 o4.1).bind fun h9 => (F5_readStop h9 a0).bind fun o11 => rz o11.1 o11.2))
def F5_readSeed (h : PH) (a0 : Nat) : Option (Int32 × PH) := cond (okO h a0 5) (F5_readSeed_0 h a0) none
def F5_readKind_27  (h : PH) (a0 : Nat) : Option (Option Nat × PH) := (F5_refuse h a0 1).bind fun o1 => some (none, o1.2)
def F5_readKind_0  (h : PH) (a0 : Nat) : Option (Option Nat × PH) := (gR h a0 5 0).bind fun r1 => (F7_advance h r1).bind fun o3 => (gR o3 a0 5 0).bind fun r5 => (gI o3 r5 7 4).bind fun v7 => if (v7 - 12) < 0 then (F5_readKind_27  o3 a0) else (if (v7 - 12) < 3 then ((gR o3 a0 5 10).bind fun r11 => (gR o3 r11 8 11).bind fun r13 => (aR o3 r13 (v7 - 12)).bind fun r16 => (gI o3 r16 2 2).bind fun v17 => if v17 = 0 then ((gR o3 a0 5 10).bind fun r20 => (gR o3 r20 8 11).bind fun r22 => (aR o3 r22 (v7 - 12)).bind fun r25 => (pZ o3 r25 2 2 1).bind fun h26 => (gR h26 a0 5 10).bind fun r28 => (gR h26 r28 8 11).bind fun r30 => (aR h26 r30 (v7 - 12)).bind fun r33 => some (some r33, h26)) else ((F5_refuse o3 a0 3).bind fun o34 => some (none, o34.2))) else (F5_readKind_27  o3 a0))
def F5_readKind (h : PH) (a0 : Nat) : Option (Option Nat × PH) := cond (okO h a0 5) (F5_readKind_0 h a0) none
def F5_strengthOf_0  (h : PH) (x0 : Int32) : Option (Int32 × PH) := if x0 = 15 then (some (3, h)) else if x0 = 16 then (some (2, h)) else if x0 = 17 then (some (1, h)) else if x0 = 26 then (some (4, h)) else if x0 = 27 then (some (4, h)) else if x0 = 28 then (some (4, h)) else if x0 = 29 then (some (4, h)) else if x0 = 30 then (some (4, h)) else if x0 = 31 then (some (4, h)) else if x0 = 32 then (some (5, h)) else if x0 = 33 then (some (5, h)) else if x0 = 34 then (some (6, h)) else if x0 = 35 then (some (6, h)) else (some (0, h))
def F5_strengthOf (h : PH) (x0 : Int32) : Option (Int32 × PH) := F5_strengthOf_0 h x0
def F5_release_0  : Nat → PH → Nat → Nat → Int32 → Option (PH)
  | 0, _, _, _, _ => none
  | n + 1, h, a0, a1, x2 => (gI h a0 5 2).bind fun v1 => if v1 ≤ 0 then (some h) else ((gR h a0 5 1).bind fun r4 => (gI h a0 5 2).bind fun v6 => (aI h r4 0 (v6 - 1)).bind fun v9 => (F5_strengthOf h v9).bind fun o10 => if x2 ≤ o10.1 then ((F2_add o10.2 a1 (10000 + v9)).bind fun o13 => (gI o13 a0 5 2).bind fun v15 => (pI o13 a0 5 2 (v15 - 1)).bind fun h17 => F5_release_0  n h17 a0 a1 x2) else (some o10.2))
def F5_release (h : PH) (a0 : Nat) (a1 : Nat) (x2 : Int32) : Option (PH) := cond (okO h a0 5) (F5_release_0 1024 h a0 a1 x2) none
def F5_takeOpen_0  (h : PH) (a0 : Nat) : Option (Int32 × PH) := (gI h a0 5 3).bind fun v1 => if v1 < 8 then ((gI h a0 5 3).bind fun v4 => (pI h a0 5 3 (v4 + 1)).bind fun h6 => (pZ h6 a0 5 5 1).bind fun h8 => (F5_letWait h8 a0 36).bind fun o10 => rz o10.1 o10.2) else ((F5_refuse h a0 2).bind fun o12 => rz o12.1 o12.2)
def F5_takeOpen (h : PH) (a0 : Nat) : Option (Int32 × PH) := cond (okO h a0 5) (F5_takeOpen_0 h a0) none
def F5_takePart_139  (h : PH) (a0 : Nat) (s0 : Int32) (u1 : Nat) : Option (Int32 × PH) := (F2_add h u1 s0).bind fun o1 => (pZ o1 a0 5 4 0).bind fun h3 => rz 1 h3
def F5_takePart_110  (h : PH) (a0 : Nat) (a1 : Nat) (x2 : Int32) (x3 : Int32) : Option (Int32 × PH) := (F5_countKnot h a0).bind fun o1 => if o1.1 = 0 then (rz 0 o1.2) else (if x3 = 0 then ((gR o1.2 a0 5 0).bind fun r5 => (gI o1.2 r5 7 6).bind fun v7 => F5_takePart_139  o1.2 a0 v7 a1) else (F5_takePart_139  o1.2 a0 (10000 + x2) a1))
def F5_takePart_87  (h : PH) (a0 : Nat) (a1 : Nat) (x2 : Int32) (x3 : Int32) : Option (Int32 × PH) := (gR h a0 5 0).bind fun r1 => (gI h r1 7 6).bind fun v3 => if v3 ≤ 9999 then (F5_takePart_110  h a0 a1 x2 x3) else (if x3 = 0 then ((F5_refuse h a0 2).bind fun o7 => rz o7.1 o7.2) else (F5_takePart_110  h a0 a1 x2 x3))
def F5_takePart_70  (h : PH) (a0 : Nat) (a1 : Nat) (x2 : Int32) (s0 : Int32) : Option (Int32 × PH) := if x2 = 25 then (F5_takePart_87  h a0 a1 x2 s0) else (if s0 = 0 then ((F5_refuse h a0 1).bind fun o3 => rz o3.1 o3.2) else (F5_takePart_87  h a0 a1 x2 s0))
def F5_takePart_69  (h : PH) (a0 : Nat) (a1 : Nat) (x2 : Int32) : Option (Int32 × PH) := F5_takePart_70  h a0 a1 x2 0
def F5_takePart_53  (h : PH) (a0 : Nat) (a1 : Nat) (x2 : Int32) : Option (Int32 × PH) := if x2 < 18 then (F5_takePart_69  h a0 a1 x2) else (if 24 ≤ x2 then (F5_takePart_69  h a0 a1 x2) else (F5_takePart_70  h a0 a1 x2 1))
def F5_takePart_0  (h : PH) (a0 : Nat) (a1 : Nat) : Option (Int32 × PH) := (gR h a0 5 0).bind fun r1 => (gI h r1 7 4).bind fun v3 => if v3 = 36 then ((F5_takeOpen h a0).bind fun o16 => rz o16.1 o16.2) else (if v3 = 15 then ((gI h a0 5 5).bind fun v7 => if v7 = 0 then (F5_takePart_53  h a0 a1 v3) else ((F5_countKnot h a0).bind fun o10 => if o10.1 = 0 then (rz 0 o10.2) else ((F5_letWait o10.2 a0 v3).bind fun o13 => if o13.1 = 0 then (rz 0 o13.2) else (rz 1 o13.2)))) else (F5_takePart_53  h a0 a1 v3))
def F5_takePart (h : PH) (a0 : Nat) (a1 : Nat) : Option (Int32 × PH) := cond (okO h a0 5) (F5_takePart_0 h a0 a1) none
def F5_takeClose_0  (h : PH) (a0 : Nat) (a1 : Nat) : Option (Int32 × PH) := (gI h a0 5 3).bind fun v1 => if v1 = 0 then ((F5_refuse h a0 1).bind fun o17 => rz o17.1 o17.2) else ((F5_release h a0 a1 1).bind fun o4 => (gI o4 a0 5 3).bind fun v6 => (pI o4 a0 5 3 (v6 - 1)).bind fun h8 => (gI h8 a0 5 2).bind fun v10 => if v10 ≤ 0 then (rz 1 h8) else ((gI h8 a0 5 2).bind fun v13 => (pI h8 a0 5 2 (v13 - 1)).bind fun h15 => rz 1 h15))
def F5_takeClose (h : PH) (a0 : Nat) (a1 : Nat) : Option (Int32 × PH) := cond (okO h a0 5) (F5_takeClose_0 h a0 a1) none
def F5_waitsForLike_0  (h : PH) (a0 : Nat) : Option (Int32 × PH) := (gI h a0 5 2).bind fun v1 => if v1 ≤ 0 then (rz 0 h) else ((gR h a0 5 1).bind fun r4 => (gI h a0 5 2).bind fun v6 => (aI h r4 0 (v6 - 1)).bind fun v9 => (F5_strengthOf h v9).bind fun o10 => (F5_strengthOf o10.2 28).bind fun o12 => if o10.1 = o12.1 then (rz 1 o12.2) else (rz 0 o12.2))
def F5_waitsForLike (h : PH) (a0 : Nat) : Option (Int32 × PH) := cond (okO h a0 5) (F5_waitsForLike_0 h a0) none
def F5_takeJoint_35  (h : PH) (a0 : Nat) : Option (Int32 × PH) := (F5_refuse h a0 1).bind fun o1 => rz o1.1 o1.2
def F5_takeJoint_115  (h : PH) (a0 : Nat) (x2 : Int32) (s0 : Int32) (u1 : Nat) : Option (Int32 × PH) := (pZ h u1 5 5 s0).bind fun h1 => (F5_countKnot h1 a0).bind fun o3 => if o3.1 = 0 then (rz 0 o3.2) else ((F5_letWait o3.2 a0 x2).bind fun o6 => if o6.1 = 0 then (rz 0 o6.2) else (rz 1 o6.2))
def F5_takeJoint_110  (h : PH) (a0 : Nat) (x2 : Int32) (u0 : Nat) : Option (Int32 × PH) := F5_takeJoint_115  h a0 x2 1 u0
def F5_takeJoint_92  (h : PH) (a0 : Nat) (x2 : Int32) : Option (Int32 × PH) := (pZ h a0 5 4 1).bind fun h1 => if x2 = 16 then (F5_takeJoint_110  h1 a0 x2 a0) else (if x2 = 17 then (F5_takeJoint_110  h1 a0 x2 a0) else (F5_takeJoint_115  h1 a0 x2 0 a0))
def F5_takeJoint_71  (h : PH) (a0 : Nat) (x2 : Int32) (x4 : Int32) (s0 : Int32) (u1 : Nat) (u2 : Nat) : Option (Int32 × PH) := (F5_release h u2 u1 s0).bind fun o1 => if x4 = 0 then (F5_takeJoint_92  o1 a0 x2) else ((F5_waitsForLike o1 a0).bind fun o4 => if o4.1 = 0 then (F5_takeJoint_92  o4.2 a0 x2) else ((F5_refuse o4.2 a0 1).bind fun o7 => rz o7.1 o7.2))
def F5_takeJoint_55  (h : PH) (a0 : Nat) (a1 : Nat) (x2 : Int32) (x3 : Int32) (s0 : Int32) : Option (Int32 × PH) := if s0 = 0 then (F5_takeJoint_71  h a0 x2 s0 x3 a1 a0) else (F5_takeJoint_71  h a0 x2 s0 (x3 + 1) a1 a0)
def F5_takeJoint_0  (h : PH) (a0 : Nat) (a1 : Nat) : Option (Int32 × PH) := (gR h a0 5 0).bind fun r1 => (gI h r1 7 4).bind fun v3 => if v3 = 37 then ((F5_takeClose h a0 a1).bind fun o13 => rz o13.1 o13.2) else ((F5_strengthOf h v3).bind fun o6 => if o6.1 = 0 then (F5_takeJoint_35  o6.2 a0) else (if v3 = 15 then (F5_takeJoint_35  o6.2 a0) else ((F5_strengthOf o6.2 28).bind fun o10 => if o6.1 = o10.1 then (F5_takeJoint_55  o10.2 a0 a1 v3 o6.1 1) else (F5_takeJoint_55  o10.2 a0 a1 v3 o6.1 0))))
def F5_takeJoint (h : PH) (a0 : Nat) (a1 : Nat) : Option (Int32 × PH) := cond (okO h a0 5) (F5_takeJoint_0 h a0 a1) none
def F5_readLaw_81 (k33 : PH → Nat → Nat → Int32 → Option (Int32 × PH)) (h : PH) (a0 : Nat) (a1 : Nat) (x2 : Int32) : Option (Int32 × PH) := (gI h a0 5 4).bind fun v1 => if v1 = 0 then ((F5_takeJoint h a0 a1).bind fun o4 => if o4.1 = 0 then (rz 0 o4.2) else (k33 o4.2 a0 a1 (x2 + 1))) else ((F5_takePart h a0 a1).bind fun o7 => if o7.1 = 0 then (rz 0 o7.2) else (k33 o7.2 a0 a1 (x2 + 1)))
def F5_readLaw_33  : Nat → PH → Nat → Nat → Int32 → Option (Int32 × PH)
  | 0, _, _, _, _ => none
  | n + 1, h, a0, a1, x2 => if 700 < x2 then (rz 0 h) else ((gR h a0 5 0).bind fun r2 => (F7_advance h r2).bind fun o4 => (gI o4 a0 5 4).bind fun v6 => if v6 = 0 then ((gI o4 a0 5 3).bind fun v9 => if v9 = 0 then ((gR o4 a0 5 0).bind fun r12 => (gI o4 r12 7 4).bind fun v14 => if v14 = 38 then ((F5_release o4 a0 a1 1).bind fun o17 => rz 1 o17) else (F5_readLaw_81 (fun h a0 a1 x2 => F5_readLaw_33  n h a0 a1 x2) o4 a0 a1 x2)) else (F5_readLaw_81 (fun h a0 a1 x2 => F5_readLaw_33  n h a0 a1 x2) o4 a0 a1 x2)) else (F5_readLaw_81 (fun h a0 a1 x2 => F5_readLaw_33  n h a0 a1 x2) o4 a0 a1 x2))
def F5_readLaw_0  (h : PH) (a0 : Nat) : Option (Int32 × PH) := (F5_readKind h a0).bind fun o1 => (match o1.1 with | none => (rz 0 o1.2) | some r3 => ((pI o1.2 a0 5 2 0).bind fun h5 => (pI h5 a0 5 3 0).bind fun h7 => (pZ h7 a0 5 4 1).bind fun h9 => (pZ h9 a0 5 5 1).bind fun h11 => F5_readLaw_33  1024 h11 a0 r3 0))
def F5_readLaw (h : PH) (a0 : Nat) : Option (Int32 × PH) := cond (okO h a0 5) (F5_readLaw_0 h a0) none
def F5_readLine_0  (h : PH) (a0 : Nat) : Option (Int32 × PH) := (gR h a0 5 0).bind fun r1 => (gI h r1 7 4).bind fun v3 => if v3 = 0 then ((F5_readSea h a0).bind fun o6 => rz o6.1 o6.2) else if v3 = 1 then ((F5_readPeak h a0).bind fun o9 => rz o9.1 o9.2) else if v3 = 2 then ((F5_readSurfer h a0).bind fun o12 => rz o12.1 o12.2) else if v3 = 3 then ((F5_readSet h a0).bind fun o15 => rz o15.1 o15.2) else if v3 = 4 then ((F5_readBank h a0).bind fun o18 => rz o18.1 o18.2) else if v3 = 5 then ((F5_readRule h a0).bind fun o21 => rz o21.1 o21.2) else if v3 = 6 then ((F5_readSeed h a0).bind fun o24 => rz o24.1 o24.2) else if v3 = 7 then ((F5_readLaw h a0).bind fun o27 => rz o27.1 o27.2) else ((F5_refuse h a0 1).bind fun o29 => rz o29.1 o29.2)
def F5_readLine (h : PH) (a0 : Nat) : Option (Int32 × PH) := cond (okO h a0 5) (F5_readLine_0 h a0) none
def F5_readAll_44  : Nat → PH → Nat → Int32 → Option (Int32 × PH)
  | 0, _, _, _ => none
  | n + 1, h, a0, x4 => if 700 < x4 then (rz 1 h) else ((gR h a0 5 0).bind fun r2 => (F7_advance h r2).bind fun o4 => (gR o4 a0 5 0).bind fun r6 => (gI o4 r6 7 4).bind fun v8 => if v8 = 39 then (rz 1 o4) else ((F5_readLine o4 a0).bind fun o11 => if o11.1 = 0 then (rz 0 o11.2) else ((gR o11.2 a0 5 10).bind fun r14 => (gI o11.2 r14 8 12).bind fun v16 => (pI o11.2 r14 8 12 (v16 + 1)).bind fun h18 => F5_readAll_44  n h18 a0 (x4 + 1))))
def F5_readAll_0  (h : PH) (a0 : Nat) (a1 : Nat) (x2 : Int32) (a3 : Nat) : Option (Int32 × PH) := (pR h a0 5 10 a3).bind fun h1 => (gR h1 a0 5 10).bind fun r3 => (F8_forget h1 r3).bind fun o5 => (pI o5 a0 5 8 0).bind fun h7 => (pI h7 a0 5 9 (-1)).bind fun h9 => (pI h9 a0 5 6 0).bind fun h11 => (pZ h11 a0 5 7 0).bind fun h13 => (gR h13 a0 5 0).bind fun r15 => (F7_begin h13 r15 a1 x2).bind fun o17 => F5_readAll_44  1024 o17 a0 0
def F5_readAll (h : PH) (a0 : Nat) (a1 : Nat) (x2 : Int32) (a3 : Nat) : Option (Int32 × PH) := cond (okO h a0 5) (F5_readAll_0 h a0 a1 x2 a3) none
def F6_awayValue_0  (h : PH) (a0 : Nat) (x1 : Int32) (x2 : Int32) : Option (Int64 × PH) := (F6_nameAway h a0 x1 x2).bind fun o1 => (gR o1 a0 6 0).bind fun r3 => (gR o1 r3 8 11).bind fun r5 => (aR o1 r5 2).bind fun r8 => (gR o1 a0 6 4).bind fun r9 => (gR o1 a0 6 5).bind fun r11 => (F2_valueFor o1 r8 r9 r11).bind fun o13 => some (o13.1, o13.2)
def F6_awayValue (h : PH) (a0 : Nat) (x1 : Int32) (x2 : Int32) : Option (Int64 × PH) := cond (okO h a0 6) (F6_awayValue_0 h a0 x1 x2) none
def F6_hadOfSet_3  : Nat → PH → Nat → Nat → Int32 → Int32 → Int32 → Option (Int32 × PH)
  | 0, _, _, _, _, _, _ => none
  | n + 1, h, a0, a1, x2, x3, x4 => (gR h a0 6 0).bind fun r1 => (gR h r1 8 5).bind fun r3 => (gI h r3 10 1).bind fun v5 => if v5 ≤ x4 then (rz 0 h) else ((gR h a0 6 0).bind fun r8 => (gR h r8 8 5).bind fun r10 => (gR h r10 10 6).bind fun r12 => (aI h r12 0 x4).bind fun v15 => if v15 = x3 then ((gR h a1 4 10).bind fun r17 => (aI h r17 0 x4).bind fun v20 => if v20 = x2 then (rz 1 h) else (F6_hadOfSet_3  n h a0 a1 x2 x3 (x4 + 1))) else (F6_hadOfSet_3  n h a0 a1 x2 x3 (x4 + 1)))
def F6_hadOfSet_0  (h : PH) (a0 : Nat) (a1 : Nat) (x2 : Int32) (x3 : Int32) : Option (Int32 × PH) := F6_hadOfSet_3  1024 h a0 a1 x2 x3 0
def F6_hadOfSet (h : PH) (a0 : Nat) (a1 : Nat) (x2 : Int32) (x3 : Int32) : Option (Int32 × PH) := cond (okO h a0 6) (F6_hadOfSet_0 h a0 a1 x2 x3) none
def F6_keyFor_0  (h : PH) (a0 : Nat) (a1 : Nat) (x2 : Int32) (x3 : Int32) : Option (Int32 × PH) := (gR h a1 4 5).bind fun r1 => (aI h r1 0 x2).bind fun v4 => (F6_farOf h a0 v4 x3).bind fun o5 => (gI o5.2 a1 4 1).bind fun v7 => if v7 = 1 then ((gR o5.2 a1 4 6).bind fun r10 => (aI o5.2 r10 0 x2).bind fun v13 => some (v13, o5.2)) else if v7 = 2 then ((gR o5.2 a0 6 0).bind fun r15 => (gR o5.2 r15 8 5).bind fun r17 => (gR o5.2 r17 10 6).bind fun r19 => (aI o5.2 r19 0 x3).bind fun v22 => (F6_hadOfSet o5.2 a0 a1 x2 v22).bind fun o23 => if o23.1 = 0 then (some (o5.1, o23.2)) else (some ((100 + o5.1), o23.2))) else if v7 = 3 then ((gR o5.2 a0 6 0).bind fun r27 => (gR o5.2 a1 4 5).bind fun r29 => (aI o5.2 r29 0 x2).bind fun v32 => (F8_rowOf o5.2 r27 v32).bind fun o33 => some ((-o33.1), o33.2)) else (some (o5.1, o5.2))
def F6_keyFor (h : PH) (a0 : Nat) (a1 : Nat) (x2 : Int32) (x3 : Int32) : Option (Int32 × PH) := cond (okO h a0 6) (F6_keyFor_0 h a0 a1 x2 x3) none
def F6_putInLine_48  (h : PH) (a0 : Nat) (x1 : Int32) (x3 : Int32) : Option (PH) := (gR h a0 6 6).bind fun r1 => (sI h r1 0 x3 x1).bind fun h4 => some h4
def F6_putInLine_2  : Nat → PH → Nat → Int32 → Int32 → Option (PH)
  | 0, _, _, _, _ => none
  | n + 1, h, a0, x1, x3 => if x3 ≤ 0 then (F6_putInLine_48  h a0 x1 x3) else ((gR h a0 6 8).bind fun r2 => (gR h a0 6 6).bind fun r4 => (aI h r4 0 (x3 - 1)).bind fun v7 => (aI h r2 0 v7).bind fun v9 => (gR h a0 6 8).bind fun r10 => (aI h r10 0 x1).bind fun v13 => if v9 ≤ v13 then (F6_putInLine_48  h a0 x1 x3) else ((gR h a0 6 6).bind fun r15 => (gR h a0 6 6).bind fun r17 => (aI h r17 0 (x3 - 1)).bind fun v20 => (sI h r15 0 x3 v20).bind fun h22 => F6_putInLine_2  n h22 a0 x1 (x3 + (-1))))
def F6_putInLine_0  (h : PH) (a0 : Nat) (x1 : Int32) (x2 : Int32) : Option (PH) := F6_putInLine_2  1024 h a0 x1 x2
def F6_putInLine (h : PH) (a0 : Nat) (x1 : Int32) (x2 : Int32) : Option (PH) := cond (okO h a0 6) (F6_putInLine_0 h a0 x1 x2) none
def F6_lineUp_6  : Nat → PH → Nat → Nat → Int32 → Int32 → Int32 → Int32 → Option (Int32 × PH)
  | 0, _, _, _, _, _, _, _ => none
  | n + 1, h, a0, a1, x2, x3, x4, x5 => (gR h a0 6 0).bind fun r1 => (gR h r1 8 4).bind fun r3 => (gI h r3 1 0).bind fun v5 => if v5 ≤ x5 then (some (x4, h)) else ((F4_isIn h a1 x5 x3).bind fun o8 => if o8.1 = 0 then (F6_lineUp_6  n o8.2 a0 a1 x2 x3 x4 (x5 + 1)) else ((gR o8.2 a0 6 7).bind fun r11 => (gR o8.2 a1 4 5).bind fun r13 => (aI o8.2 r13 0 x5).bind fun v16 => (F6_oddsAt o8.2 a0 x5 x2 v16).bind fun o17 => (sI o17.2 r11 0 x5 o17.1).bind fun h20 => (gR h20 a0 6 7).bind fun r21 => (aI h20 r21 0 x5).bind fun v24 => if v24 ≤ 0 then (F6_lineUp_6  n h20 a0 a1 x2 x3 x4 (x5 + 1)) else ((gR h20 a0 6 8).bind fun r26 => (F6_keyFor h20 a0 a1 x5 x2).bind fun o28 => (sI o28.2 r26 0 x5 o28.1).bind fun h31 => (F6_putInLine h31 a0 x5 x4).bind fun o32 => F6_lineUp_6  n o32 a0 a1 x2 x3 (x4 + 1) (x5 + 1))))
def F6_lineUp_0  (h : PH) (a0 : Nat) (a1 : Nat) (x2 : Int32) (x3 : Int32) : Option (Int32 × PH) := F6_lineUp_6  1024 h a0 a1 x2 x3 0 0
def F6_lineUp (h : PH) (a0 : Nat) (a1 : Nat) (x2 : Int32) (x3 : Int32) : Option (Int32 × PH) := cond (okO h a0 6) (F6_lineUp_0 h a0 a1 x2 x3) none
def F6_placeOfRider_2  : Nat → PH → Nat → Nat → Int32 → Int32 → Option (Int32 × PH)
  | 0, _, _, _, _, _ => none
  | n + 1, h, a0, a1, x2, x3 => if x2 ≤ x3 then (some ((-1), h)) else ((F4_drawHundredth h a1).bind fun o2 => (gR o2.2 a0 6 7).bind fun r4 => (gR o2.2 a0 6 6).bind fun r6 => (aI o2.2 r6 0 x3).bind fun v9 => (aI o2.2 r4 0 v9).bind fun v11 => if v11 ≤ o2.1 then (F6_placeOfRider_2  n o2.2 a0 a1 x2 (x3 + 1)) else (some (x3, o2.2)))
def F6_placeOfRider_0  (h : PH) (a0 : Nat) (a1 : Nat) (x2 : Int32) : Option (Int32 × PH) := F6_placeOfRider_2  1024 h a0 a1 x2 0
def F6_placeOfRider (h : PH) (a0 : Nat) (a1 : Nat) (x2 : Int32) : Option (Int32 × PH) := cond (okO h a0 6) (F6_placeOfRider_0 h a0 a1 x2) none
def F6_crosserBehind_5  : Nat → PH → Nat → Nat → Int32 → Int32 → Option (Int32 × PH)
  | 0, _, _, _, _, _ => none
  | n + 1, h, a0, a1, x3, x4 => if x3 ≤ x4 then (some ((-1), h)) else ((gR h a0 6 2).bind fun r2 => (gR h a0 6 6).bind fun r4 => (aI h r4 0 x4).bind fun v7 => (aI h r2 0 v7).bind fun v9 => if v9 ≤ 0 then (F6_crosserBehind_5  n h a0 a1 x3 (x4 + 1)) else ((F4_drawHundredth h a1).bind fun o11 => if v9 ≤ o11.1 then (F6_crosserBehind_5  n o11.2 a0 a1 x3 (x4 + 1)) else ((gR o11.2 a0 6 6).bind fun r14 => (aI o11.2 r14 0 x4).bind fun v17 => some (v17, o11.2))))
def F6_crosserBehind_0  (h : PH) (a0 : Nat) (a1 : Nat) (x2 : Int32) (x3 : Int32) : Option (Int32 × PH) := F6_crosserBehind_5  1024 h a0 a1 x3 (x2 + 1)
def F6_crosserBehind (h : PH) (a0 : Nat) (a1 : Nat) (x2 : Int32) (x3 : Int32) : Option (Int32 × PH) := cond (okO h a0 6) (F6_crosserBehind_0 h a0 a1 x2 x3) none
def F6_sendAway_0  (h : PH) (a0 : Nat) (a1 : Nat) (x2 : Int32) (x3 : Int32) (x4 : Int32) : Option (PH) := (gR h a1 4 8).bind fun r1 => (gR h a0 6 0).bind fun r3 => (gR h r3 8 5).bind fun r5 => (gR h r5 10 4).bind fun r7 => (aI h r7 0 x3).bind fun v10 => (F6_awayFor h a0 x2 x3).bind fun o11 => (sI o11.2 r1 0 x2 (v10 + (x4 * o11.1))).bind fun h14 => some h14
def F6_sendAway (h : PH) (a0 : Nat) (a1 : Nat) (x2 : Int32) (x3 : Int32) (x4 : Int32) : Option (PH) := cond (okO h a0 6) (F6_sendAway_0 h a0 a1 x2 x3 x4) none
def F6_bringWave_0  (h : PH) (a0 : Nat) (a1 : Nat) (x2 : Int32) : Option (PH) := (gR h a0 6 0).bind fun r1 => (gR h r1 8 5).bind fun r3 => (gR h r3 10 4).bind fun r5 => (aI h r5 0 x2).bind fun v8 => (F6_lineUp h a0 a1 x2 v8).bind fun o9 => (F6_placeOfRider o9.2 a0 a1 o9.1).bind fun o11 => if o11.1 = (-1) then ((gR o11.2 a1 4 10).bind fun r57 => (sI o11.2 r57 0 x2 (-1)).bind fun h60 => (gI h60 a1 4 4).bind fun v61 => (pI h60 a1 4 4 (v61 + 1)).bind fun h63 => some h63) else ((gR o11.2 a0 6 6).bind fun r14 => (aI o11.2 r14 0 o11.1).bind fun v17 => (F6_crosserBehind o11.2 a0 a1 o11.1 o9.1).bind fun o18 => if o18.1 = (-1) then ((gR o18.2 a1 4 10).bind fun r45 => (sI o18.2 r45 0 x2 v17).bind fun h48 => (gR h48 a1 4 6).bind fun r49 => (aI h48 r49 0 v17).bind fun v52 => (sI h48 r49 0 v17 (v52 + 1)).bind fun h54 => (F6_sendAway h54 a0 a1 v17 x2 1).bind fun o55 => some o55) else ((gR o18.2 a1 4 10).bind fun r21 => (sI o18.2 r21 0 x2 (-3)).bind fun h24 => (gI h24 a1 4 3).bind fun v25 => (pI h24 a1 4 3 (v25 + 1)).bind fun h27 => (gR h27 a1 4 7).bind fun r29 => (aI h27 r29 0 v17).bind fun v32 => (sI h27 r29 0 v17 (v32 + 1)).bind fun h34 => (gR h34 a1 4 7).bind fun r35 => (aI h34 r35 0 o18.1).bind fun v38 => (sI h34 r35 0 o18.1 (v38 + 1)).bind fun h40 => (F6_sendAway h40 a0 a1 v17 x2 2).bind fun o41 => (F6_sendAway o41 a0 a1 o18.1 x2 2).bind fun o43 => some o43))
def F6_bringWave (h : PH) (a0 : Nat) (a1 : Nat) (x2 : Int32) : Option (PH) := cond (okO h a0 6) (F6_bringWave_0 h a0 a1 x2) none
def F6_catchValue_0  (h : PH) (a0 : Nat) (x1 : Int32) (x2 : Int32) (x3 : Int32) : Option (Int64 × PH) := (F6_nameCatch h a0 x1 x2 x3).bind fun o1 => (gR o1 a0 6 0).bind fun r3 => (gR o1 r3 8 11).bind fun r5 => (aR o1 r5 0).bind fun r8 => (gR o1 a0 6 4).bind fun r9 => (gR o1 a0 6 5).bind fun r11 => (F2_valueFor o1 r8 r9 r11).bind fun o13 => some (o13.1, o13.2)
def F6_catchValue (h : PH) (a0 : Nat) (x1 : Int32) (x2 : Int32) (x3 : Int32) : Option (Int64 × PH) := cond (okO h a0 6) (F6_catchValue_0 h a0 x1 x2 x3) none
def F6_crossingOdds_74 (k28 : PH → Nat → Int32 → Int32 → Int32 → Int32 → Int32 → Option (Int32 × PH)) (h : PH) (a0 : Nat) (x2 : Int32) (x4 : Int32) (x5 : Int32) (x6 : Int32) (x7 : Int32) (x8 : Int32) : Option (Int32 × PH) := (gR h a0 6 2).bind fun r1 => (aI h r1 0 x8).bind fun v4 => k28 h a0 x2 x4 x5 ((x6 * (100 - v4)) / 100) (x7 + 1)
def F6_crossingOdds_28  : Nat → PH → Nat → Int32 → Int32 → Int32 → Int32 → Int32 → Option (Int32 × PH)
  | 0, _, _, _, _, _, _, _ => none
  | n + 1, h, a0, x2, x4, x5, x6, x7 => if x4 ≤ x7 then (some ((100 - x6), h)) else ((gR h a0 6 6).bind fun r2 => (aI h r2 0 x7).bind fun v5 => (gR h a0 6 8).bind fun r6 => (aI h r6 0 v5).bind fun v9 => if x5 < v9 then (F6_crossingOdds_74 (fun h a0 x2 x4 x5 x6 x7 => F6_crossingOdds_28  n h a0 x2 x4 x5 x6 x7) h a0 x2 x4 x5 x6 x7 v5) else ((gR h a0 6 8).bind fun r11 => (aI h r11 0 v5).bind fun v14 => if v14 = x5 then (if v5 ≤ x2 then (F6_crossingOdds_28  n h a0 x2 x4 x5 x6 (x7 + 1)) else (F6_crossingOdds_74 (fun h a0 x2 x4 x5 x6 x7 => F6_crossingOdds_28  n h a0 x2 x4 x5 x6 x7) h a0 x2 x4 x5 x6 x7 v5)) else (F6_crossingOdds_28  n h a0 x2 x4 x5 x6 (x7 + 1))))
def F6_crossingOdds_0  (h : PH) (a0 : Nat) (a1 : Nat) (x2 : Int32) (x3 : Int32) : Option (Int32 × PH) := (gI h a1 4 0).bind fun v1 => (F6_lineUp h a0 a1 x3 v1).bind fun o3 => (F6_keyFor o3.2 a0 a1 x2 x3).bind fun o5 => F6_crossingOdds_28  1024 o5.2 a0 x2 o3.1 o5.1 100 0
def F6_crossingOdds (h : PH) (a0 : Nat) (a1 : Nat) (x2 : Int32) (x3 : Int32) : Option (Int32 × PH) := cond (okO h a0 6) (F6_crossingOdds_0 h a0 a1 x2 x3) none
def F6_driftValue_2  : Nat → PH → Nat → Int32 → Int32 → Option (Int64 × PH)
  | 0, _, _, _, _ => none
  | n + 1, h, a0, x1, x2 => if 6 ≤ x2 then ((gR h a0 6 4).bind fun r2 => (sJ h r2 4 (Int32.toInt64 x1)).bind fun h5 => (gR h5 a0 6 0).bind fun r6 => (gR h5 r6 8 11).bind fun r8 => (aR h5 r8 1).bind fun r11 => (gR h5 a0 6 4).bind fun r12 => (gR h5 a0 6 5).bind fun r14 => (F2_valueFor h5 r11 r12 r14).bind fun o16 => some (o16.1, o16.2)) else ((gR h a0 6 4).bind fun r18 => (sJ h r18 x2 (0 : Int64)).bind fun h21 => F6_driftValue_2  n h21 a0 x1 (x2 + 1))
def F6_driftValue_0  (h : PH) (a0 : Nat) (x1 : Int32) : Option (Int64 × PH) := F6_driftValue_2  1024 h a0 x1 0
def F6_driftValue (h : PH) (a0 : Nat) (x1 : Int32) : Option (Int64 × PH) := cond (okO h a0 6) (F6_driftValue_0 h a0 x1) none
def F6_giveBoards_2  : Nat → PH → Nat → Int32 → Int32 → Option (PH)
  | 0, _, _, _, _ => none
  | n + 1, h, a0, x1, x2 => if 5 ≤ x2 then (some h) else ((gR h a0 6 1).bind fun r2 => (sI h r2 0 x2 x1).bind fun h5 => F6_giveBoards_2  n h5 a0 x1 (x2 + 1))
def F6_giveBoards_0  (h : PH) (a0 : Nat) (x1 : Int32) : Option (PH) := F6_giveBoards_2  1024 h a0 x1 0
def F6_giveBoards (h : PH) (a0 : Nat) (x1 : Int32) : Option (PH) := cond (okO h a0 6) (F6_giveBoards_0 h a0 x1) none
def F6_holdPeak_2  : Nat → PH → Nat → Int32 → Option (PH)
  | 0, _, _, _ => none
  | n + 1, h, a0, x1 => if 28 ≤ x1 then (some h) else ((gR h a0 6 3).bind fun r2 => (gR h a0 6 0).bind fun r4 => (gI h r4 8 2).bind fun v6 => (sI h r2 0 x1 v6).bind fun h9 => F6_holdPeak_2  n h9 a0 (x1 + 1))
def F6_holdPeak_0  (h : PH) (a0 : Nat) : Option (PH) := F6_holdPeak_2  1024 h a0 0
def F6_holdPeak (h : PH) (a0 : Nat) : Option (PH) := cond (okO h a0 6) (F6_holdPeak_0 h a0) none
def F6_makeNobodyBold_2  : Nat → PH → Nat → Int32 → Option (PH)
  | 0, _, _, _ => none
  | n + 1, h, a0, x1 => if 5 ≤ x1 then (some h) else ((gR h a0 6 2).bind fun r2 => (sI h r2 0 x1 0).bind fun h5 => F6_makeNobodyBold_2  n h5 a0 (x1 + 1))
def F6_makeNobodyBold_0  (h : PH) (a0 : Nat) : Option (PH) := F6_makeNobodyBold_2  1024 h a0 0
def F6_makeNobodyBold (h : PH) (a0 : Nat) : Option (PH) := cond (okO h a0 6) (F6_makeNobodyBold_0 h a0) none
def F6_peakXAt_39  (h : PH) (a0 : Nat) (t0 : Int64) (t1 : Int64) : Option (Int32 × PH) := (gR h a0 6 0).bind fun r1 => (gI h r1 8 0).bind fun v3 => some ((Int64.toInt32 (if (if (t1 + t0) < (Int32.toInt64 (v3 - 1)) then (t1 + t0) else (Int32.toInt64 (v3 - 1))) < (0 : Int64) then (0 : Int64) else (if (t1 + t0) < (Int32.toInt64 (v3 - 1)) then (t1 + t0) else (Int32.toInt64 (v3 - 1))))), h)
def F6_peakXAt_0  (h : PH) (a0 : Nat) (x1 : Int32) : Option (Int32 × PH) := (F6_driftValue h a0 x1).bind fun o1 => (gR o1.2 a0 6 0).bind fun r3 => (gI o1.2 r3 8 2).bind fun v5 => if (lg_cmp o1.1 (-9223372036854775808 : Int64)) = 0 then (F6_peakXAt_39  o1.2 a0 (0 : Int64) (Int32.toInt64 v5)) else (F6_peakXAt_39  o1.2 a0 (if (if o1.1 < (8 : Int64) then o1.1 else (8 : Int64)) < (-8 : Int64) then (-8 : Int64) else (if o1.1 < (8 : Int64) then o1.1 else (8 : Int64))) (Int32.toInt64 v5))
def F6_peakXAt (h : PH) (a0 : Nat) (x1 : Int32) : Option (Int32 × PH) := cond (okO h a0 6) (F6_peakXAt_0 h a0 x1) none
def F6_seatFrom_6  : Nat → PH → Nat → Int32 → Int32 → Int32 → Int32 → Option (Int32 × PH)
  | 0, _, _, _, _, _, _ => none
  | n + 1, h, a0, x1, x2, x4, x5 => (gR h a0 6 0).bind fun r1 => (gR h r1 8 5).bind fun r3 => (gI h r3 10 1).bind fun v5 => if v5 ≤ x5 then (some (x4, h)) else ((F6_worthAt h a0 x1 x5 x2).bind fun o8 => F6_seatFrom_6  n o8.2 a0 x1 x2 (x4 + o8.1) (x5 + 1))
def F6_seatFrom_0  (h : PH) (a0 : Nat) (x1 : Int32) (x2 : Int32) (x3 : Int32) : Option (Int32 × PH) := F6_seatFrom_6  1024 h a0 x1 x2 0 x3
def F6_seatFrom (h : PH) (a0 : Nat) (x1 : Int32) (x2 : Int32) (x3 : Int32) : Option (Int32 × PH) := cond (okO h a0 6) (F6_seatFrom_0 h a0 x1 x2 x3) none
def F6_takeAsTold_47  : Nat → PH → Nat → Int32 → Option (PH)
  | 0, _, _, _ => none
  | n + 1, h, a0, x2 => (gR h a0 6 0).bind fun r1 => (gR h r1 8 5).bind fun r3 => (gI h r3 10 1).bind fun v5 => if v5 ≤ x2 then (some h) else ((gR h a0 6 3).bind fun r8 => (gR h a0 6 0).bind fun r10 => (gR h r10 8 5).bind fun r12 => (gR h r12 10 4).bind fun r14 => (aI h r14 0 x2).bind fun v17 => (F6_peakXAt h a0 v17).bind fun o18 => (sI o18.2 r8 0 x2 o18.1).bind fun h21 => F6_takeAsTold_47  n h21 a0 (x2 + 1))
/-! The pure functions of the methods (written by wip/gen/gen.py, split.py). -/
def F6_takeAsTold_0  (h : PH) (a0 : Nat) (a1 : Nat) : Option (PH) := (pR h a0 6 0 a1).bind fun h1 => (gR h1 a0 6 0).bind fun r3 => (gR h1 r3 8 4).bind fun r5 => (gR h1 r5 1 3).bind fun r7 => (gR h1 a0 6 1).bind fun r9 => (cpI h1 r7 0 r9 0 5).bind fun h11 => (gR h11 a0 6 0).bind fun r13 => (gR h11 r13 8 4).bind fun r15 => (gR h11 r15 1 5).bind fun r17 => (gR h11 a0 6 2).bind fun r19 => (cpI h11 r17 0 r19 0 5).bind fun h21 => F6_takeAsTold_47  1024 h21 a0 0
def F6_takeAsTold (h : PH) (a0 : Nat) (a1 : Nat) : Option (PH) := cond (okO h a0 6) (F6_takeAsTold_0 h a0 a1) none
def F6_takeOver_0  (h : PH) (a0 : Nat) (a1 : Nat) : Option (PH) := (gR h a1 6 0).bind fun r1 => (pR h a0 6 0 r1).bind fun h3 => (gR h3 a1 6 1).bind fun r5 => (gR h3 a0 6 1).bind fun r7 => (cpI h3 r5 0 r7 0 5).bind fun h9 => (gR h9 a1 6 2).bind fun r11 => (gR h9 a0 6 2).bind fun r13 => (cpI h9 r11 0 r13 0 5).bind fun h15 => (gR h15 a1 6 3).bind fun r17 => (gR h15 a0 6 3).bind fun r19 => (cpI h15 r17 0 r19 0 28).bind fun h21 => some h21
def F6_takeOver (h : PH) (a0 : Nat) (a1 : Nat) : Option (PH) := cond (okO h a0 6) (F6_takeOver_0 h a0 a1) none
def F8_bankWaves_0  (h : PH) (a0 : Nat) (x1 : Int32) (x2 : Int32) : Option (Int32 × PH) := (gI h a0 8 6).bind fun v1 => if ((x2 - x1) - v1) < 0 then (some (0, h)) else ((gI h a0 8 7).bind fun v4 => if 1 ≤ v4 then ((gI h a0 8 7).bind fun v7 => if v7 = 0 then none else some (((((x2 - x1) - v1) / v7) + 1), h)) else (some (0, h)))
def F8_bankWaves (h : PH) (a0 : Nat) (x1 : Int32) (x2 : Int32) : Option (Int32 × PH) := cond (okO h a0 8) (F8_bankWaves_0 h a0 x1 x2) none
def F8_cells_0  (h : PH) (a0 : Nat) : Option (Int32 × PH) := (gI h a0 8 0).bind fun v1 => (gI h a0 8 1).bind fun v3 => some ((v1 * v3), h)
def F8_cells (h : PH) (a0 : Nat) : Option (Int32 × PH) := cond (okO h a0 8) (F8_cells_0 h a0) none
def F9_add_45  (h : PH) (a0 : Nat) (x1 : Int32) (x2 : Int32) : Option (PH) := (gR h a0 9 1).bind fun r1 => (gI h a0 9 0).bind fun v3 => (sI h r1 0 v3 x1).bind fun h6 => (gR h6 a0 9 2).bind fun r7 => (gI h6 a0 9 0).bind fun v9 => (sI h6 r7 0 v9 x2).bind fun h12 => (gI h12 a0 9 0).bind fun v13 => (pI h12 a0 9 0 (v13 + 1)).bind fun h15 => some h15
def F9_add_0  (h : PH) (a0 : Nat) (x1 : Int32) (x2 : Int32) : Option (PH) := (gI h a0 9 0).bind fun v1 => if v1 < 20 then (F9_add_45  h a0 x1 x2) else ((gR h a0 9 1).bind fun r4 => (gR h a0 9 1).bind fun r6 => (cpI h r4 1 r6 0 19).bind fun h8 => (gR h8 a0 9 2).bind fun r10 => (gR h8 a0 9 2).bind fun r12 => (cpI h8 r10 1 r12 0 19).bind fun h14 => (pI h14 a0 9 0 19).bind fun h16 => F9_add_45  h16 a0 x1 x2)
def F9_add (h : PH) (a0 : Nat) (x1 : Int32) (x2 : Int32) : Option (PH) := cond (okO h a0 9) (F9_add_0 h a0 x1 x2) none
def F10_isLargest_14  : Nat → PH → Nat → Int32 → Int32 → Int32 → Option (Int32 × PH)
  | 0, _, _, _, _, _ => none
  | n + 1, h, a0, x1, x3, x4 => (gR h a0 10 3).bind fun r1 => (aI h r1 0 x1).bind fun v4 => if v4 ≤ x4 then (rz 1 h) else ((gR h a0 10 5).bind fun r6 => (gR h a0 10 2).bind fun r8 => (aI h r8 0 x1).bind fun v11 => (aI h r6 0 (v11 + x4)).bind fun v13 => (gR h a0 10 5).bind fun r14 => (aI h r14 0 x3).bind fun v17 => if v13 ≤ v17 then (F10_isLargest_14  n h a0 x1 x3 (x4 + 1)) else (rz 0 h))
def F10_isLargest_0  (h : PH) (a0 : Nat) (x1 : Int32) (x2 : Int32) : Option (Int32 × PH) := (gR h a0 10 2).bind fun r1 => (aI h r1 0 x1).bind fun v4 => F10_isLargest_14  1024 h a0 x1 ((v4 + x2) - 1) 0
def F10_isLargest (h : PH) (a0 : Nat) (x1 : Int32) (x2 : Int32) : Option (Int32 × PH) := cond (okO h a0 10) (F10_isLargest_0 h a0 x1 x2) none
def F10_lengthOf_0  (h : PH) (a0 : Nat) (x1 : Int32) : Option (Int32 × PH) := (gR h a0 10 3).bind fun r1 => (aI h r1 0 x1).bind fun v4 => some (v4, h)
def F10_lengthOf (h : PH) (a0 : Nat) (x1 : Int32) : Option (Int32 × PH) := cond (okO h a0 10) (F10_lengthOf_0 h a0 x1) none
def F10_setFrom_2  : Nat → PH → Nat → Int32 → Int32 → Option (Int32 × PH)
  | 0, _, _, _, _ => none
  | n + 1, h, a0, x1, x2 => (gI h a0 10 0).bind fun v1 => if v1 ≤ x2 then (some ((-1), h)) else ((F10_firstMinute h a0 x2).bind fun o4 => if o4.1 < x1 then (F10_setFrom_2  n o4.2 a0 x1 (x2 + 1)) else (some (x2, o4.2)))
def F10_setFrom_0  (h : PH) (a0 : Nat) (x1 : Int32) : Option (Int32 × PH) := F10_setFrom_2  1024 h a0 x1 0
def F10_setFrom (h : PH) (a0 : Nat) (x1 : Int32) : Option (Int32 × PH) := cond (okO h a0 10) (F10_setFrom_0 h a0 x1) none
def F11_back_0  (h : PH) (a0 : Nat) : Option (Int32 × PH) := (gI h a0 11 10).bind fun v1 => if v1 = 0 then (some ((-1), h)) else ((gR h a0 11 7).bind fun r4 => (gR h a0 11 9).bind fun r6 => (F4_takeAll h r4 r6).bind fun o8 => (gR o8 a0 11 12).bind fun r10 => (pI o8 r10 9 0 0).bind fun h12 => (gR h12 a0 11 7).bind fun r14 => (gI h12 r14 4 0).bind fun v16 => some (v16, h12))
def F11_back (h : PH) (a0 : Nat) : Option (Int32 × PH) := cond (okO h a0 11) (F11_back_0 h a0) none
def F11_beginAnew_0  (h : PH) (a0 : Nat) : Option (PH) := (gR h a0 11 5).bind fun r1 => (gR h a0 11 3).bind fun r3 => (F6_takeAsTold h r1 r3).bind fun o5 => (gR o5 a0 11 7).bind fun r7 => (gR o5 a0 11 3).bind fun r9 => (F4_begin o5 r7 r9).bind fun o11 => (gR o11 a0 11 11).bind fun r13 => (pI o11 r13 3 0 0).bind fun h15 => (gR h15 a0 11 11).bind fun r17 => (pI h15 r17 3 1 (-1)).bind fun h19 => (gR h19 a0 11 12).bind fun r21 => (pI h19 r21 9 0 0).bind fun h23 => (pZ h23 a0 11 10 0).bind fun h25 => some h25
def F11_beginAnew (h : PH) (a0 : Nat) : Option (PH) := cond (okO h a0 11) (F11_beginAnew_0 h a0) none
def F11_isSurfer_0  (h : PH) (a0 : Nat) (x1 : Int32) : Option (Int32 × PH) := if x1 < 0 then (rz 0 h) else ((gR h a0 11 3).bind fun r2 => (gR h r2 8 4).bind fun r4 => (gI h r4 1 0).bind fun v6 => if v6 ≤ x1 then (rz 0 h) else (rz 1 h))
def F11_isSurfer (h : PH) (a0 : Nat) (x1 : Int32) : Option (Int32 × PH) := cond (okO h a0 11) (F11_isSurfer_0 h a0 x1) none
def F11_firstToCome_0  (h : PH) (a0 : Nat) : Option (Int32 × PH) := (gR h a0 11 3).bind fun r1 => (gR h r1 8 5).bind fun r3 => (gR h a0 11 7).bind fun r5 => (gI h r5 4 0).bind fun v7 => (F10_firstFrom h r3 v7).bind fun o9 => some (o9.1, o9.2)
def F11_firstToCome (h : PH) (a0 : Nat) : Option (Int32 × PH) := cond (okO h a0 11) (F11_firstToCome_0 h a0) none
def F11_best_17  : Nat → PH → Nat → Int32 → Int32 → Int32 → Int32 → Option (Int32 × PH)
  | 0, _, _, _, _, _, _ => none
  | n + 1, h, a0, x1, x2, x3, x4 => (gR h a0 11 3).bind fun r1 => (F8_cells h r1).bind fun o3 => if o3.1 ≤ x4 then (some (x2, o3.2)) else ((gR o3.2 a0 11 5).bind fun r6 => (F11_firstToCome o3.2 a0).bind fun o8 => (F6_seatFrom o8.2 r6 x1 x4 o8.1).bind fun o10 => if o10.1 ≤ x3 then (F11_best_17  n o10.2 a0 x1 x2 x3 (x4 + 1)) else (F11_best_17  n o10.2 a0 x1 x4 o10.1 (x4 + 1)))
def F11_best_0  (h : PH) (a0 : Nat) (x1 : Int32) : Option (Int32 × PH) := (F11_isSurfer h a0 x1).bind fun o1 => if o1.1 = 0 then (some ((-1), o1.2)) else (F11_best_17  1024 o1.2 a0 x1 0 (-1) 0)
def F11_best (h : PH) (a0 : Nat) (x1 : Int32) : Option (Int32 × PH) := cond (okO h a0 11) (F11_best_0 h a0 x1) none
def F11_runBy_18  : Nat → PH → Nat → Int32 → Option (PH)
  | 0, _, _, _ => none
  | n + 1, h, a0, x3 => (gR h a0 11 3).bind fun r1 => (gR h r1 8 5).bind fun r3 => (gI h r3 10 1).bind fun v5 => if v5 ≤ x3 then (some h) else ((gR h a0 11 5).bind fun r8 => (gR h a0 11 8).bind fun r10 => (F6_bringWave h r8 r10 x3).bind fun o12 => F11_runBy_18  n o12 a0 (x3 + 1))
def F11_runBy_0  (h : PH) (a0 : Nat) (x1 : Int32) (x2 : Int32) : Option (PH) := (gR h a0 11 8).bind fun r1 => (gR h a0 11 7).bind fun r3 => (F4_takeForRun h r1 r3 x1 x2).bind fun o5 => (F11_firstToCome o5 a0).bind fun o7 => F11_runBy_18  1024 o7.2 a0 o7.1
def F11_runBy (h : PH) (a0 : Nat) (x1 : Int32) (x2 : Int32) : Option (PH) := cond (okO h a0 11) (F11_runBy_0 h a0 x1 x2) none
def F11_chance_33  : Nat → PH → Nat → Int32 → Int32 → Int32 → Int32 → Int32 → Option (Int32 × PH)
  | 0, _, _, _, _, _, _, _ => none
  | n + 1, h, a0, x2, x3, x4, x5, x6 => if 10 ≤ x6 then (some (x4, h)) else ((gR h a0 11 7).bind fun r2 => (gI h r2 4 1).bind fun v4 => (F11_runBy h a0 v4 x5).bind fun o6 => (gR o6 a0 11 8).bind fun r8 => (gI o6 r8 4 2).bind fun v10 => (gR o6 a0 11 8).bind fun r12 => (gR o6 r12 4 6).bind fun r14 => (aI o6 r14 0 x2).bind fun v17 => if v17 < x3 then (F11_chance_33  n o6 a0 x2 x3 x4 v10 (x6 + 1)) else (F11_chance_33  n o6 a0 x2 x3 (x4 + 1) v10 (x6 + 1)))
def F11_chance_0  (h : PH) (a0 : Nat) (x1 : Int32) (x2 : Int32) (x3 : Int32) : Option (Int32 × PH) := if x1 < 0 then (some ((-1), h)) else ((F11_isSurfer h a0 x2).bind fun o2 => if o2.1 = 0 then (some ((-1), o2.2)) else (if x3 < 0 then (some ((-1), o2.2)) else (if x3 ≤ 28 then (F11_chance_33  1024 o2.2 a0 x2 x3 0 x1 0) else (some ((-1), o2.2)))))
def F11_chance (h : PH) (a0 : Nat) (x1 : Int32) (x2 : Int32) (x3 : Int32) : Option (Int32 × PH) := cond (okO h a0 11) (F11_chance_0 h a0 x1 x2 x3) none
def F11_changeTrial_0  (h : PH) (a0 : Nat) (x1 : Int32) (x2 : Int32) : Option (PH) := if x1 = 0 then ((gR h a0 11 6).bind fun r2 => (F6_makeNobodyBold h r2).bind fun o4 => some o4) else if x1 = 1 then ((gR h a0 11 8).bind fun r7 => (F4_leaveOut h r7 x2).bind fun o9 => some o9) else if x1 = 2 then ((gR h a0 11 6).bind fun r12 => (F6_holdPeak h r12).bind fun o14 => some o14) else if x1 = 3 then ((gR h a0 11 6).bind fun r17 => (F6_giveBoards h r17 9).bind fun o19 => some o19) else ((gR h a0 11 8).bind fun r21 => (gR h a0 11 8).bind fun r23 => (gR h r23 4 5).bind fun r25 => (aI h r25 0 x2).bind fun v28 => (F4_seatAll h r21 v28).bind fun o29 => some o29)
def F11_changeTrial (h : PH) (a0 : Nat) (x1 : Int32) (x2 : Int32) : Option (PH) := cond (okO h a0 11) (F11_changeTrial_0 h a0 x1 x2) none
def F11_count_0  (h : PH) (a0 : Nat) (x1 : Int32) : Option (Int32 × PH) := if x1 = 0 then ((gR h a0 11 3).bind fun r2 => (gI h r2 8 0).bind fun v4 => some (v4, h)) else if x1 = 1 then ((gR h a0 11 3).bind fun r7 => (gI h r7 8 1).bind fun v9 => some (v9, h)) else if x1 = 2 then ((gR h a0 11 3).bind fun r12 => (gR h r12 8 4).bind fun r14 => (gI h r14 1 0).bind fun v16 => some (v16, h)) else if x1 = 3 then ((gR h a0 11 3).bind fun r19 => (gR h r19 8 5).bind fun r21 => (gI h r21 10 0).bind fun v23 => some (v23, h)) else if x1 = 4 then ((gR h a0 11 3).bind fun r26 => (gR h r26 8 5).bind fun r28 => (gI h r28 10 1).bind fun v30 => some (v30, h)) else if x1 = 5 then ((gR h a0 11 3).bind fun r33 => (gI h r33 8 13).bind fun v35 => some (v35, h)) else if x1 = 6 then ((gR h a0 11 7).bind fun r38 => (gI h r38 4 0).bind fun v40 => some (v40, h)) else if x1 = 7 then ((gR h a0 11 7).bind fun r43 => (gI h r43 4 1).bind fun v45 => some (v45, h)) else if x1 = 8 then ((gR h a0 11 7).bind fun r48 => (gI h r48 4 3).bind fun v50 => some (v50, h)) else if x1 = 9 then ((gR h a0 11 7).bind fun r53 => (gI h r53 4 4).bind fun v55 => some (v55, h)) else if x1 = 10 then ((gR h a0 11 3).bind fun r58 => (gR h r58 8 5).bind fun r60 => (gI h r60 10 1).bind fun v62 => (F11_firstToCome h a0).bind fun o64 => some ((v62 - o64.1), o64.2)) else if x1 = 11 then ((gR h a0 11 11).bind fun r67 => (gI h r67 3 0).bind fun v69 => some (v69, h)) else if x1 = 12 then ((gR h a0 11 11).bind fun r72 => (F3_howManyKnown h r72).bind fun o74 => some (o74.1, o74.2)) else if x1 = 13 then ((gR h a0 11 12).bind fun r77 => (gI h r77 9 0).bind fun v79 => some (v79, h)) else (some ((-1), h))
def F11_count (h : PH) (a0 : Nat) (x1 : Int32) : Option (Int32 × PH) := cond (okO h a0 11) (F11_count_0 h a0 x1) none
def F11_farNow_0  (h : PH) (a0 : Nat) (x1 : Int32) : Option (Int32 × PH) := (gR h a0 11 3).bind fun r1 => (gR h a0 11 7).bind fun r3 => (gR h r3 4 5).bind fun r5 => (aI h r5 0 x1).bind fun v8 => (gR h a0 11 5).bind fun r9 => (gR h a0 11 7).bind fun r11 => (gI h r11 4 0).bind fun v13 => (F6_peakXAt h r9 v13).bind fun o15 => (F8_farFrom o15.2 r1 v8 o15.1).bind fun o17 => some (o17.1, o17.2)
def F11_farNow (h : PH) (a0 : Nat) (x1 : Int32) : Option (Int32 × PH) := cond (okO h a0 11) (F11_farNow_0 h a0 x1) none
def F11_deeper_0  (h : PH) (a0 : Nat) (x1 : Int32) (x2 : Int32) : Option (Int32 × PH) := (F11_isSurfer h a0 x1).bind fun o1 => if o1.1 = 0 then (some ((-1), o1.2)) else ((F11_isSurfer o1.2 a0 x2).bind fun o4 => if o4.1 = 0 then (some ((-1), o4.2)) else ((F11_farNow o4.2 a0 x1).bind fun o7 => (F11_farNow o7.2 a0 x2).bind fun o9 => if o7.1 = o9.1 then (some (0, o9.2)) else (if o9.1 ≤ o7.1 then (some (2, o9.2)) else (some (1, o9.2)))))
def F11_deeper (h : PH) (a0 : Nat) (x1 : Int32) (x2 : Int32) : Option (Int32 × PH) := cond (okO h a0 11) (F11_deeper_0 h a0 x1 x2) none
def F11_fairest_89 (k16 : PH → Nat → Int32 → Int32 → Int32 → Int32 → Int32 → Option (Int32 × PH)) (h : PH) (a0 : Nat) (x1 : Int32) (x5 : Int32) (x6 : Int32) (x7 : Int32) : Option (Int32 × PH) := k16 h a0 x1 x5 x6 x7 (x5 + 1)
def F11_fairest_16  : Nat → PH → Nat → Int32 → Int32 → Int32 → Int32 → Int32 → Option (Int32 × PH)
  | 0, _, _, _, _, _, _, _ => none
  | n + 1, h, a0, x1, x2, x3, x4, x5 => if 4 ≤ x5 then (some (x2, h)) else ((F11_runBy h a0 x5 x1).bind fun o2 => (gR o2 a0 11 8).bind fun r4 => (gR o2 a0 11 3).bind fun r6 => (gR o2 r6 8 4).bind fun r8 => (gI o2 r8 1 0).bind fun v10 => (F4_unlike o2 r4 v10).bind fun o12 => (gR o12.2 a0 11 8).bind fun r14 => (gI o12.2 r14 4 3).bind fun v16 => (gR o12.2 a0 11 8).bind fun r18 => (gI o12.2 r18 4 4).bind fun v20 => if x2 = (-1) then (F11_fairest_89 (fun h a0 x1 x2 x3 x4 x5 => F11_fairest_16  n h a0 x1 x2 x3 x4 x5) o12.2 a0 x1 x5 o12.1 (v16 + v20)) else (if o12.1 < x3 then (F11_fairest_89 (fun h a0 x1 x2 x3 x4 x5 => F11_fairest_16  n h a0 x1 x2 x3 x4 x5) o12.2 a0 x1 x5 o12.1 (v16 + v20)) else (if o12.1 = x3 then (if x4 ≤ (v16 + v20) then (F11_fairest_16  n o12.2 a0 x1 x2 x3 x4 (x5 + 1)) else (F11_fairest_89 (fun h a0 x1 x2 x3 x4 x5 => F11_fairest_16  n h a0 x1 x2 x3 x4 x5) o12.2 a0 x1 x5 o12.1 (v16 + v20))) else (F11_fairest_16  n o12.2 a0 x1 x2 x3 x4 (x5 + 1)))))
def F11_fairest_0  (h : PH) (a0 : Nat) (x1 : Int32) : Option (Int32 × PH) := if 0 ≤ x1 then (F11_fairest_16  1024 h a0 x1 (-1) 0 0 0) else (some ((-1), h))
def F11_fairest (h : PH) (a0 : Nat) (x1 : Int32) : Option (Int32 × PH) := cond (okO h a0 11) (F11_fairest_0 h a0 x1) none
def F11_fault_0  (h : PH) (a0 : Nat) (x1 : Int32) : Option (Int32 × PH) := if x1 = 0 then ((gR h a0 11 2).bind fun r7 => (gI h r7 5 8).bind fun v9 => some (v9, h)) else (if x1 = 1 then ((gR h a0 11 2).bind fun r3 => (gI h r3 5 9).bind fun v5 => some (v5, h)) else (some ((-1), h)))
def F11_fault (h : PH) (a0 : Nat) (x1 : Int32) : Option (Int32 × PH) := cond (okO h a0 11) (F11_fault_0 h a0 x1) none
def F11_putOnTape_3  : Nat → PH → Nat → Int32 → Int32 → Option (PH)
  | 0, _, _, _, _ => none
  | n + 1, h, a0, x1, x2 => if x2 < 0 then (some h) else ((gI h a0 11 1).bind fun v2 => if 700 ≤ v2 then (some h) else ((gR h a0 11 0).bind fun r5 => (gI h a0 11 1).bind fun v7 => (sI h r5 1 v7 (vp_nar .byte ((Int32.toInt8 (x1 >>> (x2 &&& 31))).toInt32))).bind fun h10 => (gI h10 a0 11 1).bind fun v11 => (pI h10 a0 11 1 (v11 + 1)).bind fun h13 => F11_putOnTape_3  n h13 a0 x1 (x2 + (-8))))
def F11_putOnTape_0  (h : PH) (a0 : Nat) (x1 : Int32) : Option (PH) := F11_putOnTape_3  1024 h a0 x1 24
def F11_putOnTape (h : PH) (a0 : Nat) (x1 : Int32) : Option (PH) := cond (okO h a0 11) (F11_putOnTape_0 h a0 x1) none
def F11_feed_0  (h : PH) (a0 : Nat) (x1 : Int32) (x2 : Int32) (x3 : Int32) (x4 : Int32) (x5 : Int32) : Option (Int32 × PH) := (gI h a0 11 1).bind fun v1 => if (v1 + 20) ≤ 700 then ((F11_putOnTape h a0 x1).bind fun o4 => (F11_putOnTape o4 a0 x2).bind fun o6 => (F11_putOnTape o6 a0 x3).bind fun o8 => (F11_putOnTape o8 a0 x4).bind fun o10 => (F11_putOnTape o10 a0 x5).bind fun o12 => (gI o12 a0 11 1).bind fun v14 => some (v14, o12)) else (some ((-1), h))
def F11_feed (h : PH) (a0 : Nat) (x1 : Int32) (x2 : Int32) (x3 : Int32) (x4 : Int32) (x5 : Int32) : Option (Int32 × PH) := cond (okO h a0 11) (F11_feed_0 h a0 x1 x2 x3 x4 x5) none
def F11_gaps_26  : Nat → PH → Nat → Int32 → Int32 → Int32 → Int32 → Option (Int32 × PH)
  | 0, _, _, _, _, _, _ => none
  | n + 1, h, a0, x1, x2, x3, x4 => (gR h a0 11 3).bind fun r1 => (gR h r1 8 5).bind fun r3 => (gI h r3 10 0).bind fun v5 => if v5 ≤ x4 then (some (x3, h)) else ((gR h a0 11 3).bind fun r8 => (gR h r8 8 5).bind fun r10 => (F10_firstMinute h r10 x4).bind fun o12 => (gR o12.2 a0 11 3).bind fun r14 => (gR o12.2 r14 8 5).bind fun r16 => (F10_lastMinute o12.2 r16 (x4 - 1)).bind fun o18 => if x2 = 1 then (F11_gaps_26  n o18.2 a0 x1 x2 (x3 + 1) (x4 + 1)) else (if x1 < (o12.1 - o18.1) then (F11_gaps_26  n o18.2 a0 x1 x2 x3 (x4 + 1)) else (F11_gaps_26  n o18.2 a0 x1 x2 (x3 + 1) (x4 + 1))))
def F11_gaps_0  (h : PH) (a0 : Nat) (x1 : Int32) (x2 : Int32) : Option (Int32 × PH) := if x1 < 0 then (some ((-1), h)) else (if 99 < x1 then (some ((-1), h)) else (if x2 < 0 then (some ((-1), h)) else (if x2 ≤ 1 then (F11_gaps_26  1024 h a0 x1 x2 0 1) else (some ((-1), h)))))
def F11_gaps (h : PH) (a0 : Nat) (x1 : Int32) (x2 : Int32) : Option (Int32 × PH) := cond (okO h a0 11) (F11_gaps_0 h a0 x1 x2) none
def F11_give_0  (h : PH) (a0 : Nat) (x1 : Int32) (x2 : Int32) (x3 : Int32) : Option (Int32 × PH) := (F11_isSurfer h a0 x1).bind fun o1 => if o1.1 = 0 then (some ((-1), o1.2)) else ((F11_isSurfer o1.2 a0 x2).bind fun o4 => if o4.1 = 0 then (some ((-1), o4.2)) else (if x1 = x2 then (some ((-1), o4.2)) else (if x3 < 0 then (some ((-1), o4.2)) else (if x3 ≤ 99 then ((gR o4.2 a0 11 3).bind fun r10 => (gR o4.2 r10 8 4).bind fun r12 => (gR o4.2 r12 1 6).bind fun r14 => (aI o4.2 r14 0 x2).bind fun v17 => if (v17 * x3) ≤ 100 then (some (0, o4.2)) else (some (1, o4.2))) else (some ((-1), o4.2))))))
def F11_give (h : PH) (a0 : Nat) (x1 : Int32) (x2 : Int32) (x3 : Int32) : Option (Int32 × PH) := cond (okO h a0 11) (F11_give_0 h a0 x1 x2 x3) none
def F11_isWave_0  (h : PH) (a0 : Nat) (x1 : Int32) : Option (Int32 × PH) := if x1 < 0 then (rz 0 h) else ((gR h a0 11 3).bind fun r2 => (gR h r2 8 5).bind fun r4 => (gI h r4 10 1).bind fun v6 => if v6 ≤ x1 then (rz 0 h) else (rz 1 h))
def F11_isWave (h : PH) (a0 : Nat) (x1 : Int32) : Option (Int32 × PH) := cond (okO h a0 11) (F11_isWave_0 h a0 x1) none
def F11_isToCome_0  (h : PH) (a0 : Nat) (x1 : Int32) : Option (Int32 × PH) := (F11_isWave h a0 x1).bind fun o1 => if o1.1 = 0 then (rz 0 o1.2) else ((gR o1.2 a0 11 3).bind fun r4 => (gR o1.2 r4 8 5).bind fun r6 => (gR o1.2 r6 10 4).bind fun r8 => (aI o1.2 r8 0 x1).bind fun v11 => (gR o1.2 a0 11 7).bind fun r12 => (gI o1.2 r12 4 0).bind fun v14 => if v11 < v14 then (rz 0 o1.2) else (rz 1 o1.2))
def F11_isToCome (h : PH) (a0 : Nat) (x1 : Int32) : Option (Int32 × PH) := cond (okO h a0 11) (F11_isToCome_0 h a0 x1) none
def F11_go_0  (h : PH) (a0 : Nat) (x1 : Int32) (x2 : Int32) (x3 : Int32) : Option (Int32 × PH) := (F11_isSurfer h a0 x1).bind fun o1 => if o1.1 = 0 then (some ((-1), o1.2)) else ((F11_isToCome o1.2 a0 x2).bind fun o4 => if o4.1 = 0 then (some ((-1), o4.2)) else (if x3 < 0 then (some ((-1), o4.2)) else (if x3 ≤ 999 then ((gR o4.2 a0 11 5).bind fun r9 => (gR o4.2 a0 11 7).bind fun r11 => (gR o4.2 r11 4 5).bind fun r13 => (aI o4.2 r13 0 x1).bind fun v16 => (F6_worthAt o4.2 r9 x1 x2 v16).bind fun o17 => (gR o17.2 a0 11 5).bind fun r19 => (gR o17.2 a0 11 7).bind fun r21 => (F6_crossingOdds o17.2 r19 r21 x1 x2).bind fun o23 => if o17.1 ≤ (x3 * o23.1) then (some (0, o23.2)) else (some (1, o23.2))) else (some ((-1), o4.2)))))
def F11_go (h : PH) (a0 : Nat) (x1 : Int32) (x2 : Int32) (x3 : Int32) : Option (Int32 × PH) := cond (okO h a0 11) (F11_go_0 h a0 x1 x2 x3) none
def F11_isCell_0  (h : PH) (a0 : Nat) (x1 : Int32) : Option (Int32 × PH) := if x1 < 0 then (rz 0 h) else ((gR h a0 11 3).bind fun r2 => (F8_cells h r2).bind fun o4 => if o4.1 ≤ x1 then (rz 0 o4.2) else (rz 1 o4.2))
def F11_isCell (h : PH) (a0 : Nat) (x1 : Int32) : Option (Int32 × PH) := cond (okO h a0 11) (F11_isCell_0 h a0 x1) none
def F11_isRule_0  (h : PH) (x1 : Int32) : Option (Int32 × PH) := if x1 < 0 then (rz 0 h) else (if 4 ≤ x1 then (rz 0 h) else (rz 1 h))
def F11_isRule (h : PH) (a0 : Nat) (x1 : Int32) : Option (Int32 × PH) := cond (okO h a0 11) (F11_isRule_0 h x1) none
def F11_keep_0  (h : PH) (a0 : Nat) : Option (Int32 × PH) := (gR h a0 11 9).bind fun r1 => (gR h a0 11 7).bind fun r3 => (F4_takeAll h r1 r3).bind fun o5 => (pZ o5 a0 11 10 1).bind fun h7 => (gR h7 a0 11 7).bind fun r9 => (gI h7 r9 4 0).bind fun v11 => some (v11, h7)
def F11_keep (h : PH) (a0 : Nat) : Option (Int32 × PH) := cond (okO h a0 11) (F11_keep_0 h a0) none
def F11_known_0  (h : PH) (a0 : Nat) (x1 : Int32) : Option (Int32 × PH) := if x1 < (-1) then (rz 0 h) else ((gR h a0 11 11).bind fun r2 => (gI h r2 3 0).bind fun v4 => if x1 ≤ v4 then ((gR h a0 11 11).bind fun r7 => (pI h r7 3 1 x1).bind fun h9 => rz 1 h9) else (rz 0 h))
def F11_known (h : PH) (a0 : Nat) (x1 : Int32) : Option (Int32 × PH) := cond (okO h a0 11) (F11_known_0 h a0 x1) none
def F11_law_0  (h : PH) (a0 : Nat) (x1 : Int32) (x2 : Int32) (x3 : Int32) : Option (Int64 × PH) := if x1 = 2 then ((gR h a0 11 5).bind fun r24 => (gR h a0 11 7).bind fun r26 => (gI h r26 4 0).bind fun v28 => (F6_driftValue h r24 v28).bind fun o30 => some (o30.1, o30.2)) else ((F11_isSurfer h a0 x2).bind fun o2 => if o2.1 = 0 then (some ((-9223372036854775808 : Int64), o2.2)) else ((F11_isWave o2.2 a0 x3).bind fun o5 => if o5.1 = 0 then (some ((-9223372036854775808 : Int64), o5.2)) else (if x1 = 0 then ((gR o5.2 a0 11 5).bind fun r14 => (gR o5.2 a0 11 7).bind fun r16 => (gR o5.2 r16 4 5).bind fun r18 => (aI o5.2 r18 0 x2).bind fun v21 => (F6_catchValue o5.2 r14 x2 x3 v21).bind fun o22 => some (o22.1, o22.2)) else (if x1 = 1 then ((gR o5.2 a0 11 5).bind fun r10 => (F6_awayValue o5.2 r10 x2 x3).bind fun o12 => some (o12.1, o12.2)) else (some ((-9223372036854775808 : Int64), o5.2))))))
def F11_law (h : PH) (a0 : Nat) (x1 : Int32) (x2 : Int32) (x3 : Int32) : Option (Int64 × PH) := cond (okO h a0 11) (F11_law_0 h a0 x1 x2 x3) none
def F11_locals_74 (k26 : PH → Nat → Int32 → Int32 → Int32 → Int32 → Option (Int32 × PH)) (h : PH) (a0 : Nat) (x1 : Int32) (x2 : Int32) (x3 : Int32) (x4 : Int32) (s0 : Int32) : Option (Int32 × PH) := if s0 = (-1) then (k26 h a0 x1 x2 x3 (x4 + 1)) else ((gR h a0 11 11).bind fun r2 => (gR h r2 3 3).bind fun r4 => (aI h r4 0 x4).bind fun v7 => (gR h a0 11 5).bind fun r8 => (gR h a0 11 11).bind fun r10 => (gR h r10 3 4).bind fun r12 => (aI h r12 0 x4).bind fun v15 => (gR h a0 11 3).bind fun r16 => (gR h r16 8 5).bind fun r18 => (gR h r18 10 2).bind fun r20 => (aI h r20 0 s0).bind fun v23 => (F6_farOf h r8 v15 v23).bind fun o24 => if x1 < o24.1 then (k26 o24.2 a0 x1 x2 (x3 ||| (1 <<< (v7 &&& 31))) (x4 + 1)) else (k26 o24.2 a0 x1 (x2 ||| (1 <<< (v7 &&& 31))) x3 (x4 + 1)))
def F11_locals_26  : Nat → PH → Nat → Int32 → Int32 → Int32 → Int32 → Option (Int32 × PH)
  | 0, _, _, _, _, _, _ => none
  | n + 1, h, a0, x1, x2, x3, x4 => (gR h a0 11 11).bind fun r1 => (F3_howManyKnown h r1).bind fun o3 => if o3.1 ≤ x4 then (some ((x2 &&& (x3 ^^^ (-1))), o3.2)) else ((gR o3.2 a0 11 11).bind fun r6 => (F3_isKnownSeat o3.2 r6 x4).bind fun o8 => if o8.1 = 0 then (F11_locals_74 (fun h a0 x1 x2 x3 x4 => F11_locals_26  n h a0 x1 x2 x3 x4) o8.2 a0 x1 x2 x3 x4 (-1)) else ((gR o8.2 a0 11 3).bind fun r11 => (gR o8.2 r11 8 5).bind fun r13 => (gR o8.2 a0 11 11).bind fun r15 => (gR o8.2 r15 3 2).bind fun r17 => (aI o8.2 r17 0 x4).bind fun v20 => (F10_setFrom o8.2 r13 v20).bind fun o21 => F11_locals_74 (fun h a0 x1 x2 x3 x4 => F11_locals_26  n h a0 x1 x2 x3 x4) o21.2 a0 x1 x2 x3 x4 o21.1))
def F11_locals_0  (h : PH) (a0 : Nat) (x1 : Int32) : Option (Int32 × PH) := if x1 < 0 then (some ((-1), h)) else (if x1 ≤ 12 then ((gR h a0 11 11).bind fun r3 => (F3_findStruck h r3).bind fun o5 => F11_locals_26  1024 o5 a0 x1 0 0 0) else (some ((-1), h)))
def F11_locals (h : PH) (a0 : Nat) (x1 : Int32) : Option (Int32 × PH) := cond (okO h a0 11) (F11_locals_0 h a0 x1) none
def F11_passMinute_66  (h : PH) (a0 : Nat) : Option (PH) := (gR h a0 11 7).bind fun r1 => (gR h a0 11 3).bind fun r3 => (gR h r3 8 4).bind fun r5 => (gI h r5 1 0).bind fun v7 => (F4_beginMinute h r1 v7).bind fun o9 => (gR o9 a0 11 12).bind fun r11 => (pI o9 r11 9 0 0).bind fun h13 => some h13
def F11_passMinute_0  (h : PH) (a0 : Nat) : Option (PH) := (gR h a0 11 3).bind fun r1 => (gR h r1 8 5).bind fun r3 => (gR h a0 11 7).bind fun r5 => (gI h r5 4 0).bind fun v7 => (F10_firstFrom h r3 v7).bind fun o9 => (gR o9.2 a0 11 3).bind fun r11 => (gR o9.2 r11 8 5).bind fun r13 => (gI o9.2 r13 10 1).bind fun v15 => if v15 ≤ o9.1 then (F11_passMinute_66  o9.2 a0) else ((gR o9.2 a0 11 3).bind fun r18 => (gR o9.2 r18 8 5).bind fun r20 => (gR o9.2 r20 10 4).bind fun r22 => (aI o9.2 r22 0 o9.1).bind fun v25 => (gR o9.2 a0 11 7).bind fun r26 => (gI o9.2 r26 4 0).bind fun v28 => if v25 = v28 then ((gR o9.2 a0 11 5).bind fun r31 => (gR o9.2 a0 11 7).bind fun r33 => (F6_bringWave o9.2 r31 r33 o9.1).bind fun o35 => F11_passMinute_66  o35 a0) else (F11_passMinute_66  o9.2 a0))
def F11_passMinute (h : PH) (a0 : Nat) : Option (PH) := cond (okO h a0 11) (F11_passMinute_0 h a0) none
def F11_minutes_29  : Nat → PH → Nat → Int32 → Int32 → Option (Int32 × PH)
  | 0, _, _, _, _ => none
  | n + 1, h, a0, x1, x2 => if x1 ≤ x2 then ((gR h a0 11 7).bind fun r2 => (gI h r2 4 0).bind fun v4 => some (v4, h)) else ((F11_passMinute h a0).bind fun o6 => F11_minutes_29  n o6 a0 x1 (x2 + 1))
def F11_minutes_0  (h : PH) (a0 : Nat) (x1 : Int32) : Option (Int32 × PH) := if x1 < 0 then (some ((-1), h)) else (if 99 < x1 then (some ((-1), h)) else ((gR h a0 11 7).bind fun r3 => (gI h r3 4 0).bind fun v5 => if (v5 + x1) ≤ 199 then (F11_minutes_29  1024 h a0 x1 0) else (some ((-1), h))))
def F11_minutes (h : PH) (a0 : Nat) (x1 : Int32) : Option (Int32 × PH) := cond (okO h a0 11) (F11_minutes_0 h a0 x1) none
def F11_named_2  : Nat → PH → Nat → Int32 → Int32 → Option (Int32 × PH)
  | 0, _, _, _, _ => none
  | n + 1, h, a0, x1, x2 => (gR h a0 11 3).bind fun r1 => (gR h r1 8 4).bind fun r3 => (gI h r3 1 0).bind fun v5 => if v5 ≤ x2 then (some ((-1), h)) else ((gR h a0 11 3).bind fun r8 => (gR h r8 8 4).bind fun r10 => (gR h r10 1 1).bind fun r12 => (aI h r12 0 x2).bind fun v15 => if v15 = x1 then (some (x2, h)) else (F11_named_2  n h a0 x1 (x2 + 1)))
def F11_named_0  (h : PH) (a0 : Nat) (x1 : Int32) : Option (Int32 × PH) := F11_named_2  1024 h a0 x1 0
def F11_named (h : PH) (a0 : Nat) (x1 : Int32) : Option (Int32 × PH) := cond (okO h a0 11) (F11_named_0 h a0 x1) none
def F11_next_0  (h : PH) (a0 : Nat) : Option (Int32 × PH) := (gR h a0 11 3).bind fun r1 => (gR h r1 8 5).bind fun r3 => (gR h a0 11 7).bind fun r5 => (gI h r5 4 0).bind fun v7 => (F10_setFrom h r3 v7).bind fun o9 => if o9.1 = (-1) then (some ((-2), o9.2)) else ((gR o9.2 a0 11 3).bind fun r12 => (gR o9.2 r12 8 5).bind fun r14 => (F10_firstMinute o9.2 r14 o9.1).bind fun o16 => (gR o16.2 a0 11 7).bind fun r18 => (gI o16.2 r18 4 0).bind fun v20 => some ((o16.1 - v20), o16.2))
def F11_next (h : PH) (a0 : Nat) : Option (Int32 × PH) := cond (okO h a0 11) (F11_next_0 h a0) none
def F11_note_0  (h : PH) (a0 : Nat) (x1 : Int32) (x2 : Int32) (x3 : Int32) : Option (Int32 × PH) := if x1 < 0 then (some ((-1), h)) else (if 199 < x1 then (some ((-1), h)) else ((F11_isSurfer h a0 x2).bind fun o3 => if o3.1 = 0 then (some ((-1), o3.2)) else ((F11_isCell o3.2 a0 x3).bind fun o6 => if o6.1 = 0 then (some ((-1), o6.2)) else ((gR o6.2 a0 11 11).bind fun r9 => (F3_addSeat o6.2 r9 x1 x2 x3).bind fun o11 => some (o11.1, o11.2)))))
def F11_note (h : PH) (a0 : Nat) (x1 : Int32) (x2 : Int32) (x3 : Int32) : Option (Int32 × PH) := cond (okO h a0 11) (F11_note_0 h a0 x1 x2 x3) none
def F11_odds_0  (h : PH) (a0 : Nat) (x1 : Int32) (x2 : Int32) (x3 : Int32) : Option (Int32 × PH) := (F11_isSurfer h a0 x1).bind fun o1 => if o1.1 = 0 then (some ((-1), o1.2)) else ((F11_isWave o1.2 a0 x2).bind fun o4 => if o4.1 = 0 then (some ((-1), o4.2)) else ((F11_isCell o4.2 a0 x3).bind fun o7 => if o7.1 = 0 then (some ((-1), o7.2)) else ((gR o7.2 a0 11 5).bind fun r10 => (F6_oddsAt o7.2 r10 x1 x2 x3).bind fun o12 => some (o12.1, o12.2))))
def F11_odds (h : PH) (a0 : Nat) (x1 : Int32) (x2 : Int32) (x3 : Int32) : Option (Int32 × PH) := cond (okO h a0 11) (F11_odds_0 h a0 x1 x2 x3) none
def F11_order_0  (h : PH) (a0 : Nat) (x1 : Int32) (x2 : Int32) : Option (Int32 × PH) := (F11_isToCome h a0 x1).bind fun o1 => if o1.1 = 0 then (some ((-1), o1.2)) else (if 0 ≤ x2 then ((gR o1.2 a0 11 5).bind fun r5 => (gR o1.2 a0 11 7).bind fun r7 => (gR o1.2 a0 11 7).bind fun r9 => (gI o1.2 r9 4 0).bind fun v11 => (F6_lineUp o1.2 r5 r7 x1 v11).bind fun o13 => if o13.1 ≤ x2 then (some ((-2), o13.2)) else ((gR o13.2 a0 11 5).bind fun r16 => (gR o13.2 r16 6 6).bind fun r18 => (aI o13.2 r18 0 x2).bind fun v21 => some (v21, o13.2))) else (some ((-1), o1.2)))
def F11_order (h : PH) (a0 : Nat) (x1 : Int32) (x2 : Int32) : Option (Int32 × PH) := cond (okO h a0 11) (F11_order_0 h a0 x1 x2) none
def F11_over_93  : Nat → PH → Nat → Int32 → Int32 → Int32 → Int32 → Int32 → Option (Int32 × PH)
  | 0, _, _, _, _, _, _, _ => none
  | n + 1, h, a0, x1, x2, x3, x4, x5 => if x2 < x5 then (some ((-2), h)) else ((gR h a0 11 3).bind fun r2 => (gI h r2 8 8).bind fun v4 => (gR h a0 11 3).bind fun r6 => (F8_bankWaves h r6 x5 x2).bind fun o8 => if ((100 * v4) * o8.1) ≤ x4 then ((gR o8.2 a0 11 3).bind fun r11 => (gR o8.2 r11 8 5).bind fun r13 => (gI o8.2 r13 10 1).bind fun v15 => if v15 ≤ x3 then (F11_over_93  n o8.2 a0 x1 x2 x3 x4 (x5 + 1)) else ((gR o8.2 a0 11 3).bind fun r18 => (gR o8.2 r18 8 5).bind fun r20 => (gR o8.2 r20 10 4).bind fun r22 => (aI o8.2 r22 0 x3).bind fun v25 => if v25 = x5 then ((gR o8.2 a0 11 5).bind fun r27 => (gR o8.2 a0 11 7).bind fun r29 => (gR o8.2 r29 4 5).bind fun r31 => (aI o8.2 r31 0 x1).bind fun v34 => (F6_worthAt o8.2 r27 x1 x3 v34).bind fun o35 => F11_over_93  n o35.2 a0 x1 x2 (x3 + 1) (x4 - o35.1) (x5 + 1)) else (F11_over_93  n o8.2 a0 x1 x2 x3 x4 (x5 + 1)))) else (some (x5, o8.2)))
def F11_over_0  (h : PH) (a0 : Nat) (x1 : Int32) : Option (Int32 × PH) := (F11_isSurfer h a0 x1).bind fun o1 => if o1.1 = 0 then (some ((-1), o1.2)) else ((gR o1.2 a0 11 3).bind fun r4 => (gI o1.2 r4 8 7).bind fun v6 => if v6 < 1 then (some ((-1), o1.2)) else ((gR o1.2 a0 11 3).bind fun r9 => (gR o1.2 r9 8 5).bind fun r11 => (gI o1.2 r11 10 1).bind fun v13 => if 1 ≤ v13 then ((gR o1.2 a0 11 3).bind fun r16 => (gR o1.2 r16 8 5).bind fun r18 => (gR o1.2 r18 10 4).bind fun r20 => (gR o1.2 a0 11 3).bind fun r22 => (gR o1.2 r22 8 5).bind fun r24 => (gI o1.2 r24 10 1).bind fun v26 => (aI o1.2 r20 0 (v26 - 1)).bind fun v29 => (F11_firstToCome o1.2 a0).bind fun o30 => (gR o30.2 a0 11 5).bind fun r32 => (gR o30.2 a0 11 7).bind fun r34 => (gR o30.2 r34 4 5).bind fun r36 => (aI o30.2 r36 0 x1).bind fun v39 => (F6_seatFrom o30.2 r32 x1 v39 o30.1).bind fun o40 => (gR o40.2 a0 11 7).bind fun r42 => (gI o40.2 r42 4 0).bind fun v44 => F11_over_93  1024 o40.2 a0 x1 v29 o30.1 o40.1 v44) else (some ((-1), o1.2))))
def F11_over (h : PH) (a0 : Nat) (x1 : Int32) : Option (Int32 × PH) := cond (okO h a0 11) (F11_over_0 h a0 x1) none
def F11_peak_0  (h : PH) (a0 : Nat) (x1 : Int32) : Option (Int32 × PH) := if x1 < 0 then (some ((-1), h)) else (if x1 ≤ 199 then ((gR h a0 11 3).bind fun r3 => (gI h r3 8 3).bind fun v5 => (gR h a0 11 3).bind fun r7 => (gI h r7 8 0).bind fun v9 => (gR h a0 11 5).bind fun r11 => (F6_peakXAt h r11 x1).bind fun o13 => some (((v5 * v9) + o13.1), o13.2)) else (some ((-1), h)))
def F11_peak (h : PH) (a0 : Nat) (x1 : Int32) : Option (Int32 × PH) := cond (okO h a0 11) (F11_peak_0 h a0 x1) none
def F11_plan_0  (h : PH) (a0 : Nat) (x1 : Int32) : Option (Int32 × PH) := (F11_isSurfer h a0 x1).bind fun o1 => if o1.1 = 0 then (some ((-1), o1.2)) else ((gR o1.2 a0 11 13).bind fun r4 => (gR o1.2 a0 11 5).bind fun r6 => (gR o1.2 a0 11 7).bind fun r8 => (F0_makePlan o1.2 r4 r6 r8 x1).bind fun o10 => (gR o10 a0 11 13).bind fun r12 => (gI o10 r12 0 12).bind fun v14 => some (v14, o10))
def F11_plan (h : PH) (a0 : Nat) (x1 : Int32) : Option (Int32 × PH) := cond (okO h a0 11) (F11_plan_0 h a0 x1) none
def F11_planned_0  (h : PH) (a0 : Nat) (x1 : Int32) (x2 : Int32) : Option (Int32 × PH) := (F11_isSurfer h a0 x1).bind fun o1 => if o1.1 = 0 then (some ((-1), o1.2)) else (if 0 ≤ x2 then ((gR o1.2 a0 11 13).bind fun r5 => (gR o1.2 a0 11 5).bind fun r7 => (gR o1.2 a0 11 7).bind fun r9 => (F0_makePlan o1.2 r5 r7 r9 x1).bind fun o11 => (gR o11 a0 11 13).bind fun r13 => (gI o11 r13 0 11).bind fun v15 => if v15 ≤ x2 then (some ((-2), o11)) else ((gR o11 a0 11 13).bind fun r18 => (gR o11 r18 0 10).bind fun r20 => (aI o11 r20 0 x2).bind fun v23 => some (v23, o11))) else (some ((-1), o1.2)))
def F11_planned (h : PH) (a0 : Nat) (x1 : Int32) (x2 : Int32) : Option (Int32 × PH) := cond (okO h a0 11) (F11_planned_0 h a0 x1 x2) none
def F11_rank_27  : Nat → PH → Nat → Int32 → Int32 → Int32 → Int32 → Option (Int32 × PH)
  | 0, _, _, _, _, _, _ => none
  | n + 1, h, a0, x1, x2, x3, x4 => (gR h a0 11 3).bind fun r1 => (gR h r1 8 5).bind fun r3 => (gI h r3 10 0).bind fun v5 => if v5 ≤ x4 then (some (x3, h)) else ((gR h a0 11 3).bind fun r8 => (gR h r8 8 5).bind fun r10 => (F10_lengthOf h r10 x4).bind fun o12 => if o12.1 < x1 then (F11_rank_27  n o12.2 a0 x1 x2 x3 (x4 + 1)) else (if x2 = 1 then (F11_rank_27  n o12.2 a0 x1 x2 (x3 + 1) (x4 + 1)) else ((gR o12.2 a0 11 3).bind fun r16 => (gR o12.2 r16 8 5).bind fun r18 => (F10_isLargest o12.2 r18 x4 x1).bind fun o20 => if o20.1 = 0 then (F11_rank_27  n o20.2 a0 x1 x2 x3 (x4 + 1)) else (F11_rank_27  n o20.2 a0 x1 x2 (x3 + 1) (x4 + 1)))))
def F11_rank_0  (h : PH) (a0 : Nat) (x1 : Int32) (x2 : Int32) : Option (Int32 × PH) := if x1 < 1 then (some ((-1), h)) else (if 7 < x1 then (some ((-1), h)) else (if x2 < 0 then (some ((-1), h)) else (if x2 ≤ 1 then (F11_rank_27  1024 h a0 x1 x2 0 0) else (some ((-1), h)))))
def F11_rank (h : PH) (a0 : Nat) (x1 : Int32) (x2 : Int32) : Option (Int32 × PH) := cond (okO h a0 11) (F11_rank_0 h a0 x1 x2) none
def F11_rest_0  (h : PH) (a0 : Nat) (x1 : Int32) (x2 : Int32) (x3 : Int32) : Option (Int32 × PH) := (F11_isSurfer h a0 x1).bind fun o1 => if o1.1 = 0 then (some ((-1), o1.2)) else ((F11_isSurfer o1.2 a0 x2).bind fun o4 => if o4.1 = 0 then (some ((-1), o4.2)) else (if x1 = x2 then (some ((-1), o4.2)) else (if 0 ≤ x3 then ((gR o4.2 a0 11 13).bind fun r9 => (gR o4.2 a0 11 5).bind fun r11 => (gR o4.2 a0 11 7).bind fun r13 => (F0_playGame o4.2 r9 r11 r13 x1 x2).bind fun o15 => (gR o15 a0 11 13).bind fun r17 => (gI o15 r17 0 6).bind fun v19 => if v19 ≤ x3 then (some ((-2), o15)) else ((gR o15 a0 11 13).bind fun r22 => (gR o15 r22 0 5).bind fun r24 => (aI o15 r24 0 x3).bind fun v27 => some (v27, o15))) else (some ((-1), o4.2)))))
def F11_rest (h : PH) (a0 : Nat) (x1 : Int32) (x2 : Int32) (x3 : Int32) : Option (Int32 × PH) := cond (okO h a0 11) (F11_rest_0 h a0 x1 x2 x3) none
def F11_rests_0  (h : PH) (a0 : Nat) (x1 : Int32) (x2 : Int32) : Option (Int32 × PH) := (F11_isSurfer h a0 x1).bind fun o1 => if o1.1 = 0 then (some ((-1), o1.2)) else ((F11_isSurfer o1.2 a0 x2).bind fun o4 => if o4.1 = 0 then (some ((-1), o4.2)) else (if x1 = x2 then (some ((-1), o4.2)) else ((gR o4.2 a0 11 13).bind fun r8 => (gR o4.2 a0 11 5).bind fun r10 => (gR o4.2 a0 11 7).bind fun r12 => (F0_playGame o4.2 r8 r10 r12 x1 x2).bind fun o14 => (gR o14 a0 11 13).bind fun r16 => (gI o14 r16 0 6).bind fun v18 => some (v18, o14))))
def F11_rests (h : PH) (a0 : Nat) (x1 : Int32) (x2 : Int32) : Option (Int32 × PH) := cond (okO h a0 11) (F11_rests_0 h a0 x1 x2) none
def F11_rule_0  (h : PH) (a0 : Nat) (x1 : Int32) : Option (Int32 × PH) := (F11_isRule h a0 x1).bind fun o1 => if o1.1 = 0 then (rz 0 o1.2) else ((gR o1.2 a0 11 7).bind fun r4 => (gI o1.2 r4 4 1).bind fun v6 => if x1 = v6 then (rz 0 o1.2) else ((gR o1.2 a0 11 12).bind fun r9 => (gR o1.2 a0 11 7).bind fun r11 => (gI o1.2 r11 4 1).bind fun v13 => (F9_add o1.2 r9 (-1) v13).bind fun o15 => (gR o15 a0 11 7).bind fun r17 => (pI o15 r17 4 1 x1).bind fun h19 => rz 1 h19))
def F11_rule (h : PH) (a0 : Nat) (x1 : Int32) : Option (Int32 × PH) := cond (okO h a0 11) (F11_rule_0 h a0 x1) none
def F11_seat_0  (h : PH) (a0 : Nat) (x1 : Int32) (x2 : Int32) : Option (Int32 × PH) := (F11_isSurfer h a0 x1).bind fun o1 => if o1.1 = 0 then (some ((-1), o1.2)) else ((F11_isCell o1.2 a0 x2).bind fun o4 => if o4.1 = 0 then (some ((-1), o4.2)) else ((gR o4.2 a0 11 5).bind fun r7 => (F11_firstToCome o4.2 a0).bind fun o9 => (F6_seatFrom o9.2 r7 x1 x2 o9.1).bind fun o11 => some (o11.1, o11.2)))
def F11_seat (h : PH) (a0 : Nat) (x1 : Int32) (x2 : Int32) : Option (Int32 × PH) := cond (okO h a0 11) (F11_seat_0 h a0 x1 x2) none
def F11_shares_0  (h : PH) (a0 : Nat) (x1 : Int32) : Option (Int32 × PH) := if x1 < 0 then (some ((-1), h)) else (if 1 < x1 then (some ((-1), h)) else ((gR h a0 11 3).bind fun r3 => (gR h r3 8 4).bind fun r5 => (gI h r5 1 0).bind fun v7 => if 1 ≤ v7 then (if x1 = 0 then ((gR h a0 11 7).bind fun r21 => (gR h a0 11 3).bind fun r23 => (gR h r23 8 4).bind fun r25 => (gI h r25 1 0).bind fun v27 => (F4_unlike h r21 v27).bind fun o29 => some (o29.1, o29.2)) else ((gR h a0 11 7).bind fun r11 => (gR h a0 11 3).bind fun r13 => (gR h r13 8 4).bind fun r15 => (gI h r15 1 0).bind fun v17 => (F4_hadInSum h r11 v17).bind fun o19 => some (o19.1, o19.2))) else (some ((-1), h))))
def F11_shares (h : PH) (a0 : Nat) (x1 : Int32) : Option (Int32 × PH) := cond (okO h a0 11) (F11_shares_0 h a0 x1) none
def F11_strike_0  (h : PH) (a0 : Nat) (x1 : Int32) : Option (Int32 × PH) := if x1 < 0 then (some ((-1), h)) else ((gR h a0 11 11).bind fun r2 => (gI h r2 3 0).bind fun v4 => if x1 < v4 then ((gR h a0 11 11).bind fun r7 => (F3_addStrike h r7 x1).bind fun o9 => some (o9.1, o9.2)) else (some ((-1), h)))
def F11_strike (h : PH) (a0 : Nat) (x1 : Int32) : Option (Int32 × PH) := cond (okO h a0 11) (F11_strike_0 h a0 x1) none
def F11_stroke_0  (h : PH) (a0 : Nat) (x1 : Int32) (x2 : Int32) : Option (Int32 × PH) := (F11_isSurfer h a0 x1).bind fun o1 => if o1.1 = 0 then (some ((-1), o1.2)) else (if x2 < 0 then (some ((-1), o1.2)) else (if x2 < 4 then ((gR o1.2 a0 11 7).bind fun r6 => (gR o1.2 r6 4 5).bind fun r8 => (aI o1.2 r8 0 x1).bind fun v11 => (gR o1.2 a0 11 3).bind fun r12 => (F8_cellBeside o1.2 r12 v11 x2).bind fun o14 => if o14.1 = (-1) then (some ((-2), o14.2)) else ((gR o14.2 a0 11 7).bind fun r17 => (gR o14.2 a0 11 7).bind fun r19 => (gI o14.2 r19 4 0).bind fun v21 => (F4_isIn o14.2 r17 x1 v21).bind fun o23 => if o23.1 = 0 then (some ((-2), o23.2)) else ((gR o23.2 a0 11 7).bind fun r26 => (gR o23.2 r26 4 9).bind fun r28 => (aI o23.2 r28 0 x1).bind fun v31 => (gR o23.2 a0 11 3).bind fun r32 => (gR o23.2 r32 8 4).bind fun r34 => (gR o23.2 r34 1 4).bind fun r36 => (aI o23.2 r36 0 x1).bind fun v39 => if v31 < v39 then ((gR o23.2 a0 11 7).bind fun r41 => (gR o23.2 r41 4 5).bind fun r43 => (sI o23.2 r43 0 x1 o14.1).bind fun h46 => (gR h46 a0 11 7).bind fun r47 => (gR h46 r47 4 9).bind fun r49 => (aI h46 r49 0 x1).bind fun v52 => (sI h46 r49 0 x1 (v52 + 1)).bind fun h54 => (gR h54 a0 11 12).bind fun r55 => (F9_add h54 r55 x1 v11).bind fun o57 => some (o14.1, o57)) else (some ((-2), o23.2))))) else (some ((-1), o1.2))))
def F11_stroke (h : PH) (a0 : Nat) (x1 : Int32) (x2 : Int32) : Option (Int32 × PH) := cond (okO h a0 11) (F11_stroke_0 h a0 x1 x2) none
def F11_table_39  (h : PH) (a0 : Nat) (x1 : Int32) (x2 : Int32) (x3 : Int32) : Option (Int32 × PH) := (F11_runBy h a0 x1 x2).bind fun o1 => if x3 = 5 then ((gR o1 a0 11 8).bind fun r4 => (gI o1 r4 4 3).bind fun v6 => some (v6, o1)) else if x3 = 6 then ((gR o1 a0 11 8).bind fun r9 => (gI o1 r9 4 4).bind fun v11 => some (v11, o1)) else if x3 = 7 then ((gR o1 a0 11 8).bind fun r14 => (gR o1 a0 11 3).bind fun r16 => (gR o1 r16 8 4).bind fun r18 => (gI o1 r18 1 0).bind fun v20 => (F4_unlike o1 r14 v20).bind fun o22 => some (o22.1, o22.2)) else ((gR o1 a0 11 8).bind fun r24 => (gR o1 r24 4 6).bind fun r26 => (aI o1 r26 0 x3).bind fun v29 => some (v29, o1))
def F11_table_0  (h : PH) (a0 : Nat) (x1 : Int32) (x2 : Int32) (x3 : Int32) : Option (Int32 × PH) := (F11_isRule h a0 x1).bind fun o1 => if o1.1 = 0 then (some ((-1), o1.2)) else (if x2 < 0 then (some ((-1), o1.2)) else (if x3 < 0 then (some ((-1), o1.2)) else (if x3 ≤ 7 then (if 5 ≤ x3 then (F11_table_39  o1.2 a0 x1 x2 x3) else ((F11_isSurfer o1.2 a0 x3).bind fun o8 => if o8.1 = 0 then (some ((-1), o8.2)) else (F11_table_39  o8.2 a0 x1 x2 x3))) else (some ((-1), o1.2)))))
def F11_table (h : PH) (a0 : Nat) (x1 : Int32) (x2 : Int32) (x3 : Int32) : Option (Int32 × PH) := cond (okO h a0 11) (F11_table_0 h a0 x1 x2 x3) none
def F11_text_0  (h : PH) (a0 : Nat) (x1 : Int32) : Option (Int32 × PH) := if x1 < 0 then (some ((-2), h)) else ((gI h a0 11 1).bind fun v2 => if x1 ≤ v2 then ((pI h a0 11 1 0).bind fun h5 => (gR h5 a0 11 2).bind fun r7 => (gR h5 a0 11 0).bind fun r9 => (gR h5 a0 11 4).bind fun r11 => (F5_readAll h5 r7 r9 x1 r11).bind fun o13 => if o13.1 = 0 then (some ((-1), o13.2)) else ((gR o13.2 a0 11 3).bind fun r16 => (gR o13.2 a0 11 4).bind fun r18 => (pR o13.2 a0 11 3 r18).bind fun h20 => (pR h20 a0 11 4 r16).bind fun h22 => (F11_beginAnew h22 a0).bind fun o24 => (gR o24 a0 11 3).bind fun r26 => (gI o24 r26 8 12).bind fun v28 => some (v28, o24))) else (some ((-2), h)))
def F11_text (h : PH) (a0 : Nat) (x1 : Int32) : Option (Int32 × PH) := cond (okO h a0 11) (F11_text_0 h a0 x1) none
def F11_tried_96  : Nat → PH → Nat → Int32 → Option (Int32 × PH)
  | 0, _, _, _ => none
  | n + 1, h, a0, x5 => (gR h a0 11 3).bind fun r1 => (gR h r1 8 5).bind fun r3 => (gI h r3 10 1).bind fun v5 => if v5 ≤ x5 then ((gR h a0 11 8).bind fun r8 => (gR h a0 11 3).bind fun r10 => (gR h r10 8 4).bind fun r12 => (gI h r12 1 0).bind fun v14 => (F4_hadInSum h r8 v14).bind fun o16 => some (o16.1, o16.2)) else ((gR h a0 11 6).bind fun r18 => (gR h a0 11 8).bind fun r20 => (F6_bringWave h r18 r20 x5).bind fun o22 => F11_tried_96  n o22 a0 (x5 + 1))
def F11_tried_54  (h : PH) (a0 : Nat) (x1 : Int32) (x2 : Int32) (x3 : Int32) : Option (Int32 × PH) := (gR h a0 11 8).bind fun r1 => (gR h a0 11 7).bind fun r3 => (gR h a0 11 7).bind fun r5 => (gI h r5 4 1).bind fun v7 => (F4_takeForRun h r1 r3 v7 x3).bind fun o9 => (gR o9 a0 11 6).bind fun r11 => (gR o9 a0 11 5).bind fun r13 => (F6_takeOver o9 r11 r13).bind fun o15 => (F11_changeTrial o15 a0 x1 x2).bind fun o17 => (F11_firstToCome o17 a0).bind fun o19 => F11_tried_96  1024 o19.2 a0 o19.1
def F11_tried_30  (h : PH) (a0 : Nat) (x1 : Int32) (x2 : Int32) (x3 : Int32) (s0 : Int32) : Option (Int32 × PH) := if s0 = 0 then (if x2 = 0 then (F11_tried_54  h a0 x1 x2 x3) else (some ((-1), h))) else ((F11_isSurfer h a0 x2).bind fun o3 => if o3.1 = 0 then (some ((-1), o3.2)) else (F11_tried_54  o3.2 a0 x1 x2 x3))
def F11_tried_25  (h : PH) (a0 : Nat) (x1 : Int32) (x2 : Int32) (x3 : Int32) : Option (Int32 × PH) := F11_tried_30  h a0 x1 x2 x3 1
def F11_tried_0  (h : PH) (a0 : Nat) (x1 : Int32) (x2 : Int32) (x3 : Int32) : Option (Int32 × PH) := if x1 < 0 then (some ((-1), h)) else (if 4 < x1 then (some ((-1), h)) else (if 0 ≤ x3 then (if x1 = 1 then (F11_tried_25  h a0 x1 x2 x3) else (if x1 = 4 then (F11_tried_25  h a0 x1 x2 x3) else (F11_tried_30  h a0 x1 x2 x3 0))) else (some ((-1), h))))
def F11_tried (h : PH) (a0 : Nat) (x1 : Int32) (x2 : Int32) (x3 : Int32) : Option (Int32 × PH) := cond (okO h a0 11) (F11_tried_0 h a0 x1 x2 x3) none
def F11_undo_97  (h : PH) (a0 : Nat) : Option (Int32 × PH) := (gR h a0 11 12).bind fun r1 => (gI h r1 9 0).bind fun v3 => some (v3, h)
def F11_undo_0  (h : PH) (a0 : Nat) : Option (Int32 × PH) := (gR h a0 11 12).bind fun r1 => (gI h r1 9 0).bind fun v3 => if 1 ≤ v3 then ((gR h a0 11 12).bind fun r6 => (gI h r6 9 0).bind fun v8 => (pI h r6 9 0 (v8 - 1)).bind fun h10 => (gR h10 a0 11 12).bind fun r12 => (gR h10 r12 9 1).bind fun r14 => (gR h10 a0 11 12).bind fun r16 => (gI h10 r16 9 0).bind fun v18 => (aI h10 r14 0 v18).bind fun v21 => (gR h10 a0 11 12).bind fun r22 => (gR h10 r22 9 2).bind fun r24 => (gR h10 a0 11 12).bind fun r26 => (gI h10 r26 9 0).bind fun v28 => (aI h10 r24 0 v28).bind fun v31 => if v21 = (-1) then ((gR h10 a0 11 7).bind fun r47 => (pI h10 r47 4 1 v31).bind fun h49 => F11_undo_97  h49 a0) else ((gR h10 a0 11 7).bind fun r33 => (gR h10 r33 4 5).bind fun r35 => (sI h10 r35 0 v21 v31).bind fun h38 => (gR h38 a0 11 7).bind fun r39 => (gR h38 r39 4 9).bind fun r41 => (aI h38 r41 0 v21).bind fun v44 => (sI h38 r41 0 v21 (v44 - 1)).bind fun h46 => F11_undo_97  h46 a0)) else (some ((-1), h))
def F11_undo (h : PH) (a0 : Nat) : Option (Int32 × PH) := cond (okO h a0 11) (F11_undo_0 h a0) none
def F11_wave_0  (h : PH) (a0 : Nat) (x1 : Int32) (x2 : Int32) : Option (Int32 × PH) := (F11_isWave h a0 x1).bind fun o1 => if o1.1 = 0 then (some ((-4), o1.2)) else (if x2 = 0 then ((gR o1.2 a0 11 3).bind fun r5 => (gR o1.2 r5 8 5).bind fun r7 => (gR o1.2 r7 10 4).bind fun r9 => (aI o1.2 r9 0 x1).bind fun v12 => some (v12, o1.2)) else if x2 = 1 then ((gR o1.2 a0 11 3).bind fun r14 => (gR o1.2 r14 8 5).bind fun r16 => (gR o1.2 r16 10 5).bind fun r18 => (aI o1.2 r18 0 x1).bind fun v21 => some (v21, o1.2)) else if x2 = 2 then ((gR o1.2 a0 11 3).bind fun r23 => (gR o1.2 r23 8 5).bind fun r25 => (gR o1.2 r25 10 6).bind fun r27 => (aI o1.2 r27 0 x1).bind fun v30 => some (v30, o1.2)) else if x2 = 3 then ((gR o1.2 a0 11 3).bind fun r32 => (gR o1.2 r32 8 5).bind fun r34 => (gR o1.2 r34 10 7).bind fun r36 => (aI o1.2 r36 0 x1).bind fun v39 => some (v39, o1.2)) else if x2 = 4 then ((gR o1.2 a0 11 7).bind fun r41 => (gR o1.2 r41 4 10).bind fun r43 => (aI o1.2 r43 0 x1).bind fun v46 => some (v46, o1.2)) else (some ((-4), o1.2)))
def F11_wave (h : PH) (a0 : Nat) (x1 : Int32) (x2 : Int32) : Option (Int32 × PH) := cond (okO h a0 11) (F11_wave_0 h a0 x1 x2) none
def F12_layNames_88  (h : PH) (t0 : Int64) (s1 : Int32) (u2 : Nat) : Option (PH) := (sJ h u2 s1 t0).bind fun h2 => some h2
def F12_layNames_46  (h : PH) (a0 : Nat) (x4 : Int32) (x5 : Int32) (t0 : Int64) (s1 : Int32) (u2 : Nat) : Option (PH) := (sJ h u2 s1 t0).bind fun h2 => (gR h2 a0 12 52).bind fun r3 => (sJ h2 r3 4 (Int32.toInt64 x5)).bind fun h6 => (gR h6 a0 12 52).bind fun r7 => if 0 ≤ x4 then ((gR h6 a0 12 33).bind fun r10 => (gR h6 a0 12 36).bind fun r12 => (aI h6 r12 0 x4).bind fun v15 => (aI h6 r10 0 v15).bind fun v17 => F12_layNames_88  h6 (Int32.toInt64 ((x4 - v17) + 1)) 5 r7) else (F12_layNames_88  h6 (0 : Int64) 5 r7)
def F12_layNames_0  (h : PH) (a0 : Nat) (x1 : Int32) (x2 : Int32) (x3 : Int32) (x4 : Int32) (x5 : Int32) : Option (PH) := (gR h a0 12 52).bind fun r1 => (sJ h r1 0 (Int32.toInt64 x1)).bind fun h4 => (gR h4 a0 12 52).bind fun r5 => (sJ h4 r5 1 (Int32.toInt64 x2)).bind fun h8 => (gR h8 a0 12 52).bind fun r9 => (sJ h8 r9 2 (Int32.toInt64 x3)).bind fun h12 => (gR h12 a0 12 52).bind fun r13 => if 0 ≤ x4 then ((gR h12 a0 12 35).bind fun r16 => (aI h12 r16 0 x4).bind fun v19 => F12_layNames_46  h12 a0 x4 x5 (Int32.toInt64 v19) 3 r13) else (F12_layNames_46  h12 a0 x4 x5 (0 : Int64) 3 r13)
def F12_layNames (h : PH) (a0 : Nat) (x1 : Int32) (x2 : Int32) (x3 : Int32) (x4 : Int32) (x5 : Int32) : Option (PH) := cond (okO h a0 12) (F12_layNames_0 h a0 x1 x2 x3 x4 x5) none
def F12_bounded_29  (h : PH) (a0 : Nat) (j1 : Int64) (s0 : Int32) (u1 : Nat) : Option (Int64 × PH) := (pZ h u1 12 54 s0).bind fun h1 => (gI h1 a0 12 54).bind fun v3 => if v3 = 0 then (some (j1, h1)) else (some ((0 : Int64), h1))
def F12_bounded_24  (h : PH) (a0 : Nat) (j1 : Int64) (u0 : Nat) : Option (Int64 × PH) := F12_bounded_29  h a0 j1 1 u0
def F12_bounded_0  (h : PH) (a0 : Nat) (j1 : Int64) : Option (Int64 × PH) := (gI h a0 12 54).bind fun v1 => if v1 = 0 then (if 0 < (lg_cmp j1 (1000000000000 : Int64)) then (F12_bounded_24  h a0 j1 a0) else (if 0 ≤ (lg_cmp j1 (-1000000000000 : Int64)) then (F12_bounded_29  h a0 j1 0 a0) else (F12_bounded_24  h a0 j1 a0))) else (F12_bounded_24  h a0 j1 a0)
def F12_bounded (h : PH) (a0 : Nat) (j1 : Int64) : Option (Int64 × PH) := cond (okO h a0 12) (F12_bounded_0 h a0 j1) none
def F12_times_69  (h : PH) (a0 : Nat) (j1 : Int64) (j3 : Int64) (s0 : Int32) (u1 : Nat) : Option (Int64 × PH) := (pZ h u1 12 54 s0).bind fun h1 => (gI h1 a0 12 54).bind fun v3 => if v3 = 0 then (some ((j1 * j3), h1)) else (some ((0 : Int64), h1))
def F12_times_64  (h : PH) (a0 : Nat) (j1 : Int64) (j3 : Int64) (u0 : Nat) : Option (Int64 × PH) := F12_times_69  h a0 j1 j3 1 u0
def F12_times_49  (h : PH) (a0 : Nat) (j1 : Int64) (j3 : Int64) (s0 : Int32) : Option (Int64 × PH) := (gI h a0 12 54).bind fun v1 => if v1 = 0 then (if s0 = 0 then (F12_times_69  h a0 j1 j3 0 a0) else (F12_times_64  h a0 j1 j3 a0)) else (F12_times_64  h a0 j1 j3 a0)
/-! The pure functions of the methods (written by wip/gen/gen.py, split.py). -/
def F12_times_48  (h : PH) (a0 : Nat) (j1 : Int64) (j3 : Int64) : Option (Int64 × PH) := F12_times_49  h a0 j1 j3 0
def F12_times_39  (h : PH) (a0 : Nat) (j1 : Int64) (j3 : Int64) (t0 : Int64) (t1 : Int64) (t2 : Int64) : Option (Int64 × PH) := if t0 = 0 then none else if (lg_cmp t2 (t1 / t0)) ≤ 0 then (F12_times_48  h a0 j1 j3) else (F12_times_49  h a0 j1 j3 1)
def F12_times_24  (h : PH) (a0 : Nat) (j1 : Int64) (j3 : Int64) (t0 : Int64) : Option (Int64 × PH) := if 0 ≤ (lg_cmp j1 (0 : Int64)) then (F12_times_39  h a0 j1 j3 j1 (1000000000000 : Int64) t0) else (F12_times_39  h a0 j1 j3 (-j1) (1000000000000 : Int64) t0)
def F12_times_0  (h : PH) (a0 : Nat) (j1 : Int64) (j3 : Int64) : Option (Int64 × PH) := if (lg_cmp j1 (0 : Int64)) = 0 then (F12_times_48  h a0 j1 j3) else (if (lg_cmp j3 (0 : Int64)) = 0 then (F12_times_48  h a0 j1 j3) else (if 0 ≤ (lg_cmp j3 (0 : Int64)) then (F12_times_24  h a0 j1 j3 j3) else (F12_times_24  h a0 j1 j3 (-j3))))
def F12_times (h : PH) (a0 : Nat) (j1 : Int64) (j3 : Int64) : Option (Int64 × PH) := cond (okO h a0 12) (F12_times_0 h a0 j1 j3) none
def F12_compares_0  (h : PH) (x0 : Int32) (j1 : Int64) (j3 : Int64) : Option (Int32 × PH) := if x0 = 5 then (if 0 ≤ (lg_cmp j1 j3) then (rz 0 h) else (rz 1 h)) else if x0 = 6 then (if 0 < (lg_cmp j1 j3) then (rz 0 h) else (rz 1 h)) else if x0 = 7 then (if (lg_cmp j1 j3) = 0 then (rz 1 h) else (rz 0 h)) else if x0 = 8 then (if (lg_cmp j1 j3) = 0 then (rz 0 h) else (rz 1 h)) else if x0 = 9 then (if (lg_cmp j1 j3) < 0 then (rz 0 h) else (rz 1 h)) else (if (lg_cmp j1 j3) ≤ 0 then (rz 0 h) else (rz 1 h))
def F12_compares (h : PH) (x0 : Int32) (j1 : Int64) (j3 : Int64) : Option (Int32 × PH) := F12_compares_0 h x0 j1 j3
def F12_valueOf_240  (h : PH) (a0 : Nat) (j2 : Int64) (j4 : Int64) (s0 : Int32) (u1 : Nat) : Option (Int64 × PH) := (pZ h u1 12 54 s0).bind fun h1 => (gI h1 a0 12 54).bind fun v3 => if v3 = 0 then (if j4 = 0 then none else some ((j2 / j4), h1)) else (some ((0 : Int64), h1))
def F12_valueOf_235  (h : PH) (a0 : Nat) (j2 : Int64) (j4 : Int64) (u0 : Nat) : Option (Int64 × PH) := F12_valueOf_240  h a0 j2 j4 1 u0
def F12_valueOf_0  (h : PH) (a0 : Nat) (x1 : Int32) : Option (Int64 × PH) := (gR h a0 12 40).bind fun r1 => (aI h r1 0 x1).bind fun v4 => if v4 = 0 then ((gR h a0 12 41).bind fun r72 => (aI h r72 0 x1).bind fun v75 => some ((Int32.toInt64 v75), h)) else ((gR h a0 12 40).bind fun r6 => (aI h r6 0 x1).bind fun v9 => if v9 = 1 then ((gR h a0 12 52).bind fun r64 => (gR h a0 12 41).bind fun r66 => (aI h r66 0 x1).bind fun v69 => (aJ h r64 v69).bind fun w71 => some (w71, h)) else ((gR h a0 12 53).bind fun r11 => (gR h a0 12 41).bind fun r13 => (aI h r13 0 x1).bind fun v16 => (aJ h r11 v16).bind fun w18 => (gR h a0 12 40).bind fun r19 => (aI h r19 0 x1).bind fun v22 => if v22 = 2 then (if (lg_cmp w18 (0 : Int64)) = 0 then (some ((1 : Int64), h)) else (some ((0 : Int64), h))) else ((gR h a0 12 53).bind fun r24 => (gR h a0 12 42).bind fun r26 => (aI h r26 0 x1).bind fun v29 => (aJ h r24 v29).bind fun w31 => (gR h a0 12 40).bind fun r32 => (aI h r32 0 x1).bind fun v35 => if v35 = 3 then (if (lg_cmp w18 (0 : Int64)) = 0 then (some ((0 : Int64), h)) else (if (lg_cmp w31 (0 : Int64)) = 0 then (some ((0 : Int64), h)) else (some ((1 : Int64), h)))) else if v35 = 4 then (if (lg_cmp w18 (0 : Int64)) = 0 then (if (lg_cmp w31 (0 : Int64)) = 0 then (some ((0 : Int64), h)) else (some ((1 : Int64), h))) else (some ((1 : Int64), h))) else if v35 = 11 then ((F12_bounded h a0 (w18 + w31)).bind fun o43 => some (o43.1, o43.2)) else if v35 = 12 then ((F12_bounded h a0 (w18 - w31)).bind fun o46 => some (o46.1, o46.2)) else if v35 = 13 then ((F12_times h a0 w18 w31).bind fun o49 => some (o49.1, o49.2)) else if v35 = 14 then ((gI h a0 12 54).bind fun v52 => if v52 = 0 then (if (lg_cmp w31 (0 : Int64)) = 0 then (F12_valueOf_235  h a0 w18 w31 a0) else (F12_valueOf_240  h a0 w18 w31 0 a0)) else (F12_valueOf_235  h a0 w18 w31 a0)) else ((gR h a0 12 40).bind fun r56 => (aI h r56 0 x1).bind fun v59 => (F12_compares h v59 w18 w31).bind fun o60 => if o60.1 = 0 then (some ((0 : Int64), o60.2)) else (some ((1 : Int64), o60.2))))))
def F12_valueOf (h : PH) (a0 : Nat) (x1 : Int32) : Option (Int64 × PH) := cond (okO h a0 12) (F12_valueOf_0 h a0 x1) none
def F12_lawOf_12  : Nat → PH → Nat → Int32 → Int32 → Option (Int64 × PH)
  | 0, _, _, _, _ => none
  | n + 1, h, a0, x1, x2 => (gR h a0 12 39).bind fun r1 => (aI h r1 0 x1).bind fun v4 => if v4 ≤ x2 then ((gI h a0 12 54).bind fun v6 => if v6 = 0 then ((gR h a0 12 53).bind fun r9 => (gR h a0 12 39).bind fun r11 => (aI h r11 0 x1).bind fun v14 => (aJ h r9 (v14 - 1)).bind fun w16 => some (w16, h)) else (some ((0 : Int64), h))) else ((gR h a0 12 53).bind fun r17 => (F12_valueOf h a0 x2).bind fun o19 => (sJ o19.2 r17 x2 o19.1).bind fun h22 => F12_lawOf_12  n h22 a0 x1 (x2 + 1))
def F12_lawOf_0  (h : PH) (a0 : Nat) (x1 : Int32) : Option (Int64 × PH) := (pZ h a0 12 54 0).bind fun h1 => (gR h1 a0 12 38).bind fun r3 => (aI h1 r3 0 x1).bind fun v6 => F12_lawOf_12  1024 h1 a0 x1 v6
def F12_lawOf (h : PH) (a0 : Nat) (x1 : Int32) : Option (Int64 × PH) := cond (okO h a0 12) (F12_lawOf_0 h a0 x1) none
def F12_boundLaw_0  (h : PH) (a0 : Nat) (x1 : Int32) (x2 : Int32) (x3 : Int32) (x4 : Int32) : Option (Int32 × PH) := (gR h a0 12 37).bind fun r1 => (aI h r1 2 x1).bind fun v4 => if v4 = 0 then (some (x2, h)) else ((F12_lawOf h a0 x1).bind fun o6 => (gI o6.2 a0 12 54).bind fun v8 => if v8 = 0 then (if 0 ≤ (lg_cmp o6.1 (Int32.toInt64 x3)) then (if (lg_cmp o6.1 (Int32.toInt64 x4)) ≤ 0 then (some ((Int64.toInt32 o6.1), o6.2)) else (some (x4, o6.2))) else (some (x3, o6.2))) else (some (x2, o6.2)))
def F12_boundLaw (h : PH) (a0 : Nat) (x1 : Int32) (x2 : Int32) (x3 : Int32) (x4 : Int32) : Option (Int32 × PH) := cond (okO h a0 12) (F12_boundLaw_0 h a0 x1 x2 x3 x4) none
def F12_peakAt_37  (h : PH) (a0 : Nat) (s0 : Int32) (s1 : Int32) : Option (Int32 × PH) := (gI h a0 12 12).bind fun v1 => (gR h a0 12 26).bind fun r3 => (aI h r3 0 1).bind fun v6 => if 0 ≤ (s1 + s0) then ((gI h a0 12 12).bind fun v8 => if (s1 + s0) < v8 then (some (((v1 * v6) + (s1 + s0)), h)) else ((gI h a0 12 12).bind fun v11 => some (((v1 * v6) + (v11 - 1)), h))) else (some (((v1 * v6) + 0), h))
def F12_peakAt_0  (h : PH) (a0 : Nat) (x1 : Int32) : Option (Int32 × PH) := (F12_layNames h a0 0 0 0 (-1) x1).bind fun o1 => (gR o1 a0 12 26).bind fun r3 => (aI o1 r3 0 0).bind fun v6 => (gI o1 a0 12 66).bind fun v7 => if v7 = 2 then (F12_peakAt_37  o1 a0 0 v6) else ((F12_boundLaw o1 a0 1 0 (-8) 8).bind fun o10 => F12_peakAt_37  o10.2 a0 o10.1 v6)
def F12_peakAt (h : PH) (a0 : Nat) (x1 : Int32) : Option (Int32 × PH) := cond (okO h a0 12) (F12_peakAt_0 h a0 x1) none
def F12_far_39  (h : PH) (x4 : Int32) (s0 : Int32) : Option (Int32 × PH) := if 0 ≤ x4 then (some ((s0 + x4), h)) else (some ((s0 + (-x4)), h))
def F12_far_0  (h : PH) (a0 : Nat) (x1 : Int32) (x2 : Int32) : Option (Int32 × PH) := (gI h a0 12 12).bind fun v1 => if v1 = 0 then none else (gI h a0 12 12).bind fun v4 => if v4 = 0 then none else (gI h a0 12 12).bind fun v7 => if v7 = 0 then none else (gI h a0 12 12).bind fun v10 => if v10 = 0 then none else if 0 ≤ ((x1 - x1 / v1 * v1) - (x2 - x2 / v4 * v4)) then (F12_far_39  h ((x1 / v7) - (x2 / v10)) ((x1 - x1 / v1 * v1) - (x2 - x2 / v4 * v4))) else (F12_far_39  h ((x1 / v7) - (x2 / v10)) (-((x1 - x1 / v1 * v1) - (x2 - x2 / v4 * v4))))
def F12_far (h : PH) (a0 : Nat) (x1 : Int32) (x2 : Int32) : Option (Int32 × PH) := cond (okO h a0 12) (F12_far_0 h a0 x1 x2) none
def F12_boardOf_0  (h : PH) (a0 : Nat) (x1 : Int32) : Option (Int32 × PH) := (gI h a0 12 66).bind fun v1 => if v1 = 3 then (some (9, h)) else ((gR h a0 12 29).bind fun r4 => (aI h r4 0 x1).bind fun v7 => some (v7, h))
def F12_boardOf (h : PH) (a0 : Nat) (x1 : Int32) : Option (Int32 × PH) := cond (okO h a0 12) (F12_boardOf_0 h a0 x1) none
def F12_layCatch_0  (h : PH) (a0 : Nat) (x1 : Int32) (x2 : Int32) (x3 : Int32) : Option (Int32 × PH) := (gR h a0 12 34).bind fun r1 => (aI h r1 0 x2).bind fun v4 => (F12_peakAt h a0 v4).bind fun o5 => (F12_far o5.2 a0 x3 o5.1).bind fun o7 => (gI o7.2 a0 12 12).bind fun v9 => if v9 = 0 then none else (gI o7.2 a0 12 12).bind fun v12 => if v12 = 0 then none else (F12_boardOf o7.2 a0 x1).bind fun o15 => (gR o15.2 a0 12 34).bind fun r17 => (aI o15.2 r17 0 x2).bind fun v20 => (F12_layNames o15.2 a0 o7.1 ((x3 / v9) - (o5.1 / v12)) o15.1 x2 v20).bind fun o21 => some (o7.1, o21)
def F12_layCatch (h : PH) (a0 : Nat) (x1 : Int32) (x2 : Int32) (x3 : Int32) : Option (Int32 × PH) := cond (okO h a0 12) (F12_layCatch_0 h a0 x1 x2 x3) none
def F12_oddsOf_29  (h : PH) (s0 : Int32) (s1 : Int32) (u2 : Nat) : Option (Int32 × PH) := (F12_boundLaw h u2 s1 s0 0 100).bind fun o1 => some (o1.1, o1.2)
def F12_oddsOf_0  (h : PH) (a0 : Nat) (x1 : Int32) (x2 : Int32) (x3 : Int32) : Option (Int32 × PH) := (F12_layCatch h a0 x1 x2 x3).bind fun o1 => if 5 ≤ o1.1 then (F12_oddsOf_29  o1.2 0 0 a0) else (F12_oddsOf_29  o1.2 (100 - (20 * o1.1)) 0 a0)
def F12_oddsOf (h : PH) (a0 : Nat) (x1 : Int32) (x2 : Int32) (x3 : Int32) : Option (Int32 × PH) := cond (okO h a0 12) (F12_oddsOf_0 h a0 x1 x2 x3) none
def F12_isGoing_29  (h : PH) (a0 : Nat) (x1 : Int32) (x2 : Int32) (x3 : Int32) : Option (Int32 × PH) := (gR h a0 12 55).bind fun r1 => (aI h r1 0 ((5 * x1) + x2)).bind fun v4 => (F12_oddsOf h a0 x2 x3 v4).bind fun o5 => if o5.1 ≤ 0 then (rz 0 o5.2) else (rz 1 o5.2)
def F12_isGoing_0  (h : PH) (a0 : Nat) (x1 : Int32) (x2 : Int32) (x3 : Int32) : Option (Int32 × PH) := (gR h a0 12 58).bind fun r1 => (aI h r1 0 ((5 * x1) + x2)).bind fun v4 => if v4 = 0 then ((gI h a0 12 66).bind fun v6 => if v6 = 1 then ((gI h a0 12 67).bind fun v9 => if v9 = x2 then (rz 0 h) else (F12_isGoing_29  h a0 x1 x2 x3)) else (F12_isGoing_29  h a0 x1 x2 x3)) else (rz 0 h)
def F12_isGoing (h : PH) (a0 : Nat) (x1 : Int32) (x2 : Int32) (x3 : Int32) : Option (Int32 × PH) := cond (okO h a0 12) (F12_isGoing_0 h a0 x1 x2 x3) none
def F12_keyOf_122 (k76 : PH → Nat → Int32 → Int32 → Int32 → Int32 → Int32 → Int32 → Option (Int32 × PH)) (h : PH) (a0 : Nat) (x1 : Int32) (x2 : Int32) (x3 : Int32) (x6 : Int32) (x8 : Int32) : Option (Int32 × PH) := k76 h a0 x1 x2 x3 x6 1 (x8 + 1)
def F12_keyOf_76  : Nat → PH → Nat → Int32 → Int32 → Int32 → Int32 → Int32 → Int32 → Option (Int32 × PH)
  | 0, _, _, _, _, _, _, _, _ => none
  | n + 1, h, a0, x1, x2, x3, x6, x7, x8 => (gI h a0 12 16).bind fun v1 => if v1 ≤ x8 then (if x7 = 0 then (some ((0 + x6), h)) else (some ((1000 + x6), h))) else (if x7 = 0 then ((gR h a0 12 36).bind fun r6 => (aI h r6 0 x8).bind fun v9 => (gR h a0 12 36).bind fun r10 => (aI h r10 0 x3).bind fun v13 => if v9 = v13 then ((gR h a0 12 60).bind fun r15 => (aI h r15 0 ((28 * x1) + x8)).bind fun v18 => if v18 = x2 then (F12_keyOf_122 (fun h a0 x1 x2 x3 x6 x7 x8 => F12_keyOf_76  n h a0 x1 x2 x3 x6 x7 x8) h a0 x1 x2 x3 x6 x8) else (F12_keyOf_76  n h a0 x1 x2 x3 x6 0 (x8 + 1))) else (F12_keyOf_76  n h a0 x1 x2 x3 x6 0 (x8 + 1))) else (F12_keyOf_122 (fun h a0 x1 x2 x3 x6 x7 x8 => F12_keyOf_76  n h a0 x1 x2 x3 x6 x7 x8) h a0 x1 x2 x3 x6 x8))
def F12_keyOf_0  (h : PH) (a0 : Nat) (x1 : Int32) (x2 : Int32) (x3 : Int32) (x4 : Int32) : Option (Int32 × PH) := (gR h a0 12 55).bind fun r1 => (aI h r1 0 ((5 * x1) + x2)).bind fun v4 => (gR h a0 12 34).bind fun r5 => (aI h r5 0 x3).bind fun v8 => (F12_peakAt h a0 v8).bind fun o9 => (F12_far o9.2 a0 v4 o9.1).bind fun o11 => if x4 = 0 then (some (o11.1, o11.2)) else (if x4 = 1 then ((gR o11.2 a0 12 56).bind fun r19 => (aI o11.2 r19 0 ((5 * x1) + x2)).bind fun v22 => some (v22, o11.2)) else (if x4 = 3 then ((gI o11.2 a0 12 12).bind fun v16 => if v16 = 0 then none else some ((-(v4 / v16)), o11.2)) else (F12_keyOf_76  1024 o11.2 a0 x1 x2 x3 o11.1 0 0)))
def F12_keyOf (h : PH) (a0 : Nat) (x1 : Int32) (x2 : Int32) (x3 : Int32) (x4 : Int32) : Option (Int32 × PH) := cond (okO h a0 12) (F12_keyOf_0 h a0 x1 x2 x3 x4) none
def F12_layOrder_96 (k8 : PH → Nat → Int32 → Int32 → Int32 → Int32 → Option (PH)) (h : PH) (a0 : Nat) (x1 : Int32) (x2 : Int32) (x3 : Int32) (x4 : Int32) (x6 : Int32) : Option (PH) := (gR h a0 12 68).bind fun r1 => (sI h r1 0 x6 x4).bind fun h4 => (gI h4 a0 12 69).bind fun v5 => (pI h4 a0 12 69 (v5 + 1)).bind fun h7 => k8 h7 a0 x1 x2 x3 (x4 + 1)
def F12_layOrder_48 (k8 : PH → Nat → Int32 → Int32 → Int32 → Int32 → Option (PH)) : Nat → PH → Nat → Int32 → Int32 → Int32 → Int32 → Int32 → Int32 → Option (PH)
  | 0, _, _, _, _, _, _, _, _ => none
  | n + 1, h, a0, x1, x2, x3, x4, x5, x6 => if x6 ≤ 0 then (F12_layOrder_96 k8 h a0 x1 x2 x3 x4 x6) else ((gR h a0 12 68).bind fun r2 => (aI h r2 0 (x6 - 1)).bind fun v5 => (F12_keyOf h a0 x1 v5 x2 x3).bind fun o6 => if o6.1 ≤ x5 then (F12_layOrder_96 k8 o6.2 a0 x1 x2 x3 x4 x6) else ((gR o6.2 a0 12 68).bind fun r9 => (gR o6.2 a0 12 68).bind fun r11 => (aI o6.2 r11 0 (x6 - 1)).bind fun v14 => (sI o6.2 r9 0 x6 v14).bind fun h16 => F12_layOrder_48 k8 n h16 a0 x1 x2 x3 x4 x5 (x6 + (-1))))
def F12_layOrder_8  : Nat → PH → Nat → Int32 → Int32 → Int32 → Int32 → Option (PH)
  | 0, _, _, _, _, _, _ => none
  | n + 1, h, a0, x1, x2, x3, x4 => (gI h a0 12 14).bind fun v1 => if v1 ≤ x4 then (some h) else ((F12_isGoing h a0 x1 x4 x2).bind fun o4 => if o4.1 = 0 then (F12_layOrder_8  n o4.2 a0 x1 x2 x3 (x4 + 1)) else ((F12_keyOf o4.2 a0 x1 x4 x2 x3).bind fun o7 => (gI o7.2 a0 12 69).bind fun v9 => F12_layOrder_48 (fun h a0 x1 x2 x3 x4 => F12_layOrder_8  n h a0 x1 x2 x3 x4) 1024 o7.2 a0 x1 x2 x3 x4 o7.1 v9))
def F12_layOrder_0  (h : PH) (a0 : Nat) (x1 : Int32) (x2 : Int32) (x3 : Int32) : Option (PH) := (pI h a0 12 69 0).bind fun h1 => F12_layOrder_8  1024 h1 a0 x1 x2 x3 0
def F12_layOrder (h : PH) (a0 : Nat) (x1 : Int32) (x2 : Int32) (x3 : Int32) : Option (PH) := cond (okO h a0 12) (F12_layOrder_0 h a0 x1 x2 x3) none
def F12_number1_0  (h : PH) (a0 : Nat) (x1 : Int32) : Option (Int32 × PH) := (gJ h a0 12 65).bind fun w1 => (pJ h a0 12 65 (((w1 * (1103515245 : Int64)) + (12345 : Int64)) &&& (2147483647 : Int64))).bind fun h3 => (gJ h3 a0 12 65).bind fun w5 => if (Int32.toInt64 x1) = 0 then none else some ((Int64.toInt32 ((w5 / (65536 : Int64)) - (w5 / (65536 : Int64)) / (Int32.toInt64 x1) * (Int32.toInt64 x1))), h3)
def F12_number1 (h : PH) (a0 : Nat) (x1 : Int32) : Option (Int32 × PH) := cond (okO h a0 12) (F12_number1_0 h a0 x1) none
def F12_awayOf_0  (h : PH) (a0 : Nat) (x1 : Int32) (x2 : Int32) : Option (Int32 × PH) := (F12_boardOf h a0 x1).bind fun o1 => (gR o1.2 a0 12 34).bind fun r3 => (aI o1.2 r3 0 x2).bind fun v6 => (F12_layNames o1.2 a0 0 0 o1.1 x2 v6).bind fun o7 => (F12_boundLaw o7 a0 2 5 1 30).bind fun o9 => some (o9.1, o9.2)
def F12_awayOf (h : PH) (a0 : Nat) (x1 : Int32) (x2 : Int32) : Option (Int32 × PH) := cond (okO h a0 12) (F12_awayOf_0 h a0 x1 x2) none
def F12_goesAway_0  (h : PH) (a0 : Nat) (x1 : Int32) (x2 : Int32) (x3 : Int32) (x4 : Int32) : Option (PH) := (gR h a0 12 58).bind fun r1 => (gR h a0 12 61).bind fun r3 => (aI h r3 0 x1).bind fun v6 => (F12_awayOf h a0 x2 x3).bind fun o7 => (sI o7.2 r1 0 ((5 * x1) + x2) (v6 + (x4 * o7.1))).bind fun h10 => some h10
def F12_goesAway (h : PH) (a0 : Nat) (x1 : Int32) (x2 : Int32) (x3 : Int32) (x4 : Int32) : Option (PH) := cond (okO h a0 12) (F12_goesAway_0 h a0 x1 x2 x3 x4) none
def F12_comes_141 (k109 : PH → Nat → Int32 → Int32 → Int32 → Int32 → Option (PH)) (h : PH) (a0 : Nat) (x1 : Int32) (x2 : Int32) (x5 : Int32) (x6 : Int32) (s0 : Int32) : Option (PH) := if s0 = 0 then (k109 h a0 x1 x2 x5 (x6 + 1)) else ((F12_number1 h a0 100).bind fun o2 => if o2.1 < s0 then ((gR o2.2 a0 12 60).bind fun r5 => (sI o2.2 r5 0 ((28 * x1) + x2) (-3)).bind fun h8 => (gR h8 a0 12 62).bind fun r9 => (aI h8 r9 0 x1).bind fun v12 => (sI h8 r9 0 x1 (v12 + 1)).bind fun h14 => (gR h14 a0 12 57).bind fun r15 => (aI h14 r15 0 ((5 * x1) + x5)).bind fun v18 => (sI h14 r15 0 ((5 * x1) + x5) (v18 + 1)).bind fun h20 => (gR h20 a0 12 57).bind fun r21 => (gR h20 a0 12 68).bind fun r23 => (aI h20 r23 0 x6).bind fun v26 => (aI h20 r21 0 ((5 * x1) + v26)).bind fun v28 => (sI h20 r21 0 ((5 * x1) + v26) (v28 + 1)).bind fun h30 => (F12_goesAway h30 a0 x1 x5 x2 2).bind fun o31 => (gR o31 a0 12 68).bind fun r33 => (aI o31 r33 0 x6).bind fun v36 => (F12_goesAway o31 a0 x1 v36 x2 2).bind fun o37 => some o37) else (k109 o2.2 a0 x1 x2 x5 (x6 + 1)))
def F12_comes_109  : Nat → PH → Nat → Int32 → Int32 → Int32 → Int32 → Option (PH)
  | 0, _, _, _, _, _, _ => none
  | n + 1, h, a0, x1, x2, x5, x6 => (gI h a0 12 69).bind fun v1 => if v1 ≤ x6 then ((gR h a0 12 60).bind fun r4 => (sI h r4 0 ((28 * x1) + x2) x5).bind fun h7 => (gR h7 a0 12 56).bind fun r8 => (aI h7 r8 0 ((5 * x1) + x5)).bind fun v11 => (sI h7 r8 0 ((5 * x1) + x5) (v11 + 1)).bind fun h13 => (F12_goesAway h13 a0 x1 x5 x2 1).bind fun o14 => some o14) else ((gI h a0 12 66).bind fun v16 => if v16 = 0 then (F12_comes_141 (fun h a0 x1 x2 x5 x6 => F12_comes_109  n h a0 x1 x2 x5 x6) h a0 x1 x2 x5 x6 0) else ((gR h a0 12 31).bind fun r19 => (gR h a0 12 68).bind fun r21 => (aI h r21 0 x6).bind fun v24 => (aI h r19 0 v24).bind fun v26 => F12_comes_141 (fun h a0 x1 x2 x5 x6 => F12_comes_109  n h a0 x1 x2 x5 x6) h a0 x1 x2 x5 x6 v26))
def F12_comes_62  (h : PH) (a0 : Nat) (x1 : Int32) (x2 : Int32) (x4 : Int32) : Option (PH) := (gI h a0 12 69).bind fun v1 => if x4 = v1 then ((gR h a0 12 60).bind fun r8 => (sI h r8 0 ((28 * x1) + x2) (-1)).bind fun h11 => (gR h11 a0 12 63).bind fun r12 => (aI h11 r12 0 x1).bind fun v15 => (sI h11 r12 0 x1 (v15 + 1)).bind fun h17 => some h17) else ((gR h a0 12 68).bind fun r4 => (aI h r4 0 x4).bind fun v7 => F12_comes_109  1024 h a0 x1 x2 v7 (x4 + 1))
def F12_comes_10  : Nat → PH → Nat → Int32 → Int32 → Int32 → Option (PH)
  | 0, _, _, _, _, _ => none
  | n + 1, h, a0, x1, x2, x4 => (gI h a0 12 69).bind fun v1 => if v1 ≤ x4 then (F12_comes_62  h a0 x1 x2 x4) else ((F12_number1 h a0 100).bind fun o4 => (gR o4.2 a0 12 68).bind fun r6 => (aI o4.2 r6 0 x4).bind fun v9 => (gR o4.2 a0 12 55).bind fun r10 => (gR o4.2 a0 12 68).bind fun r12 => (aI o4.2 r12 0 x4).bind fun v15 => (aI o4.2 r10 0 ((5 * x1) + v15)).bind fun v17 => (F12_oddsOf o4.2 a0 v9 x2 v17).bind fun o18 => if o4.1 < o18.1 then (F12_comes_62  o18.2 a0 x1 x2 x4) else (F12_comes_10  n o18.2 a0 x1 x2 (x4 + 1)))
def F12_comes_0  (h : PH) (a0 : Nat) (x1 : Int32) (x2 : Int32) (x3 : Int32) : Option (PH) := (F12_layOrder h a0 x1 x2 x3).bind fun o1 => F12_comes_10  1024 o1 a0 x1 x2 0
def F12_comes (h : PH) (a0 : Nat) (x1 : Int32) (x2 : Int32) (x3 : Int32) : Option (PH) := cond (okO h a0 12) (F12_comes_0 h a0 x1 x2 x3) none
def F12_aMinute_50  : Nat → PH → Nat → Int32 → Int32 → Option (PH)
  | 0, _, _, _, _ => none
  | n + 1, h, a0, x1, x3 => (gI h a0 12 14).bind fun v1 => if v1 ≤ x3 then (some h) else ((gR h a0 12 58).bind fun r4 => (aI h r4 0 ((5 * x1) + x3)).bind fun v7 => (gR h a0 12 61).bind fun r8 => (aI h r8 0 x1).bind fun v11 => if v7 = v11 then ((gR h a0 12 58).bind fun r13 => (sI h r13 0 ((5 * x1) + x3) 0).bind fun h16 => F12_aMinute_50  n h16 a0 x1 (x3 + 1)) else (F12_aMinute_50  n h a0 x1 (x3 + 1)))
def F12_aMinute_2  : Nat → PH → Nat → Int32 → Int32 → Int32 → Option (PH)
  | 0, _, _, _, _, _ => none
  | n + 1, h, a0, x1, x2, x3 => (gI h a0 12 16).bind fun v1 => if v1 ≤ x3 then ((gR h a0 12 61).bind fun r4 => (aI h r4 0 x1).bind fun v7 => (sI h r4 0 x1 (v7 + 1)).bind fun h9 => F12_aMinute_50  1024 h9 a0 x1 0) else ((gR h a0 12 34).bind fun r10 => (aI h r10 0 x3).bind fun v13 => (gR h a0 12 61).bind fun r14 => (aI h r14 0 x1).bind fun v17 => if v13 = v17 then ((F12_comes h a0 x1 x3 x2).bind fun o19 => F12_aMinute_2  n o19 a0 x1 x2 (x3 + 1)) else (F12_aMinute_2  n h a0 x1 x2 (x3 + 1)))
def F12_aMinute_0  (h : PH) (a0 : Nat) (x1 : Int32) (x2 : Int32) : Option (PH) := F12_aMinute_2  1024 h a0 x1 x2 0
def F12_aMinute (h : PH) (a0 : Nat) (x1 : Int32) (x2 : Int32) : Option (PH) := cond (okO h a0 12) (F12_aMinute_0 h a0 x1 x2) none
def F12_allHad_4  : Nat → PH → Nat → Int32 → Int32 → Int32 → Option (Int32 × PH)
  | 0, _, _, _, _, _ => none
  | n + 1, h, a0, x1, x2, x3 => (gI h a0 12 14).bind fun v1 => if v1 ≤ x3 then (some (x2, h)) else ((gR h a0 12 56).bind fun r4 => (aI h r4 0 ((5 * x1) + x3)).bind fun v7 => F12_allHad_4  n h a0 x1 (x2 + v7) (x3 + 1))
def F12_allHad_0  (h : PH) (a0 : Nat) (x1 : Int32) : Option (Int32 × PH) := F12_allHad_4  1024 h a0 x1 0 0
def F12_allHad (h : PH) (a0 : Nat) (x1 : Int32) : Option (Int32 × PH) := cond (okO h a0 12) (F12_allHad_0 h a0 x1) none
def F12_back_100  : Nat → PH → Nat → Int32 → Option (Int32 × PH)
  | 0, _, _, _ => none
  | n + 1, h, a0, x1 => if 28 ≤ x1 then ((gR h a0 12 61).bind fun r2 => (gI h a0 12 82).bind fun v4 => (sI h r2 0 0 v4).bind fun h7 => (gI h7 a0 12 83).bind fun v8 => (pI h7 a0 12 64 v8).bind fun h10 => (gR h10 a0 12 62).bind fun r12 => (gI h10 a0 12 84).bind fun v14 => (sI h10 r12 0 0 v14).bind fun h17 => (gR h17 a0 12 63).bind fun r18 => (gI h17 a0 12 85).bind fun v20 => (sI h17 r18 0 0 v20).bind fun h23 => (gJ h23 a0 12 86).bind fun w24 => (pJ h23 a0 12 65 w24).bind fun h26 => (pI h26 a0 12 78 0).bind fun h28 => (gR h28 a0 12 61).bind fun r30 => (aI h28 r30 0 0).bind fun v33 => some (v33, h28)) else ((gR h a0 12 60).bind fun r34 => (gR h a0 12 81).bind fun r36 => (aI h r36 0 (25 + x1)).bind fun v39 => (sI h r34 0 x1 v39).bind fun h41 => F12_back_100  n h41 a0 (x1 + 1))
def F12_back_16  : Nat → PH → Nat → Int32 → Option (Int32 × PH)
  | 0, _, _, _ => none
  | n + 1, h, a0, x1 => if 5 ≤ x1 then (F12_back_100  1024 h a0 0) else ((gR h a0 12 55).bind fun r2 => (gR h a0 12 81).bind fun r4 => (aI h r4 0 x1).bind fun v7 => (sI h r2 0 x1 v7).bind fun h9 => (gR h9 a0 12 56).bind fun r10 => (gR h9 a0 12 81).bind fun r12 => (aI h9 r12 0 (5 + x1)).bind fun v15 => (sI h9 r10 0 x1 v15).bind fun h17 => (gR h17 a0 12 57).bind fun r18 => (gR h17 a0 12 81).bind fun r20 => (aI h17 r20 0 (10 + x1)).bind fun v23 => (sI h17 r18 0 x1 v23).bind fun h25 => (gR h25 a0 12 58).bind fun r26 => (gR h25 a0 12 81).bind fun r28 => (aI h25 r28 0 (15 + x1)).bind fun v31 => (sI h25 r26 0 x1 v31).bind fun h33 => (gR h33 a0 12 59).bind fun r34 => (gR h33 a0 12 81).bind fun r36 => (aI h33 r36 0 (20 + x1)).bind fun v39 => (sI h33 r34 0 x1 v39).bind fun h41 => F12_back_16  n h41 a0 (x1 + 1))
def F12_back_0  (h : PH) (a0 : Nat) : Option (Int32 × PH) := (pI h a0 12 2 0).bind fun h1 => (gI h1 a0 12 80).bind fun v3 => if v3 = 0 then (some ((-1), h1)) else (F12_back_16  1024 h1 a0 0)
def F12_back (h : PH) (a0 : Nat) : Option (Int32 × PH) := cond (okO h a0 12) (F12_back_0 h a0) none
def F12_isSmall_0  (h : PH) (a0 : Nat) (x1 : Int32) : Option (Int32 × PH) := (gI h a0 12 6).bind fun v1 => if v1 ≤ x1 then (rz 0 h) else ((gR h a0 12 0).bind fun r4 => (aI h r4 0 x1).bind fun v7 => if v7 < 97 then (rz 0 h) else ((gR h a0 12 0).bind fun r9 => (aI h r9 0 x1).bind fun v12 => if 122 < v12 then (rz 0 h) else (rz 1 h)))
def F12_isSmall (h : PH) (a0 : Nat) (x1 : Int32) : Option (Int32 × PH) := cond (okO h a0 12) (F12_isSmall_0 h a0 x1) none
def F12_wordAt_104 (k5 : PH → Nat → Int32 → Int32 → Int32 → Int32 → Option (Int32 × PH)) (h : PH) (a0 : Nat) (x1 : Int32) (x2 : Int32) (x3 : Int32) (x4 : Int32) (x5 : Int32) (x6 : Int32) : Option (Int32 × PH) := if x6 = 0 then (k5 h a0 x1 x2 (x3 + 1) (x4 + (x5 + 1))) else (some (x3, h))
def F12_wordAt_57 (k5 : PH → Nat → Int32 → Int32 → Int32 → Int32 → Option (Int32 × PH)) : Nat → PH → Nat → Int32 → Int32 → Int32 → Int32 → Int32 → Int32 → Int32 → Option (Int32 × PH)
  | 0, _, _, _, _, _, _, _, _, _ => none
  | n + 1, h, a0, x1, x2, x3, x4, x5, x6, x7 => if x5 ≤ x7 then (F12_wordAt_104 k5 h a0 x1 x2 x3 x4 x5 x6) else (if x6 = 0 then (F12_wordAt_104 k5 h a0 x1 x2 x3 x4 x5 x6) else ((gR h a0 12 3).bind fun r3 => (aI h r3 0 (x4 + x7)).bind fun v6 => (gR h a0 12 0).bind fun r7 => (aI h r7 0 (x1 + x7)).bind fun v10 => if v6 = v10 then (F12_wordAt_57 k5 n h a0 x1 x2 x3 x4 x5 1 (x7 + 1)) else (F12_wordAt_57 k5 n h a0 x1 x2 x3 x4 x5 0 (x7 + 1))))
def F12_wordAt_18 (k5 : PH → Nat → Int32 → Int32 → Int32 → Int32 → Option (Int32 × PH)) : Nat → PH → Nat → Int32 → Int32 → Int32 → Int32 → Int32 → Option (Int32 × PH)
  | 0, _, _, _, _, _, _, _ => none
  | n + 1, h, a0, x1, x2, x3, x4, x5 => (gR h a0 12 3).bind fun r1 => (aI h r1 0 (x4 + x5)).bind fun v4 => if v4 = 32 then (if x5 = (x2 - x1) then (F12_wordAt_57 k5 1024 h a0 x1 x2 x3 x4 x5 1 0) else (F12_wordAt_57 k5 1024 h a0 x1 x2 x3 x4 x5 0 0)) else (F12_wordAt_18 k5 n h a0 x1 x2 x3 x4 (x5 + 1))
def F12_wordAt_5  : Nat → PH → Nat → Int32 → Int32 → Int32 → Int32 → Option (Int32 × PH)
  | 0, _, _, _, _, _, _ => none
  | n + 1, h, a0, x1, x2, x3, x4 => (gR h a0 12 3).bind fun r1 => (aL h r1).bind fun v3 => if v3 ≤ x4 then (some ((-1), h)) else (F12_wordAt_18 (fun h a0 x1 x2 x3 x4 => F12_wordAt_5  n h a0 x1 x2 x3 x4) 1024 h a0 x1 x2 x3 x4 0)
def F12_wordAt_0  (h : PH) (a0 : Nat) (x1 : Int32) (x2 : Int32) : Option (Int32 × PH) := F12_wordAt_5  1024 h a0 x1 x2 0 0
def F12_wordAt (h : PH) (a0 : Nat) (x1 : Int32) (x2 : Int32) : Option (Int32 × PH) := cond (okO h a0 12) (F12_wordAt_0 h a0 x1 x2) none
def F12_packed_5  : Nat → PH → Nat → Int32 → Int32 → Int32 → Int32 → Option (Int32 × PH)
  | 0, _, _, _, _, _, _ => none
  | n + 1, h, a0, x1, x2, x3, x4 => if (x1 + 6) ≤ x4 then (some (x3, h)) else (if x2 ≤ x4 then (F12_packed_5  n h a0 x1 x2 ((x3 <<< (5 &&& 31)) ||| 0) (x4 + 1)) else ((gR h a0 12 0).bind fun r3 => (aI h r3 0 x4).bind fun v6 => F12_packed_5  n h a0 x1 x2 ((x3 <<< (5 &&& 31)) ||| (v6 - 96)) (x4 + 1)))
def F12_packed_0  (h : PH) (a0 : Nat) (x1 : Int32) (x2 : Int32) : Option (Int32 × PH) := F12_packed_5  1024 h a0 x1 x2 0 x1
def F12_packed (h : PH) (a0 : Nat) (x1 : Int32) (x2 : Int32) : Option (Int32 × PH) := cond (okO h a0 12) (F12_packed_0 h a0 x1 x2) none
def F12_isDigit_0  (h : PH) (a0 : Nat) (x1 : Int32) : Option (Int32 × PH) := (gI h a0 12 6).bind fun v1 => if v1 ≤ x1 then (rz 0 h) else ((gR h a0 12 0).bind fun r4 => (aI h r4 0 x1).bind fun v7 => if v7 < 48 then (rz 0 h) else ((gR h a0 12 0).bind fun r9 => (aI h r9 0 x1).bind fun v12 => if 57 < v12 then (rz 0 h) else (rz 1 h)))
def F12_isDigit (h : PH) (a0 : Nat) (x1 : Int32) : Option (Int32 × PH) := cond (okO h a0 12) (F12_isDigit_0 h a0 x1) none
def F12_signToken_192  (h : PH) (s0 : Int32) (u1 : Nat) : Option (PH) := (pI h u1 12 9 s0).bind fun h1 => some h1
def F12_signToken_135  (h : PH) (a0 : Nat) (x2 : Int32) (x3 : Int32) : Option (PH) := (pI h a0 12 8 5).bind fun h1 => (gI h1 a0 12 9).bind fun v3 => if v3 = 61 then (F12_signToken_192  h1 2 a0) else ((gI h1 a0 12 9).bind fun v6 => if v6 = 60 then (if x2 = 0 then (if x3 = 0 then (F12_signToken_192  h1 0 a0) else (F12_signToken_192  h1 3 a0)) else (F12_signToken_192  h1 1 a0)) else (if x2 = 0 then (F12_signToken_192  h1 5 a0) else (F12_signToken_192  h1 4 a0)))
def F12_signToken_125  (h : PH) (a0 : Nat) (x2 : Int32) (x3 : Int32) : Option (PH) := (gI h a0 12 7).bind fun v1 => (pI h a0 12 7 (v1 + 1)).bind fun h3 => F12_signToken_135  h3 a0 x2 x3
def F12_signToken_116  (h : PH) (a0 : Nat) (x2 : Int32) (s0 : Int32) : Option (PH) := if x2 = 0 then (if s0 = 0 then (F12_signToken_135  h a0 x2 s0) else (F12_signToken_125  h a0 x2 s0)) else (F12_signToken_125  h a0 x2 s0)
def F12_signToken_115  (h : PH) (a0 : Nat) (x2 : Int32) : Option (PH) := F12_signToken_116  h a0 x2 0
def F12_signToken_95  (h : PH) (a0 : Nat) (x1 : Int32) (s0 : Int32) : Option (PH) := (gI h a0 12 9).bind fun v1 => if v1 = 60 then (if x1 = 62 then (F12_signToken_116  h a0 s0 1) else (F12_signToken_115  h a0 s0)) else (F12_signToken_115  h a0 s0)
def F12_signToken_94  (h : PH) (a0 : Nat) (x1 : Int32) : Option (PH) := F12_signToken_95  h a0 x1 0
def F12_signToken_74  (h : PH) (a0 : Nat) (s0 : Int32) : Option (PH) := (gI h a0 12 9).bind fun v1 => if v1 = 61 then (F12_signToken_94  h a0 s0) else (if s0 = 61 then (F12_signToken_95  h a0 s0 1) else (F12_signToken_94  h a0 s0))
def F12_signToken_50  (h : PH) (a0 : Nat) : Option (PH) := (gI h a0 12 7).bind fun v1 => (gI h a0 12 6).bind fun v3 => if v3 ≤ v1 then (F12_signToken_74  h a0 0) else ((gR h a0 12 0).bind fun r6 => (gI h a0 12 7).bind fun v8 => (aI h r6 0 v8).bind fun v11 => F12_signToken_74  h a0 v11)
def F12_signToken_287  (h : PH) (s0 : Int32) (u1 : Nat) : Option (PH) := (pI h u1 12 8 s0).bind fun h1 => some h1
def F12_signToken_275  (h : PH) (a0 : Nat) (s0 : Int32) : Option (PH) := if s0 = 0 then (F12_signToken_287  h 6 a0) else (F12_signToken_287  h 4 a0)
def F12_signToken_270  (h : PH) (a0 : Nat) : Option (PH) := F12_signToken_275  h a0 1
def F12_signToken_0  (h : PH) (a0 : Nat) : Option (PH) := (gR h a0 12 0).bind fun r1 => (gI h a0 12 7).bind fun v3 => (aI h r1 0 v3).bind fun v6 => (pI h a0 12 9 v6).bind fun h7 => (gI h7 a0 12 7).bind fun v9 => (pI h7 a0 12 7 (v9 + 1)).bind fun h11 => (gI h11 a0 12 9).bind fun v13 => if v13 = 60 then (F12_signToken_50  h11 a0) else ((gI h11 a0 12 9).bind fun v16 => if v16 = 62 then (F12_signToken_50  h11 a0) else ((gI h11 a0 12 9).bind fun v19 => if v19 = 61 then (F12_signToken_50  h11 a0) else ((gI h11 a0 12 9).bind fun v22 => if v22 = 59 then (F12_signToken_270  h11 a0) else ((gI h11 a0 12 9).bind fun v25 => if v25 = 40 then (F12_signToken_270  h11 a0) else ((gI h11 a0 12 9).bind fun v28 => if v28 = 41 then (F12_signToken_270  h11 a0) else ((gI h11 a0 12 9).bind fun v31 => if v31 = 43 then (F12_signToken_270  h11 a0) else ((gI h11 a0 12 9).bind fun v34 => if v34 = 45 then (F12_signToken_270  h11 a0) else ((gI h11 a0 12 9).bind fun v37 => if v37 = 42 then (F12_signToken_270  h11 a0) else ((gI h11 a0 12 9).bind fun v40 => if v40 = 47 then (F12_signToken_270  h11 a0) else ((gI h11 a0 12 9).bind fun v43 => if v43 = 37 then (F12_signToken_270  h11 a0) else (F12_signToken_275  h11 a0 0)))))))))))
def F12_signToken (h : PH) (a0 : Nat) : Option (PH) := cond (okO h a0 12) (F12_signToken_0 h a0) none
def F12_token_261 (k213 : PH → Nat → Option (PH)) (h : PH) (a0 : Nat) (s0 : Int32) (u1 : Nat) : Option (PH) := (pI h u1 12 9 s0).bind fun h1 => (gI h1 a0 12 7).bind fun v3 => (pI h1 a0 12 7 (v3 + 1)).bind fun h5 => k213 h5 a0
def F12_token_213  : Nat → PH → Nat → Option (PH)
  | 0, _, _ => none
  | n + 1, h, a0 => (gI h a0 12 7).bind fun v1 => (F12_isDigit h a0 v1).bind fun o3 => if o3.1 = 0 then (some o3.2) else ((gI o3.2 a0 12 9).bind fun v6 => if v6 ≤ 99999 then ((gI o3.2 a0 12 9).bind fun v9 => (gR o3.2 a0 12 0).bind fun r11 => (gI o3.2 a0 12 7).bind fun v13 => (aI o3.2 r11 0 v13).bind fun v16 => F12_token_261 (fun h a0 => F12_token_213  n h a0) o3.2 a0 (((10 * v9) + v16) - 48) a0) else ((gI o3.2 a0 12 9).bind fun v17 => F12_token_261 (fun h a0 => F12_token_213  n h a0) o3.2 a0 v17 a0))
def F12_token_162  (h : PH) (a0 : Nat) (s0 : Int32) (u1 : Nat) : Option (PH) := (pI h u1 12 8 s0).bind fun h1 => (gI h1 a0 12 8).bind fun v3 => if v3 = 2 then ((gI h1 a0 12 10).bind fun v6 => (gI h1 a0 12 7).bind fun v8 => (F12_packed h1 a0 v6 v8).bind fun o10 => (pI o10.2 a0 12 9 o10.1).bind fun h12 => some h12) else (some h1)
def F12_token_90  : Nat → PH → Nat → Option (PH)
  | 0, _, _ => none
  | n + 1, h, a0 => (gI h a0 12 7).bind fun v1 => (F12_isSmall h a0 v1).bind fun o3 => if o3.1 = 0 then ((gI o3.2 a0 12 10).bind fun v6 => (gI o3.2 a0 12 7).bind fun v8 => (F12_wordAt o3.2 a0 v6 v8).bind fun o10 => (pI o10.2 a0 12 9 o10.1).bind fun h12 => (gI h12 a0 12 9).bind fun v14 => if v14 < 0 then ((gI h12 a0 12 7).bind fun v17 => (gI h12 a0 12 10).bind fun v19 => if (v17 - v19) ≤ 6 then (F12_token_162  h12 a0 2 a0) else (F12_token_162  h12 a0 6 a0)) else (F12_token_162  h12 a0 1 a0)) else ((gI o3.2 a0 12 7).bind fun v22 => (pI o3.2 a0 12 7 (v22 + 1)).bind fun h24 => F12_token_90  n h24 a0)
def F12_token_52  (h : PH) (a0 : Nat) : Option (PH) := (gI h a0 12 7).bind fun v1 => (pI h a0 12 10 v1).bind fun h3 => (gI h3 a0 12 7).bind fun v5 => (gI h3 a0 12 6).bind fun v7 => if v5 = v7 then ((pI h3 a0 12 8 0).bind fun h26 => some h26) else ((gI h3 a0 12 7).bind fun v10 => (F12_isSmall h3 a0 v10).bind fun o12 => if o12.1 = 0 then ((gI o12.2 a0 12 7).bind fun v15 => (F12_isDigit o12.2 a0 v15).bind fun o17 => if o17.1 = 0 then ((F12_signToken o17.2 a0).bind fun o20 => some o20) else ((pI o17.2 a0 12 8 3).bind fun h22 => (pI h22 a0 12 9 0).bind fun h24 => F12_token_213  1024 h24 a0)) else (F12_token_90  1024 o12.2 a0))
def F12_token_39 (k0 : PH → Nat → Option (PH)) (h : PH) (a0 : Nat) : Option (PH) := (gI h a0 12 7).bind fun v1 => (pI h a0 12 7 (v1 + 1)).bind fun h3 => k0 h3 a0
def F12_token_0  : Nat → PH → Nat → Option (PH)
  | 0, _, _ => none
  | n + 1, h, a0 => (gI h a0 12 7).bind fun v1 => (gI h a0 12 6).bind fun v3 => if v3 ≤ v1 then (F12_token_52  h a0) else ((gR h a0 12 0).bind fun r6 => (gI h a0 12 7).bind fun v8 => (aI h r6 0 v8).bind fun v11 => if v11 = 10 then (F12_token_39 (fun h a0 => F12_token_0  n h a0) h a0) else ((gR h a0 12 0).bind fun r13 => (gI h a0 12 7).bind fun v15 => (aI h r13 0 v15).bind fun v18 => if v18 = 32 then (F12_token_39 (fun h a0 => F12_token_0  n h a0) h a0) else (F12_token_52  h a0)))
def F12_token (h : PH) (a0 : Nat) : Option (PH) := cond (okO h a0 12) (F12_token_0 1024 h a0) none
def F12_wrong_0  (h : PH) (a0 : Nat) (x1 : Int32) : Option (Int32 × PH) := (pI h a0 12 4 x1).bind fun h1 => (gI h1 a0 12 10).bind fun v3 => (pI h1 a0 12 5 v3).bind fun h5 => rz 0 h5
def F12_wrong (h : PH) (a0 : Nat) (x1 : Int32) : Option (Int32 × PH) := cond (okO h a0 12) (F12_wrong_0 h a0 x1) none
def F12_isIn_0  (h : PH) (x0 : Int32) (x1 : Int32) (x2 : Int32) : Option (Int32 × PH) := if x0 < x1 then (rz 0 h) else (if x2 < x0 then (rz 0 h) else (rz 1 h))
def F12_isIn (h : PH) (x0 : Int32) (x1 : Int32) (x2 : Int32) : Option (Int32 × PH) := F12_isIn_0 h x0 x1 x2
def F12_number_0  (h : PH) (a0 : Nat) (x1 : Int32) (x2 : Int32) : Option (Int32 × PH) := (gI h a0 12 8).bind fun v1 => if v1 = 3 then ((gI h a0 12 9).bind fun v4 => (F12_isIn h v4 x1 x2).bind fun o6 => if o6.1 = 0 then ((F12_wrong o6.2 a0 2).bind fun o15 => rz o15.1 o15.2) else ((gI o6.2 a0 12 9).bind fun v9 => (pI o6.2 a0 12 11 v9).bind fun h11 => (F12_token h11 a0).bind fun o13 => rz 1 o13)) else ((F12_wrong h a0 1).bind fun o17 => rz o17.1 o17.2)
def F12_number (h : PH) (a0 : Nat) (x1 : Int32) (x2 : Int32) : Option (Int32 × PH) := cond (okO h a0 12) (F12_number_0 h a0 x1 x2) none
def F12_bankLine_0  (h : PH) (a0 : Nat) : Option (Int32 × PH) := (F12_token h a0).bind fun o1 => (F12_number o1 a0 1 20).bind fun o3 => if o3.1 = 0 then (rz 0 o3.2) else ((gR o3.2 a0 12 26).bind fun r6 => (gI o3.2 a0 12 11).bind fun v8 => (sI o3.2 r6 0 9 v8).bind fun h11 => (F12_number h11 a0 1 20).bind fun o12 => if o12.1 = 0 then (rz 0 o12.2) else ((gR o12.2 a0 12 26).bind fun r15 => (gI o12.2 a0 12 11).bind fun v17 => (sI o12.2 r15 0 10 v17).bind fun h20 => (F12_number h20 a0 1 9).bind fun o21 => if o21.1 = 0 then (rz 0 o21.2) else ((gR o21.2 a0 12 26).bind fun r24 => (gI o21.2 a0 12 11).bind fun v26 => (sI o21.2 r24 0 11 v26).bind fun h29 => rz 1 h29)))
def F12_bankLine (h : PH) (a0 : Nat) : Option (Int32 × PH) := cond (okO h a0 12) (F12_bankLine_0 h a0) none
def F12_begin_60  : Nat → PH → Nat → Int32 → Option (PH)
  | 0, _, _, _ => none
  | n + 1, h, a0, x1 => if 28 ≤ x1 then ((gR h a0 12 61).bind fun r2 => (sI h r2 0 0 0).bind fun h5 => (gR h5 a0 12 62).bind fun r6 => (sI h5 r6 0 0 0).bind fun h9 => (gR h9 a0 12 63).bind fun r10 => (sI h9 r10 0 0 0).bind fun h13 => (gR h13 a0 12 26).bind fun r14 => (aI h13 r14 0 5).bind fun v17 => (pI h13 a0 12 64 v17).bind fun h18 => (gR h18 a0 12 26).bind fun r20 => (aI h18 r20 0 6).bind fun v23 => (pJ h18 a0 12 65 (Int32.toInt64 v23)).bind fun h24 => (pI h24 a0 12 66 (-1)).bind fun h26 => (pI h26 a0 12 74 0).bind fun h28 => (pI h28 a0 12 75 (-1)).bind fun h30 => (pI h30 a0 12 78 0).bind fun h32 => (pZ h32 a0 12 80 0).bind fun h34 => some h34) else ((gR h a0 12 60).bind fun r36 => (sI h r36 0 x1 (-2)).bind fun h39 => F12_begin_60  n h39 a0 (x1 + 1))
def F12_begin_2  : Nat → PH → Nat → Int32 → Option (PH)
  | 0, _, _, _ => none
  | n + 1, h, a0, x1 => if 5 ≤ x1 then (F12_begin_60  1024 h a0 0) else ((gR h a0 12 55).bind fun r2 => (gR h a0 12 28).bind fun r4 => (aI h r4 0 x1).bind fun v7 => (sI h r2 0 x1 v7).bind fun h9 => (gR h9 a0 12 56).bind fun r10 => (sI h9 r10 0 x1 0).bind fun h13 => (gR h13 a0 12 57).bind fun r14 => (sI h13 r14 0 x1 0).bind fun h17 => (gR h17 a0 12 58).bind fun r18 => (sI h17 r18 0 x1 0).bind fun h21 => (gR h21 a0 12 59).bind fun r22 => (gR h21 a0 12 30).bind fun r24 => (aI h21 r24 0 x1).bind fun v27 => (sI h21 r22 0 x1 v27).bind fun h29 => F12_begin_2  n h29 a0 (x1 + 1))
def F12_begin_0  (h : PH) (a0 : Nat) : Option (PH) := F12_begin_2  1024 h a0 0
def F12_begin (h : PH) (a0 : Nat) : Option (PH) := cond (okO h a0 12) (F12_begin_0 h a0) none
def F12_beginsFrom_2  : Nat → PH → Nat → Int32 → Int32 → Option (Int32 × PH)
  | 0, _, _, _, _ => none
  | n + 1, h, a0, x1, x2 => (gI h a0 12 15).bind fun v1 => if v1 ≤ x2 then (some ((-1), h)) else ((gR h a0 12 34).bind fun r4 => (gR h a0 12 33).bind fun r6 => (aI h r6 0 x2).bind fun v9 => (aI h r4 0 v9).bind fun v11 => if v11 < x1 then (F12_beginsFrom_2  n h a0 x1 (x2 + 1)) else ((gR h a0 12 34).bind fun r13 => (gR h a0 12 33).bind fun r15 => (aI h r15 0 x2).bind fun v18 => (aI h r13 0 v18).bind fun v20 => some (v20, h)))
def F12_beginsFrom_0  (h : PH) (a0 : Nat) (x1 : Int32) : Option (Int32 × PH) := F12_beginsFrom_2  1024 h a0 x1 0
def F12_beginsFrom (h : PH) (a0 : Nat) (x1 : Int32) : Option (Int32 × PH) := cond (okO h a0 12) (F12_beginsFrom_0 h a0 x1) none
def F12_beside_51  (h : PH) (a0 : Nat) (x3 : Int32) (s0 : Int32) (s1 : Int32) : Option (Int32 × PH) := (gI h a0 12 12).bind fun v1 => (F12_isIn h x3 0 (v1 - 1)).bind fun o3 => if o3.1 = 0 then (some ((-1), o3.2)) else ((gI o3.2 a0 12 13).bind fun v6 => (F12_isIn o3.2 (s1 + s0) 0 (v6 - 1)).bind fun o8 => if o8.1 = 0 then (some ((-1), o8.2)) else ((gI o8.2 a0 12 12).bind fun v11 => some (((v11 * (s1 + s0)) + x3), o8.2)))
def F12_beside_25  (h : PH) (a0 : Nat) (x1 : Int32) (x2 : Int32) (s0 : Int32) (s1 : Int32) : Option (Int32 × PH) := (gI h a0 12 12).bind fun v1 => if v1 = 0 then none else if x2 = 2 then (F12_beside_51  h a0 (s1 + s0) 1 (x1 / v1)) else (if x2 = 0 then (F12_beside_51  h a0 (s1 + s0) (-1) (x1 / v1)) else (F12_beside_51  h a0 (s1 + s0) 0 (x1 / v1)))
def F12_beside_0  (h : PH) (a0 : Nat) (x1 : Int32) (x2 : Int32) : Option (Int32 × PH) := (gI h a0 12 12).bind fun v1 => if v1 = 0 then none else if x2 = 1 then (F12_beside_25  h a0 x1 x2 1 (x1 - x1 / v1 * v1)) else (if x2 = 3 then (F12_beside_25  h a0 x1 x2 (-1) (x1 - x1 / v1 * v1)) else (F12_beside_25  h a0 x1 x2 0 (x1 - x1 / v1 * v1)))
def F12_beside (h : PH) (a0 : Nat) (x1 : Int32) (x2 : Int32) : Option (Int32 × PH) := cond (okO h a0 12) (F12_beside_0 h a0 x1 x2) none
def F12_isSurfer_0  (h : PH) (a0 : Nat) (x1 : Int32) : Option (Int32 × PH) := if x1 < 0 then (rz 0 h) else ((gI h a0 12 14).bind fun v2 => if v2 ≤ x1 then (rz 0 h) else (rz 1 h))
def F12_isSurfer (h : PH) (a0 : Nat) (x1 : Int32) : Option (Int32 × PH) := cond (okO h a0 12) (F12_isSurfer_0 h a0 x1) none
def F12_cells_0  (h : PH) (a0 : Nat) : Option (Int32 × PH) := (gI h a0 12 12).bind fun v1 => (gI h a0 12 13).bind fun v3 => some ((v1 * v3), h)
def F12_cells (h : PH) (a0 : Nat) : Option (Int32 × PH) := cond (okO h a0 12) (F12_cells_0 h a0) none
def F12_gainOf_0  (h : PH) (a0 : Nat) (x1 : Int32) (x2 : Int32) (x3 : Int32) : Option (Int32 × PH) := (F12_oddsOf h a0 x1 x2 x3).bind fun o1 => (gR o1.2 a0 12 35).bind fun r3 => (aI o1.2 r3 0 x2).bind fun v6 => some ((o1.1 * v6), o1.2)
def F12_gainOf (h : PH) (a0 : Nat) (x1 : Int32) (x2 : Int32) (x3 : Int32) : Option (Int32 × PH) := cond (okO h a0 12) (F12_gainOf_0 h a0 x1 x2 x3) none
def F12_seatFrom_6  : Nat → PH → Nat → Int32 → Int32 → Int32 → Int32 → Int32 → Option (Int32 × PH)
  | 0, _, _, _, _, _, _, _ => none
  | n + 1, h, a0, x1, x2, x3, x4, x5 => (gI h a0 12 16).bind fun v1 => if v1 ≤ x5 then (some (x4, h)) else ((gR h a0 12 34).bind fun r4 => (aI h r4 0 x5).bind fun v7 => if v7 < x3 then (F12_seatFrom_6  n h a0 x1 x2 x3 (x4 + 0) (x5 + 1)) else ((F12_gainOf h a0 x1 x5 x2).bind fun o9 => F12_seatFrom_6  n o9.2 a0 x1 x2 x3 (x4 + o9.1) (x5 + 1)))
def F12_seatFrom_0  (h : PH) (a0 : Nat) (x1 : Int32) (x2 : Int32) (x3 : Int32) : Option (Int32 × PH) := F12_seatFrom_6  1024 h a0 x1 x2 x3 0 0
def F12_seatFrom (h : PH) (a0 : Nat) (x1 : Int32) (x2 : Int32) (x3 : Int32) : Option (Int32 × PH) := cond (okO h a0 12) (F12_seatFrom_0 h a0 x1 x2 x3) none
def F12_best_22  : Nat → PH → Nat → Int32 → Int32 → Int32 → Int32 → Option (Int32 × PH)
  | 0, _, _, _, _, _, _ => none
  | n + 1, h, a0, x1, x2, x3, x4 => (F12_cells h a0).bind fun o1 => if o1.1 ≤ x4 then (some (x2, o1.2)) else ((gR o1.2 a0 12 61).bind fun r4 => (aI o1.2 r4 0 0).bind fun v7 => (F12_seatFrom o1.2 a0 x1 x4 v7).bind fun o8 => if x3 < o8.1 then (F12_best_22  n o8.2 a0 x1 x4 o8.1 (x4 + 1)) else (F12_best_22  n o8.2 a0 x1 x2 x3 (x4 + 1)))
def F12_best_0  (h : PH) (a0 : Nat) (x1 : Int32) : Option (Int32 × PH) := (pI h a0 12 2 0).bind fun h1 => (F12_isSurfer h1 a0 x1).bind fun o3 => if o3.1 = 0 then (some ((-1), o3.2)) else (F12_best_22  1024 o3.2 a0 x1 0 (-1) 0)
def F12_best (h : PH) (a0 : Nat) (x1 : Int32) : Option (Int32 × PH) := cond (okO h a0 12) (F12_best_0 h a0 x1) none
def F12_rank_0  (h : PH) (x0 : Int32) : Option (Int32 × PH) := if x0 < 13 then (if x0 < 11 then (if x0 < 5 then (if x0 = 2 then (some (3, h)) else (if x0 = 3 then (some (2, h)) else (if x0 = 4 then (some (1, h)) else (some (0, h))))) else (some (4, h))) else (some (5, h))) else (some (6, h))
def F12_rank (h : PH) (x0 : Int32) : Option (Int32 × PH) := F12_rank_0 h x0
def F12_dropHeld_0  (h : PH) (a0 : Nat) : Option (Int32 × PH) := (gI h a0 12 47).bind fun v1 => (pI h a0 12 47 (v1 - 1)).bind fun h3 => (gR h3 a0 12 45).bind fun r5 => (gI h3 a0 12 47).bind fun v7 => (aI h3 r5 0 v7).bind fun v10 => some (v10, h3)
def F12_dropHeld (h : PH) (a0 : Nat) : Option (Int32 × PH) := cond (okO h a0 12) (F12_dropHeld_0 h a0) none
def F12_grown_0  (h : PH) (a0 : Nat) (x1 : Int32) (x2 : Int32) (x3 : Int32) : Option (PH) := (gR h a0 12 40).bind fun r1 => (gI h a0 12 23).bind fun v3 => (sI h r1 0 (64 + v3) x1).bind fun h6 => (gR h6 a0 12 41).bind fun r7 => (gI h6 a0 12 23).bind fun v9 => (sI h6 r7 0 (64 + v9) x2).bind fun h12 => (gR h12 a0 12 42).bind fun r13 => (gI h12 a0 12 23).bind fun v15 => (sI h12 r13 0 (64 + v15) x3).bind fun h18 => (gR h18 a0 12 45).bind fun r19 => (gI h18 a0 12 47).bind fun v21 => (gI h18 a0 12 23).bind fun v23 => (sI h18 r19 0 v21 v23).bind fun h26 => (gI h26 a0 12 47).bind fun v27 => (pI h26 a0 12 47 (v27 + 1)).bind fun h29 => (gI h29 a0 12 23).bind fun v31 => (pI h29 a0 12 23 (v31 + 1)).bind fun h33 => some h33
def F12_grown (h : PH) (a0 : Nat) (x1 : Int32) (x2 : Int32) (x3 : Int32) : Option (PH) := cond (okO h a0 12) (F12_grown_0 h a0 x1 x2 x3) none
def F12_bind_58 (k0 : PH → Nat → Int32 → Option (PH)) (h : PH) (a0 : Nat) (x1 : Int32) (x2 : Int32) (s0 : Int32) : Option (PH) := (F12_dropHeld h a0).bind fun o1 => (F12_grown o1.2 a0 x2 o1.1 s0).bind fun o3 => k0 o3 a0 x1
def F12_bind_0  : Nat → PH → Nat → Int32 → Option (PH)
  | 0, _, _, _ => none
  | n + 1, h, a0, x1 => (gI h a0 12 46).bind fun v1 => if v1 ≤ 0 then (some h) else ((gR h a0 12 44).bind fun r4 => (gI h a0 12 46).bind fun v6 => (aI h r4 0 (v6 - 1)).bind fun v9 => (F12_rank h v9).bind fun o10 => if o10.1 < x1 then (some o10.2) else ((gI o10.2 a0 12 46).bind fun v13 => (pI o10.2 a0 12 46 (v13 - 1)).bind fun h15 => (gR h15 a0 12 44).bind fun r17 => (gI h15 a0 12 46).bind fun v19 => (aI h15 r17 0 v19).bind fun v22 => if v22 = 2 then (F12_bind_58 (fun h a0 x1 => F12_bind_0  n h a0 x1) h15 a0 x1 v22 (-1)) else ((F12_dropHeld h15 a0).bind fun o24 => F12_bind_58 (fun h a0 x1 => F12_bind_0  n h a0 x1) o24.2 a0 x1 v22 o24.1)))
def F12_bind (h : PH) (a0 : Nat) (x1 : Int32) : Option (PH) := cond (okO h a0 12) (F12_bind_0 1024 h a0 x1) none
def F12_cellRead_0  (h : PH) (a0 : Nat) : Option (Int32 × PH) := (pZ h a0 12 24 1).bind fun h1 => (gI h1 a0 12 18).bind fun v3 => (F12_number h1 a0 0 (v3 - 1)).bind fun o5 => if o5.1 = 0 then (rz 0 o5.2) else ((gI o5.2 a0 12 11).bind fun v8 => (pI o5.2 a0 12 43 v8).bind fun h10 => (gI h10 a0 12 19).bind fun v12 => (F12_number h10 a0 0 (v12 - 1)).bind fun o14 => if o14.1 = 0 then (rz 0 o14.2) else (rz 1 o14.2))
def F12_cellRead (h : PH) (a0 : Nat) : Option (Int32 × PH) := cond (okO h a0 12) (F12_cellRead_0 h a0) none
def F12_layTried_71  : Nat → PH → Nat → Int32 → Option (PH)
  | 0, _, _, _ => none
  | n + 1, h, a0, x1 => if 28 ≤ x1 then ((gR h a0 12 61).bind fun r2 => (gR h a0 12 61).bind fun r4 => (aI h r4 0 0).bind fun v7 => (sI h r2 0 1 v7).bind fun h9 => (gR h9 a0 12 62).bind fun r10 => (sI h9 r10 0 1 0).bind fun h13 => (gR h13 a0 12 63).bind fun r14 => (sI h13 r14 0 1 0).bind fun h17 => some h17) else ((gR h a0 12 60).bind fun r18 => (gR h a0 12 60).bind fun r20 => (aI h r20 0 x1).bind fun v23 => (sI h r18 0 (28 + x1) v23).bind fun h25 => F12_layTried_71  n h25 a0 (x1 + 1))
def F12_layTried_2  : Nat → PH → Nat → Int32 → Option (PH)
  | 0, _, _, _ => none
  | n + 1, h, a0, x1 => if 5 ≤ x1 then (F12_layTried_71  1024 h a0 0) else ((gR h a0 12 55).bind fun r2 => (gR h a0 12 55).bind fun r4 => (aI h r4 0 x1).bind fun v7 => (sI h r2 0 (5 + x1) v7).bind fun h9 => (gR h9 a0 12 56).bind fun r10 => (gR h9 a0 12 56).bind fun r12 => (aI h9 r12 0 x1).bind fun v15 => (sI h9 r10 0 (5 + x1) v15).bind fun h17 => (gR h17 a0 12 57).bind fun r18 => (gR h17 a0 12 57).bind fun r20 => (aI h17 r20 0 x1).bind fun v23 => (sI h17 r18 0 (5 + x1) v23).bind fun h25 => (gR h25 a0 12 58).bind fun r26 => (gR h25 a0 12 58).bind fun r28 => (aI h25 r28 0 x1).bind fun v31 => (sI h25 r26 0 (5 + x1) v31).bind fun h33 => F12_layTried_2  n h33 a0 (x1 + 1))
def F12_layTried_0  (h : PH) (a0 : Nat) : Option (PH) := F12_layTried_2  1024 h a0 0
def F12_layTried (h : PH) (a0 : Nat) : Option (PH) := cond (okO h a0 12) (F12_layTried_0 h a0) none
def F12_goesOn_0  : Nat → PH → Nat → Int32 → Option (PH)
  | 0, _, _, _ => none
  | n + 1, h, a0, x1 => (gI h a0 12 16).bind fun v1 => if v1 ≤ 0 then (some h) else ((gR h a0 12 61).bind fun r4 => (aI h r4 0 1).bind fun v7 => (gR h a0 12 34).bind fun r8 => (gI h a0 12 16).bind fun v10 => (aI h r8 0 (v10 - 1)).bind fun v13 => if v13 < v7 then (some h) else ((F12_aMinute h a0 1 x1).bind fun o15 => F12_goesOn_0  n o15 a0 x1))
def F12_goesOn (h : PH) (a0 : Nat) (x1 : Int32) : Option (PH) := cond (okO h a0 12) (F12_goesOn_0 1024 h a0 x1) none
def F12_chance_47  : Nat → PH → Nat → Int32 → Int32 → Int64 → Int32 → Int32 → Option (Int32 × PH)
  | 0, _, _, _, _, _, _, _ => none
  | n + 1, h, a0, x2, x3, j4, x6, x7 => if 10 ≤ x7 then ((pJ h a0 12 65 j4).bind fun h2 => some (x6, h2)) else ((F12_layTried h a0).bind fun o4 => (gI o4 a0 12 64).bind fun v6 => (F12_goesOn o4 a0 v6).bind fun o8 => (gR o8 a0 12 56).bind fun r10 => (aI o8 r10 0 (5 + x2)).bind fun v13 => if v13 < x3 then (F12_chance_47  n o8 a0 x2 x3 j4 (x6 + 0) (x7 + 1)) else (F12_chance_47  n o8 a0 x2 x3 j4 (x6 + 1) (x7 + 1)))
def F12_chance_0  (h : PH) (a0 : Nat) (x1 : Int32) (x2 : Int32) (x3 : Int32) : Option (Int32 × PH) := (pI h a0 12 2 0).bind fun h1 => if x1 < 0 then (some ((-1), h1)) else ((F12_isSurfer h1 a0 x2).bind fun o4 => if o4.1 = 0 then (some ((-1), o4.2)) else ((F12_isIn o4.2 x3 0 28).bind fun o7 => if o7.1 = 0 then (some ((-1), o7.2)) else ((gJ o7.2 a0 12 65).bind fun w10 => (pJ o7.2 a0 12 65 (Int32.toInt64 x1)).bind fun h12 => F12_chance_47  1024 h12 a0 x2 x3 w10 0 0)))
def F12_chance (h : PH) (a0 : Nat) (x1 : Int32) (x2 : Int32) (x3 : Int32) : Option (Int32 × PH) := cond (okO h a0 12) (F12_chance_0 h a0 x1 x2 x3) none
/-! The pure functions of the methods (written by wip/gen/gen.py, split.py). -/
def F12_comesTo_0  (h : PH) (a0 : Nat) (x1 : Int32) (x2 : Int32) : Option (Int32 × PH) := if x2 = 4 then ((gR h a0 12 55).bind fun r8 => (aI h r8 0 x1).bind fun v11 => some (v11, h)) else ((gR h a0 12 55).bind fun r2 => (aI h r2 0 x1).bind fun v5 => (F12_beside h a0 v5 x2).bind fun o6 => some (o6.1, o6.2))
def F12_comesTo (h : PH) (a0 : Nat) (x1 : Int32) (x2 : Int32) : Option (Int32 × PH) := cond (okO h a0 12) (F12_comesTo_0 h a0 x1 x2) none
def F12_copies_2  : Nat → PH → Nat → Int32 → Int32 → Option (PH)
  | 0, _, _, _, _ => none
  | n + 1, h, a0, x1, x2 => if x1 ≤ x2 then (some h) else ((aI h a0 0 (x1 + x2)).bind fun v3 => (sI h a0 0 x2 v3).bind fun h5 => F12_copies_2  n h5 a0 x1 (x2 + 1))
def F12_copies_0  (h : PH) (a0 : Nat) (x1 : Int32) : Option (PH) := F12_copies_2  1024 h a0 x1 0
def F12_copies (h : PH) (a0 : Nat) (x1 : Int32) : Option (PH) := F12_copies_0 h a0 x1
def F12_firstToCome_2  : Nat → PH → Nat → Int32 → Option (Int32 × PH)
  | 0, _, _, _ => none
  | n + 1, h, a0, x1 => (gI h a0 12 16).bind fun v1 => if v1 ≤ x1 then (some (x1, h)) else ((gR h a0 12 60).bind fun r4 => (aI h r4 0 x1).bind fun v7 => if v7 = (-2) then (some (x1, h)) else (F12_firstToCome_2  n h a0 (x1 + 1)))
def F12_firstToCome_0  (h : PH) (a0 : Nat) : Option (Int32 × PH) := F12_firstToCome_2  1024 h a0 0
def F12_firstToCome (h : PH) (a0 : Nat) : Option (Int32 × PH) := cond (okO h a0 12) (F12_firstToCome_0 h a0) none
def F12_knownBy_0  (h : PH) (a0 : Nat) : Option (Int32 × PH) := (gI h a0 12 75).bind fun v1 => if 0 ≤ v1 then ((gI h a0 12 75).bind fun v4 => some (v4, h)) else ((gI h a0 12 74).bind fun v6 => some (v6, h))
def F12_knownBy (h : PH) (a0 : Nat) : Option (Int32 × PH) := cond (okO h a0 12) (F12_knownBy_0 h a0) none
def F12_count_0  (h : PH) (a0 : Nat) (x1 : Int32) : Option (Int32 × PH) := (pI h a0 12 2 0).bind fun h1 => if x1 = 0 then ((gI h1 a0 12 12).bind fun v4 => some (v4, h1)) else if x1 = 1 then ((gI h1 a0 12 13).bind fun v7 => some (v7, h1)) else if x1 = 2 then ((gI h1 a0 12 14).bind fun v10 => some (v10, h1)) else if x1 = 3 then ((gI h1 a0 12 15).bind fun v13 => some (v13, h1)) else if x1 = 4 then ((gI h1 a0 12 16).bind fun v16 => some (v16, h1)) else if x1 = 5 then ((gI h1 a0 12 17).bind fun v19 => some (v19, h1)) else if x1 = 6 then ((gR h1 a0 12 61).bind fun r22 => (aI h1 r22 0 0).bind fun v25 => some (v25, h1)) else if x1 = 7 then ((gI h1 a0 12 64).bind fun v27 => some (v27, h1)) else if x1 = 8 then ((gR h1 a0 12 62).bind fun r30 => (aI h1 r30 0 0).bind fun v33 => some (v33, h1)) else if x1 = 9 then ((gR h1 a0 12 63).bind fun r35 => (aI h1 r35 0 0).bind fun v38 => some (v38, h1)) else if x1 = 10 then ((gI h1 a0 12 16).bind fun v40 => (F12_firstToCome h1 a0).bind fun o42 => some ((v40 - o42.1), o42.2)) else if x1 = 11 then ((gI h1 a0 12 74).bind fun v45 => some (v45, h1)) else if x1 = 12 then ((F12_knownBy h1 a0).bind fun o48 => some (o48.1, o48.2)) else if x1 = 13 then ((gI h1 a0 12 78).bind fun v51 => some (v51, h1)) else (some ((-1), h1))
def F12_count (h : PH) (a0 : Nat) (x1 : Int32) : Option (Int32 × PH) := cond (okO h a0 12) (F12_count_0 h a0 x1) none
def F12_deeper_0  (h : PH) (a0 : Nat) (x1 : Int32) (x2 : Int32) : Option (Int32 × PH) := (pI h a0 12 2 0).bind fun h1 => (F12_isSurfer h1 a0 x1).bind fun o3 => if o3.1 = 0 then (some ((-1), o3.2)) else ((F12_isSurfer o3.2 a0 x2).bind fun o6 => if o6.1 = 0 then (some ((-1), o6.2)) else ((gR o6.2 a0 12 61).bind fun r9 => (aI o6.2 r9 0 0).bind fun v12 => (F12_peakAt o6.2 a0 v12).bind fun o13 => (gR o13.2 a0 12 55).bind fun r15 => (aI o13.2 r15 0 x1).bind fun v18 => (F12_far o13.2 a0 v18 o13.1).bind fun o19 => (gR o19.2 a0 12 55).bind fun r21 => (aI o19.2 r21 0 x2).bind fun v24 => (F12_far o19.2 a0 v24 o13.1).bind fun o25 => if o25.1 ≤ o19.1 then (if o19.1 ≤ o25.1 then (some (0, o25.2)) else (some (2, o25.2))) else (some (1, o25.2))))
def F12_deeper (h : PH) (a0 : Nat) (x1 : Int32) (x2 : Int32) : Option (Int32 × PH) := cond (okO h a0 12) (F12_deeper_0 h a0 x1 x2) none
def F12_fails_0  (h : PH) (a0 : Nat) (x1 : Int32) : Option (Int32 × PH) := (pI h a0 12 2 x1).bind fun h1 => some (0, h1)
def F12_fails (h : PH) (a0 : Nat) (x1 : Int32) : Option (Int32 × PH) := cond (okO h a0 12) (F12_fails_0 h a0 x1) none
def F12_run_0  (h : PH) (a0 : Nat) (x1 : Int32) (x2 : Int32) : Option (PH) := (gJ h a0 12 65).bind fun w1 => (pJ h a0 12 65 (Int32.toInt64 x2)).bind fun h3 => (F12_layTried h3 a0).bind fun o5 => (F12_goesOn o5 a0 x1).bind fun o7 => (pJ o7 a0 12 65 w1).bind fun h9 => some h9
def F12_run (h : PH) (a0 : Nat) (x1 : Int32) (x2 : Int32) : Option (PH) := cond (okO h a0 12) (F12_run_0 h a0 x1 x2) none
def F12_unlike_47 (k8 : PH → Nat → Int32 → Int32 → Int32 → Int32 → Option (Int32 × PH)) (h : PH) (a0 : Nat) (x1 : Int32) (x3 : Int32) (x4 : Int32) (s0 : Int32) : Option (Int32 × PH) := (gR h a0 12 56).bind fun r1 => (aI h r1 0 ((5 * x1) + x4)).bind fun v4 => if x3 ≤ v4 then (k8 h a0 x1 s0 x3 (x4 + 1)) else ((gR h a0 12 56).bind fun r6 => (aI h r6 0 ((5 * x1) + x4)).bind fun v9 => k8 h a0 x1 s0 v9 (x4 + 1))
def F12_unlike_8  : Nat → PH → Nat → Int32 → Int32 → Int32 → Int32 → Option (Int32 × PH)
  | 0, _, _, _, _, _, _ => none
  | n + 1, h, a0, x1, x2, x3, x4 => (gI h a0 12 14).bind fun v1 => if v1 ≤ x4 then ((gI h a0 12 14).bind fun v4 => if v4 = 0 then (some (0, h)) else (some ((x2 - x3), h))) else ((gR h a0 12 56).bind fun r7 => (aI h r7 0 ((5 * x1) + x4)).bind fun v10 => if v10 ≤ x2 then (F12_unlike_47 (fun h a0 x1 x2 x3 x4 => F12_unlike_8  n h a0 x1 x2 x3 x4) h a0 x1 x3 x4 x2) else ((gR h a0 12 56).bind fun r12 => (aI h r12 0 ((5 * x1) + x4)).bind fun v15 => F12_unlike_47 (fun h a0 x1 x2 x3 x4 => F12_unlike_8  n h a0 x1 x2 x3 x4) h a0 x1 x3 x4 v15))
def F12_unlike_0  (h : PH) (a0 : Nat) (x1 : Int32) : Option (Int32 × PH) := F12_unlike_8  1024 h a0 x1 0 99 0
def F12_unlike (h : PH) (a0 : Nat) (x1 : Int32) : Option (Int32 × PH) := cond (okO h a0 12) (F12_unlike_0 h a0 x1) none
def F12_fairest_69 (k18 : PH → Nat → Int32 → Int32 → Int32 → Int32 → Option (Int32 × PH)) (h : PH) (a0 : Nat) (x1 : Int32) (x4 : Int32) (x5 : Int32) : Option (Int32 × PH) := k18 h a0 x1 x4 x5 (x4 + 1)
def F12_fairest_18  : Nat → PH → Nat → Int32 → Int32 → Int32 → Int32 → Option (Int32 × PH)
  | 0, _, _, _, _, _, _ => none
  | n + 1, h, a0, x1, x2, x3, x4 => if 4 ≤ x4 then (some (x2, h)) else ((F12_run h a0 x4 x1).bind fun o2 => (F12_unlike o2 a0 1).bind fun o4 => (gR o4.2 a0 12 62).bind fun r6 => (aI o4.2 r6 0 1).bind fun v9 => (gR o4.2 a0 12 63).bind fun r10 => (aI o4.2 r10 0 1).bind fun v13 => if x2 < 0 then (F12_fairest_69 (fun h a0 x1 x2 x3 x4 => F12_fairest_18  n h a0 x1 x2 x3 x4) o4.2 a0 x1 x4 (((1000 * o4.1) + v9) + v13)) else (if (((1000 * o4.1) + v9) + v13) < x3 then (F12_fairest_69 (fun h a0 x1 x2 x3 x4 => F12_fairest_18  n h a0 x1 x2 x3 x4) o4.2 a0 x1 x4 (((1000 * o4.1) + v9) + v13)) else (F12_fairest_18  n o4.2 a0 x1 x2 x3 (x4 + 1))))
def F12_fairest_0  (h : PH) (a0 : Nat) (x1 : Int32) : Option (Int32 × PH) := (pI h a0 12 2 0).bind fun h1 => if 0 ≤ x1 then (F12_fairest_18  1024 h1 a0 x1 (-1) 0 0) else (some ((-1), h1))
def F12_fairest (h : PH) (a0 : Nat) (x1 : Int32) : Option (Int32 × PH) := cond (okO h a0 12) (F12_fairest_0 h a0 x1) none
def F12_fault_0  (h : PH) (a0 : Nat) (x1 : Int32) : Option (Int32 × PH) := (pI h a0 12 2 0).bind fun h1 => if x1 = 0 then ((gI h1 a0 12 4).bind fun v7 => some (v7, h1)) else (if x1 = 1 then ((gI h1 a0 12 5).bind fun v5 => some (v5, h1)) else (some ((-1), h1)))
def F12_fault (h : PH) (a0 : Nat) (x1 : Int32) : Option (Int32 × PH) := cond (okO h a0 12) (F12_fault_0 h a0 x1) none
def F12_feed_76 (k23 : PH → Nat → Int32 → Int32 → Int32 → Int32 → Int32 → Int32 → Option (Int32 × PH)) (h : PH) (a0 : Nat) (x1 : Int32) (x2 : Int32) (x3 : Int32) (x4 : Int32) (x5 : Int32) (x6 : Int32) (s0 : Int32) : Option (Int32 × PH) := (gR h a0 12 0).bind fun r1 => (gI h a0 12 1).bind fun v3 => (sI h r1 0 (v3 + x6) ((s0 >>> ((24 - (8 * (x6 - x6 / 4 * 4))) &&& 31)) &&& 255)).bind fun h6 => k23 h6 a0 x1 x2 x3 x4 x5 (x6 + 1)
def F12_feed_23  : Nat → PH → Nat → Int32 → Int32 → Int32 → Int32 → Int32 → Int32 → Option (Int32 × PH)
  | 0, _, _, _, _, _, _, _, _ => none
  | n + 1, h, a0, x1, x2, x3, x4, x5, x6 => if 20 ≤ x6 then ((gI h a0 12 1).bind fun v2 => (pI h a0 12 1 (v2 + 20)).bind fun h4 => (gI h4 a0 12 1).bind fun v6 => some (v6, h4)) else (if 4 ≤ x6 then (if 8 ≤ x6 then (if 12 ≤ x6 then (if 16 ≤ x6 then (F12_feed_76 (fun h a0 x1 x2 x3 x4 x5 x6 => F12_feed_23  n h a0 x1 x2 x3 x4 x5 x6) h a0 x1 x2 x3 x4 x5 x6 x5) else (F12_feed_76 (fun h a0 x1 x2 x3 x4 x5 x6 => F12_feed_23  n h a0 x1 x2 x3 x4 x5 x6) h a0 x1 x2 x3 x4 x5 x6 x4)) else (F12_feed_76 (fun h a0 x1 x2 x3 x4 x5 x6 => F12_feed_23  n h a0 x1 x2 x3 x4 x5 x6) h a0 x1 x2 x3 x4 x5 x6 x3)) else (F12_feed_76 (fun h a0 x1 x2 x3 x4 x5 x6 => F12_feed_23  n h a0 x1 x2 x3 x4 x5 x6) h a0 x1 x2 x3 x4 x5 x6 x2)) else (F12_feed_76 (fun h a0 x1 x2 x3 x4 x5 x6 => F12_feed_23  n h a0 x1 x2 x3 x4 x5 x6) h a0 x1 x2 x3 x4 x5 x6 x1))
def F12_feed_0  (h : PH) (a0 : Nat) (x1 : Int32) (x2 : Int32) (x3 : Int32) (x4 : Int32) (x5 : Int32) : Option (Int32 × PH) := (pI h a0 12 2 0).bind fun h1 => (gI h1 a0 12 1).bind fun v3 => if (v3 + 20) ≤ 700 then (F12_feed_23  1024 h1 a0 x1 x2 x3 x4 x5 0) else (some ((-1), h1))
def F12_feed (h : PH) (a0 : Nat) (x1 : Int32) (x2 : Int32) (x3 : Int32) (x4 : Int32) (x5 : Int32) : Option (Int32 × PH) := cond (okO h a0 12) (F12_feed_0 h a0 x1 x2 x3 x4 x5) none
def F12_find_3  : Nat → PH → Nat → Int32 → Int32 → Int32 → Int32 → Option (Int32 × PH)
  | 0, _, _, _, _, _, _ => none
  | n + 1, h, a0, x1, x2, x3, x4 => if x2 ≤ x4 then (some ((-1), h)) else ((aI h a0 0 (x1 + x4)).bind fun v3 => if v3 = x3 then (some (x4, h)) else (F12_find_3  n h a0 x1 x2 x3 (x4 + 1)))
def F12_find_0  (h : PH) (a0 : Nat) (x1 : Int32) (x2 : Int32) (x3 : Int32) : Option (Int32 × PH) := F12_find_3  1024 h a0 x1 x2 x3 0
def F12_find (h : PH) (a0 : Nat) (x1 : Int32) (x2 : Int32) (x3 : Int32) : Option (Int32 × PH) := F12_find_0 h a0 x1 x2 x3
def F12_gaps_31  : Nat → PH → Nat → Int32 → Int32 → Int32 → Int32 → Option (Int32 × PH)
  | 0, _, _, _, _, _, _ => none
  | n + 1, h, a0, x1, x2, x3, x4 => (gI h a0 12 15).bind fun v1 => if v1 ≤ x4 then (if x2 = 0 then (some (x3, h)) else ((gI h a0 12 15).bind fun v5 => if 2 ≤ v5 then ((gI h a0 12 15).bind fun v8 => some ((v8 - 1), h)) else (some (0, h)))) else ((gR h a0 12 34).bind fun r10 => (gR h a0 12 33).bind fun r12 => (aI h r12 0 x4).bind fun v15 => (aI h r10 0 v15).bind fun v17 => (gR h a0 12 34).bind fun r18 => (gR h a0 12 33).bind fun r20 => (aI h r20 0 x4).bind fun v23 => (aI h r18 0 (v23 - 1)).bind fun v25 => if x1 < (v17 - v25) then (F12_gaps_31  n h a0 x1 x2 (x3 + 0) (x4 + 1)) else (F12_gaps_31  n h a0 x1 x2 (x3 + 1) (x4 + 1)))
def F12_gaps_0  (h : PH) (a0 : Nat) (x1 : Int32) (x2 : Int32) : Option (Int32 × PH) := (pI h a0 12 2 0).bind fun h1 => (F12_isIn h1 x1 0 99).bind fun o3 => if o3.1 = 0 then (some ((-1), o3.2)) else ((F12_isIn o3.2 x2 0 1).bind fun o6 => if o6.1 = 0 then (some ((-1), o6.2)) else (F12_gaps_31  1024 o6.2 a0 x1 x2 0 1))
def F12_gaps (h : PH) (a0 : Nat) (x1 : Int32) (x2 : Int32) : Option (Int32 × PH) := cond (okO h a0 12) (F12_gaps_0 h a0 x1 x2) none
def F12_give_0  (h : PH) (a0 : Nat) (x1 : Int32) (x2 : Int32) (x3 : Int32) : Option (Int32 × PH) := (pI h a0 12 2 0).bind fun h1 => (F12_isSurfer h1 a0 x1).bind fun o3 => if o3.1 = 0 then (some ((-1), o3.2)) else ((F12_isSurfer o3.2 a0 x2).bind fun o6 => if o6.1 = 0 then (some ((-1), o6.2)) else (if x1 = x2 then (some ((-1), o6.2)) else ((F12_isIn o6.2 x3 0 99).bind fun o10 => if o10.1 = 0 then (some ((-1), o10.2)) else ((gR o10.2 a0 12 32).bind fun r13 => (aI o10.2 r13 0 x2).bind fun v16 => if (v16 * x3) ≤ 100 then (some (0, o10.2)) else (some (1, o10.2))))))
def F12_give (h : PH) (a0 : Nat) (x1 : Int32) (x2 : Int32) (x3 : Int32) : Option (Int32 × PH) := cond (okO h a0 12) (F12_give_0 h a0 x1 x2 x3) none
def F12_isWave_0  (h : PH) (a0 : Nat) (x1 : Int32) : Option (Int32 × PH) := if x1 < 0 then (rz 0 h) else ((gI h a0 12 16).bind fun v2 => if v2 ≤ x1 then (rz 0 h) else (rz 1 h))
def F12_isWave (h : PH) (a0 : Nat) (x1 : Int32) : Option (Int32 × PH) := cond (okO h a0 12) (F12_isWave_0 h a0 x1) none
def F12_isToCome_0  (h : PH) (a0 : Nat) (x1 : Int32) : Option (Int32 × PH) := (F12_isWave h a0 x1).bind fun o1 => if o1.1 = 0 then (rz 0 o1.2) else ((gR o1.2 a0 12 60).bind fun r4 => (aI o1.2 r4 0 x1).bind fun v7 => if v7 = (-2) then (rz 1 o1.2) else (rz 0 o1.2))
def F12_isToCome (h : PH) (a0 : Nat) (x1 : Int32) : Option (Int32 × PH) := cond (okO h a0 12) (F12_isToCome_0 h a0 x1) none
def F12_go_107 (k54 : PH → Nat → Int32 → Int32 → Int32 → Int32 → Int32 → Int32 → Option (Int32 × PH)) (h : PH) (a0 : Nat) (x1 : Int32) (x2 : Int32) (x3 : Int32) (x4 : Int32) (x6 : Int32) : Option (Int32 × PH) := k54 h a0 x1 x2 x3 x4 1 (x6 + 1)
def F12_go_91 (k54 : PH → Nat → Int32 → Int32 → Int32 → Int32 → Int32 → Int32 → Option (Int32 × PH)) (h : PH) (a0 : Nat) (x1 : Int32) (x2 : Int32) (x3 : Int32) (x4 : Int32) (x5 : Int32) (x6 : Int32) : Option (Int32 × PH) := if x5 = 0 then ((gR h a0 12 68).bind fun r2 => (aI h r2 0 x6).bind fun v5 => if v5 = x1 then (F12_go_107 k54 h a0 x1 x2 x3 x4 x6) else (k54 h a0 x1 x2 x3 x4 0 (x6 + 1))) else (F12_go_107 k54 h a0 x1 x2 x3 x4 x6)
def F12_go_54  : Nat → PH → Nat → Int32 → Int32 → Int32 → Int32 → Int32 → Int32 → Option (Int32 × PH)
  | 0, _, _, _, _, _, _, _, _ => none
  | n + 1, h, a0, x1, x2, x3, x4, x5, x6 => (gI h a0 12 69).bind fun v1 => if v1 ≤ x6 then ((gR h a0 12 55).bind fun r4 => (aI h r4 0 x1).bind fun v7 => (F12_gainOf h a0 x1 x2 v7).bind fun o8 => if o8.1 ≤ (x3 * (100 - x4)) then (some (0, o8.2)) else (some (1, o8.2))) else (if x5 = 0 then (F12_go_91 (fun h a0 x1 x2 x3 x4 x5 x6 => F12_go_54  n h a0 x1 x2 x3 x4 x5 x6) h a0 x1 x2 x3 x4 x5 x6) else ((gR h a0 12 31).bind fun r12 => (gR h a0 12 68).bind fun r14 => (aI h r14 0 x6).bind fun v17 => (aI h r12 0 v17).bind fun v19 => F12_go_91 (fun h a0 x1 x2 x3 x4 x5 x6 => F12_go_54  n h a0 x1 x2 x3 x4 x5 x6) h a0 x1 x2 x3 ((x4 * (100 - v19)) / 100) x5 x6))
def F12_go_0  (h : PH) (a0 : Nat) (x1 : Int32) (x2 : Int32) (x3 : Int32) : Option (Int32 × PH) := (pI h a0 12 2 0).bind fun h1 => (F12_isSurfer h1 a0 x1).bind fun o3 => if o3.1 = 0 then (some ((-1), o3.2)) else ((F12_isToCome o3.2 a0 x2).bind fun o6 => if o6.1 = 0 then (some ((-1), o6.2)) else ((F12_isIn o6.2 x3 0 999).bind fun o9 => if o9.1 = 0 then (some ((-1), o9.2)) else ((gI o9.2 a0 12 64).bind fun v12 => (F12_layOrder o9.2 a0 0 x2 v12).bind fun o14 => F12_go_54  1024 o14 a0 x1 x2 x3 100 0 0)))
def F12_go (h : PH) (a0 : Nat) (x1 : Int32) (x2 : Int32) (x3 : Int32) : Option (Int32 × PH) := cond (okO h a0 12) (F12_go_0 h a0 x1 x2 x3) none
def F12_plain_85  : Nat → PH → Nat → Int32 → Option (PH)
  | 0, _, _, _ => none
  | n + 1, h, a0, x1 => if 6 ≤ x1 then (some h) else ((gR h a0 12 37).bind fun r2 => (sI h r2 2 x1 (vp_nar .boolean 0)).bind fun h5 => F12_plain_85  n h5 a0 (x1 + 1))
def F12_plain_64  : Nat → PH → Nat → Int32 → Option (PH)
  | 0, _, _, _ => none
  | n + 1, h, a0, x1 => if 14 ≤ x1 then (F12_plain_85  1024 h a0 3) else ((gR h a0 12 26).bind fun r2 => (sI h r2 0 x1 0).bind fun h5 => F12_plain_64  n h5 a0 (x1 + 1))
def F12_plain_43  : Nat → PH → Nat → Int32 → Option (PH)
  | 0, _, _, _ => none
  | n + 1, h, a0, x1 => if 5 ≤ x1 then (F12_plain_64  1024 h a0 7) else ((gR h a0 12 25).bind fun r2 => (sI h r2 2 x1 (vp_nar .boolean 0)).bind fun h5 => F12_plain_43  n h5 a0 (x1 + 1))
def F12_plain_0  (h : PH) (a0 : Nat) : Option (PH) := (pI h a0 12 18 6).bind fun h1 => (pI h1 a0 12 19 4).bind fun h3 => (pI h3 a0 12 20 0).bind fun h5 => (pI h5 a0 12 21 0).bind fun h7 => (pI h7 a0 12 22 0).bind fun h9 => (pI h9 a0 12 23 0).bind fun h11 => (pI h11 a0 12 49 0).bind fun h13 => (pZ h13 a0 12 24 0).bind fun h15 => F12_plain_43  1024 h15 a0 0
def F12_plain (h : PH) (a0 : Nat) : Option (PH) := cond (okO h a0 12) (F12_plain_0 h a0) none
def F12_keepText_142  : Nat → PH → Nat → Int32 → Option (PH)
  | 0, _, _, _ => none
  | n + 1, h, a0, x1 => if 3 ≤ x1 then ((gR h a0 12 38).bind fun r2 => (F12_copies h r2 3).bind fun o4 => (gR o4 a0 12 39).bind fun r6 => (F12_copies o4 r6 3).bind fun o8 => (gR o8 a0 12 40).bind fun r10 => (F12_copies o8 r10 64).bind fun o12 => (gR o12 a0 12 41).bind fun r14 => (F12_copies o12 r14 64).bind fun o16 => (gR o16 a0 12 42).bind fun r18 => (F12_copies o16 r18 64).bind fun o20 => (F12_begin o20 a0).bind fun o22 => some o22) else ((gR h a0 12 37).bind fun r24 => (gR h a0 12 37).bind fun r26 => (aI h r26 2 (3 + x1)).bind fun v29 => (sI h r24 2 x1 (vp_nar .boolean v29)).bind fun h31 => F12_keepText_142  n h31 a0 (x1 + 1))
def F12_keepText_0  (h : PH) (a0 : Nat) : Option (PH) := (gI h a0 12 18).bind fun v1 => (pI h a0 12 12 v1).bind fun h3 => (gI h3 a0 12 19).bind fun v5 => (pI h3 a0 12 13 v5).bind fun h7 => (gI h7 a0 12 20).bind fun v9 => (pI h7 a0 12 14 v9).bind fun h11 => (gI h11 a0 12 21).bind fun v13 => (pI h11 a0 12 15 v13).bind fun h15 => (gI h15 a0 12 22).bind fun v17 => (pI h15 a0 12 16 v17).bind fun h19 => (gI h19 a0 12 23).bind fun v21 => (pI h19 a0 12 17 v21).bind fun h23 => (gR h23 a0 12 26).bind fun r25 => (F12_copies h23 r25 7).bind fun o27 => (gR o27 a0 12 27).bind fun r29 => (F12_copies o27 r29 5).bind fun o31 => (gR o31 a0 12 28).bind fun r33 => (F12_copies o31 r33 5).bind fun o35 => (gR o35 a0 12 29).bind fun r37 => (F12_copies o35 r37 5).bind fun o39 => (gR o39 a0 12 30).bind fun r41 => (F12_copies o39 r41 5).bind fun o43 => (gR o43 a0 12 31).bind fun r45 => (F12_copies o43 r45 5).bind fun o47 => (gR o47 a0 12 32).bind fun r49 => (F12_copies o47 r49 5).bind fun o51 => (gR o51 a0 12 33).bind fun r53 => (F12_copies o51 r53 4).bind fun o55 => (gR o55 a0 12 34).bind fun r57 => (F12_copies o55 r57 28).bind fun o59 => (gR o59 a0 12 35).bind fun r61 => (F12_copies o59 r61 28).bind fun o63 => (gR o63 a0 12 36).bind fun r65 => (F12_copies o63 r65 28).bind fun o67 => F12_keepText_142  1024 o67 a0 0
def F12_keepText (h : PH) (a0 : Nat) : Option (PH) := cond (okO h a0 12) (F12_keepText_0 h a0) none
def F12_isCell_0  (h : PH) (a0 : Nat) (x1 : Int32) : Option (Int32 × PH) := if x1 < 0 then (rz 0 h) else ((F12_cells h a0).bind fun o2 => if o2.1 ≤ x1 then (rz 0 o2.2) else (rz 1 o2.2))
def F12_isCell (h : PH) (a0 : Nat) (x1 : Int32) : Option (Int32 × PH) := cond (okO h a0 12) (F12_isCell_0 h a0 x1) none
def F12_isCounted_0  (h : PH) (a0 : Nat) : Option (Int32 × PH) := (gI h a0 12 49).bind fun v1 => if v1 = 64 then ((F12_wrong h a0 2).bind fun o8 => rz o8.1 o8.2) else ((gI h a0 12 49).bind fun v4 => (pI h a0 12 49 (v4 + 1)).bind fun h6 => rz 1 h6)
def F12_isCounted (h : PH) (a0 : Nat) : Option (Int32 × PH) := cond (okO h a0 12) (F12_isCounted_0 h a0) none
def F12_isKey_0  (h : PH) (a0 : Nat) (x1 : Int32) : Option (Int32 × PH) := (gI h a0 12 8).bind fun v1 => if v1 = 1 then ((gI h a0 12 9).bind fun v4 => if v4 = x1 then (rz 1 h) else (rz 0 h)) else (rz 0 h)
def F12_isKey (h : PH) (a0 : Nat) (x1 : Int32) : Option (Int32 × PH) := cond (okO h a0 12) (F12_isKey_0 h a0 x1) none
def F12_isRest_13  : Nat → PH → Nat → Int32 → Int32 → Option (Int32 × PH)
  | 0, _, _, _, _ => none
  | n + 1, h, a0, x1, x2 => if 5 ≤ x2 then (rz 1 h) else ((gR h a0 12 70).bind fun r2 => (aI h r2 0 ((5 * x2) + (x1 - x1 / 5 * 5))).bind fun v5 => (gR h a0 12 70).bind fun r6 => (aI h r6 0 x1).bind fun v9 => if v9 < v5 then (rz 0 h) else ((gR h a0 12 71).bind fun r11 => (aI h r11 0 (((x1 / 5) * 5) + x2)).bind fun v14 => (gR h a0 12 71).bind fun r15 => (aI h r15 0 x1).bind fun v18 => if v14 ≤ v18 then (F12_isRest_13  n h a0 x1 (x2 + 1)) else (rz 0 h)))
def F12_isRest_0  (h : PH) (a0 : Nat) (x1 : Int32) : Option (Int32 × PH) := (gR h a0 12 70).bind fun r1 => (aI h r1 0 x1).bind fun v4 => if 0 ≤ v4 then (F12_isRest_13  1024 h a0 x1 0) else (rz 0 h)
def F12_isRest (h : PH) (a0 : Nat) (x1 : Int32) : Option (Int32 × PH) := cond (okO h a0 12) (F12_isRest_0 h a0 x1) none
def F12_isSign_0  (h : PH) (a0 : Nat) (x1 : Int32) : Option (Int32 × PH) := (gI h a0 12 8).bind fun v1 => if v1 = 4 then ((gI h a0 12 9).bind fun v4 => if v4 = x1 then (rz 1 h) else (rz 0 h)) else (rz 0 h)
def F12_isSign (h : PH) (a0 : Nat) (x1 : Int32) : Option (Int32 × PH) := cond (okO h a0 12) (F12_isSign_0 h a0 x1) none
def F12_keep_96  : Nat → PH → Nat → Int32 → Option (Int32 × PH)
  | 0, _, _, _ => none
  | n + 1, h, a0, x1 => if 28 ≤ x1 then ((gR h a0 12 61).bind fun r2 => (aI h r2 0 0).bind fun v5 => (pI h a0 12 82 v5).bind fun h6 => (gI h6 a0 12 64).bind fun v8 => (pI h6 a0 12 83 v8).bind fun h10 => (gR h10 a0 12 62).bind fun r12 => (aI h10 r12 0 0).bind fun v15 => (pI h10 a0 12 84 v15).bind fun h16 => (gR h16 a0 12 63).bind fun r18 => (aI h16 r18 0 0).bind fun v21 => (pI h16 a0 12 85 v21).bind fun h22 => (gJ h22 a0 12 65).bind fun w24 => (pJ h22 a0 12 86 w24).bind fun h26 => (gR h26 a0 12 61).bind fun r28 => (aI h26 r28 0 0).bind fun v31 => some (v31, h26)) else ((gR h a0 12 81).bind fun r32 => (gR h a0 12 60).bind fun r34 => (aI h r34 0 x1).bind fun v37 => (sI h r32 0 (25 + x1) v37).bind fun h39 => F12_keep_96  n h39 a0 (x1 + 1))
def F12_keep_12  : Nat → PH → Nat → Int32 → Option (Int32 × PH)
  | 0, _, _, _ => none
  | n + 1, h, a0, x1 => if 5 ≤ x1 then (F12_keep_96  1024 h a0 0) else ((gR h a0 12 81).bind fun r2 => (gR h a0 12 55).bind fun r4 => (aI h r4 0 x1).bind fun v7 => (sI h r2 0 x1 v7).bind fun h9 => (gR h9 a0 12 81).bind fun r10 => (gR h9 a0 12 56).bind fun r12 => (aI h9 r12 0 x1).bind fun v15 => (sI h9 r10 0 (5 + x1) v15).bind fun h17 => (gR h17 a0 12 81).bind fun r18 => (gR h17 a0 12 57).bind fun r20 => (aI h17 r20 0 x1).bind fun v23 => (sI h17 r18 0 (10 + x1) v23).bind fun h25 => (gR h25 a0 12 81).bind fun r26 => (gR h25 a0 12 58).bind fun r28 => (aI h25 r28 0 x1).bind fun v31 => (sI h25 r26 0 (15 + x1) v31).bind fun h33 => (gR h33 a0 12 81).bind fun r34 => (gR h33 a0 12 59).bind fun r36 => (aI h33 r36 0 x1).bind fun v39 => (sI h33 r34 0 (20 + x1) v39).bind fun h41 => F12_keep_12  n h41 a0 (x1 + 1))
def F12_keep_0  (h : PH) (a0 : Nat) : Option (Int32 × PH) := (pI h a0 12 2 0).bind fun h1 => (pZ h1 a0 12 80 1).bind fun h3 => F12_keep_12  1024 h3 a0 0
def F12_keep (h : PH) (a0 : Nat) : Option (Int32 × PH) := cond (okO h a0 12) (F12_keep_0 h a0) none
def F12_known_0  (h : PH) (a0 : Nat) (x1 : Int32) : Option (Int32 × PH) := (pI h a0 12 2 0).bind fun h1 => (gI h1 a0 12 74).bind fun v3 => (F12_isIn h1 x1 (-1) v3).bind fun o5 => if o5.1 = 0 then (rz 0 o5.2) else ((pI o5.2 a0 12 75 x1).bind fun h8 => rz 1 h8)
def F12_known (h : PH) (a0 : Nat) (x1 : Int32) : Option (Int32 × PH) := cond (okO h a0 12) (F12_known_0 h a0 x1) none
def F12_law_134  (h : PH) (a0 : Nat) (x4 : Int32) : Option (Int64 × PH) := (F12_lawOf h a0 x4).bind fun o1 => (gI o1.2 a0 12 54).bind fun v3 => if v3 = 0 then (some (o1.1, o1.2)) else (some ((-9223372036854775808 : Int64), o1.2))
def F12_law_57  (h : PH) (a0 : Nat) (x1 : Int32) (x2 : Int32) (x3 : Int32) (s0 : Int32) : Option (Int64 × PH) := (gR h a0 12 37).bind fun r1 => (aI h r1 2 s0).bind fun v4 => if v4 = 0 then (some ((-9223372036854775808 : Int64), h)) else (if x1 = 0 then ((gR h a0 12 55).bind fun r24 => (aI h r24 0 x2).bind fun v27 => (F12_layCatch h a0 x2 x3 v27).bind fun o28 => F12_law_134  o28.2 a0 s0) else (if x1 = 1 then ((gR h a0 12 29).bind fun r14 => (aI h r14 0 x2).bind fun v17 => (gR h a0 12 34).bind fun r18 => (aI h r18 0 x3).bind fun v21 => (F12_layNames h a0 0 0 v17 x3 v21).bind fun o22 => F12_law_134  o22 a0 s0) else ((gR h a0 12 61).bind fun r8 => (aI h r8 0 0).bind fun v11 => (F12_layNames h a0 0 0 0 (-1) v11).bind fun o12 => F12_law_134  o12 a0 s0)))
def F12_law_39  (h : PH) (a0 : Nat) (x1 : Int32) (x2 : Int32) (x3 : Int32) : Option (Int64 × PH) := if x1 = 0 then (F12_law_57  h a0 x1 x2 x3 0) else (if x1 = 1 then (F12_law_57  h a0 x1 x2 x3 2) else (F12_law_57  h a0 x1 x2 x3 1))
def F12_law_0  (h : PH) (a0 : Nat) (x1 : Int32) (x2 : Int32) (x3 : Int32) : Option (Int64 × PH) := (pI h a0 12 2 0).bind fun h1 => (F12_isIn h1 x1 0 2).bind fun o3 => if o3.1 = 0 then (some ((-9223372036854775808 : Int64), o3.2)) else (if 2 ≤ x1 then (F12_law_39  o3.2 a0 x1 x2 x3) else ((F12_isSurfer o3.2 a0 x2).bind fun o7 => if o7.1 = 0 then (some ((-9223372036854775808 : Int64), o7.2)) else ((F12_isWave o7.2 a0 x3).bind fun o10 => if o10.1 = 0 then (some ((-9223372036854775808 : Int64), o10.2)) else (F12_law_39  o10.2 a0 x1 x2 x3))))
def F12_law (h : PH) (a0 : Nat) (x1 : Int32) (x2 : Int32) (x3 : Int32) : Option (Int64 × PH) := cond (okO h a0 12) (F12_law_0 h a0 x1 x2 x3) none
def F12_wayAt_0  (h : PH) (x0 : Int32) : Option (Int32 × PH) := if x0 = 0 then (some (4, h)) else (some ((x0 - 1), h))
def F12_wayAt (h : PH) (x0 : Int32) : Option (Int32 × PH) := F12_wayAt_0 h x0
def F12_layGame_151 (k2 : PH → Nat → Int32 → Int32 → Int32 → Option (PH)) (k78 : PH → Nat → Int32 → Int32 → Int32 → Int32 → Int32 → Int32 → Option (PH)) (h : PH) (a0 : Nat) (x1 : Int32) (x2 : Int32) (x3 : Int32) (x4 : Int32) (x5 : Int32) (x6 : Int32) : Option (PH) := (gR h a0 12 70).bind fun r1 => (aI h r1 0 x3).bind fun v4 => (F12_gainOf h a0 x1 x6 x4).bind fun o5 => (sI o5.2 r1 0 x3 (v4 + o5.1)).bind fun h8 => k78 h8 a0 x1 x2 x3 x4 x5 (x6 + 1)
def F12_layGame_172 (k2 : PH → Nat → Int32 → Int32 → Int32 → Option (PH)) (k78 : PH → Nat → Int32 → Int32 → Int32 → Int32 → Int32 → Int32 → Option (PH)) (h : PH) (a0 : Nat) (x1 : Int32) (x2 : Int32) (x3 : Int32) (x4 : Int32) (x5 : Int32) (x6 : Int32) : Option (PH) := (gR h a0 12 71).bind fun r1 => (aI h r1 0 x3).bind fun v4 => (F12_gainOf h a0 x2 x6 x5).bind fun o5 => (sI o5.2 r1 0 x3 (v4 + o5.1)).bind fun h8 => k78 h8 a0 x1 x2 x3 x4 x5 (x6 + 1)
def F12_layGame_78 (k2 : PH → Nat → Int32 → Int32 → Int32 → Option (PH)) : Nat → PH → Nat → Int32 → Int32 → Int32 → Int32 → Int32 → Int32 → Option (PH)
  | 0, _, _, _, _, _, _, _, _ => none
  | n + 1, h, a0, x1, x2, x3, x4, x5, x6 => (gI h a0 12 16).bind fun v1 => if v1 ≤ x6 then (k2 h a0 x1 x2 (x3 + 1)) else ((F12_isToCome h a0 x6).bind fun o4 => if o4.1 = 0 then (F12_layGame_78 k2 n o4.2 a0 x1 x2 x3 x4 x5 (x6 + 1)) else ((gR o4.2 a0 12 34).bind fun r7 => (aI o4.2 r7 0 x6).bind fun v10 => (F12_peakAt o4.2 a0 v10).bind fun o11 => (F12_far o11.2 a0 x4 o11.1).bind fun o13 => (F12_far o13.2 a0 x5 o11.1).bind fun o15 => if o13.1 < o15.1 then (F12_layGame_151 k2 (fun h a0 x1 x2 x3 x4 x5 x6 => F12_layGame_78 k2 n h a0 x1 x2 x3 x4 x5 x6) o15.2 a0 x1 x2 x3 x4 x5 x6) else (if o13.1 = o15.1 then (if x2 ≤ x1 then (F12_layGame_172 k2 (fun h a0 x1 x2 x3 x4 x5 x6 => F12_layGame_78 k2 n h a0 x1 x2 x3 x4 x5 x6) o15.2 a0 x1 x2 x3 x4 x5 x6) else (F12_layGame_151 k2 (fun h a0 x1 x2 x3 x4 x5 x6 => F12_layGame_78 k2 n h a0 x1 x2 x3 x4 x5 x6) o15.2 a0 x1 x2 x3 x4 x5 x6)) else (F12_layGame_172 k2 (fun h a0 x1 x2 x3 x4 x5 x6 => F12_layGame_78 k2 n h a0 x1 x2 x3 x4 x5 x6) o15.2 a0 x1 x2 x3 x4 x5 x6))))
def F12_layGame_2  : Nat → PH → Nat → Int32 → Int32 → Int32 → Option (PH)
  | 0, _, _, _, _, _ => none
  | n + 1, h, a0, x1, x2, x3 => if 25 ≤ x3 then (some h) else ((F12_wayAt h (x3 / 5)).bind fun o2 => (F12_comesTo o2.2 a0 x1 o2.1).bind fun o4 => (F12_wayAt o4.2 (x3 - x3 / 5 * 5)).bind fun o6 => (F12_comesTo o6.2 a0 x2 o6.1).bind fun o8 => (gR o8.2 a0 12 70).bind fun r10 => (sI o8.2 r10 0 x3 (-1)).bind fun h13 => (gR h13 a0 12 71).bind fun r14 => (sI h13 r14 0 x3 (-1)).bind fun h17 => if o4.1 < 0 then (F12_layGame_2  n h17 a0 x1 x2 (x3 + 1)) else (if 0 ≤ o8.1 then ((gR h17 a0 12 70).bind fun r20 => (sI h17 r20 0 x3 0).bind fun h23 => (gR h23 a0 12 71).bind fun r24 => (sI h23 r24 0 x3 0).bind fun h27 => F12_layGame_78 (fun h a0 x1 x2 x3 => F12_layGame_2  n h a0 x1 x2 x3) 1024 h27 a0 x1 x2 x3 o4.1 o8.1 0) else (F12_layGame_2  n h17 a0 x1 x2 (x3 + 1))))
def F12_layGame_0  (h : PH) (a0 : Nat) (x1 : Int32) (x2 : Int32) : Option (PH) := F12_layGame_2  1024 h a0 x1 x2 0
def F12_layGame (h : PH) (a0 : Nat) (x1 : Int32) (x2 : Int32) : Option (PH) := cond (okO h a0 12) (F12_layGame_0 h a0 x1 x2) none
def F12_layPlan_124 (k17 : PH → Nat → Int32 → Int32 → Option (PH)) (h : PH) (a0 : Nat) (x1 : Int32) (x2 : Int32) (s0 : Int32) (s1 : Int32) (u2 : Nat) : Option (PH) := (sI h u2 0 s1 s0).bind fun h2 => k17 h2 a0 x1 (x2 + (-1))
def F12_layPlan_65 (k17 : PH → Nat → Int32 → Int32 → Option (PH)) (h : PH) (a0 : Nat) (x1 : Int32) (x2 : Int32) (x3 : Int32) : Option (PH) := (gR h a0 12 73).bind fun r1 => (sI h r1 0 x2 x3).bind fun h4 => (gR h4 a0 12 55).bind fun r5 => (aI h4 r5 0 x1).bind fun v8 => (F12_gainOf h4 a0 x1 x2 v8).bind fun o9 => (gR o9.2 a0 12 72).bind fun r11 => (aI o9.2 r11 0 x3).bind fun v14 => (gR o9.2 a0 12 72).bind fun r15 => (gR o9.2 a0 12 72).bind fun r17 => (aI o9.2 r17 0 (x2 + 1)).bind fun v20 => if (o9.1 + v14) < v20 then ((gR o9.2 a0 12 72).bind fun r22 => (aI o9.2 r22 0 (x2 + 1)).bind fun v25 => F12_layPlan_124 k17 o9.2 a0 x1 x2 v25 x2 r15) else (F12_layPlan_124 k17 o9.2 a0 x1 x2 (o9.1 + v14) x2 r15)
def F12_layPlan_33 (k17 : PH → Nat → Int32 → Int32 → Option (PH)) : Nat → PH → Nat → Int32 → Int32 → Int32 → Int32 → Option (PH)
  | 0, _, _, _, _, _, _ => none
  | n + 1, h, a0, x1, x2, x3, x4 => (gI h a0 12 16).bind fun v1 => if v1 ≤ x3 then (F12_layPlan_65 k17 h a0 x1 x2 x3) else ((gR h a0 12 34).bind fun r4 => (aI h r4 0 x3).bind fun v7 => (gR h a0 12 34).bind fun r8 => (aI h r8 0 x2).bind fun v11 => if (v11 + x4) ≤ v7 then (F12_layPlan_65 k17 h a0 x1 x2 x3) else (F12_layPlan_33 k17 n h a0 x1 x2 (x3 + 1) x4))
def F12_layPlan_17  : Nat → PH → Nat → Int32 → Int32 → Option (PH)
  | 0, _, _, _, _ => none
  | n + 1, h, a0, x1, x2 => if x2 < 0 then (some h) else ((F12_awayOf h a0 x1 x2).bind fun o2 => F12_layPlan_33 (fun h a0 x1 x2 => F12_layPlan_17  n h a0 x1 x2) 1024 o2.2 a0 x1 x2 (x2 + 1) o2.1)
def F12_layPlan_0  (h : PH) (a0 : Nat) (x1 : Int32) : Option (PH) := (gR h a0 12 72).bind fun r1 => (gI h a0 12 16).bind fun v3 => (sI h r1 0 v3 0).bind fun h6 => (gI h6 a0 12 16).bind fun v7 => F12_layPlan_17  1024 h6 a0 x1 (v7 - 1)
def F12_layPlan (h : PH) (a0 : Nat) (x1 : Int32) : Option (PH) := cond (okO h a0 12) (F12_layPlan_0 h a0 x1) none
def F12_waitsFor_0  (h : PH) (a0 : Nat) (x1 : Int32) : Option (PH) := (gR h a0 12 44).bind fun r1 => (gI h a0 12 46).bind fun v3 => (sI h r1 0 v3 x1).bind fun h6 => (gI h6 a0 12 46).bind fun v7 => (pI h6 a0 12 46 (v7 + 1)).bind fun h9 => some h9
def F12_waitsFor (h : PH) (a0 : Nat) (x1 : Int32) : Option (PH) := cond (okO h a0 12) (F12_waitsFor_0 h a0 x1) none
def F12_nameMet_0  (h : PH) (a0 : Nat) : Option (Int32 × PH) := (gI h a0 12 8).bind fun v1 => if v1 = 1 then ((gI h a0 12 9).bind fun v4 => if v4 < 18 then (some ((-1), h)) else ((gI h a0 12 9).bind fun v7 => some ((v7 - 18), h))) else (some ((-1), h))
def F12_nameMet (h : PH) (a0 : Nat) : Option (Int32 × PH) := cond (okO h a0 12) (F12_nameMet_0 h a0) none
def F12_leafRead_160  (h : PH) (a0 : Nat) (s0 : Int32) (s1 : Int32) (u2 : Nat) : Option (Int32 × PH) := (F12_grown h u2 s1 s0 0).bind fun o1 => (pZ o1 a0 12 50 0).bind fun h3 => (F12_token h3 a0).bind fun o5 => rz 1 o5
def F12_leafRead_148  (h : PH) (a0 : Nat) (x1 : Int32) (s0 : Int32) (u1 : Nat) : Option (Int32 × PH) := if x1 < 0 then ((gI h a0 12 9).bind fun v2 => F12_leafRead_160  h a0 v2 s0 u1) else (F12_leafRead_160  h a0 x1 s0 u1)
def F12_leafRead_129  (h : PH) (a0 : Nat) (x1 : Int32) : Option (Int32 × PH) := (F12_isCounted h a0).bind fun o1 => if o1.1 = 0 then (rz 0 o1.2) else (if x1 < 0 then (F12_leafRead_148  o1.2 a0 x1 0 a0) else (F12_leafRead_148  o1.2 a0 x1 1 a0))
def F12_leafRead_109  (h : PH) (a0 : Nat) (x1 : Int32) : Option (Int32 × PH) := if 0 ≤ x1 then (F12_leafRead_129  h a0 x1) else ((gI h a0 12 9).bind fun v2 => if v2 ≤ 9999 then (F12_leafRead_129  h a0 x1) else ((F12_wrong h a0 2).bind fun o5 => rz o5.1 o5.2))
def F12_leafRead_86  (h : PH) (a0 : Nat) : Option (Int32 × PH) := (F12_nameMet h a0).bind fun o1 => if 0 ≤ o1.1 then (F12_leafRead_109  o1.2 a0 o1.1) else ((gI o1.2 a0 12 8).bind fun v4 => if v4 = 3 then (F12_leafRead_109  o1.2 a0 o1.1) else ((F12_wrong o1.2 a0 1).bind fun o7 => rz o7.1 o7.2))
def F12_leafRead_0  (h : PH) (a0 : Nat) : Option (Int32 × PH) := (F12_isSign h a0 40).bind fun o1 => if o1.1 = 0 then ((F12_isKey o1.2 a0 17).bind fun o4 => if o4.1 = 0 then (F12_leafRead_86  o4.2 a0) else ((gI o4.2 a0 12 51).bind fun v7 => if v7 = 0 then (F12_leafRead_86  o4.2 a0) else ((F12_isCounted o4.2 a0).bind fun o10 => if o10.1 = 0 then (rz 0 o10.2) else ((F12_waitsFor o10.2 a0 2).bind fun o13 => (F12_token o13 a0).bind fun o15 => rz 1 o15)))) else ((gI o1.2 a0 12 48).bind fun v17 => if v17 = 8 then ((F12_wrong o1.2 a0 2).bind fun o30 => rz o30.1 o30.2) else ((gI o1.2 a0 12 48).bind fun v20 => (pI o1.2 a0 12 48 (v20 + 1)).bind fun h22 => (F12_waitsFor h22 a0 0).bind fun o24 => (pZ o24 a0 12 51 1).bind fun h26 => (F12_token h26 a0).bind fun o28 => rz 1 o28))
def F12_leafRead (h : PH) (a0 : Nat) : Option (Int32 × PH) := cond (okO h a0 12) (F12_leafRead_0 h a0) none
def F12_seaLine_0  (h : PH) (a0 : Nat) : Option (Int32 × PH) := (gR h a0 12 25).bind fun r1 => (aI h r1 2 0).bind fun v4 => if v4 = 0 then ((gI h a0 12 24).bind fun v6 => if v6 = 0 then ((gR h a0 12 25).bind fun r9 => (sI h r9 2 0 (vp_nar .boolean 1)).bind fun h12 => (F12_token h12 a0).bind fun o13 => (F12_number o13 a0 1 8).bind fun o15 => if o15.1 = 0 then (rz 0 o15.2) else ((gI o15.2 a0 12 11).bind fun v18 => (pI o15.2 a0 12 18 v18).bind fun h20 => (F12_number h20 a0 1 6).bind fun o22 => if o22.1 = 0 then (rz 0 o22.2) else ((gI o22.2 a0 12 11).bind fun v25 => (pI o22.2 a0 12 19 v25).bind fun h27 => rz 1 h27))) else ((F12_wrong h a0 4).bind fun o29 => rz o29.1 o29.2)) else ((F12_wrong h a0 3).bind fun o31 => rz o31.1 o31.2)
def F12_seaLine (h : PH) (a0 : Nat) : Option (Int32 × PH) := cond (okO h a0 12) (F12_seaLine_0 h a0) none
def F12_surferLine_0  (h : PH) (a0 : Nat) : Option (Int32 × PH) := (gI h a0 12 20).bind fun v1 => if v1 = 5 then ((F12_wrong h a0 2).bind fun o85 => rz o85.1 o85.2) else ((F12_token h a0).bind fun o4 => (gI o4 a0 12 8).bind fun v6 => if v6 = 2 then ((gR o4 a0 12 27).bind fun r9 => (gI o4 a0 12 20).bind fun v11 => (gI o4 a0 12 9).bind fun v13 => (F12_find o4 r9 5 v11 v13).bind fun o15 => if o15.1 < 0 then ((gI o15.2 a0 12 20).bind fun v18 => (gR o15.2 a0 12 27).bind fun r20 => (gI o15.2 a0 12 9).bind fun v22 => (sI o15.2 r20 0 (5 + v18) v22).bind fun h25 => (F12_token h25 a0).bind fun o26 => (F12_cellRead o26 a0).bind fun o28 => if o28.1 = 0 then (rz 0 o28.2) else ((gR o28.2 a0 12 28).bind fun r31 => (gI o28.2 a0 12 18).bind fun v33 => (gI o28.2 a0 12 11).bind fun v35 => (gI o28.2 a0 12 43).bind fun v37 => (sI o28.2 r31 0 (5 + v18) ((v33 * v35) + v37)).bind fun h40 => (F12_number h40 a0 1 9).bind fun o41 => if o41.1 = 0 then (rz 0 o41.2) else ((gR o41.2 a0 12 29).bind fun r44 => (gI o41.2 a0 12 11).bind fun v46 => (sI o41.2 r44 0 (5 + v18) v46).bind fun h49 => (F12_number h49 a0 1 3).bind fun o50 => if o50.1 = 0 then (rz 0 o50.2) else ((gR o50.2 a0 12 30).bind fun r53 => (gI o50.2 a0 12 11).bind fun v55 => (sI o50.2 r53 0 (5 + v18) v55).bind fun h58 => (F12_number h58 a0 0 100).bind fun o59 => if o59.1 = 0 then (rz 0 o59.2) else ((gR o59.2 a0 12 31).bind fun r62 => (gI o59.2 a0 12 11).bind fun v64 => (sI o59.2 r62 0 (5 + v18) v64).bind fun h67 => (F12_number h67 a0 0 100).bind fun o68 => if o68.1 = 0 then (rz 0 o68.2) else ((gR o68.2 a0 12 32).bind fun r71 => (gI o68.2 a0 12 11).bind fun v73 => (sI o68.2 r71 0 (5 + v18) v73).bind fun h76 => (gI h76 a0 12 20).bind fun v77 => (pI h76 a0 12 20 (v77 + 1)).bind fun h79 => rz 1 h79)))))) else ((F12_wrong o15.2 a0 3).bind fun o81 => rz o81.1 o81.2)) else ((F12_wrong o4 a0 1).bind fun o83 => rz o83.1 o83.2))
def F12_surferLine (h : PH) (a0 : Nat) : Option (Int32 × PH) := cond (okO h a0 12) (F12_surferLine_0 h a0) none
def F12_setLine_110  : Nat → PH → Nat → Int32 → Int32 → Option (Int32 × PH)
  | 0, _, _, _, _ => none
  | n + 1, h, a0, x2, x3 => (gI h a0 12 8).bind fun v1 => if v1 = 3 then (if x3 = 7 then ((F12_wrong h a0 2).bind fun o38 => rz o38.1 o38.2) else ((F12_number h a0 1 9).bind fun o9 => if o9.1 = 0 then (rz 0 o9.2) else ((gR o9.2 a0 12 34).bind fun r12 => (gI o9.2 a0 12 22).bind fun v14 => (sI o9.2 r12 0 (28 + v14) (x2 + x3)).bind fun h17 => (gR h17 a0 12 35).bind fun r18 => (gI h17 a0 12 22).bind fun v20 => (gI h17 a0 12 11).bind fun v22 => (sI h17 r18 0 (28 + v20) v22).bind fun h25 => (gR h25 a0 12 36).bind fun r26 => (gI h25 a0 12 22).bind fun v28 => (gI h25 a0 12 21).bind fun v30 => (sI h25 r26 0 (28 + v28) v30).bind fun h33 => (gI h33 a0 12 22).bind fun v34 => (pI h33 a0 12 22 (v34 + 1)).bind fun h36 => F12_setLine_110  n h36 a0 x2 (x3 + 1)))) else ((gI h a0 12 21).bind fun v4 => (pI h a0 12 21 (v4 + 1)).bind fun h6 => rz 1 h6)
def F12_setLine_74  (h : PH) (a0 : Nat) : Option (Int32 × PH) := (gI h a0 12 11).bind fun v1 => (gI h a0 12 8).bind fun v3 => if v3 = 3 then ((gR h a0 12 33).bind fun r6 => (gI h a0 12 21).bind fun v8 => (gI h a0 12 22).bind fun v10 => (sI h r6 0 (4 + v8) v10).bind fun h13 => F12_setLine_110  1024 h13 a0 v1 0) else ((F12_wrong h a0 1).bind fun o14 => rz o14.1 o14.2)
def F12_setLine_0  (h : PH) (a0 : Nat) : Option (Int32 × PH) := (gI h a0 12 21).bind fun v1 => if v1 = 4 then ((F12_wrong h a0 2).bind fun o27 => rz o27.1 o27.2) else ((F12_token h a0).bind fun o4 => (gI o4 a0 12 10).bind fun v6 => (F12_number o4 a0 0 99).bind fun o8 => if o8.1 = 0 then (rz 0 o8.2) else ((gI o8.2 a0 12 22).bind fun v11 => if v11 ≤ 0 then (F12_setLine_74  o8.2 a0) else ((gI o8.2 a0 12 11).bind fun v14 => (gR o8.2 a0 12 34).bind fun r16 => (gI o8.2 a0 12 22).bind fun v18 => (aI o8.2 r16 0 ((28 + v18) - 1)).bind fun v21 => if v21 < v14 then (F12_setLine_74  o8.2 a0) else ((pI o8.2 a0 12 10 v6).bind fun h23 => (F12_wrong h23 a0 5).bind fun o25 => rz o25.1 o25.2))))
def F12_setLine (h : PH) (a0 : Nat) : Option (Int32 × PH) := cond (okO h a0 12) (F12_setLine_0 h a0) none
def F12_onceLine_168  (h : PH) (a0 : Nat) : Option (Int32 × PH) := (F12_wrong h a0 1).bind fun o1 => rz o1.1 o1.2
def F12_onceLine_37  (h : PH) (a0 : Nat) (s0 : Int32) : Option (Int32 × PH) := (gR h a0 12 25).bind fun r1 => (aI h r1 2 s0).bind fun v4 => if v4 = 0 then ((gR h a0 12 25).bind fun r6 => (sI h r6 2 s0 (vp_nar .boolean 1)).bind fun h9 => if s0 = 2 then ((F12_bankLine h9 a0).bind fun o56 => rz o56.1 o56.2) else ((F12_token h9 a0).bind fun o11 => if s0 = 1 then ((F12_cellRead o11 a0).bind fun o41 => if o41.1 = 0 then (rz 0 o41.2) else ((gR o41.2 a0 12 26).bind fun r44 => (gI o41.2 a0 12 43).bind fun v46 => (sI o41.2 r44 0 7 v46).bind fun h49 => (gR h49 a0 12 26).bind fun r50 => (gI h49 a0 12 11).bind fun v52 => (sI h49 r50 0 8 v52).bind fun h55 => rz 1 h55)) else (if s0 = 4 then ((F12_number o11 a0 0 99999).bind fun o32 => if o32.1 = 0 then (rz 0 o32.2) else ((gR o32.2 a0 12 26).bind fun r35 => (gI o32.2 a0 12 11).bind fun v37 => (sI o32.2 r35 0 13 v37).bind fun h40 => rz 1 h40)) else ((gI o11 a0 12 8).bind fun v15 => if v15 = 1 then ((gI o11 a0 12 9).bind fun v18 => if v18 < 8 then (F12_onceLine_168  o11 a0) else ((gI o11 a0 12 9).bind fun v21 => if v21 ≤ 11 then ((gR o11 a0 12 26).bind fun r24 => (gI o11 a0 12 9).bind fun v26 => (sI o11 r24 0 12 (v26 - 8)).bind fun h29 => (F12_token h29 a0).bind fun o30 => rz 1 o30) else (F12_onceLine_168  o11 a0))) else (F12_onceLine_168  o11 a0))))) else ((F12_wrong h a0 3).bind fun o58 => rz o58.1 o58.2)
def F12_onceLine_0  (h : PH) (a0 : Nat) : Option (Int32 × PH) := (gI h a0 12 9).bind fun v1 => if v1 = 1 then (F12_onceLine_37  h a0 1) else ((gI h a0 12 9).bind fun v4 => if v4 = 4 then (F12_onceLine_37  h a0 2) else ((gI h a0 12 9).bind fun v7 => if v7 = 5 then (F12_onceLine_37  h a0 3) else (F12_onceLine_37  h a0 4)))
def F12_onceLine (h : PH) (a0 : Nat) : Option (Int32 × PH) := cond (okO h a0 12) (F12_onceLine_0 h a0) none
def F12_signs_250  (h : PH) (a0 : Nat) (s0 : Int32) (u1 : Nat) : Option (Int32 × PH) := (pZ h u1 12 51 s0).bind fun h1 => (F12_token h1 a0).bind fun o3 => rz 1 o3
def F12_signs_217  (h : PH) (a0 : Nat) (x1 : Int32) : Option (Int32 × PH) := (F12_isCounted h a0).bind fun o1 => if o1.1 = 0 then (rz 0 o1.2) else ((F12_waitsFor o1.2 a0 x1).bind fun o4 => (pZ o4 a0 12 50 1).bind fun h6 => (F12_rank h6 x1).bind fun o8 => if 3 ≤ o8.1 then (F12_signs_250  o8.2 a0 0 a0) else (F12_signs_250  o8.2 a0 1 a0))
def F12_signs_175  (h : PH) (a0 : Nat) (x1 : Int32) (s0 : Int32) (u1 : Nat) : Option (Int32 × PH) := (F12_bind h u1 s0).bind fun o1 => (F12_rank o1 x1).bind fun o3 => if o3.1 = 4 then ((gI o3.2 a0 12 46).bind fun v6 => if v6 ≤ 0 then (F12_signs_217  o3.2 a0 x1) else ((gR o3.2 a0 12 44).bind fun r9 => (gI o3.2 a0 12 46).bind fun v11 => (aI o3.2 r9 0 (v11 - 1)).bind fun v14 => (F12_rank o3.2 v14).bind fun o15 => if o15.1 = 4 then ((F12_wrong o15.2 a0 1).bind fun o18 => rz o18.1 o18.2) else (F12_signs_217  o15.2 a0 x1))) else (F12_signs_217  o3.2 a0 x1)
def F12_signs_147  (h : PH) (a0 : Nat) (s0 : Int32) : Option (Int32 × PH) := if s0 = 0 then ((F12_wrong h a0 1).bind fun o7 => rz o7.1 o7.2) else ((F12_rank h s0).bind fun o2 => if o2.1 = 4 then (F12_signs_175  o2.2 a0 s0 5 a0) else ((F12_rank o2.2 s0).bind fun o5 => F12_signs_175  o5.2 a0 s0 o5.1 a0))
def F12_signs_47  (h : PH) (a0 : Nat) : Option (Int32 × PH) := (F12_isKey h a0 15).bind fun o1 => if o1.1 = 0 then ((F12_isKey o1.2 a0 16).bind fun o4 => if o4.1 = 0 then ((gI o4.2 a0 12 8).bind fun v7 => if v7 = 5 then ((gI o4.2 a0 12 9).bind fun v22 => F12_signs_147  o4.2 a0 (5 + v22)) else ((F12_isSign o4.2 a0 43).bind fun o10 => if o10.1 = 0 then ((F12_isSign o10.2 a0 45).bind fun o13 => if o13.1 = 0 then ((F12_isSign o13.2 a0 42).bind fun o16 => if o16.1 = 0 then ((F12_isSign o16.2 a0 47).bind fun o19 => if o19.1 = 0 then (F12_signs_147  o19.2 a0 0) else (F12_signs_147  o19.2 a0 14)) else (F12_signs_147  o16.2 a0 13)) else (F12_signs_147  o13.2 a0 12)) else (F12_signs_147  o10.2 a0 11))) else (F12_signs_147  o4.2 a0 4)) else (F12_signs_147  o1.2 a0 3)
def F12_signs_0  (h : PH) (a0 : Nat) : Option (Int32 × PH) := (F12_isSign h a0 41).bind fun o1 => if o1.1 = 0 then (F12_signs_47  o1.2 a0) else ((gI o1.2 a0 12 48).bind fun v4 => if v4 ≤ 0 then (F12_signs_47  o1.2 a0) else ((F12_bind o1.2 a0 1).bind fun o7 => (gI o7 a0 12 46).bind fun v9 => (pI o7 a0 12 46 (v9 - 1)).bind fun h11 => (gI h11 a0 12 48).bind fun v13 => (pI h11 a0 12 48 (v13 - 1)).bind fun h15 => (F12_token h15 a0).bind fun o17 => rz 1 o17))
def F12_signs (h : PH) (a0 : Nat) : Option (Int32 × PH) := cond (okO h a0 12) (F12_signs_0 h a0) none
def F12_sumRead_48 (k25 : PH → Nat → Option (Int32 × PH)) (h : PH) (a0 : Nat) : Option (Int32 × PH) := (gI h a0 12 50).bind fun v1 => if v1 = 0 then ((F12_signs h a0).bind fun o4 => if o4.1 = 0 then (rz 0 o4.2) else (k25 o4.2 a0)) else ((F12_leafRead h a0).bind fun o7 => if o7.1 = 0 then (rz 0 o7.2) else (k25 o7.2 a0))
def F12_sumRead_25  : Nat → PH → Nat → Option (Int32 × PH)
  | 0, _, _ => none
  | n + 1, h, a0 => (F12_isSign h a0 59).bind fun o1 => if o1.1 = 0 then (F12_sumRead_48 (fun h a0 => F12_sumRead_25  n h a0) o1.2 a0) else ((gI o1.2 a0 12 50).bind fun v4 => if v4 = 0 then ((gI o1.2 a0 12 48).bind fun v7 => if v7 ≤ 0 then ((F12_bind o1.2 a0 1).bind fun o10 => rz 1 o10) else (F12_sumRead_48 (fun h a0 => F12_sumRead_25  n h a0) o1.2 a0)) else (F12_sumRead_48 (fun h a0 => F12_sumRead_25  n h a0) o1.2 a0))
def F12_sumRead_0  (h : PH) (a0 : Nat) : Option (Int32 × PH) := (pI h a0 12 46 0).bind fun h1 => (pI h1 a0 12 47 0).bind fun h3 => (pI h3 a0 12 48 0).bind fun h5 => (pZ h5 a0 12 50 1).bind fun h7 => (pZ h7 a0 12 51 1).bind fun h9 => F12_sumRead_25  1024 h9 a0
def F12_sumRead (h : PH) (a0 : Nat) : Option (Int32 × PH) := cond (okO h a0 12) (F12_sumRead_0 h a0) none
def F12_lineRead_17  (h : PH) (a0 : Nat) : Option (Int32 × PH) := (F12_wrong h a0 1).bind fun o1 => rz o1.1 o1.2
def F12_lineRead_197  (h : PH) (a0 : Nat) (x1 : Int32) : Option (Int32 × PH) := if x1 = 0 then (rz 0 h) else ((F12_isSign h a0 59).bind fun o2 => if o2.1 = 0 then ((F12_wrong o2.2 a0 1).bind fun o7 => rz o7.1 o7.2) else ((F12_token o2.2 a0).bind fun o5 => rz 1 o5))
def F12_lineRead_130  (h : PH) (a0 : Nat) : Option (Int32 × PH) := (F12_wrong h a0 1).bind fun o1 => rz o1.1 o1.2
def F12_lineRead_0  (h : PH) (a0 : Nat) : Option (Int32 × PH) := (gI h a0 12 8).bind fun v1 => if v1 = 1 then ((gI h a0 12 9).bind fun v4 => if v4 ≤ 7 then ((gI h a0 12 9).bind fun v7 => if v7 = 0 then ((F12_seaLine h a0).bind fun o10 => F12_lineRead_197  o10.2 a0 o10.1) else if v7 = 1 then ((F12_onceLine h a0).bind fun o13 => F12_lineRead_197  o13.2 a0 o13.1) else if v7 = 2 then ((F12_surferLine h a0).bind fun o16 => F12_lineRead_197  o16.2 a0 o16.1) else if v7 = 3 then ((F12_setLine h a0).bind fun o19 => F12_lineRead_197  o19.2 a0 o19.1) else if v7 = 4 then ((F12_onceLine h a0).bind fun o22 => F12_lineRead_197  o22.2 a0 o22.1) else if v7 = 5 then ((F12_onceLine h a0).bind fun o25 => F12_lineRead_197  o25.2 a0 o25.1) else if v7 = 6 then ((F12_onceLine h a0).bind fun o28 => F12_lineRead_197  o28.2 a0 o28.1) else ((F12_token h a0).bind fun o30 => (gI o30 a0 12 8).bind fun v32 => if v32 = 1 then ((gI o30 a0 12 9).bind fun v35 => if v35 < 12 then (F12_lineRead_130  o30 a0) else ((gI o30 a0 12 9).bind fun v38 => if v38 ≤ 14 then ((gI o30 a0 12 9).bind fun v41 => (gR o30 a0 12 37).bind fun r43 => (aI o30 r43 2 ((3 + v41) - 12)).bind fun v46 => if v46 = 0 then ((gR o30 a0 12 37).bind fun r48 => (sI o30 r48 2 ((3 + v41) - 12) (vp_nar .boolean 1)).bind fun h51 => (F12_token h51 a0).bind fun o52 => (gR o52 a0 12 38).bind fun r54 => (gI o52 a0 12 23).bind fun v56 => (sI o52 r54 0 ((3 + v41) - 12) v56).bind fun h59 => (F12_sumRead h59 a0).bind fun o60 => (gR o60.2 a0 12 39).bind fun r62 => (gI o60.2 a0 12 23).bind fun v64 => (sI o60.2 r62 0 ((3 + v41) - 12) v64).bind fun h67 => F12_lineRead_197  h67 a0 o60.1) else ((F12_wrong o30 a0 3).bind fun o68 => rz o68.1 o68.2)) else (F12_lineRead_130  o30 a0))) else (F12_lineRead_130  o30 a0))) else (F12_lineRead_17  h a0)) else (F12_lineRead_17  h a0)
def F12_lineRead (h : PH) (a0 : Nat) : Option (Int32 × PH) := cond (okO h a0 12) (F12_lineRead_0 h a0) none
def F12_locals_100  : Nat → PH → Nat → Int32 → Int32 → Int32 → Int32 → Option (Int32 × PH)
  | 0, _, _, _, _, _, _ => none
  | n + 1, h, a0, x1, x2, x3, x4 => (F12_knownBy h a0).bind fun o1 => if o1.1 ≤ x4 then (some ((x2 &&& (x3 ^^^ (-1))), o1.2)) else ((gR o1.2 a0 12 77).bind fun r4 => (aI o1.2 r4 2 x4).bind fun v7 => if v7 = 0 then (F12_locals_100  n o1.2 a0 x1 x2 x3 (x4 + 1)) else ((gR o1.2 a0 12 76).bind fun r9 => (aI o1.2 r9 0 (3 * x4)).bind fun v12 => if 0 ≤ v12 then ((gR o1.2 a0 12 76).bind fun r14 => (aI o1.2 r14 0 (3 * x4)).bind fun v17 => (F12_beginsFrom o1.2 a0 v17).bind fun o18 => if 0 ≤ o18.1 then ((gR o18.2 a0 12 76).bind fun r21 => (aI o18.2 r21 0 ((3 * x4) + 1)).bind fun v24 => (gR o18.2 a0 12 76).bind fun r25 => (aI o18.2 r25 0 ((3 * x4) + 2)).bind fun v28 => (F12_peakAt o18.2 a0 o18.1).bind fun o29 => (F12_far o29.2 a0 v28 o29.1).bind fun o31 => if o31.1 ≤ x1 then (F12_locals_100  n o31.2 a0 x1 (x2 ||| (1 <<< (v24 &&& 31))) x3 (x4 + 1)) else ((gR o31.2 a0 12 76).bind fun r34 => (aI o31.2 r34 0 ((3 * x4) + 1)).bind fun v37 => F12_locals_100  n o31.2 a0 x1 (x2 ||| (1 <<< (v24 &&& 31))) (x3 ||| (1 <<< (v37 &&& 31))) (x4 + 1))) else (F12_locals_100  n o18.2 a0 x1 x2 x3 (x4 + 1))) else (F12_locals_100  n o1.2 a0 x1 x2 x3 (x4 + 1))))
def F12_locals_47  : Nat → PH → Nat → Int32 → Int32 → Option (Int32 × PH)
  | 0, _, _, _, _ => none
  | n + 1, h, a0, x1, x2 => if x2 < 0 then (F12_locals_100  1024 h a0 x1 0 0 0) else ((gR h a0 12 77).bind fun r2 => (aI h r2 2 x2).bind fun v5 => if v5 = 0 then (F12_locals_47  n h a0 x1 (x2 + (-1))) else ((gR h a0 12 76).bind fun r7 => (aI h r7 0 (3 * x2)).bind fun v10 => if 0 ≤ v10 then (F12_locals_47  n h a0 x1 (x2 + (-1))) else ((gR h a0 12 77).bind fun r12 => (gR h a0 12 76).bind fun r14 => (aI h r14 0 ((3 * x2) + 1)).bind fun v17 => (sI h r12 2 v17 (vp_nar .boolean 0)).bind fun h19 => F12_locals_47  n h19 a0 x1 (x2 + (-1)))))
def F12_locals_19  : Nat → PH → Nat → Int32 → Int32 → Option (Int32 × PH)
  | 0, _, _, _, _ => none
  | n + 1, h, a0, x1, x2 => (F12_knownBy h a0).bind fun o1 => if o1.1 ≤ x2 then ((F12_knownBy o1.2 a0).bind fun o4 => F12_locals_47  1024 o4.2 a0 x1 (o4.1 - 1)) else ((gR o1.2 a0 12 77).bind fun r6 => (sI o1.2 r6 2 x2 (vp_nar .boolean 1)).bind fun h9 => F12_locals_19  n h9 a0 x1 (x2 + 1))
def F12_locals_0  (h : PH) (a0 : Nat) (x1 : Int32) : Option (Int32 × PH) := (pI h a0 12 2 0).bind fun h1 => (F12_isIn h1 x1 0 12).bind fun o3 => if o3.1 = 0 then (some ((-1), o3.2)) else (F12_locals_19  1024 o3.2 a0 x1 0)
def F12_locals (h : PH) (a0 : Nat) (x1 : Int32) : Option (Int32 × PH) := cond (okO h a0 12) (F12_locals_0 h a0 x1) none
def F12_look_0  (h : PH) (a0 : Nat) (x1 : Int32) (x2 : Int32) : Option (Int32 × PH) := (pI h a0 12 2 0).bind fun h1 => (F12_isSurfer h1 a0 x1).bind fun o3 => if o3.1 = 0 then ((F12_fails o3.2 a0 1).bind fun o46 => some (o46.1, o46.2)) else (if x2 = 0 then ((gR o3.2 a0 12 55).bind fun r7 => (aI o3.2 r7 0 x1).bind fun v10 => some (v10, o3.2)) else if x2 = 1 then ((gR o3.2 a0 12 56).bind fun r12 => (aI o3.2 r12 0 x1).bind fun v15 => some (v15, o3.2)) else if x2 = 2 then ((gR o3.2 a0 12 57).bind fun r17 => (aI o3.2 r17 0 x1).bind fun v20 => some (v20, o3.2)) else if x2 = 3 then ((gR o3.2 a0 12 58).bind fun r22 => (aI o3.2 r22 0 x1).bind fun v25 => some (v25, o3.2)) else if x2 = 4 then ((gR o3.2 a0 12 59).bind fun r27 => (aI o3.2 r27 0 x1).bind fun v30 => some (v30, o3.2)) else if x2 = 5 then ((gR o3.2 a0 12 55).bind fun r32 => (aI o3.2 r32 0 x1).bind fun v35 => (gR o3.2 a0 12 61).bind fun r36 => (aI o3.2 r36 0 0).bind fun v39 => (F12_peakAt o3.2 a0 v39).bind fun o40 => (F12_far o40.2 a0 v35 o40.1).bind fun o42 => some (o42.1, o42.2)) else ((F12_fails o3.2 a0 2).bind fun o44 => some (o44.1, o44.2)))
def F12_look (h : PH) (a0 : Nat) (x1 : Int32) (x2 : Int32) : Option (Int32 × PH) := cond (okO h a0 12) (F12_look_0 h a0 x1 x2) none
def F12_minutes_94  (h : PH) (a0 : Nat) (s0 : Int32) (u1 : Nat) : Option (Int32 × PH) := (pI h u1 12 78 s0).bind fun h1 => (gR h1 a0 12 61).bind fun r3 => (aI h1 r3 0 0).bind fun v6 => some (v6, h1)
def F12_minutes_49 (k33 : PH → Nat → Int32 → Int32 → Option (Int32 × PH)) : Nat → PH → Nat → Int32 → Int32 → Int32 → Option (Int32 × PH)
  | 0, _, _, _, _, _ => none
  | n + 1, h, a0, x1, x2, x3 => (gI h a0 12 14).bind fun v1 => if v1 ≤ x3 then (k33 h a0 x1 (x2 + 1)) else ((gR h a0 12 59).bind fun r4 => (gR h a0 12 30).bind fun r6 => (aI h r6 0 x3).bind fun v9 => (sI h r4 0 x3 v9).bind fun h11 => F12_minutes_49 k33 n h11 a0 x1 x2 (x3 + 1))
def F12_minutes_33  : Nat → PH → Nat → Int32 → Int32 → Option (Int32 × PH)
  | 0, _, _, _, _ => none
  | n + 1, h, a0, x1, x2 => if x1 ≤ x2 then (if x1 ≤ 0 then ((gI h a0 12 78).bind fun v3 => F12_minutes_94  h a0 v3 a0) else (F12_minutes_94  h a0 0 a0)) else ((gI h a0 12 64).bind fun v5 => (F12_aMinute h a0 0 v5).bind fun o7 => F12_minutes_49 (fun h a0 x1 x2 => F12_minutes_33  n h a0 x1 x2) 1024 o7 a0 x1 x2 0)
def F12_minutes_0  (h : PH) (a0 : Nat) (x1 : Int32) : Option (Int32 × PH) := (pI h a0 12 2 0).bind fun h1 => (F12_isIn h1 x1 0 99).bind fun o3 => if o3.1 = 0 then (some ((-1), o3.2)) else ((gR o3.2 a0 12 61).bind fun r6 => (aI o3.2 r6 0 0).bind fun v9 => if (v9 + x1) ≤ 199 then (F12_minutes_33  1024 o3.2 a0 x1 0) else (some ((-1), o3.2)))
def F12_minutes (h : PH) (a0 : Nat) (x1 : Int32) : Option (Int32 × PH) := cond (okO h a0 12) (F12_minutes_0 h a0 x1) none
def F12_named_0  (h : PH) (a0 : Nat) (x1 : Int32) : Option (Int32 × PH) := (pI h a0 12 2 0).bind fun h1 => (gR h1 a0 12 27).bind fun r3 => (gI h1 a0 12 14).bind fun v5 => (F12_find h1 r3 0 v5 x1).bind fun o7 => some (o7.1, o7.2)
def F12_named (h : PH) (a0 : Nat) (x1 : Int32) : Option (Int32 × PH) := cond (okO h a0 12) (F12_named_0 h a0 x1) none
def F12_next_7  : Nat → PH → Nat → Int32 → Option (Int32 × PH)
  | 0, _, _, _ => none
  | n + 1, h, a0, x1 => (gI h a0 12 15).bind fun v1 => if v1 ≤ x1 then (some ((-2), h)) else ((gR h a0 12 34).bind fun r4 => (gR h a0 12 33).bind fun r6 => (aI h r6 0 x1).bind fun v9 => (aI h r4 0 v9).bind fun v11 => (gR h a0 12 61).bind fun r12 => (aI h r12 0 0).bind fun v15 => if v11 < v15 then (F12_next_7  n h a0 (x1 + 1)) else ((gR h a0 12 34).bind fun r17 => (gR h a0 12 33).bind fun r19 => (aI h r19 0 x1).bind fun v22 => (aI h r17 0 v22).bind fun v24 => (gR h a0 12 61).bind fun r25 => (aI h r25 0 0).bind fun v28 => some ((v24 - v28), h)))
def F12_next_0  (h : PH) (a0 : Nat) : Option (Int32 × PH) := (pI h a0 12 2 0).bind fun h1 => F12_next_7  1024 h1 a0 0
def F12_next (h : PH) (a0 : Nat) : Option (Int32 × PH) := cond (okO h a0 12) (F12_next_0 h a0) none
def F12_noted_0  (h : PH) (a0 : Nat) (x1 : Int32) (x2 : Int32) (x3 : Int32) : Option (Int32 × PH) := (gR h a0 12 76).bind fun r1 => (gI h a0 12 74).bind fun v3 => (sI h r1 0 (3 * v3) x1).bind fun h6 => (gR h6 a0 12 76).bind fun r7 => (gI h6 a0 12 74).bind fun v9 => (sI h6 r7 0 ((3 * v9) + 1) x2).bind fun h12 => (gR h12 a0 12 76).bind fun r13 => (gI h12 a0 12 74).bind fun v15 => (sI h12 r13 0 ((3 * v15) + 2) x3).bind fun h18 => (gI h18 a0 12 74).bind fun v19 => (pI h18 a0 12 74 (v19 + 1)).bind fun h21 => (gI h21 a0 12 74).bind fun v23 => some ((v23 - 1), h21)
/-! The pure functions of the methods (written by wip/gen/gen.py, split.py). -/
def F12_noted (h : PH) (a0 : Nat) (x1 : Int32) (x2 : Int32) (x3 : Int32) : Option (Int32 × PH) := cond (okO h a0 12) (F12_noted_0 h a0 x1 x2 x3) none
def F12_note_0  (h : PH) (a0 : Nat) (x1 : Int32) (x2 : Int32) (x3 : Int32) : Option (Int32 × PH) := (pI h a0 12 2 0).bind fun h1 => (gI h1 a0 12 74).bind fun v3 => if v3 = 24 then (some ((-1), h1)) else ((F12_isIn h1 x1 0 199).bind fun o6 => if o6.1 = 0 then (some ((-1), o6.2)) else ((F12_isSurfer o6.2 a0 x2).bind fun o9 => if o9.1 = 0 then (some ((-1), o9.2)) else ((F12_isCell o9.2 a0 x3).bind fun o12 => if o12.1 = 0 then (some ((-1), o12.2)) else ((F12_noted o12.2 a0 x1 x2 x3).bind fun o15 => some (o15.1, o15.2)))))
def F12_note (h : PH) (a0 : Nat) (x1 : Int32) (x2 : Int32) (x3 : Int32) : Option (Int32 × PH) := cond (okO h a0 12) (F12_note_0 h a0 x1 x2 x3) none
def F12_odds_0  (h : PH) (a0 : Nat) (x1 : Int32) (x2 : Int32) (x3 : Int32) : Option (Int32 × PH) := (pI h a0 12 2 0).bind fun h1 => (F12_isSurfer h1 a0 x1).bind fun o3 => if o3.1 = 0 then (some ((-1), o3.2)) else ((F12_isWave o3.2 a0 x2).bind fun o6 => if o6.1 = 0 then (some ((-1), o6.2)) else ((F12_isCell o6.2 a0 x3).bind fun o9 => if o9.1 = 0 then (some ((-1), o9.2)) else ((F12_oddsOf o9.2 a0 x1 x2 x3).bind fun o12 => some (o12.1, o12.2))))
def F12_odds (h : PH) (a0 : Nat) (x1 : Int32) (x2 : Int32) (x3 : Int32) : Option (Int32 × PH) := cond (okO h a0 12) (F12_odds_0 h a0 x1 x2 x3) none
def F12_order_0  (h : PH) (a0 : Nat) (x1 : Int32) (x2 : Int32) : Option (Int32 × PH) := (pI h a0 12 2 0).bind fun h1 => (F12_isToCome h1 a0 x1).bind fun o3 => if o3.1 = 0 then (some ((-1), o3.2)) else (if 0 ≤ x2 then ((gI o3.2 a0 12 64).bind fun v7 => (F12_layOrder o3.2 a0 0 x1 v7).bind fun o9 => (gI o9 a0 12 69).bind fun v11 => if x2 < v11 then ((gR o9 a0 12 68).bind fun r14 => (aI o9 r14 0 x2).bind fun v17 => some (v17, o9)) else (some ((-2), o9))) else (some ((-1), o3.2)))
def F12_order (h : PH) (a0 : Nat) (x1 : Int32) (x2 : Int32) : Option (Int32 × PH) := cond (okO h a0 12) (F12_order_0 h a0 x1 x2) none
def F12_over_87 (k50 : PH → Nat → Int32 → Int32 → Int32 → Option (Int32 × PH)) (h : PH) (a0 : Nat) (x1 : Int32) (x2 : Int32) (x3 : Int32) (s0 : Int32) : Option (Int32 × PH) := (gR h a0 12 26).bind fun r1 => (aI h r1 0 4).bind fun v4 => (gR h a0 12 55).bind fun r5 => (aI h r5 0 x1).bind fun v8 => (F12_seatFrom h a0 x1 v8 x3).bind fun o9 => if ((100 * v4) * s0) ≤ o9.1 then (k50 o9.2 a0 x1 x2 (x3 + 1)) else (some (x3, o9.2))
def F12_over_50  : Nat → PH → Nat → Int32 → Int32 → Int32 → Option (Int32 × PH)
  | 0, _, _, _, _, _ => none
  | n + 1, h, a0, x1, x2, x3 => if x2 < x3 then (some ((-2), h)) else ((gR h a0 12 26).bind fun r2 => (aI h r2 0 2).bind fun v5 => if 0 ≤ ((x2 - x3) - v5) then ((gR h a0 12 26).bind fun r7 => (aI h r7 0 3).bind fun v10 => if v10 = 0 then none else F12_over_87 (fun h a0 x1 x2 x3 => F12_over_50  n h a0 x1 x2 x3) h a0 x1 x2 x3 ((((x2 - x3) - v5) / v10) + 1)) else (F12_over_87 (fun h a0 x1 x2 x3 => F12_over_50  n h a0 x1 x2 x3) h a0 x1 x2 x3 0))
def F12_over_0  (h : PH) (a0 : Nat) (x1 : Int32) : Option (Int32 × PH) := (pI h a0 12 2 0).bind fun h1 => (F12_isSurfer h1 a0 x1).bind fun o3 => if o3.1 = 0 then (some ((-1), o3.2)) else ((gR o3.2 a0 12 26).bind fun r6 => (aI o3.2 r6 0 2).bind fun v9 => if v9 = 0 then (some ((-1), o3.2)) else ((gI o3.2 a0 12 16).bind fun v11 => if v11 = 0 then (some ((-1), o3.2)) else ((gR o3.2 a0 12 34).bind fun r14 => (gI o3.2 a0 12 16).bind fun v16 => (aI o3.2 r14 0 (v16 - 1)).bind fun v19 => (gR o3.2 a0 12 61).bind fun r20 => (aI o3.2 r20 0 0).bind fun v23 => F12_over_50  1024 o3.2 a0 x1 v19 v23)))
def F12_over (h : PH) (a0 : Nat) (x1 : Int32) : Option (Int32 × PH) := cond (okO h a0 12) (F12_over_0 h a0 x1) none
def F12_peak_0  (h : PH) (a0 : Nat) (x1 : Int32) : Option (Int32 × PH) := (pI h a0 12 2 0).bind fun h1 => (F12_isIn h1 x1 0 199).bind fun o3 => if o3.1 = 0 then (some ((-1), o3.2)) else ((F12_peakAt o3.2 a0 x1).bind fun o6 => some (o6.1, o6.2))
def F12_peak (h : PH) (a0 : Nat) (x1 : Int32) : Option (Int32 × PH) := cond (okO h a0 12) (F12_peak_0 h a0 x1) none
def F12_plan_0  (h : PH) (a0 : Nat) (x1 : Int32) : Option (Int32 × PH) := (pI h a0 12 2 0).bind fun h1 => (F12_isSurfer h1 a0 x1).bind fun o3 => if o3.1 = 0 then (some ((-1), o3.2)) else ((F12_layPlan o3.2 a0 x1).bind fun o6 => (gR o6 a0 12 72).bind fun r8 => (F12_firstToCome o6 a0).bind fun o10 => (aI o10.2 r8 0 o10.1).bind fun v13 => some (v13, o10.2))
def F12_plan (h : PH) (a0 : Nat) (x1 : Int32) : Option (Int32 × PH) := cond (okO h a0 12) (F12_plan_0 h a0 x1) none
def F12_planned_109 (k32 : PH → Nat → Int32 → Int32 → Int32 → Option (Int32 × PH)) (h : PH) (a0 : Nat) (x1 : Int32) (x4 : Int32) (x5 : Int32) (s0 : Int32) (s1 : Int32) : Option (Int32 × PH) := if x5 = 0 then (k32 h a0 x1 (s1 - s0) (x4 + 1)) else ((gR h a0 12 73).bind fun r2 => (aI h r2 0 x4).bind fun v5 => k32 h a0 x1 (s1 - s0) v5)
def F12_planned_98 (k32 : PH → Nat → Int32 → Int32 → Int32 → Option (Int32 × PH)) (h : PH) (a0 : Nat) (x1 : Int32) (x3 : Int32) (x4 : Int32) (x5 : Int32) : Option (Int32 × PH) := if x5 = 0 then (F12_planned_109 k32 h a0 x1 x4 x5 0 x3) else (F12_planned_109 k32 h a0 x1 x4 x5 1 x3)
def F12_planned_84 (k32 : PH → Nat → Int32 → Int32 → Int32 → Option (Int32 × PH)) (h : PH) (a0 : Nat) (x1 : Int32) (x3 : Int32) (x4 : Int32) (s0 : Int32) : Option (Int32 × PH) := if s0 = 0 then (F12_planned_98 k32 h a0 x1 x3 x4 s0) else (if x3 = 0 then (some (x4, h)) else (F12_planned_98 k32 h a0 x1 x3 x4 s0))
def F12_planned_32  : Nat → PH → Nat → Int32 → Int32 → Int32 → Option (Int32 × PH)
  | 0, _, _, _, _, _ => none
  | n + 1, h, a0, x1, x3, x4 => (gI h a0 12 16).bind fun v1 => if v1 ≤ x4 then (some ((-2), h)) else ((gR h a0 12 55).bind fun r4 => (aI h r4 0 x1).bind fun v7 => (F12_gainOf h a0 x1 x4 v7).bind fun o8 => (gR o8.2 a0 12 72).bind fun r10 => (gR o8.2 a0 12 73).bind fun r12 => (aI o8.2 r12 0 x4).bind fun v15 => (aI o8.2 r10 0 v15).bind fun v17 => (gR o8.2 a0 12 72).bind fun r18 => (aI o8.2 r18 0 (x4 + 1)).bind fun v21 => if (o8.1 + v17) < v21 then (F12_planned_84 (fun h a0 x1 x3 x4 => F12_planned_32  n h a0 x1 x3 x4) o8.2 a0 x1 x3 x4 0) else (F12_planned_84 (fun h a0 x1 x3 x4 => F12_planned_32  n h a0 x1 x3 x4) o8.2 a0 x1 x3 x4 1))
def F12_planned_0  (h : PH) (a0 : Nat) (x1 : Int32) (x2 : Int32) : Option (Int32 × PH) := (pI h a0 12 2 0).bind fun h1 => (F12_isSurfer h1 a0 x1).bind fun o3 => if o3.1 = 0 then (some ((-1), o3.2)) else (if 0 ≤ x2 then ((F12_layPlan o3.2 a0 x1).bind fun o7 => (F12_firstToCome o7 a0).bind fun o9 => F12_planned_32  1024 o9.2 a0 x1 x2 o9.1) else (some ((-1), o3.2)))
def F12_planned (h : PH) (a0 : Nat) (x1 : Int32) (x2 : Int32) : Option (Int32 × PH) := cond (okO h a0 12) (F12_planned_0 h a0 x1 x2) none
def F12_setEnd_0  (h : PH) (a0 : Nat) (x1 : Int32) : Option (Int32 × PH) := (gI h a0 12 15).bind fun v1 => if v1 ≤ (x1 + 1) then ((gI h a0 12 16).bind fun v4 => some (v4, h)) else ((gR h a0 12 33).bind fun r6 => (aI h r6 0 (x1 + 1)).bind fun v9 => some (v9, h))
def F12_setEnd (h : PH) (a0 : Nat) (x1 : Int32) : Option (Int32 × PH) := cond (okO h a0 12) (F12_setEnd_0 h a0 x1) none
def F12_rank__79 (k34 : PH → Nat → Int32 → Int32 → Int32 → Int32 → Int32 → Option (Int32 × PH)) : Nat → PH → Nat → Int32 → Int32 → Int32 → Int32 → Int32 → Int32 → Int32 → Option (Int32 × PH)
  | 0, _, _, _, _, _, _, _, _, _ => none
  | n + 1, h, a0, x1, x2, x3, x4, x5, x6, x7 => (F12_setEnd h a0 x5).bind fun o1 => if o1.1 ≤ x7 then ((gR o1.2 a0 12 35).bind fun r4 => (gR o1.2 a0 12 33).bind fun r6 => (aI o1.2 r6 0 x5).bind fun v9 => (aI o1.2 r4 0 ((v9 + x1) - 1)).bind fun v11 => if v11 = x6 then (k34 o1.2 a0 x1 x2 x3 (x4 + 1) (x5 + 1)) else (k34 o1.2 a0 x1 x2 x3 (x4 + 0) (x5 + 1))) else ((gR o1.2 a0 12 35).bind fun r13 => (aI o1.2 r13 0 x7).bind fun v16 => if v16 ≤ x6 then (F12_rank__79 k34 n o1.2 a0 x1 x2 x3 x4 x5 x6 (x7 + 1)) else ((gR o1.2 a0 12 35).bind fun r18 => (aI o1.2 r18 0 x7).bind fun v21 => F12_rank__79 k34 n o1.2 a0 x1 x2 x3 x4 x5 v21 (x7 + 1)))
def F12_rank__34  : Nat → PH → Nat → Int32 → Int32 → Int32 → Int32 → Int32 → Option (Int32 × PH)
  | 0, _, _, _, _, _, _, _ => none
  | n + 1, h, a0, x1, x2, x3, x4, x5 => (gI h a0 12 15).bind fun v1 => if v1 ≤ x5 then (if x2 = 0 then (some (x4, h)) else (some (x3, h))) else ((F12_setEnd h a0 x5).bind fun o5 => (gR o5.2 a0 12 33).bind fun r7 => (aI o5.2 r7 0 x5).bind fun v10 => if x1 ≤ (o5.1 - v10) then ((gR o5.2 a0 12 33).bind fun r12 => (aI o5.2 r12 0 x5).bind fun v15 => F12_rank__79 (fun h a0 x1 x2 x3 x4 x5 => F12_rank__34  n h a0 x1 x2 x3 x4 x5) 1024 o5.2 a0 x1 x2 (x3 + 1) x4 x5 0 v15) else (F12_rank__34  n o5.2 a0 x1 x2 x3 x4 (x5 + 1)))
def F12_rank__0  (h : PH) (a0 : Nat) (x1 : Int32) (x2 : Int32) : Option (Int32 × PH) := (pI h a0 12 2 0).bind fun h1 => (F12_isIn h1 x1 1 7).bind fun o3 => if o3.1 = 0 then (some ((-1), o3.2)) else ((F12_isIn o3.2 x2 0 1).bind fun o6 => if o6.1 = 0 then (some ((-1), o6.2)) else (F12_rank__34  1024 o6.2 a0 x1 x2 0 0 0))
def F12_rank_ (h : PH) (a0 : Nat) (x1 : Int32) (x2 : Int32) : Option (Int32 × PH) := cond (okO h a0 12) (F12_rank__0 h a0 x1 x2) none
def F12_remember_51  : Nat → PH → Nat → Int32 → Option (PH)
  | 0, _, _, _ => none
  | n + 1, h, a0, x1 => if 5 ≤ x1 then ((gR h a0 12 79).bind fun r2 => (gI h a0 12 78).bind fun v4 => (gI h a0 12 64).bind fun v6 => (sI h r2 0 ((11 * v4) + 10) v6).bind fun h9 => (gI h9 a0 12 78).bind fun v10 => (pI h9 a0 12 78 (v10 + 1)).bind fun h12 => some h12) else ((gR h a0 12 79).bind fun r14 => (gI h a0 12 78).bind fun v16 => (gR h a0 12 55).bind fun r18 => (aI h r18 0 x1).bind fun v21 => (sI h r14 0 ((11 * v16) + x1) v21).bind fun h23 => (gR h23 a0 12 79).bind fun r24 => (gI h23 a0 12 78).bind fun v26 => (gR h23 a0 12 59).bind fun r28 => (aI h23 r28 0 x1).bind fun v31 => (sI h23 r24 0 (((11 * v26) + 5) + x1) v31).bind fun h33 => F12_remember_51  n h33 a0 (x1 + 1))
def F12_remember_11  : Nat → PH → Nat → Int32 → Option (PH)
  | 0, _, _, _ => none
  | n + 1, h, a0, x1 => if 209 ≤ x1 then ((gI h a0 12 78).bind fun v2 => (pI h a0 12 78 (v2 - 1)).bind fun h4 => F12_remember_51  1024 h4 a0 0) else ((gR h a0 12 79).bind fun r6 => (gR h a0 12 79).bind fun r8 => (aI h r8 0 (x1 + 11)).bind fun v11 => (sI h r6 0 x1 v11).bind fun h13 => F12_remember_11  n h13 a0 (x1 + 1))
def F12_remember_0  (h : PH) (a0 : Nat) : Option (PH) := (gI h a0 12 78).bind fun v1 => if v1 = 20 then (F12_remember_11  1024 h a0 0) else (F12_remember_51  1024 h a0 0)
def F12_remember (h : PH) (a0 : Nat) : Option (PH) := cond (okO h a0 12) (F12_remember_0 h a0) none
def F12_restAt_12  : Nat → PH → Nat → Int32 → Int32 → Int32 → Option (Int32 × PH)
  | 0, _, _, _, _, _ => none
  | n + 1, h, a0, x3, x4, x5 => if 25 ≤ x5 then (if 0 ≤ x3 then (some ((-2), h)) else (some (x4, h))) else ((F12_isRest h a0 x5).bind fun o3 => if o3.1 = 0 then (F12_restAt_12  n o3.2 a0 x3 x4 (x5 + 1)) else (if x4 = x3 then ((F12_wayAt o3.2 (x5 / 5)).bind fun o7 => (F12_wayAt o7.2 (x5 - x5 / 5 * 5)).bind fun o9 => some (((10 * o7.1) + o9.1), o9.2)) else (F12_restAt_12  n o3.2 a0 x3 (x4 + 1) (x5 + 1))))
def F12_restAt_0  (h : PH) (a0 : Nat) (x1 : Int32) (x2 : Int32) (x3 : Int32) : Option (Int32 × PH) := (F12_layGame h a0 x1 x2).bind fun o1 => F12_restAt_12  1024 o1 a0 x3 0 0
def F12_restAt (h : PH) (a0 : Nat) (x1 : Int32) (x2 : Int32) (x3 : Int32) : Option (Int32 × PH) := cond (okO h a0 12) (F12_restAt_0 h a0 x1 x2 x3) none
def F12_rest_0  (h : PH) (a0 : Nat) (x1 : Int32) (x2 : Int32) (x3 : Int32) : Option (Int32 × PH) := (pI h a0 12 2 0).bind fun h1 => (F12_isSurfer h1 a0 x1).bind fun o3 => if o3.1 = 0 then (some ((-1), o3.2)) else ((F12_isSurfer o3.2 a0 x2).bind fun o6 => if o6.1 = 0 then (some ((-1), o6.2)) else (if x1 = x2 then (some ((-1), o6.2)) else (if x3 < 0 then (some ((-1), o6.2)) else ((F12_restAt o6.2 a0 x1 x2 x3).bind fun o11 => some (o11.1, o11.2)))))
def F12_rest (h : PH) (a0 : Nat) (x1 : Int32) (x2 : Int32) (x3 : Int32) : Option (Int32 × PH) := cond (okO h a0 12) (F12_rest_0 h a0 x1 x2 x3) none
def F12_rests_0  (h : PH) (a0 : Nat) (x1 : Int32) (x2 : Int32) : Option (Int32 × PH) := (pI h a0 12 2 0).bind fun h1 => (F12_isSurfer h1 a0 x1).bind fun o3 => if o3.1 = 0 then (some ((-1), o3.2)) else ((F12_isSurfer o3.2 a0 x2).bind fun o6 => if o6.1 = 0 then (some ((-1), o6.2)) else (if x1 = x2 then (some ((-1), o6.2)) else ((F12_restAt o6.2 a0 x1 x2 (-1)).bind fun o10 => some (o10.1, o10.2))))
def F12_rests (h : PH) (a0 : Nat) (x1 : Int32) (x2 : Int32) : Option (Int32 × PH) := cond (okO h a0 12) (F12_rests_0 h a0 x1 x2) none
def F12_rule_0  (h : PH) (a0 : Nat) (x1 : Int32) : Option (Int32 × PH) := (pI h a0 12 2 0).bind fun h1 => (F12_isIn h1 x1 0 3).bind fun o3 => if o3.1 = 0 then (rz 0 o3.2) else ((gI o3.2 a0 12 64).bind fun v6 => if x1 = v6 then (rz 0 o3.2) else ((F12_remember o3.2 a0).bind fun o9 => (pI o9 a0 12 64 x1).bind fun h11 => rz 1 h11))
def F12_rule (h : PH) (a0 : Nat) (x1 : Int32) : Option (Int32 × PH) := cond (okO h a0 12) (F12_rule_0 h a0 x1) none
def F12_seat_0  (h : PH) (a0 : Nat) (x1 : Int32) (x2 : Int32) : Option (Int32 × PH) := (pI h a0 12 2 0).bind fun h1 => (F12_isSurfer h1 a0 x1).bind fun o3 => if o3.1 = 0 then (some ((-1), o3.2)) else ((F12_isCell o3.2 a0 x2).bind fun o6 => if o6.1 = 0 then (some ((-1), o6.2)) else ((gR o6.2 a0 12 61).bind fun r9 => (aI o6.2 r9 0 0).bind fun v12 => (F12_seatFrom o6.2 a0 x1 x2 v12).bind fun o13 => some (o13.1, o13.2)))
def F12_seat (h : PH) (a0 : Nat) (x1 : Int32) (x2 : Int32) : Option (Int32 × PH) := cond (okO h a0 12) (F12_seat_0 h a0 x1 x2) none
def F12_shares_0  (h : PH) (a0 : Nat) (x1 : Int32) : Option (Int32 × PH) := (pI h a0 12 2 0).bind fun h1 => (gI h1 a0 12 14).bind fun v3 => if v3 = 0 then (some ((-1), h1)) else ((F12_isIn h1 x1 0 1).bind fun o6 => if o6.1 = 0 then (some ((-1), o6.2)) else (if x1 = 0 then ((F12_unlike o6.2 a0 0).bind fun o12 => some (o12.1, o12.2)) else ((F12_allHad o6.2 a0 0).bind fun o10 => some (o10.1, o10.2))))
def F12_shares (h : PH) (a0 : Nat) (x1 : Int32) : Option (Int32 × PH) := cond (okO h a0 12) (F12_shares_0 h a0 x1) none
def F12_strike_0  (h : PH) (a0 : Nat) (x1 : Int32) : Option (Int32 × PH) := (pI h a0 12 2 0).bind fun h1 => (gI h1 a0 12 74).bind fun v3 => if v3 = 24 then (some ((-1), h1)) else (if x1 < 0 then (some ((-1), h1)) else ((gI h1 a0 12 74).bind fun v7 => if x1 < v7 then ((F12_noted h1 a0 (-1) x1 0).bind fun o10 => some (o10.1, o10.2)) else (some ((-1), h1))))
def F12_strike (h : PH) (a0 : Nat) (x1 : Int32) : Option (Int32 × PH) := cond (okO h a0 12) (F12_strike_0 h a0 x1) none
def F12_stroke_0  (h : PH) (a0 : Nat) (x1 : Int32) (x2 : Int32) : Option (Int32 × PH) := (pI h a0 12 2 0).bind fun h1 => (F12_isSurfer h1 a0 x1).bind fun o3 => if o3.1 = 0 then (some ((-1), o3.2)) else ((F12_isIn o3.2 x2 0 3).bind fun o6 => if o6.1 = 0 then (some ((-1), o6.2)) else ((gR o6.2 a0 12 55).bind fun r9 => (aI o6.2 r9 0 x1).bind fun v12 => (F12_beside o6.2 a0 v12 x2).bind fun o13 => if o13.1 < 0 then (some ((-2), o13.2)) else ((gR o13.2 a0 12 58).bind fun r16 => (aI o13.2 r16 0 x1).bind fun v19 => if 0 < v19 then (some ((-2), o13.2)) else ((gR o13.2 a0 12 59).bind fun r21 => (aI o13.2 r21 0 x1).bind fun v24 => if v24 = 0 then (some ((-2), o13.2)) else ((F12_remember o13.2 a0).bind fun o26 => (gR o26 a0 12 55).bind fun r28 => (sI o26 r28 0 x1 o13.1).bind fun h31 => (gR h31 a0 12 59).bind fun r32 => (aI h31 r32 0 x1).bind fun v35 => (sI h31 r32 0 x1 (v35 - 1)).bind fun h37 => some (o13.1, h37))))))
def F12_stroke (h : PH) (a0 : Nat) (x1 : Int32) (x2 : Int32) : Option (Int32 × PH) := cond (okO h a0 12) (F12_stroke_0 h a0 x1 x2) none
def F12_table_43  (h : PH) (a0 : Nat) (x1 : Int32) (x2 : Int32) (x3 : Int32) : Option (Int32 × PH) := (F12_run h a0 x1 x2).bind fun o1 => if 5 ≤ x3 then (if x3 = 5 then ((gR o1 a0 12 62).bind fun r12 => (aI o1 r12 0 1).bind fun v15 => some (v15, o1)) else (if x3 = 6 then ((gR o1 a0 12 63).bind fun r8 => (aI o1 r8 0 1).bind fun v11 => some (v11, o1)) else ((F12_unlike o1 a0 1).bind fun o6 => some (o6.1, o6.2)))) else ((gR o1 a0 12 56).bind fun r16 => (aI o1 r16 0 (5 + x3)).bind fun v19 => some (v19, o1))
def F12_table_0  (h : PH) (a0 : Nat) (x1 : Int32) (x2 : Int32) (x3 : Int32) : Option (Int32 × PH) := (pI h a0 12 2 0).bind fun h1 => (F12_isIn h1 x1 0 3).bind fun o3 => if o3.1 = 0 then (some ((-1), o3.2)) else (if x2 < 0 then (some ((-1), o3.2)) else ((F12_isIn o3.2 x3 0 7).bind fun o7 => if o7.1 = 0 then (some ((-1), o7.2)) else (if 5 ≤ x3 then (F12_table_43  o7.2 a0 x1 x2 x3) else ((gI o7.2 a0 12 14).bind fun v11 => if x3 < v11 then (F12_table_43  o7.2 a0 x1 x2 x3) else (some ((-1), o7.2))))))
def F12_table (h : PH) (a0 : Nat) (x1 : Int32) (x2 : Int32) (x3 : Int32) : Option (Int32 × PH) := cond (okO h a0 12) (F12_table_0 h a0 x1 x2 x3) none
def F12_text_55  : Nat → PH → Nat → Int32 → Option (Int32 × PH)
  | 0, _, _, _ => none
  | n + 1, h, a0, x2 => (gI h a0 12 8).bind fun v1 => if v1 = 0 then ((F12_keepText h a0).bind fun o4 => some (x2, o4)) else ((F12_lineRead h a0).bind fun o6 => if o6.1 = 0 then (some ((-1), o6.2)) else (F12_text_55  n o6.2 a0 (x2 + 1)))
def F12_text_0  (h : PH) (a0 : Nat) (x1 : Int32) : Option (Int32 × PH) := (pI h a0 12 2 0).bind fun h1 => if x1 < 0 then (some ((-2), h1)) else ((gI h1 a0 12 1).bind fun v4 => if x1 ≤ v4 then ((pI h1 a0 12 6 x1).bind fun h7 => (pI h7 a0 12 1 0).bind fun h9 => (pI h9 a0 12 4 0).bind fun h11 => (pI h11 a0 12 5 (-1)).bind fun h13 => (pI h13 a0 12 7 0).bind fun h15 => (F12_plain h15 a0).bind fun o17 => (F12_token o17 a0).bind fun o19 => F12_text_55  1024 o19 a0 0) else (some ((-2), h1)))
def F12_text (h : PH) (a0 : Nat) (x1 : Int32) : Option (Int32 × PH) := cond (okO h a0 12) (F12_text_0 h a0 x1) none
def F12_tried_111  (h : PH) (a0 : Nat) (j4 : Int64) : Option (Int32 × PH) := (gI h a0 12 64).bind fun v1 => (F12_goesOn h a0 v1).bind fun o3 => (pI o3 a0 12 66 (-1)).bind fun h5 => (pJ h5 a0 12 65 j4).bind fun h7 => (F12_allHad h7 a0 1).bind fun o9 => some (o9.1, o9.2)
def F12_tried_76  : Nat → PH → Nat → Int32 → Int32 → Int64 → Int32 → Option (Int32 × PH)
  | 0, _, _, _, _, _, _ => none
  | n + 1, h, a0, x1, x2, j4, x6 => (gI h a0 12 14).bind fun v1 => if v1 ≤ x6 then (F12_tried_111  h a0 j4) else (if x1 = 4 then ((gR h a0 12 55).bind fun r5 => (gR h a0 12 55).bind fun r7 => (aI h r7 0 x2).bind fun v10 => (sI h r5 0 (5 + x6) v10).bind fun h12 => F12_tried_76  n h12 a0 x1 x2 j4 (x6 + 1)) else (F12_tried_111  h a0 j4))
def F12_tried_47  (h : PH) (a0 : Nat) (x1 : Int32) (x2 : Int32) (x3 : Int32) : Option (Int32 × PH) := (gJ h a0 12 65).bind fun w1 => (pJ h a0 12 65 (Int32.toInt64 x3)).bind fun h3 => (F12_layTried h3 a0).bind fun o5 => (pI o5 a0 12 66 x1).bind fun h7 => (pI h7 a0 12 67 x2).bind fun h9 => F12_tried_76  1024 h9 a0 x1 x2 w1 0
def F12_tried_30  (h : PH) (a0 : Nat) (x1 : Int32) (x2 : Int32) (x3 : Int32) : Option (Int32 × PH) := (F12_isSurfer h a0 x2).bind fun o1 => if o1.1 = 0 then (some ((-1), o1.2)) else (F12_tried_47  o1.2 a0 x1 x2 x3)
def F12_tried_0  (h : PH) (a0 : Nat) (x1 : Int32) (x2 : Int32) (x3 : Int32) : Option (Int32 × PH) := (pI h a0 12 2 0).bind fun h1 => (F12_isIn h1 x1 0 4).bind fun o3 => if o3.1 = 0 then (some ((-1), o3.2)) else (if 0 ≤ x3 then (if x1 = 1 then (F12_tried_30  o3.2 a0 x1 x2 x3) else (if x1 = 4 then (F12_tried_30  o3.2 a0 x1 x2 x3) else (if x2 = 0 then (F12_tried_47  o3.2 a0 x1 x2 x3) else (some ((-1), o3.2))))) else (some ((-1), o3.2)))
def F12_tried (h : PH) (a0 : Nat) (x1 : Int32) (x2 : Int32) (x3 : Int32) : Option (Int32 × PH) := cond (okO h a0 12) (F12_tried_0 h a0 x1 x2 x3) none
def F12_undo_26  : Nat → PH → Nat → Int32 → Option (Int32 × PH)
  | 0, _, _, _ => none
  | n + 1, h, a0, x1 => if 5 ≤ x1 then ((gR h a0 12 79).bind fun r2 => (gI h a0 12 78).bind fun v4 => (aI h r2 0 ((11 * v4) + 10)).bind fun v7 => (pI h a0 12 64 v7).bind fun h8 => (gI h8 a0 12 78).bind fun v10 => some (v10, h8)) else ((gR h a0 12 55).bind fun r12 => (gR h a0 12 79).bind fun r14 => (gI h a0 12 78).bind fun v16 => (aI h r14 0 ((11 * v16) + x1)).bind fun v19 => (sI h r12 0 x1 v19).bind fun h21 => (gR h21 a0 12 59).bind fun r22 => (gR h21 a0 12 79).bind fun r24 => (gI h21 a0 12 78).bind fun v26 => (aI h21 r24 0 (((11 * v26) + 5) + x1)).bind fun v29 => (sI h21 r22 0 x1 v29).bind fun h31 => F12_undo_26  n h31 a0 (x1 + 1))
def F12_undo_0  (h : PH) (a0 : Nat) : Option (Int32 × PH) := (pI h a0 12 2 0).bind fun h1 => (gI h1 a0 12 78).bind fun v3 => if v3 = 0 then (some ((-1), h1)) else ((gI h1 a0 12 78).bind fun v6 => (pI h1 a0 12 78 (v6 - 1)).bind fun h8 => F12_undo_26  1024 h8 a0 0)
def F12_undo (h : PH) (a0 : Nat) : Option (Int32 × PH) := cond (okO h a0 12) (F12_undo_0 h a0) none
def F12_wave_0  (h : PH) (a0 : Nat) (x1 : Int32) (x2 : Int32) : Option (Int32 × PH) := (pI h a0 12 2 0).bind fun h1 => (F12_isWave h1 a0 x1).bind fun o3 => if o3.1 = 0 then (some ((-4), o3.2)) else (if x2 = 0 then ((gR o3.2 a0 12 34).bind fun r7 => (aI o3.2 r7 0 x1).bind fun v10 => some (v10, o3.2)) else if x2 = 1 then ((gR o3.2 a0 12 35).bind fun r12 => (aI o3.2 r12 0 x1).bind fun v15 => some (v15, o3.2)) else if x2 = 2 then ((gR o3.2 a0 12 36).bind fun r17 => (aI o3.2 r17 0 x1).bind fun v20 => some (v20, o3.2)) else if x2 = 3 then ((gR o3.2 a0 12 33).bind fun r22 => (gR o3.2 a0 12 36).bind fun r24 => (aI o3.2 r24 0 x1).bind fun v27 => (aI o3.2 r22 0 v27).bind fun v29 => some (((x1 - v29) + 1), o3.2)) else if x2 = 4 then ((gR o3.2 a0 12 60).bind fun r31 => (aI o3.2 r31 0 x1).bind fun v34 => some (v34, o3.2)) else (some ((-4), o3.2)))
def F12_wave (h : PH) (a0 : Nat) (x1 : Int32) (x2 : Int32) : Option (Int32 × PH) := cond (okO h a0 12) (F12_wave_0 h a0 x1 x2) none
def F1_init_0  (h : PH) (a0 : Nat) : Option (PH) := (nC h (zI 0 5)).bind fun h1 => (pR h1 a0 1 1 h.length).bind fun h3 => (nC h3 (zI 0 5)).bind fun h5 => (pR h5 a0 1 2 h3.length).bind fun h7 => (nC h7 (zI 0 5)).bind fun h9 => (pR h9 a0 1 3 h7.length).bind fun h11 => (nC h11 (zI 0 5)).bind fun h13 => (pR h13 a0 1 4 h11.length).bind fun h15 => (nC h15 (zI 0 5)).bind fun h17 => (pR h17 a0 1 5 h15.length).bind fun h19 => (nC h19 (zI 0 5)).bind fun h21 => (pR h21 a0 1 6 h19.length).bind fun h23 => some h23
def F1_init (h : PH) (a0 : Nat) : Option (PH) := cond (okO h a0 1) (F1_init_0 h a0) none
def F2_init_0  (h : PH) (a0 : Nat) : Option (PH) := (nC h (zI 0 64)).bind fun h1 => (pR h1 a0 2 0 h.length).bind fun h3 => some h3
def F2_init (h : PH) (a0 : Nat) : Option (PH) := cond (okO h a0 2) (F2_init_0 h a0) none
def F3_init_0  (h : PH) (a0 : Nat) : Option (PH) := (pI h a0 3 1 (-1)).bind fun h1 => (nC h1 (zI 0 24)).bind fun h3 => (pR h3 a0 3 2 h1.length).bind fun h5 => (nC h5 (zI 0 24)).bind fun h7 => (pR h7 a0 3 3 h5.length).bind fun h9 => (nC h9 (zI 0 24)).bind fun h11 => (pR h11 a0 3 4 h9.length).bind fun h13 => (nC h13 (zI 0 24)).bind fun h15 => (pR h15 a0 3 5 h13.length).bind fun h17 => (nC h17 (zI 2 24)).bind fun h19 => (pR h19 a0 3 6 h17.length).bind fun h21 => some h21
def F3_init (h : PH) (a0 : Nat) : Option (PH) := cond (okO h a0 3) (F3_init_0 h a0) none
def F4_init_0  (h : PH) (a0 : Nat) : Option (PH) := (nC h (zI 0 5)).bind fun h1 => (pR h1 a0 4 5 h.length).bind fun h3 => (nC h3 (zI 0 5)).bind fun h5 => (pR h5 a0 4 6 h3.length).bind fun h7 => (nC h7 (zI 0 5)).bind fun h9 => (pR h9 a0 4 7 h7.length).bind fun h11 => (nC h11 (zI 0 5)).bind fun h13 => (pR h13 a0 4 8 h11.length).bind fun h15 => (nC h15 (zI 0 5)).bind fun h17 => (pR h17 a0 4 9 h15.length).bind fun h19 => (nC h19 (zI 0 28)).bind fun h21 => (pR h21 a0 4 10 h19.length).bind fun h23 => some h23
def F4_init (h : PH) (a0 : Nat) : Option (PH) := cond (okO h a0 4) (F4_init_0 h a0) none
def F7_init_70 (k21 : PH → Nat → Int32 → Option (PH)) (k29 : PH → Nat → Int32 → Int32 → Option (PH)) (h : PH) (a0 : Nat) (x1 : Int32) (x2 : Int32) (s0 : Int32) (s1 : Int32) (s2 : Int32) (u3 : Nat) : Option (PH) := (sI h u3 0 s2 (s1 ||| s0)).bind fun h2 => k29 h2 a0 x1 (x2 + 1)
def F7_init_29 (k21 : PH → Nat → Int32 → Option (PH)) : Nat → PH → Nat → Int32 → Int32 → Option (PH)
  | 0, _, _, _, _ => none
  | n + 1, h, a0, x1, x2 => if 6 ≤ x2 then (k21 h a0 (x1 + 1)) else ((chA ((x1 * 6) + x2)).bind fun v2 => (gR h a0 7 0).bind fun r4 => (aI h r4 0 x1).bind fun v7 => (F7_isLetter h v2).bind fun o8 => if o8.1 = 0 then (F7_init_70 k21 (fun h a0 x1 x2 => F7_init_29 k21 n h a0 x1 x2) o8.2 a0 x1 x2 0 v7 x1 r4) else ((F7_letterBits o8.2 v2 x2).bind fun o11 => F7_init_70 k21 (fun h a0 x1 x2 => F7_init_29 k21 n h a0 x1 x2) o11.2 a0 x1 x2 o11.1 v7 x1 r4))
def F7_init_21  : Nat → PH → Nat → Int32 → Option (PH)
  | 0, _, _, _ => none
  | n + 1, h, a0, x1 => if 24 ≤ x1 then (some h) else (F7_init_29 (fun h a0 x1 => F7_init_21  n h a0 x1) 1024 h a0 x1 0)
def F7_init_0  (h : PH) (a0 : Nat) : Option (PH) := (nC h (zI 0 24)).bind fun h1 => (pR h1 a0 7 0 h.length).bind fun h3 => (nC h3 (zI 1 0)).bind fun h5 => (pR h5 a0 7 1 h3.length).bind fun h7 => F7_init_21  1024 h7 a0 0
def F7_init (h : PH) (a0 : Nat) : Option (PH) := cond (okO h a0 7) (F7_init_0 h a0) none
def F9_init_0  (h : PH) (a0 : Nat) : Option (PH) := (nC h (zI 0 20)).bind fun h1 => (pR h1 a0 9 1 h.length).bind fun h3 => (nC h3 (zI 0 20)).bind fun h5 => (pR h5 a0 9 2 h3.length).bind fun h7 => some h7
def F9_init (h : PH) (a0 : Nat) : Option (PH) := cond (okO h a0 9) (F9_init_0 h a0) none
def F10_init_0  (h : PH) (a0 : Nat) : Option (PH) := (nC h (zI 0 4)).bind fun h1 => (pR h1 a0 10 2 h.length).bind fun h3 => (nC h3 (zI 0 4)).bind fun h5 => (pR h5 a0 10 3 h3.length).bind fun h7 => (nC h7 (zI 0 28)).bind fun h9 => (pR h9 a0 10 4 h7.length).bind fun h11 => (nC h11 (zI 0 28)).bind fun h13 => (pR h13 a0 10 5 h11.length).bind fun h15 => (nC h15 (zI 0 28)).bind fun h17 => (pR h17 a0 10 6 h15.length).bind fun h19 => (nC h19 (zI 0 28)).bind fun h21 => (pR h21 a0 10 7 h19.length).bind fun h23 => some h23
def F10_init (h : PH) (a0 : Nat) : Option (PH) := cond (okO h a0 10) (F10_init_0 h a0) none
def F8_init_0  (h : PH) (a0 : Nat) : Option (PH) := (nC h (.inr (1, zF1))).bind fun h1 => (F1_init h1 h.length).bind fun o3 => (pR o3 a0 8 4 h.length).bind fun h5 => (nC h5 (.inr (10, zF10))).bind fun h7 => (F10_init h7 h5.length).bind fun o9 => (pR o9 a0 8 5 h5.length).bind fun h11 => (nC h11 (zR 3)).bind fun h13 => (pR h13 a0 8 11 h11.length).bind fun h15 => (gR h15 a0 8 11).bind fun r18 => (nC h15 (.inr (2, zF2))).bind fun h20 => (F2_init h20 h15.length).bind fun o22 => (sR o22 r18 0 h15.length).bind fun h25 => (gR h25 a0 8 11).bind fun r27 => (nC h25 (.inr (2, zF2))).bind fun h29 => (F2_init h29 h25.length).bind fun o31 => (sR o31 r27 1 h25.length).bind fun h34 => (gR h34 a0 8 11).bind fun r36 => (nC h34 (.inr (2, zF2))).bind fun h38 => (F2_init h38 h34.length).bind fun o40 => (sR o40 r36 2 h34.length).bind fun h43 => (pI h43 a0 8 0 6).bind fun h45 => (pI h45 a0 8 1 4).bind fun h47 => some h47
def F8_init (h : PH) (a0 : Nat) : Option (PH) := cond (okO h a0 8) (F8_init_0 h a0) none
def F5_init_0  (h : PH) (a0 : Nat) (a1 : Nat) : Option (PH) := (pR h a0 5 10 a1).bind fun h1 => (nC h1 (.inr (7, zF7))).bind fun h3 => (F7_init h3 h1.length).bind fun o5 => (pR o5 a0 5 0 h1.length).bind fun h7 => (nC h7 (zI 0 72)).bind fun h9 => (pR h9 a0 5 1 h7.length).bind fun h11 => (pI h11 a0 5 9 (-1)).bind fun h13 => some h13
def F5_init (h : PH) (a0 : Nat) (a1 : Nat) : Option (PH) := cond (okO h a0 5) (F5_init_0 h a0 a1) none
def F6_init_0  (h : PH) (a0 : Nat) (a1 : Nat) : Option (PH) := (pR h a0 6 0 a1).bind fun h1 => (nC h1 (zI 0 5)).bind fun h3 => (pR h3 a0 6 1 h1.length).bind fun h5 => (nC h5 (zI 0 5)).bind fun h7 => (pR h7 a0 6 2 h5.length).bind fun h9 => (nC h9 (zI 0 28)).bind fun h11 => (pR h11 a0 6 3 h9.length).bind fun h13 => (nC h13 (zJ 6)).bind fun h15 => (pR h15 a0 6 4 h13.length).bind fun h17 => (nC h17 (zJ 64)).bind fun h19 => (pR h19 a0 6 5 h17.length).bind fun h21 => (nC h21 (zI 0 5)).bind fun h23 => (pR h23 a0 6 6 h21.length).bind fun h25 => (nC h25 (zI 0 5)).bind fun h27 => (pR h27 a0 6 7 h25.length).bind fun h29 => (nC h29 (zI 0 5)).bind fun h31 => (pR h31 a0 6 8 h29.length).bind fun h33 => some h33
def F6_init (h : PH) (a0 : Nat) (a1 : Nat) : Option (PH) := cond (okO h a0 6) (F6_init_0 h a0 a1) none
def F0_init_0  (h : PH) (a0 : Nat) : Option (PH) := (nC h (zI 0 10)).bind fun h1 => (pR h1 a0 0 0 h.length).bind fun h3 => (nC h3 (zI 0 280)).bind fun h5 => (pR h5 a0 0 1 h3.length).bind fun h7 => (nC h7 (zI 0 280)).bind fun h9 => (pR h9 a0 0 2 h7.length).bind fun h11 => (nC h11 (zI 0 25)).bind fun h13 => (pR h13 a0 0 3 h11.length).bind fun h15 => (nC h15 (zI 0 25)).bind fun h17 => (pR h17 a0 0 4 h15.length).bind fun h19 => (nC h19 (zI 0 25)).bind fun h21 => (pR h21 a0 0 5 h19.length).bind fun h23 => (nC h23 (zI 0 29)).bind fun h25 => (pR h25 a0 0 7 h23.length).bind fun h27 => (nC h27 (zI 0 28)).bind fun h29 => (pR h29 a0 0 8 h27.length).bind fun h31 => (nC h31 (zI 2 28)).bind fun h33 => (pR h33 a0 0 9 h31.length).bind fun h35 => (nC h35 (zI 0 28)).bind fun h37 => (pR h37 a0 0 10 h35.length).bind fun h39 => some h39
def F0_init (h : PH) (a0 : Nat) : Option (PH) := cond (okO h a0 0) (F0_init_0 h a0) none
def F11_init_0  (h : PH) (a0 : Nat) : Option (PH) := (nC h (zI 1 700)).bind fun h1 => (pR h1 a0 11 0 h.length).bind fun h3 => (nC h3 (.inr (8, zF8))).bind fun h5 => (F8_init h5 h3.length).bind fun o7 => (pR o7 a0 11 3 h3.length).bind fun h9 => (nC h9 (.inr (8, zF8))).bind fun h11 => (F8_init h11 h9.length).bind fun o13 => (pR o13 a0 11 4 h9.length).bind fun h15 => (nC h15 (.inr (5, zF5))).bind fun h17 => (gR h17 a0 11 4).bind fun r19 => (F5_init h17 h15.length r19).bind fun o21 => (pR o21 a0 11 2 h15.length).bind fun h23 => (nC h23 (.inr (6, zF6))).bind fun h25 => (gR h25 a0 11 3).bind fun r27 => (F6_init h25 h23.length r27).bind fun o29 => (pR o29 a0 11 5 h23.length).bind fun h31 => (nC h31 (.inr (6, zF6))).bind fun h33 => (gR h33 a0 11 3).bind fun r35 => (F6_init h33 h31.length r35).bind fun o37 => (pR o37 a0 11 6 h31.length).bind fun h39 => (nC h39 (.inr (4, zF4))).bind fun h41 => (F4_init h41 h39.length).bind fun o43 => (pR o43 a0 11 7 h39.length).bind fun h45 => (nC h45 (.inr (4, zF4))).bind fun h47 => (F4_init h47 h45.length).bind fun o49 => (pR o49 a0 11 8 h45.length).bind fun h51 => (nC h51 (.inr (4, zF4))).bind fun h53 => (F4_init h53 h51.length).bind fun o55 => (pR o55 a0 11 9 h51.length).bind fun h57 => (nC h57 (.inr (3, zF3))).bind fun h59 => (F3_init h59 h57.length).bind fun o61 => (pR o61 a0 11 11 h57.length).bind fun h63 => (nC h63 (.inr (9, zF9))).bind fun h65 => (F9_init h65 h63.length).bind fun o67 => (pR o67 a0 11 12 h63.length).bind fun h69 => (nC h69 (.inr (0, zF0))).bind fun h71 => (F0_init h71 h69.length).bind fun o73 => (pR o73 a0 11 13 h69.length).bind fun h75 => some h75
def F11_init (h : PH) (a0 : Nat) : Option (PH) := cond (okO h a0 11) (F11_init_0 h a0) none
def F12_init_0  (h : PH) (a0 : Nat) : Option (PH) := (nC h (zI 0 700)).bind fun h1 => (pR h1 a0 12 0 h.length).bind fun h3 => (nC h3 (zI 0 120)).bind fun h5 => (sI h5 h3.length 0 0 115).bind fun h8 => (sI h8 h3.length 0 1 101).bind fun h10 => (sI h10 h3.length 0 2 97).bind fun h12 => (sI h12 h3.length 0 3 32).bind fun h14 => (sI h14 h3.length 0 4 112).bind fun h16 => (sI h16 h3.length 0 5 101).bind fun h18 => (sI h18 h3.length 0 6 97).bind fun h20 => (sI h20 h3.length 0 7 107).bind fun h22 => (sI h22 h3.length 0 8 32).bind fun h24 => (sI h24 h3.length 0 9 115).bind fun h26 => (sI h26 h3.length 0 10 117).bind fun h28 => (sI h28 h3.length 0 11 114).bind fun h30 => (sI h30 h3.length 0 12 102).bind fun h32 => (sI h32 h3.length 0 13 101).bind fun h34 => (sI h34 h3.length 0 14 114).bind fun h36 => (sI h36 h3.length 0 15 32).bind fun h38 => (sI h38 h3.length 0 16 115).bind fun h40 => (sI h40 h3.length 0 17 101).bind fun h42 => (sI h42 h3.length 0 18 116).bind fun h44 => (sI h44 h3.length 0 19 32).bind fun h46 => (sI h46 h3.length 0 20 98).bind fun h48 => (sI h48 h3.length 0 21 97).bind fun h50 => (sI h50 h3.length 0 22 110).bind fun h52 => (sI h52 h3.length 0 23 107).bind fun h54 => (sI h54 h3.length 0 24 32).bind fun h56 => (sI h56 h3.length 0 25 114).bind fun h58 => (sI h58 h3.length 0 26 117).bind fun h60 => (sI h60 h3.length 0 27 108).bind fun h62 => (sI h62 h3.length 0 28 101).bind fun h64 => (sI h64 h3.length 0 29 32).bind fun h66 => (sI h66 h3.length 0 30 115).bind fun h68 => (sI h68 h3.length 0 31 101).bind fun h70 => (sI h70 h3.length 0 32 101).bind fun h72 => (sI h72 h3.length 0 33 100).bind fun h74 => (sI h74 h3.length 0 34 32).bind fun h76 => (sI h76 h3.length 0 35 108).bind fun h78 => (sI h78 h3.length 0 36 97).bind fun h80 => (sI h80 h3.length 0 37 119).bind fun h82 => (sI h82 h3.length 0 38 32).bind fun h84 => (sI h84 h3.length 0 39 100).bind fun h86 => (sI h86 h3.length 0 40 101).bind fun h88 => (sI h88 h3.length 0 41 101).bind fun h90 => (sI h90 h3.length 0 42 112).bind fun h92 => (sI h92 h3.length 0 43 32).bind fun h94 => (sI h94 h3.length 0 44 116).bind fun h96 => (sI h96 h3.length 0 45 117).bind fun h98 => (sI h98 h3.length 0 46 114).bind fun h100 => (sI h100 h3.length 0 47 110).bind fun h102 => (sI h102 h3.length 0 48 115).bind fun h104 => (sI h104 h3.length 0 49 32).bind fun h106 => (sI h106 h3.length 0 50 101).bind fun h108 => (sI h108 h3.length 0 51 97).bind fun h110 => (sI h110 h3.length 0 52 99).bind fun h112 => (sI h112 h3.length 0 53 104).bind fun h114 => (sI h114 h3.length 0 54 32).bind fun h116 => (sI h116 h3.length 0 55 111).bind fun h118 => (sI h118 h3.length 0 56 117).bind fun h120 => (sI h120 h3.length 0 57 116).bind fun h122 => (sI h122 h3.length 0 58 32).bind fun h124 => (sI h124 h3.length 0 59 99).bind fun h126 => (sI h126 h3.length 0 60 97).bind fun h128 => (sI h128 h3.length 0 61 116).bind fun h130 => (sI h130 h3.length 0 62 99).bind fun h132 => (sI h132 h3.length 0 63 104).bind fun h134 => (sI h134 h3.length 0 64 32).bind fun h136 => (sI h136 h3.length 0 65 100).bind fun h138 => (sI h138 h3.length 0 66 114).bind fun h140 => (sI h140 h3.length 0 67 105).bind fun h142 => (sI h142 h3.length 0 68 102).bind fun h144 => (sI h144 h3.length 0 69 116).bind fun h146 => (sI h146 h3.length 0 70 32).bind fun h148 => (sI h148 h3.length 0 71 97).bind fun h150 => (sI h150 h3.length 0 72 119).bind fun h152 => (sI h152 h3.length 0 73 97).bind fun h154 => (sI h154 h3.length 0 74 121).bind fun h156 => (sI h156 h3.length 0 75 32).bind fun h158 => (sI h158 h3.length 0 76 97).bind fun h160 => (sI h160 h3.length 0 77 110).bind fun h162 => (sI h162 h3.length 0 78 100).bind fun h164 => (sI h164 h3.length 0 79 32).bind fun h166 => (sI h166 h3.length 0 80 111).bind fun h168 => (sI h168 h3.length 0 81 114).bind fun h170 => (sI h170 h3.length 0 82 32).bind fun h172 => (sI h172 h3.length 0 83 110).bind fun h174 => (sI h174 h3.length 0 84 111).bind fun h176 => (sI h176 h3.length 0 85 116).bind fun h178 => (sI h178 h3.length 0 86 32).bind fun h180 => (sI h180 h3.length 0 87 102).bind fun h182 => (sI h182 h3.length 0 88 97).bind fun h184 => (sI h184 h3.length 0 89 114).bind fun h186 => (sI h186 h3.length 0 90 32).bind fun h188 => (sI h188 h3.length 0 91 115).bind fun h190 => (sI h190 h3.length 0 92 105).bind fun h192 => (sI h192 h3.length 0 93 100).bind fun h194 => (sI h194 h3.length 0 94 101).bind fun h196 => (sI h196 h3.length 0 95 32).bind fun h198 => (sI h198 h3.length 0 96 98).bind fun h200 => (sI h200 h3.length 0 97 111).bind fun h202 => (sI h202 h3.length 0 98 97).bind fun h204 => (sI h204 h3.length 0 99 114).bind fun h206 => (sI h206 h3.length 0 100 100).bind fun h208 => (sI h208 h3.length 0 101 32).bind fun h210 => (sI h210 h3.length 0 102 115).bind fun h212 => (sI h212 h3.length 0 103 105).bind fun h214 => (sI h214 h3.length 0 104 122).bind fun h216 => (sI h216 h3.length 0 105 101).bind fun h218 => (sI h218 h3.length 0 106 32).bind fun h220 => (sI h220 h3.length 0 107 109).bind fun h222 => (sI h222 h3.length 0 108 105).bind fun h224 => (sI h224 h3.length 0 109 110).bind fun h226 => (sI h226 h3.length 0 110 117).bind fun h228 => (sI h228 h3.length 0 111 116).bind fun h230 => (sI h230 h3.length 0 112 101).bind fun h232 => (sI h232 h3.length 0 113 32).bind fun h234 => (sI h234 h3.length 0 114 119).bind fun h236 => (sI h236 h3.length 0 115 104).bind fun h238 => (sI h238 h3.length 0 116 105).bind fun h240 => (sI h240 h3.length 0 117 99).bind fun h242 => (sI h242 h3.length 0 118 104).bind fun h244 => (sI h244 h3.length 0 119 32).bind fun h246 => (pR h246 a0 12 3 h3.length).bind fun h247 => (pI h247 a0 12 5 (-1)).bind fun h249 => (nC h249 (zI 2 5)).bind fun h251 => (pR h251 a0 12 25 h249.length).bind fun h253 => (nC h253 (zI 0 14)).bind fun h255 => (pR h255 a0 12 26 h253.length).bind fun h257 => (nC h257 (zI 0 10)).bind fun h259 => (pR h259 a0 12 27 h257.length).bind fun h261 => (nC h261 (zI 0 10)).bind fun h263 => (pR h263 a0 12 28 h261.length).bind fun h265 => (nC h265 (zI 0 10)).bind fun h267 => (pR h267 a0 12 29 h265.length).bind fun h269 => (nC h269 (zI 0 10)).bind fun h271 => (pR h271 a0 12 30 h269.length).bind fun h273 => (nC h273 (zI 0 10)).bind fun h275 => (pR h275 a0 12 31 h273.length).bind fun h277 => (nC h277 (zI 0 10)).bind fun h279 => (pR h279 a0 12 32 h277.length).bind fun h281 => (nC h281 (zI 0 8)).bind fun h283 => (pR h283 a0 12 33 h281.length).bind fun h285 => (nC h285 (zI 0 56)).bind fun h287 => (pR h287 a0 12 34 h285.length).bind fun h289 => (nC h289 (zI 0 56)).bind fun h291 => (pR h291 a0 12 35 h289.length).bind fun h293 => (nC h293 (zI 0 56)).bind fun h295 => (pR h295 a0 12 36 h293.length).bind fun h297 => (nC h297 (zI 2 6)).bind fun h299 => (pR h299 a0 12 37 h297.length).bind fun h301 => (nC h301 (zI 0 6)).bind fun h303 => (pR h303 a0 12 38 h301.length).bind fun h305 => (nC h305 (zI 0 6)).bind fun h307 => (pR h307 a0 12 39 h305.length).bind fun h309 => (nC h309 (zI 0 128)).bind fun h311 => (pR h311 a0 12 40 h309.length).bind fun h313 => (nC h313 (zI 0 128)).bind fun h315 => (pR h315 a0 12 41 h313.length).bind fun h317 => (nC h317 (zI 0 128)).bind fun h319 => (pR h319 a0 12 42 h317.length).bind fun h321 => (nC h321 (zI 0 96)).bind fun h323 => (pR h323 a0 12 44 h321.length).bind fun h325 => (nC h325 (zI 0 96)).bind fun h327 => (pR h327 a0 12 45 h325.length).bind fun h329 => (nC h329 (zJ 6)).bind fun h331 => (pR h331 a0 12 52 h329.length).bind fun h333 => (nC h333 (zJ 64)).bind fun h335 => (pR h335 a0 12 53 h333.length).bind fun h337 => (nC h337 (zI 0 10)).bind fun h339 => (pR h339 a0 12 55 h337.length).bind fun h341 => (nC h341 (zI 0 10)).bind fun h343 => (pR h343 a0 12 56 h341.length).bind fun h345 => (nC h345 (zI 0 10)).bind fun h347 => (pR h347 a0 12 57 h345.length).bind fun h349 => (nC h349 (zI 0 10)).bind fun h351 => (pR h351 a0 12 58 h349.length).bind fun h353 => (nC h353 (zI 0 5)).bind fun h355 => (pR h355 a0 12 59 h353.length).bind fun h357 => (nC h357 (zI 0 56)).bind fun h359 => (pR h359 a0 12 60 h357.length).bind fun h361 => (nC h361 (zI 0 2)).bind fun h363 => (pR h363 a0 12 61 h361.length).bind fun h365 => (nC h365 (zI 0 2)).bind fun h367 => (pR h367 a0 12 62 h365.length).bind fun h369 => (nC h369 (zI 0 2)).bind fun h371 => (pR h371 a0 12 63 h369.length).bind fun h373 => (pI h373 a0 12 66 (-1)).bind fun h375 => (nC h375 (zI 0 5)).bind fun h377 => (pR h377 a0 12 68 h375.length).bind fun h379 => (nC h379 (zI 0 25)).bind fun h381 => (pR h381 a0 12 70 h379.length).bind fun h383 => (nC h383 (zI 0 25)).bind fun h385 => (pR h385 a0 12 71 h383.length).bind fun h387 => (nC h387 (zI 0 29)).bind fun h389 => (pR h389 a0 12 72 h387.length).bind fun h391 => (nC h391 (zI 0 28)).bind fun h393 => (pR h393 a0 12 73 h391.length).bind fun h395 => (pI h395 a0 12 75 (-1)).bind fun h397 => (nC h397 (zI 0 72)).bind fun h399 => (pR h399 a0 12 76 h397.length).bind fun h401 => (nC h401 (zI 2 24)).bind fun h403 => (pR h403 a0 12 77 h401.length).bind fun h405 => (nC h405 (zI 0 220)).bind fun h407 => (pR h407 a0 12 79 h405.length).bind fun h409 => (nC h409 (zI 0 53)).bind fun h411 => (pR h411 a0 12 81 h409.length).bind fun h413 => (F12_plain h413 a0).bind fun o415 => (F12_keepText o415 a0).bind fun o417 => some o417
def F12_init (h : PH) (a0 : Nat) : Option (PH) := cond (okO h a0 12) (F12_init_0 h a0) none
/-! The shape of a pure heap, what keeps it; how a pure function is shown to come to an end. -/
def kV (v : PV) : Nat := match v with
  | .inl _ => 0
  | .inr (.inl _) => 1
  | .inr (.inr none) => 2
  | .inr (.inr (some r)) => r + 3
def kO (r : Option Nat) : Nat := match r with
  | none => 2
  | some r => r + 3
def sk (c : PC) : Nat × Nat × List Nat := match c with
  | .inr (ci, fs) => (0, ci, fs.map kV)
  | .inl (t, n, .inl _) => (5 * t + 1, n, [])
  | .inl (t, n, .inr (.inl _)) => (5 * t + 2, n, [])
  | .inl (t, n, .inr (.inr (.inl _))) => (5 * t + 3, n, [])
  | .inl (t, n, .inr (.inr (.inr (.inl _)))) => (5 * t + 4, n, [])
  | .inl (t, n, .inr (.inr (.inr (.inr f)))) => (5 * t + 5, n, (List.range n).map (fun k => kO (f k)))
def Sk (h : PH) : List (Nat × Nat × List Nat) := h.map sk
theorem Sk_at (h : PH) (a : Nat) : (Sk h)[a]? = (h[a]?).map sk := by simp [Sk]
def cR (S : List (Nat × Nat × List Nat)) (a ci k : Nat) : Option Nat := match S[a]? with
  | some (0, c, l) => if c = ci then (match l[k]? with
    | some (r + 3) => some r
    | _ => none) else none
  | _ => none
def cO (S : List (Nat × Nat × List Nat)) (a ci : Nat) : Bool := match S[a]? with
  | some (0, c, _) => c == ci
  | _ => false
/-- field k of a is of kind z: 0 int, 1 long, 2 null, more a reference -/
def cF (S : List (Nat × Nat × List Nat)) (a ci k : Nat) : Option Nat := match S[a]? with
  | some (0, c, l) => if c = ci then l[k]? else none
  | _ => none
/-- how long the row a of kind z is -/
def cA (S : List (Nat × Nat × List Nat)) (a z : Nat) : Option Nat := match S[a]? with
  | some (t, n, _) => if t = z then some n else none
  | _ => none
theorem cF_spec {h : PH} {a ci k z : Nat} (e : cF (Sk h) a ci k = some z) : ∃ fs v, h[a]? = some (.inr (ci, fs)) ∧ fs[k]? = some v ∧ kV v = z := by
  unfold cF at e
  rw [Sk_at] at e
  cases hc : h[a]? with
  | none => rw [hc] at e; cases e
  | some c =>
    rw [hc] at e
    rcases c with ⟨t, n, f | f | f | f | f⟩ | ⟨c, fs⟩
    · simp [sk] at e
    · simp [sk] at e
    · simp [sk] at e
    · simp [sk] at e
    · simp [sk] at e
    · simp only [sk, Option.map_some] at e
      split at e
      · rename_i hci
        subst hci
        rw [List.getElem?_map] at e
        cases hv : fs[k]? with
        | none => rw [hv] at e; cases e
        | some v => rw [hv] at e; exact ⟨fs, v, rfl, hv, Option.some.inj e⟩
      · cases e
theorem gR_Sk (h : PH) (a ci k : Nat) : gR h a ci k = cR (Sk h) a ci k := by
  unfold gR gV cR
  rw [Sk_at]
  cases hc : h[a]? with
  | none => rfl
  | some c =>
    rcases c with ⟨t, n, f | f | f | f | f⟩ | ⟨c, fs⟩
    · simp [sk]
    · simp [sk]
    · simp [sk]
    · simp [sk]
    · simp [sk]
    · simp only [sk, Option.map_some]
      by_cases hci : c = ci
      · subst hci
        simp only [if_true]
        rw [List.getElem?_map]
        cases hv : fs[k]? with
        | none => rfl
        | some v => rcases v with i | j | _ | r <;> rfl
      · simp [hci]
theorem okO_Sk (h : PH) (a ci : Nat) : okO h a ci = cO (Sk h) a ci := by
  unfold okO cO
  rw [Sk_at]
  cases hc : h[a]? with
  | none => rfl
  | some c =>
    rcases c with ⟨t, n, f | f | f | f | f⟩ | ⟨c, fs⟩ <;> simp [sk]
theorem cA_spec {h : PH} {a t n : Nat} (e : cA (Sk h) a (5 * t + 1) = some n) : ∃ f, h[a]? = some (.inl (t, n, .inl f)) := by
  unfold cA at e
  rw [Sk_at] at e
  cases hc : h[a]? with
  | none => rw [hc] at e; cases e
  | some c =>
    rw [hc] at e
    rcases c with ⟨t', n', f | f | f | f | f⟩ | ⟨c, fs⟩ <;> simp only [sk, Option.map_some] at e <;> split at e <;> first | (cases e; done) | (exfalso; omega) | skip
    · rename_i h1
      have : t' = t := by omega
      subst this
      exact ⟨f, by rw [Option.some.inj e]⟩
theorem cA_specL {h : PH} {a t n : Nat} (e : cA (Sk h) a (5 * t + 2) = some n) : ∃ f, h[a]? = some (.inl (t, n, .inr (.inl f))) := by
  unfold cA at e
  rw [Sk_at] at e
  cases hc : h[a]? with
  | none => rw [hc] at e; cases e
  | some c =>
    rw [hc] at e
    rcases c with ⟨t', n', f | f | f | f | f⟩ | ⟨c, fs⟩ <;> simp only [sk, Option.map_some] at e <;> split at e <;> first | (cases e; done) | (exfalso; omega) | skip
    · rename_i h1
      have : t' = t := by omega
      subst this
      exact ⟨f, by rw [Option.some.inj e]⟩
/-- a row of references, as the shape has it -/
def cW (S : List (Nat × Nat × List Nat)) (a : Nat) : Option (Nat × List Nat) := match S[a]? with
  | some (t, n, l) => if t = 25 then some (n, l) else none
  | _ => none
theorem cW_spec {h : PH} {a n : Nat} {l : List Nat} (e : cW (Sk h) a = some (n, l)) : ∃ f, h[a]? = some (.inl (4, n, .inr (.inr (.inr (.inr f))))) ∧ l = (List.range n).map (fun k => kO (f k)) := by
  unfold cW at e
  rw [Sk_at] at e
  cases hc : h[a]? with
  | none => rw [hc] at e; cases e
  | some c =>
    rw [hc] at e
    rcases c with ⟨t', n', f | f | f | f | f⟩ | ⟨c, fs⟩ <;> simp only [sk, Option.map_some] at e <;> split at e <;> first | (cases e; done) | (exfalso; omega) | skip
    · rename_i h1
      have : t' = 4 := by omega
      subst this
      have e1 := congrArg Prod.fst (Option.some.inj e)
      have e2 := congrArg Prod.snd (Option.some.inj e)
      simp only at e1 e2
      subst e1
      exact ⟨f, rfl, e2.symm⟩
theorem st_s {h : PH} {a : Nat} {c c0 : PC} (e : h[a]? = some c0) : (h.set a c)[a]? = some c := List.getElem?_set_self (List.getElem?_eq_some_iff.mp e).1
theorem st_n {h : PH} {a x : Nat} {c : PC} (hx : a ≠ x) : (h.set a c)[x]? = h[x]? := List.getElem?_set_ne hx
theorem Sk_set {h : PH} {a : Nat} {c c' : PC} (e : h[a]? = some c) (hs : sk c' = sk c) : Sk (h.set a c') = Sk h := by
  apply List.ext_getElem?
  intro j
  rw [Sk_at, Sk_at]
  by_cases hj : a = j
  · subst hj
    rw [st_s e, e]
    simp [hs]
  · rw [st_n hj]
/-- the shape is kept, the fields that P names, the rows that R names -/
def Kp (P : Nat → Nat → Prop) (R : Nat → Prop) (h h' : PH) : Prop := Sk h' = Sk h ∧ (∀ a c k, P a k → gV h' a c k = gV h a c k) ∧ (∀ a t i, R a → aI h' a t i = aI h a t i)
theorem Kp.rf {P : Nat → Nat → Prop} {R : Nat → Prop} {h : PH} : Kp P R h h := ⟨rfl, fun _ _ _ _ => rfl, fun _ _ _ _ => rfl⟩
theorem Kp.tr {P : Nat → Nat → Prop} {R : Nat → Prop} {h h1 h2 : PH} (a : Kp P R h h1) (b : Kp P R h1 h2) : Kp P R h h2 := ⟨b.1.trans a.1, fun x c k p => (b.2.1 x c k p).trans (a.2.1 x c k p), fun x t i r => (b.2.2 x t i r).trans (a.2.2 x t i r)⟩
theorem Kp.mono {P P' : Nat → Nat → Prop} {R R' : Nat → Prop} {h h1 : PH} (a : Kp P R h h1) (hp : ∀ x k, P' x k → P x k) (hr : ∀ x, R' x → R x) : Kp P' R' h h1 := ⟨a.1, fun x c k p => a.2.1 x c k (hp x k p), fun x t i r => a.2.2 x t i (hr x r)⟩
-- a pure function comes to an end
theorem cx {β : Type} {c : Bool} {x : Option β} {P : β → Prop} (e : c = true) (h : ∃ y, x = some y ∧ P y) : ∃ y, (cond c x none) = some y ∧ P y := by
  subst e; exact h
theorem rz0 (h : PH) : rz 0 h = some (0, h) := if_pos (Or.inl rfl)
theorem rz1 (h : PH) : rz 1 h = some (1, h) := if_pos (Or.inr rfl)
theorem of_isSome {α : Type} {x : Option α} (d : α) (e : x.isSome = true) : x = some (x.getD d) := by
  cases x with
  | none => cases e
  | some v => rfl
/-! The heaps of a new object, of the class and of the reference. -/
def hx0 : PH := [.inr (11, zF11)]
def hm0 : PH := [.inr (12, zF12)]
def hxF : PH := (F11_init hx0 0).getD []
def hmF : PH := (F12_init hm0 0).getD []
def SX : List (Nat × Nat × List Nat) := [(0, 11, [4, 0, 49, 5, 27, 54, 63, 72, 79, 86, 0, 93, 99, 102]), (6, 700, []), (0, 8, [0, 0, 0, 0, 6, 13, 0, 0, 0, 0, 0, 20, 0, 0]), (0, 1, [0, 7, 8, 9, 10, 11, 12]), (1, 5, []), (1, 5, []), (1, 5, []), (1, 5, []), (1, 5, []), (1, 5, []), (0, 10, [0, 0, 14, 15, 16, 17, 18, 19]), (1, 4, []), (1, 4, []), (1, 28, []), (1, 28, []), (1, 28, []), (1, 28, []), (25, 3, [21, 23, 25]), (0, 2, [22, 0, 0]), (1, 64, []), (0, 2, [24, 0, 0]), (1, 64, []), (0, 2, [26, 0, 0]), (1, 64, []), (0, 8, [0, 0, 0, 0, 28, 35, 0, 0, 0, 0, 0, 42, 0, 0]), (0, 1, [0, 29, 30, 31, 32, 33, 34]), (1, 5, []), (1, 5, []), (1, 5, []), (1, 5, []), (1, 5, []), (1, 5, []), (0, 10, [0, 0, 36, 37, 38, 39, 40, 41]), (1, 4, []), (1, 4, []), (1, 28, []), (1, 28, []), (1, 28, []), (1, 28, []), (25, 3, [43, 45, 47]), (0, 2, [44, 0, 0]), (1, 64, []), (0, 2, [46, 0, 0]), (1, 64, []), (0, 2, [48, 0, 0]), (1, 64, []), (0, 5, [50, 53, 0, 0, 0, 0, 0, 0, 0, 0, 27]), (0, 7, [51, 52, 0, 0, 0, 0, 0]), (1, 24, []), (6, 0, []), (1, 72, []), (0, 6, [5, 55, 56, 57, 58, 59, 60, 61, 62]), (1, 5, []), (1, 5, []), (1, 28, []), (17, 6, []), (17, 64, []), (1, 5, []), (1, 5, []), (1, 5, []), (0, 6, [5, 64, 65, 66, 67, 68, 69, 70, 71]), (1, 5, []), (1, 5, []), (1, 28, []), (17, 6, []), (17, 64, []), (1, 5, []), (1, 5, []), (1, 5, []), (0, 4, [0, 0, 0, 0, 0, 73, 74, 75, 76, 77, 78]), (1, 5, []), (1, 5, []), (1, 5, []), (1, 5, []), (1, 5, []), (1, 28, []), (0, 4, [0, 0, 0, 0, 0, 80, 81, 82, 83, 84, 85]), (1, 5, []), (1, 5, []), (1, 5, []), (1, 5, []), (1, 5, []), (1, 28, []), (0, 4, [0, 0, 0, 0, 0, 87, 88, 89, 90, 91, 92]), (1, 5, []), (1, 5, []), (1, 5, []), (1, 5, []), (1, 5, []), (1, 28, []), (0, 3, [0, 0, 94, 95, 96, 97, 98]), (1, 24, []), (1, 24, []), (1, 24, []), (1, 24, []), (11, 24, []), (0, 9, [0, 100, 101]), (1, 20, []), (1, 20, []), (0, 0, [103, 104, 105, 106, 107, 108, 0, 109, 110, 111, 112, 0, 0]), (1, 10, []), (1, 280, []), (1, 280, []), (1, 25, []), (1, 25, []), (1, 25, []), (1, 29, []), (1, 28, []), (11, 28, []), (1, 28, [])]
def SM : List (Nat × Nat × List Nat) := [(0, 12, [4, 0, 0, 5, 0, 0, 0, 0, 0, 0, 0, 0, 0, 0, 0, 0, 0, 0, 0, 0, 0, 0, 0, 0, 0, 6, 7, 8, 9, 10, 11, 12, 13, 14, 15, 16, 17, 18, 19, 20, 21, 22, 23, 0, 24, 25, 0, 0, 0, 0, 0, 0, 26, 27, 0, 28, 29, 30, 31, 32, 33, 34, 35, 36, 0, 1, 0, 0, 37, 0, 38, 39, 40, 41, 0, 0, 42, 43, 0, 44, 0, 45, 0, 0, 0, 0, 1]), (1, 700, []), (1, 120, []), (11, 5, []), (1, 14, []), (1, 10, []), (1, 10, []), (1, 10, []), (1, 10, []), (1, 10, []), (1, 10, []), (1, 8, []), (1, 56, []), (1, 56, []), (1, 56, []), (11, 6, []), (1, 6, []), (1, 6, []), (1, 128, []), (1, 128, []), (1, 128, []), (1, 96, []), (1, 96, []), (17, 6, []), (17, 64, []), (1, 10, []), (1, 10, []), (1, 10, []), (1, 10, []), (1, 5, []), (1, 56, []), (1, 2, []), (1, 2, []), (1, 2, []), (1, 5, []), (1, 25, []), (1, 25, []), (1, 29, []), (1, 28, []), (1, 72, []), (11, 24, []), (1, 220, []), (1, 53, [])]
theorem hmF_sk : Sk hmF = SM := by decide +kernel
theorem hxF_eq : F11_init hx0 0 = some hxF := of_isSome [] (by decide +kernel)
theorem hmF_eq : F12_init hm0 0 = some hmF := of_isSome [] (by decide +kernel)
/-! Numbers as integers, the heap as a memory of integers. -/
def Z3 (x : Int) : Int32 := Int32.ofInt x
def Z6 (x : Int) : Int64 := Int64.ofInt x
def r3 (x : Int) : Prop := -2147483648 ≤ x ∧ x ≤ 2147483647
def r6 (x : Int) : Prop := -9223372036854775808 ≤ x ∧ x ≤ 9223372036854775807
theorem z3_to {x : Int} (h : r3 x) : (Z3 x).toInt = x := Int32.toInt_ofInt_of_le h.1 (by have := h.2; omega)
theorem z6_to {x : Int} (h : r6 x) : (Z6 x).toInt = x := Int64.toInt_ofInt_of_le h.1 (by have := h.2; omega)
theorem z3_of (v : Int32) : v = Z3 v.toInt := (Int32.ofInt_toInt v).symm
theorem z6_of (v : Int64) : v = Z6 v.toInt := (Int64.ofInt_toInt v).symm
theorem r3_of (v : Int32) : r3 v.toInt := ⟨by have := v.le_toInt; omega, by have := v.toInt_lt; omega⟩
theorem r6_of (v : Int64) : r6 v.toInt := ⟨by have := v.le_toInt; omega, by have := v.toInt_lt; omega⟩
theorem r3_6 {x : Int} (h : r3 x) : r6 x := ⟨by have := h.1; omega, by have := h.2; omega⟩
section ZZ
variable {a b : Int32} {A B : Int}
theorem z3_add (ea : a = Z3 A) (eb : b = Z3 B) : a + b = Z3 (A + B) := by subst ea eb; exact (Int32.ofInt_add A B).symm
theorem z3_sub (ea : a = Z3 A) (eb : b = Z3 B) : a - b = Z3 (A - B) := by subst ea eb; exact (Int32.ofInt_sub A B).symm
theorem z3_mul (ea : a = Z3 A) (eb : b = Z3 B) : a * b = Z3 (A * B) := by subst ea eb; exact (Int32.ofInt_mul A B).symm
theorem z3_neg (ea : a = Z3 A) : -a = Z3 (-A) := by subst ea; exact (Int32.ofInt_neg A).symm
theorem z3_le (ea : a = Z3 A) (eb : b = Z3 B) (ha : r3 A) (hb : r3 B) : a ≤ b ↔ A ≤ B := by subst ea eb; rw [Int32.le_iff_toInt_le, z3_to ha, z3_to hb]
theorem z3_lt (ea : a = Z3 A) (eb : b = Z3 B) (ha : r3 A) (hb : r3 B) : a < b ↔ A < B := by subst ea eb; rw [Int32.lt_iff_toInt_lt, z3_to ha, z3_to hb]
theorem z3_eq (ea : a = Z3 A) (eb : b = Z3 B) (ha : r3 A) (hb : r3 B) : a = b ↔ A = B := by subst ea eb; rw [← Int32.toInt_inj, z3_to ha, z3_to hb]
theorem z3_div (ea : a = Z3 A) (eb : b = Z3 B) (ha : r3 A) (hb : r3 B) (h : 0 ≤ A ∧ 0 < B) : a / b = Z3 (A / B) := by
  subst ea eb
  rw [← Int.tdiv_eq_ediv_of_nonneg h.1]
  apply Int32.toInt.inj
  rw [Int32.toInt_div, z3_to ha, z3_to hb]
  exact (Int32.toInt_ofInt).symm
theorem z3_rem (ea : a = Z3 A) (eb : b = Z3 B) (ha : r3 A) (hb : r3 B) (h : 0 ≤ A ∧ 0 < B) : a - a / b * b = Z3 (A % B) := by
  rw [z3_sub ea (z3_mul (z3_div ea eb ha hb h) eb)]
  congr 1
  rw [Int.emod_def, Int.mul_comm]
theorem z3_ite {c : Prop} {C : Prop} [Decidable c] [Decidable C] (hc : c ↔ C) (ea : a = Z3 A) (eb : b = Z3 B) : (if c then a else b) = Z3 (if C then A else B) := by
  subst ea eb
  by_cases h : c
  · rw [if_pos h, if_pos (hc.mp h)]
  · rw [if_neg h, if_neg (fun q => h (hc.mpr q))]
theorem r3_ite {C : Prop} [Decidable C] (ha : r3 A) (hb : r3 B) : r3 (if C then A else B) := by
  by_cases h : C
  · rw [if_pos h]; exact ha
  · rw [if_neg h]; exact hb
end ZZ
section ZJ
variable {a b : Int64} {A B : Int}
theorem z6_add (ea : a = Z6 A) (eb : b = Z6 B) : a + b = Z6 (A + B) := by subst ea eb; exact (Int64.ofInt_add A B).symm
theorem z6_sub (ea : a = Z6 A) (eb : b = Z6 B) : a - b = Z6 (A - B) := by subst ea eb; exact (Int64.ofInt_sub A B).symm
theorem z6_mul (ea : a = Z6 A) (eb : b = Z6 B) : a * b = Z6 (A * B) := by subst ea eb; exact (Int64.ofInt_mul A B).symm
theorem z6_neg (ea : a = Z6 A) : -a = Z6 (-A) := by subst ea; exact (Int64.ofInt_neg A).symm
theorem z6_lt (ea : a = Z6 A) (eb : b = Z6 B) (ha : r6 A) (hb : r6 B) : a < b ↔ A < B := by subst ea eb; rw [Int64.lt_iff_toInt_lt, z6_to ha, z6_to hb]
theorem z6_eq (ea : a = Z6 A) (eb : b = Z6 B) (ha : r6 A) (hb : r6 B) : a = b ↔ A = B := by subst ea eb; rw [← Int64.toInt_inj, z6_to ha, z6_to hb]
theorem z6_div (ea : a = Z6 A) (eb : b = Z6 B) (ha : r6 A) (hb : r6 B) : a / b = Z6 (A.tdiv B) := by
  subst ea eb
  apply Int64.toInt.inj
  rw [Int64.toInt_div, z6_to ha, z6_to hb]
  exact (Int64.toInt_ofInt).symm
theorem z6_rem (ea : a = Z6 A) (eb : b = Z6 B) (ha : r6 A) (hb : r6 B) : a - a / b * b = Z6 (A.tmod B) := by
  rw [z6_sub ea (z6_mul (z6_div ea eb ha hb) eb)]
  congr 1
  rw [Int.tmod_def, Int.mul_comm]
theorem z6_ite {c : Prop} {C : Prop} [Decidable c] [Decidable C] (hc : c ↔ C) (ea : a = Z6 A) (eb : b = Z6 B) : (if c then a else b) = Z6 (if C then A else B) := by
  subst ea eb
  by_cases h : c
  · rw [if_pos h, if_pos (hc.mp h)]
  · rw [if_neg h, if_neg (fun q => h (hc.mpr q))]
theorem r6_ite {C : Prop} [Decidable C] (ha : r6 A) (hb : r6 B) : r6 (if C then A else B) := by
  by_cases h : C
  · rw [if_pos h]; exact ha
  · rw [if_neg h]; exact hb
-- a comparison of longs, as the machine's number tells it
theorem cmp_c (x y : Int64) : (y < x ∧ lg_cmp x y = 1) ∨ (x = y ∧ lg_cmp x y = 0) ∨ (x < y ∧ lg_cmp x y = -1) := by
  unfold lg_cmp
  by_cases h1 : x > y
  · left; exact ⟨h1, by rw [if_pos h1]⟩
  · by_cases h2 : x = y
    · right; left; exact ⟨h2, by rw [if_neg h1, if_pos h2]⟩
    · right; right
      refine ⟨?_, by rw [if_neg h1, if_neg h2]⟩
      have h3 := Int64.lt_iff_toInt_lt (x := y) (y := x)
      have h4 := Int64.lt_iff_toInt_lt (x := x) (y := y)
      have h5 := Int64.toInt_inj (x := x) (y := y)
      rw [h4]
      have : ¬ y.toInt < x.toInt := fun q => h1 (h3.mpr q)
      have : ¬ x.toInt = y.toInt := fun q => h2 (h5.mp q)
      omega
theorem cmp_t (x y : Int64) : (y.toInt < x.toInt ∧ (lg_cmp x y).toInt = 1) ∨ (x.toInt = y.toInt ∧ (lg_cmp x y).toInt = 0) ∨ (x.toInt < y.toInt ∧ (lg_cmp x y).toInt = -1) := by
  rcases cmp_c x y with ⟨h, e⟩ | ⟨h, e⟩ | ⟨h, e⟩
  · left; exact ⟨Int64.lt_iff_toInt_lt.mp h, by rw [e]; decide⟩
  · right; left; exact ⟨by rw [h], by rw [e]; decide⟩
  · right; right; exact ⟨Int64.lt_iff_toInt_lt.mp h, by rw [e]; decide⟩
theorem cmp_ge (ea : a = Z6 A) (eb : b = Z6 B) (ha : r6 A) (hb : r6 B) : (0 : Int32) ≤ lg_cmp a b ↔ B ≤ A := by
  have h := cmp_t a b
  rw [Int32.le_iff_toInt_le]
  have h0 : (0 : Int32).toInt = 0 := by decide
  have h1 := z6_to ha; have h2 := z6_to hb
  rw [← ea] at h1; rw [← eb] at h2
  omega
theorem cmp_gt (ea : a = Z6 A) (eb : b = Z6 B) (ha : r6 A) (hb : r6 B) : (0 : Int32) < lg_cmp a b ↔ B < A := by
  have h := cmp_t a b
  rw [Int32.lt_iff_toInt_lt]
  have h0 : (0 : Int32).toInt = 0 := by decide
  have h1 := z6_to ha; have h2 := z6_to hb
  rw [← ea] at h1; rw [← eb] at h2
  omega
theorem cmp_le (ea : a = Z6 A) (eb : b = Z6 B) (ha : r6 A) (hb : r6 B) : lg_cmp a b ≤ (0 : Int32) ↔ A ≤ B := by
  have h := cmp_t a b
  rw [Int32.le_iff_toInt_le]
  have h0 : (0 : Int32).toInt = 0 := by decide
  have h1 := z6_to ha; have h2 := z6_to hb
  rw [← ea] at h1; rw [← eb] at h2
  omega
theorem cmp_lt (ea : a = Z6 A) (eb : b = Z6 B) (ha : r6 A) (hb : r6 B) : lg_cmp a b < (0 : Int32) ↔ A < B := by
  have h := cmp_t a b
  rw [Int32.lt_iff_toInt_lt]
  have h0 : (0 : Int32).toInt = 0 := by decide
  have h1 := z6_to ha; have h2 := z6_to hb
  rw [← ea] at h1; rw [← eb] at h2
  omega
theorem cmp_eq (ea : a = Z6 A) (eb : b = Z6 B) (ha : r6 A) (hb : r6 B) : lg_cmp a b = (0 : Int32) ↔ A = B := by
  have h := cmp_t a b
  rw [← Int32.toInt_inj]
  have h0 : (0 : Int32).toInt = 0 := by decide
  have h1 := z6_to ha; have h2 := z6_to hb
  rw [← ea] at h1; rw [← eb] at h2
  omega
theorem z3_to6 {v : Int32} {V : Int} (e : v = Z3 V) (h : r3 V) : Int32.toInt64 v = Z6 V := by
  subst e
  apply Int64.toInt.inj
  rw [Int32.toInt_toInt64, z3_to h, z6_to (r3_6 h)]
theorem z6_to3 {v : Int64} {V : Int} (e : v = Z6 V) : Int64.toInt32 v = Z3 V := by
  subst e
  exact Int64.toInt32_ofInt
end ZJ
-- bits, as integers again
def b3an (a b : Int) : Int := (Z3 a &&& Z3 b).toInt
def b3or (a b : Int) : Int := (Z3 a ||| Z3 b).toInt
def b3xo (a b : Int) : Int := (Z3 a ^^^ Z3 b).toInt
def b3sl (a b : Int) : Int := (Z3 a <<< Z3 b).toInt
def b3sr (a b : Int) : Int := (Z3 a >>> Z3 b).toInt
def b6an (a b : Int) : Int := (Z6 a &&& Z6 b).toInt
def b3by (a : Int) : Int := (vp_nar .byte (Int32.toInt8 (Z3 a)).toInt32).toInt
theorem z3_an {a b : Int32} {A B : Int} (ea : a = Z3 A) (eb : b = Z3 B) : a &&& b = Z3 (b3an A B) := by subst ea eb; exact z3_of _
theorem z3_or {a b : Int32} {A B : Int} (ea : a = Z3 A) (eb : b = Z3 B) : a ||| b = Z3 (b3or A B) := by subst ea eb; exact z3_of _
theorem z3_xo {a b : Int32} {A B : Int} (ea : a = Z3 A) (eb : b = Z3 B) : a ^^^ b = Z3 (b3xo A B) := by subst ea eb; exact z3_of _
theorem z3_sl {a b : Int32} {A B : Int} (ea : a = Z3 A) (eb : b = Z3 B) : a <<< b = Z3 (b3sl A B) := by subst ea eb; exact z3_of _
theorem z3_sr {a b : Int32} {A B : Int} (ea : a = Z3 A) (eb : b = Z3 B) : a >>> b = Z3 (b3sr A B) := by subst ea eb; exact z3_of _
theorem z6_an {a b : Int64} {A B : Int} (ea : a = Z6 A) (eb : b = Z6 B) : a &&& b = Z6 (b6an A B) := by subst ea eb; exact z6_of _
theorem z3_by {a : Int32} {A : Int} (ea : a = Z3 A) : vp_nar .byte (Int32.toInt8 a).toInt32 = Z3 (b3by A) := by subst ea; exact z3_of _
theorem z3_bo {a : Int32} {A : Int} (ea : a = Z3 A) (h : A = 0 ∨ A = 1) : vp_nar .boolean a = Z3 A := by subst ea; rcases h with rfl | rfl <;> decide
/-- the integer at field or place i of cell a -/
def rdV (v : PV) : Int := match v with
  | .inl i => i.toInt
  | .inr (.inl j) => j.toInt
  | .inr (.inr none) => 0
  | .inr (.inr (some r)) => r
def rd (h : PH) (a : Nat) (i : Int) : Int := if i < 0 then 0 else match h[a]? with
  | some (.inr (_, fs)) => (match fs[i.toNat]? with
    | some v => rdV v
    | none => 0)
  | some (.inl (_, _, .inl f)) => (f i.toNat).toInt
  | some (.inl (_, _, .inr (.inl f))) => (f i.toNat).toInt
  | _ => 0
abbrev Mem : Type := Nat → Int → Int
def up (m : Mem) (a : Nat) (i v : Int) : Mem := fun b j => if b = a ∧ j = i then v else m b j
def cpy (m : Mem) (a0 : Nat) (sp : Int) (a1 : Nat) (dp n : Int) : Mem := fun b j => if b = a1 ∧ dp ≤ j ∧ j < dp + n then m a0 (sp + (j - dp)) else m b j
theorem rd_obj {h : PH} {a ci : Nat} {fs : List PV} (e : h[a]? = some (.inr (ci, fs))) (k : Nat) {v : PV} (hk : fs[k]? = some v) : rd h a k = rdV v := by
  unfold rd
  rw [if_neg (by omega), e]
  simp [hk]
theorem rd_row {h : PH} {a t n : Nat} {f : Nat → Int32} (e : h[a]? = some (.inl (t, n, .inl f))) {i : Int} (hi : 0 ≤ i) : rd h a i = (f i.toNat).toInt := by
  unfold rd
  rw [if_neg (by omega), e]
theorem rd_lrow {h : PH} {a t n : Nat} {f : Nat → Int64} (e : h[a]? = some (.inl (t, n, .inr (.inl f)))) {i : Int} (hi : 0 ≤ i) : rd h a i = (f i.toNat).toInt := by
  unfold rd
  rw [if_neg (by omega), e]
theorem rd_set_ne {h : PH} {a b : Nat} {c : PC} (hb : a ≠ b) (i : Int) : rd (h.set a c) b i = rd h b i := by
  unfold rd
  rw [st_n hb]
theorem rd_setF {h : PH} {a ci k : Nat} {fs : List PV} {v : PV} (e : h[a]? = some (.inr (ci, fs))) (hk : k < fs.length) : rd (h.set a (.inr (ci, fs.set k v))) = up (rd h) a k (rdV v) := by
  funext b j
  unfold up
  by_cases hb : b = a
  · subst hb
    by_cases hj : j = k
    · subst hj
      rw [if_pos ⟨rfl, rfl⟩]
      exact rd_obj (st_s e) k (List.getElem?_set_self hk)
    · rw [if_neg (fun q => hj q.2)]
      unfold rd
      by_cases hn : j < 0
      · rw [if_pos hn, if_pos hn]
      · rw [if_neg hn, if_neg hn, st_s e, e]
        have : k ≠ j.toNat := fun q => hj (by omega)
        simp only [List.getElem?_set_ne this]
  · rw [if_neg (fun q => hb q.1)]
    exact rd_set_ne (Ne.symm hb) j
theorem rd_setR {h : PH} {a t n : Nat} {f : Nat → Int32} (e : h[a]? = some (.inl (t, n, .inl f))) {i : Int} (hi : 0 ≤ i) (x : Int32) : rd (h.set a (.inl (t, n, .inl (upd f i.toNat x)))) = up (rd h) a i x.toInt := by
  funext b j
  unfold up
  by_cases hb : b = a
  · subst hb
    by_cases hj : j = i
    · subst hj
      rw [if_pos ⟨rfl, rfl⟩, rd_row (st_s e) hi]
      simp [upd]
    · rw [if_neg (fun q => hj q.2)]
      by_cases hn : j < 0
      · unfold rd
        rw [if_pos hn, if_pos hn]
      · rw [rd_row (st_s e) (by omega), rd_row e (by omega)]
        have : ¬ j.toNat = i.toNat := fun q => hj (by omega)
        simp [upd, this]
  · rw [if_neg (fun q => hb q.1)]
    exact rd_set_ne (Ne.symm hb) j
theorem rd_setL {h : PH} {a t n : Nat} {f : Nat → Int64} (e : h[a]? = some (.inl (t, n, .inr (.inl f)))) {i : Int} (hi : 0 ≤ i) (x : Int64) : rd (h.set a (.inl (t, n, .inr (.inl (vp_updL f i.toNat x))))) = up (rd h) a i x.toInt := by
  funext b j
  unfold up
  by_cases hb : b = a
  · subst hb
    by_cases hj : j = i
    · subst hj
      rw [if_pos ⟨rfl, rfl⟩, rd_lrow (st_s e) hi]
      simp [vp_updL]
    · rw [if_neg (fun q => hj q.2)]
      by_cases hn : j < 0
      · unfold rd
        rw [if_pos hn, if_pos hn]
      · rw [rd_lrow (st_s e) (by omega), rd_lrow e (by omega)]
        have : ¬ j.toNat = i.toNat := fun q => hj (by omega)
        simp [vp_updL, this]
  · rw [if_neg (fun q => hb q.1)]
    exact rd_set_ne (Ne.symm hb) j
/-! A pure function over a heap does what a function over a memory of integers says, where that one says something. -/
def gd3 {α : Type} (e : Int) (x : Option α) : Option α := if -2147483648 ≤ e ∧ e ≤ 2147483647 then x else none
def gd6 {α : Type} (e : Int) (x : Option α) : Option α := if -9223372036854775808 ≤ e ∧ e ≤ 9223372036854775807 then x else none
def gdx {α : Type} (i n : Int) (x : Option α) : Option α := if 0 ≤ i ∧ i < n then x else none
def gdd {α : Type} (a b : Int) (x : Option α) : Option α := if 0 ≤ a ∧ 0 < b then x else none
def gdb {α : Type} (a : Int) (x : Option α) : Option α := if a = 0 ∨ a = 1 then x else none
def gde {α : Type} (a b : Int) (x : Option α) : Option α := if a = b then x else none
def wt {α : Type} (m : Mem) (k : Mem → Option α) : Option α := k m
theorem gd3_t {α : Type} {e : Int} {x : Option α} (h : -2147483648 ≤ e ∧ e ≤ 2147483647) : gd3 e x = x := if_pos h
theorem gd6_t {α : Type} {e : Int} {x : Option α} (h : -9223372036854775808 ≤ e ∧ e ≤ 9223372036854775807) : gd6 e x = x := if_pos h
theorem gdx_t {α : Type} {i n : Int} {x : Option α} (h : 0 ≤ i ∧ i < n) : gdx i n x = x := if_pos h
theorem gdd_t {α : Type} {a b : Int} {x : Option α} (h : 0 ≤ a ∧ 0 < b) : gdd a b x = x := if_pos h
theorem gdb_t {α : Type} {a : Int} {x : Option α} (h : a = 0 ∨ a = 1) : gdb a x = x := if_pos h
theorem gde_t {α : Type} {a b : Int} {x : Option α} (h : a = b) : gde a b x = x := if_pos h
section SIM
variable {OK : PH → Prop}
def SimI (OK : PH → Prop) (x : Option (Int32 × PH)) (y : Option (Int × Mem)) : Prop := ∀ o, y = some o → ∃ h', x = some (Z3 o.1, h') ∧ OK h' ∧ rd h' = o.2 ∧ r3 o.1
def SimJ (OK : PH → Prop) (x : Option (Int64 × PH)) (y : Option (Int × Mem)) : Prop := ∀ o, y = some o → ∃ h', x = some (Z6 o.1, h') ∧ OK h' ∧ rd h' = o.2 ∧ r6 o.1
def SimV (OK : PH → Prop) (x : Option PH) (y : Option Mem) : Prop := ∀ o, y = some o → ∃ h', x = some h' ∧ OK h' ∧ rd h' = o
/-- ends in a reference or in none: -1 tells none -/
def SimR (OK : PH → Prop) (Q : Nat → Prop) (x : Option (Option Nat × PH)) (y : Option (Int × Mem)) : Prop := ∀ o, y = some o → ∃ h', OK h' ∧ rd h' = o.2 ∧ ((o.1 = -1 ∧ x = some (none, h')) ∨ ∃ r : Nat, o.1 = r ∧ Q r ∧ x = some (some r, h'))
-- a relation of the two that looks at y only where it says something
theorem smI_none (x : Option (Int32 × PH)) : SimI OK x none := fun _ e => nomatch e
theorem smJ_none (x : Option (Int64 × PH)) : SimJ OK x none := fun _ e => nomatch e
theorem smV_none (x : Option PH) : SimV OK x none := fun _ e => nomatch e
theorem smR_none {Q : Nat → Prop} (x : Option (Option Nat × PH)) : SimR OK Q x none := fun _ e => nomatch e
-- what is read
theorem sm_rd {α β γ : Type} {R : Option α → Option β → Prop} {x : Option γ} {v : γ} (e : x = some v) {f : γ → Option α} {y : Option β} (h : R (f v) y) : R (x.bind f) y := by subst e; exact h
theorem sm_cd {α β : Type} {R : Option α → Option β → Prop} {c : Bool} (e : c = true) {x : Option α} {y : Option β} (h : R x y) : R (cond c x none) y := by subst e; exact h
theorem sm_if {α β : Type} {R : Option α → Option β → Prop} {c C : Prop} [Decidable c] [Decidable C] (hc : c ↔ C) {a a' : Option α} {b b' : Option β} (h1 : R a b) (h2 : R a' b') : R (if c then a else a') (if C then b else b') := by
  by_cases h : c
  · rw [if_pos h, if_pos (hc.mp h)]; exact h1
  · rw [if_neg h, if_neg (fun q => h (hc.mpr q))]; exact h2
-- guards
theorem sg3I {e : Int} {x : Option (Int32 × PH)} {y : Option (Int × Mem)} (h : r3 e → SimI OK x y) : SimI OK x (gd3 e y) := by
  unfold gd3; by_cases c : -2147483648 ≤ e ∧ e ≤ 2147483647
  · rw [if_pos c]; exact h c
  · rw [if_neg c]; exact smI_none x
theorem sg3J {e : Int} {x : Option (Int64 × PH)} {y : Option (Int × Mem)} (h : r3 e → SimJ OK x y) : SimJ OK x (gd3 e y) := by
  unfold gd3; by_cases c : -2147483648 ≤ e ∧ e ≤ 2147483647
  · rw [if_pos c]; exact h c
  · rw [if_neg c]; exact smJ_none x
theorem sg3V {e : Int} {x : Option PH} {y : Option Mem} (h : r3 e → SimV OK x y) : SimV OK x (gd3 e y) := by
  unfold gd3; by_cases c : -2147483648 ≤ e ∧ e ≤ 2147483647
  · rw [if_pos c]; exact h c
  · rw [if_neg c]; exact smV_none x
theorem sg3R {Q : Nat → Prop} {e : Int} {x : Option (Option Nat × PH)} {y : Option (Int × Mem)} (h : r3 e → SimR OK Q x y) : SimR OK Q x (gd3 e y) := by
  unfold gd3; by_cases c : -2147483648 ≤ e ∧ e ≤ 2147483647
  · rw [if_pos c]; exact h c
  · rw [if_neg c]; exact smR_none x
theorem sg6I {e : Int} {x : Option (Int32 × PH)} {y : Option (Int × Mem)} (h : r6 e → SimI OK x y) : SimI OK x (gd6 e y) := by
  unfold gd6; by_cases c : -9223372036854775808 ≤ e ∧ e ≤ 9223372036854775807
  · rw [if_pos c]; exact h c
  · rw [if_neg c]; exact smI_none x
theorem sg6J {e : Int} {x : Option (Int64 × PH)} {y : Option (Int × Mem)} (h : r6 e → SimJ OK x y) : SimJ OK x (gd6 e y) := by
  unfold gd6; by_cases c : -9223372036854775808 ≤ e ∧ e ≤ 9223372036854775807
  · rw [if_pos c]; exact h c
  · rw [if_neg c]; exact smJ_none x
theorem sgxI {i n : Int} {x : Option (Int32 × PH)} {y : Option (Int × Mem)} (h : 0 ≤ i ∧ i < n → SimI OK x y) : SimI OK x (gdx i n y) := by
  unfold gdx; by_cases c : 0 ≤ i ∧ i < n
  · rw [if_pos c]; exact h c
  · rw [if_neg c]; exact smI_none x
theorem sgxJ {i n : Int} {x : Option (Int64 × PH)} {y : Option (Int × Mem)} (h : 0 ≤ i ∧ i < n → SimJ OK x y) : SimJ OK x (gdx i n y) := by
  unfold gdx; by_cases c : 0 ≤ i ∧ i < n
  · rw [if_pos c]; exact h c
  · rw [if_neg c]; exact smJ_none x
theorem sgxV {i n : Int} {x : Option PH} {y : Option Mem} (h : 0 ≤ i ∧ i < n → SimV OK x y) : SimV OK x (gdx i n y) := by
  unfold gdx; by_cases c : 0 ≤ i ∧ i < n
  · rw [if_pos c]; exact h c
  · rw [if_neg c]; exact smV_none x
theorem sgxR {Q : Nat → Prop} {i n : Int} {x : Option (Option Nat × PH)} {y : Option (Int × Mem)} (h : 0 ≤ i ∧ i < n → SimR OK Q x y) : SimR OK Q x (gdx i n y) := by
  unfold gdx; by_cases c : 0 ≤ i ∧ i < n
  · rw [if_pos c]; exact h c
  · rw [if_neg c]; exact smR_none x
theorem sgdI {a b : Int} {x : Option (Int32 × PH)} {y : Option (Int × Mem)} (h : 0 ≤ a ∧ 0 < b → SimI OK x y) : SimI OK x (gdd a b y) := by
  unfold gdd; by_cases c : 0 ≤ a ∧ 0 < b
  · rw [if_pos c]; exact h c
  · rw [if_neg c]; exact smI_none x
theorem sgdV {a b : Int} {x : Option PH} {y : Option Mem} (h : 0 ≤ a ∧ 0 < b → SimV OK x y) : SimV OK x (gdd a b y) := by
  unfold gdd; by_cases c : 0 ≤ a ∧ 0 < b
  · rw [if_pos c]; exact h c
  · rw [if_neg c]; exact smV_none x
theorem sgbI {a : Int} {x : Option (Int32 × PH)} {y : Option (Int × Mem)} (h : a = 0 ∨ a = 1 → SimI OK x y) : SimI OK x (gdb a y) := by
  unfold gdb; by_cases c : a = 0 ∨ a = 1
  · rw [if_pos c]; exact h c
  · rw [if_neg c]; exact smI_none x
theorem sgbJ {a : Int} {x : Option (Int64 × PH)} {y : Option (Int × Mem)} (h : a = 0 ∨ a = 1 → SimJ OK x y) : SimJ OK x (gdb a y) := by
  unfold gdb; by_cases c : a = 0 ∨ a = 1
  · rw [if_pos c]; exact h c
  · rw [if_neg c]; exact smJ_none x
theorem sgbV {a : Int} {x : Option PH} {y : Option Mem} (h : a = 0 ∨ a = 1 → SimV OK x y) : SimV OK x (gdb a y) := by
  unfold gdb; by_cases c : a = 0 ∨ a = 1
  · rw [if_pos c]; exact h c
  · rw [if_neg c]; exact smV_none x
theorem sgeI {a b : Int} {x : Option (Int32 × PH)} {y : Option (Int × Mem)} (h : a = b → SimI OK x y) : SimI OK x (gde a b y) := by
  unfold gde; by_cases c : a = b
  · rw [if_pos c]; exact h c
  · rw [if_neg c]; exact smI_none x
theorem sgeV {a b : Int} {x : Option PH} {y : Option Mem} (h : a = b → SimV OK x y) : SimV OK x (gde a b y) := by
  unfold gde; by_cases c : a = b
  · rw [if_pos c]; exact h c
  · rw [if_neg c]; exact smV_none x
-- what is written
theorem sm_wt {α β : Type} {R : Option α → Option β → Prop} {x : Option PH} {m : Mem} (e : ∃ h', x = some h' ∧ OK h' ∧ rd h' = m) {f : PH → Option α} {g : Mem → Option β} (h : ∀ h', OK h' → R (f h') (g (rd h'))) : R (x.bind f) (wt m g) := by
  obtain ⟨h', e1, e2, e3⟩ := e
  subst e1 e3
  exact h h' e2
-- calls: of one that gives I, J, V, R, in one that gives I, J, V, R
theorem sm_II {x : Option (Int32 × PH)} {y : Option (Int × Mem)} (s : SimI OK x y) {f : Int32 × PH → Option (Int32 × PH)} {g : Int × Mem → Option (Int × Mem)} (h : ∀ v h', OK h' → r3 v → SimI OK (f (Z3 v, h')) (g (v, rd h'))) : SimI OK (x.bind f) (y.bind g) := by
  intro o e
  obtain ⟨⟨v, m⟩, e1, e2⟩ := ob e
  obtain ⟨h', f1, f2, f3, f4⟩ := s _ e1
  subst f1
  simp only at f3
  subst f3
  exact h v h' f2 f4 o e2
theorem sm_IJ {x : Option (Int32 × PH)} {y : Option (Int × Mem)} (s : SimI OK x y) {f : Int32 × PH → Option (Int64 × PH)} {g : Int × Mem → Option (Int × Mem)} (h : ∀ v h', OK h' → r3 v → SimJ OK (f (Z3 v, h')) (g (v, rd h'))) : SimJ OK (x.bind f) (y.bind g) := by
  intro o e
  obtain ⟨⟨v, m⟩, e1, e2⟩ := ob e
  obtain ⟨h', f1, f2, f3, f4⟩ := s _ e1
  subst f1
  simp only at f3
  subst f3
  exact h v h' f2 f4 o e2
theorem sm_IV {x : Option (Int32 × PH)} {y : Option (Int × Mem)} (s : SimI OK x y) {f : Int32 × PH → Option PH} {g : Int × Mem → Option Mem} (h : ∀ v h', OK h' → r3 v → SimV OK (f (Z3 v, h')) (g (v, rd h'))) : SimV OK (x.bind f) (y.bind g) := by
  intro o e
  obtain ⟨⟨v, m⟩, e1, e2⟩ := ob e
  obtain ⟨h', f1, f2, f3, f4⟩ := s _ e1
  subst f1
  simp only at f3
  subst f3
  exact h v h' f2 f4 o e2
theorem sm_IR {Q : Nat → Prop} {x : Option (Int32 × PH)} {y : Option (Int × Mem)} (s : SimI OK x y) {f : Int32 × PH → Option (Option Nat × PH)} {g : Int × Mem → Option (Int × Mem)} (h : ∀ v h', OK h' → r3 v → SimR OK Q (f (Z3 v, h')) (g (v, rd h'))) : SimR OK Q (x.bind f) (y.bind g) := by
  intro o e
  obtain ⟨⟨v, m⟩, e1, e2⟩ := ob e
  obtain ⟨h', f1, f2, f3, f4⟩ := s _ e1
  subst f1
  simp only at f3
  subst f3
  exact h v h' f2 f4 o e2
theorem sm_JI {x : Option (Int64 × PH)} {y : Option (Int × Mem)} (s : SimJ OK x y) {f : Int64 × PH → Option (Int32 × PH)} {g : Int × Mem → Option (Int × Mem)} (h : ∀ v h', OK h' → r6 v → SimI OK (f (Z6 v, h')) (g (v, rd h'))) : SimI OK (x.bind f) (y.bind g) := by
  intro o e
  obtain ⟨⟨v, m⟩, e1, e2⟩ := ob e
  obtain ⟨h', f1, f2, f3, f4⟩ := s _ e1
  subst f1
  simp only at f3
  subst f3
  exact h v h' f2 f4 o e2
theorem sm_JJ {x : Option (Int64 × PH)} {y : Option (Int × Mem)} (s : SimJ OK x y) {f : Int64 × PH → Option (Int64 × PH)} {g : Int × Mem → Option (Int × Mem)} (h : ∀ v h', OK h' → r6 v → SimJ OK (f (Z6 v, h')) (g (v, rd h'))) : SimJ OK (x.bind f) (y.bind g) := by
  intro o e
  obtain ⟨⟨v, m⟩, e1, e2⟩ := ob e
  obtain ⟨h', f1, f2, f3, f4⟩ := s _ e1
  subst f1
  simp only at f3
  subst f3
  exact h v h' f2 f4 o e2
theorem sm_VI {x : Option PH} {y : Option Mem} (s : SimV OK x y) {f : PH → Option (Int32 × PH)} {g : Mem → Option (Int × Mem)} (h : ∀ h', OK h' → SimI OK (f h') (g (rd h'))) : SimI OK (x.bind f) (y.bind g) := by
  intro o e
  obtain ⟨m, e1, e2⟩ := ob e
  obtain ⟨h', f1, f2, f3⟩ := s _ e1
  subst f1 f3
  exact h h' f2 o e2
theorem sm_VJ {x : Option PH} {y : Option Mem} (s : SimV OK x y) {f : PH → Option (Int64 × PH)} {g : Mem → Option (Int × Mem)} (h : ∀ h', OK h' → SimJ OK (f h') (g (rd h'))) : SimJ OK (x.bind f) (y.bind g) := by
  intro o e
  obtain ⟨m, e1, e2⟩ := ob e
  obtain ⟨h', f1, f2, f3⟩ := s _ e1
  subst f1 f3
  exact h h' f2 o e2
theorem sm_VV {x : Option PH} {y : Option Mem} (s : SimV OK x y) {f : PH → Option PH} {g : Mem → Option Mem} (h : ∀ h', OK h' → SimV OK (f h') (g (rd h'))) : SimV OK (x.bind f) (y.bind g) := by
  intro o e
  obtain ⟨m, e1, e2⟩ := ob e
  obtain ⟨h', f1, f2, f3⟩ := s _ e1
  subst f1 f3
  exact h h' f2 o e2
theorem sm_VR {Q : Nat → Prop} {x : Option PH} {y : Option Mem} (s : SimV OK x y) {f : PH → Option (Option Nat × PH)} {g : Mem → Option (Int × Mem)} (h : ∀ h', OK h' → SimR OK Q (f h') (g (rd h'))) : SimR OK Q (x.bind f) (y.bind g) := by
  intro o e
  obtain ⟨m, e1, e2⟩ := ob e
  obtain ⟨h', f1, f2, f3⟩ := s _ e1
  subst f1 f3
  exact h h' f2 o e2
theorem sm_RI {Q : Nat → Prop} {x : Option (Option Nat × PH)} {y : Option (Int × Mem)} (s : SimR OK Q x y) {f0 : PH → Option (Int32 × PH)} {f1 : Nat → PH → Option (Int32 × PH)} {g0 : Mem → Option (Int × Mem)} {g1 : Nat → Mem → Option (Int × Mem)} (h0 : ∀ h', OK h' → SimI OK (f0 h') (g0 (rd h'))) (h1 : ∀ r h', OK h' → Q r → SimI OK (f1 r h') (g1 r (rd h'))) : SimI OK (x.bind fun o => match o.1 with | none => f0 o.2 | some r => f1 r o.2) (y.bind fun o => if o.1 = -1 then g0 o.2 else g1 o.1.toNat o.2) := by
  intro o e
  obtain ⟨⟨v, m⟩, e1, e2⟩ := ob e
  obtain ⟨h', p1, p2, ⟨p3, p4⟩ | ⟨r, p3, p4, p5⟩⟩ := s _ e1
  · subst p4
    simp only at p2 p3
    subst p2 p3
    exact h0 h' p1 o (by simpa using e2)
  · subst p5
    simp only at p2 p3
    subst p2 p3
    have hr : ¬ ((r : Int) = -1) := by omega
    simp only [hr, if_false, Int.toNat_natCast] at e2
    exact h1 r h' p1 p4 o e2
-- ends
theorem sm_retI {h : PH} (H : OK h) {v : Int32} {V : Int} (e : v = Z3 V) (hr : r3 V) : SimI OK (some (v, h)) (some (V, rd h)) := by
  intro o q
  have := Option.some.inj q
  subst this e
  exact ⟨h, rfl, H, rfl, hr⟩
theorem sm_retJ {h : PH} (H : OK h) {v : Int64} {V : Int} (e : v = Z6 V) (hr : r6 V) : SimJ OK (some (v, h)) (some (V, rd h)) := by
  intro o q
  have := Option.some.inj q
  subst this e
  exact ⟨h, rfl, H, rfl, hr⟩
theorem sm_retV {h : PH} (H : OK h) : SimV OK (some h) (some (rd h)) := by
  intro o q
  have := Option.some.inj q
  subst this
  exact ⟨h, rfl, H, rfl⟩
theorem sm_retR0 {Q : Nat → Prop} {h : PH} (H : OK h) : SimR OK Q (some (none, h)) (some (-1, rd h)) := by
  intro o q
  have := Option.some.inj q
  subst this
  exact ⟨h, H, rfl, Or.inl ⟨rfl, rfl⟩⟩
theorem sm_retR1 {Q : Nat → Prop} {h : PH} (H : OK h) {r : Nat} (hq : Q r) : SimR OK Q (some (some r, h)) (some ((r : Int), rd h)) := by
  intro o q
  have := Option.some.inj q
  subst this
  exact ⟨h, H, rfl, Or.inr ⟨r, rfl, hq, rfl⟩⟩
theorem sm_rz {h : PH} (H : OK h) {v : Int32} {V : Int} (e : v = Z3 V) (hb : V = 0 ∨ V = 1) : SimI OK (rz v h) (some (V, rd h)) := by
  have : rz v h = some (v, h) := by
    subst e
    rcases hb with rfl | rfl
    · exact rz0 h
    · exact rz1 h
  rw [this]
  refine sm_retI H e ?_
  rcases hb with rfl | rfl
  · exact ⟨by decide, by decide⟩
  · exact ⟨by decide, by decide⟩
end SIM
-- what the heap's shape says of reads and writes
section PRIM
variable {h : PH} {a ci k t n : Nat}
theorem gI_rd (e : cF (Sk h) a ci k = some 0) : gI h a ci k = some (Z3 (rd h a k)) ∧ r3 (rd h a k) := by
  obtain ⟨fs, v, h1, h2, h3⟩ := cF_spec e
  rcases v with i | j | _ | r
  · rw [rd_obj h1 k h2]
    refine ⟨?_, r3_of i⟩
    unfold gI gV
    rw [h1]
    simp only [h2, if_true]
    exact congrArg some (z3_of i)
  · cases h3
  · cases h3
  · cases h3
theorem gJ_rd (e : cF (Sk h) a ci k = some 1) : gJ h a ci k = some (Z6 (rd h a k)) ∧ r6 (rd h a k) := by
  obtain ⟨fs, v, h1, h2, h3⟩ := cF_spec e
  rcases v with i | j | _ | r
  · cases h3
  · rw [rd_obj h1 k h2]
    refine ⟨?_, r6_of j⟩
    unfold gJ gV
    rw [h1]
    simp only [h2, if_true]
    exact congrArg some (z6_of j)
  · cases h3
  · simp [kV] at h3
theorem pV_rd {z : Nat} (e : cF (Sk h) a ci k = some z) (v : PV) (hz : kV v = z) : ∃ h', pV h a ci k v = some h' ∧ Sk h' = Sk h ∧ rd h' = up (rd h) a k (rdV v) := by
  obtain ⟨fs, w, h1, h2, h3⟩ := cF_spec e
  have hk : k < fs.length := (List.getElem?_eq_some_iff.mp h2).1
  refine ⟨h.set a (.inr (ci, fs.set k v)), ?_, Sk_set h1 ?_, rd_setF h1 hk⟩
  · unfold pV; rw [h1]; simp [hk]
  · simp only [sk]
    congr 2
    apply List.ext_getElem?
    intro j
    rw [List.getElem?_map, List.getElem?_map]
    by_cases hj : k = j
    · subst hj
      rw [List.getElem?_set_self hk, h2]
      simp [h3, hz]
    · rw [List.getElem?_set_ne hj]
theorem pI_rd (e : cF (Sk h) a ci k = some 0) {v : Int32} {V : Int} (ev : v = Z3 V) (hr : r3 V) : ∃ h', pI h a ci k v = some h' ∧ Sk h' = Sk h ∧ rd h' = up (rd h) a k V := by
  obtain ⟨h', e1, e2, e3⟩ := pV_rd e (.inl v) rfl
  refine ⟨h', e1, e2, ?_⟩
  rw [e3]
  show up (rd h) a k v.toInt = _
  rw [ev, z3_to hr]
theorem pZ_rd (e : cF (Sk h) a ci k = some 0) {v : Int32} {V : Int} (ev : v = Z3 V) (hb : V = 0 ∨ V = 1) : ∃ h', pZ h a ci k v = some h' ∧ Sk h' = Sk h ∧ rd h' = up (rd h) a k V := by
  have hr : r3 V := by rcases hb with rfl | rfl <;> exact ⟨by decide, by decide⟩
  have hv : v = 0 ∨ v = 1 := by subst ev; rcases hb with rfl | rfl
                                · left; rfl
                                · right; rfl
  obtain ⟨h', e1, e2⟩ := pI_rd e ev hr
  refine ⟨h', ?_, e2⟩
  unfold pZ
  rw [if_pos hv]
  exact e1
theorem pJ_rd (e : cF (Sk h) a ci k = some 1) {v : Int64} {V : Int} (ev : v = Z6 V) (hr : r6 V) : ∃ h', pJ h a ci k v = some h' ∧ Sk h' = Sk h ∧ rd h' = up (rd h) a k V := by
  obtain ⟨h', e1, e2, e3⟩ := pV_rd e (.inr (.inl v)) rfl
  refine ⟨h', e1, e2, ?_⟩
  rw [e3]
  show up (rd h) a k v.toInt = _
  rw [ev, z6_to hr]
theorem in_z3 {i : Int32} {I : Int} (hi : i = Z3 I) {n : Nat} (c : 0 ≤ I ∧ I < (n : Int)) (hn : n < 2147483648) : vp_in i n ∧ i.toNatClampNeg = I.toNat := by
  have hr : r3 I := ⟨by omega, by omega⟩
  have hto : i.toInt = I := by rw [hi, z3_to hr]
  have h1 : i.toNatClampNeg = i.toInt.toNat := rfl
  refine ⟨?_, by rw [h1, hto]⟩
  unfold vp_in
  rintro (z | z)
  · rw [Int32.lt_iff_toInt_lt] at z
    have : (0 : Int32).toInt = 0 := by decide
    omega
  · omega
theorem aI_rd (e : cA (Sk h) a (5 * t + 1) = some n) (hn : n < 2147483648) {i : Int32} {I : Int} (hi : i = Z3 I) (c : 0 ≤ I ∧ I < (n : Int)) : aI h a t i = some (Z3 (rd h a I)) ∧ r3 (rd h a I) := by
  obtain ⟨f, h1⟩ := cA_spec e
  obtain ⟨h2, h3⟩ := in_z3 hi c hn
  rw [rd_row h1 c.1]
  refine ⟨?_, r3_of _⟩
  unfold aI
  rw [h1]
  exact (if_pos ⟨rfl, h2⟩).trans (by rw [h3]; exact congrArg some (z3_of _))
theorem sI_rd (e : cA (Sk h) a (5 * t + 1) = some n) (hn : n < 2147483648) {i : Int32} {I : Int} (hi : i = Z3 I) (c : 0 ≤ I ∧ I < (n : Int)) {x : Int32} {X : Int} (hx : x = Z3 X) (hr : r3 X) : ∃ h', sI h a t i x = some h' ∧ Sk h' = Sk h ∧ rd h' = up (rd h) a I X := by
  obtain ⟨f, h1⟩ := cA_spec e
  obtain ⟨h2, h3⟩ := in_z3 hi c hn
  refine ⟨h.set a (.inl (t, n, .inl (upd f I.toNat x))), ?_, Sk_set h1 rfl, ?_⟩
  · unfold sI; rw [h1]
    exact (if_pos ⟨rfl, h2⟩).trans (by rw [h3])
  · rw [rd_setR h1 c.1, hx, z3_to hr]
theorem aJ_rd (e : cA (Sk h) a 17 = some n) (hn : n < 2147483648) {i : Int32} {I : Int} (hi : i = Z3 I) (c : 0 ≤ I ∧ I < (n : Int)) : aJ h a i = some (Z6 (rd h a I)) ∧ r6 (rd h a I) := by
  obtain ⟨f, h1⟩ := cA_specL (t := 3) e
  obtain ⟨h2, h3⟩ := in_z3 hi c hn
  rw [rd_lrow h1 c.1]
  refine ⟨?_, r6_of _⟩
  unfold aJ
  rw [h1]
  exact (if_pos ⟨rfl, h2⟩).trans (by rw [h3]; exact congrArg some (z6_of _))
theorem sJ_rd (e : cA (Sk h) a 17 = some n) (hn : n < 2147483648) {i : Int32} {I : Int} (hi : i = Z3 I) (c : 0 ≤ I ∧ I < (n : Int)) {x : Int64} {X : Int} (hx : x = Z6 X) (hr : r6 X) : ∃ h', sJ h a i x = some h' ∧ Sk h' = Sk h ∧ rd h' = up (rd h) a I X := by
  obtain ⟨f, h1⟩ := cA_specL (t := 3) e
  obtain ⟨h2, h3⟩ := in_z3 hi c hn
  refine ⟨h.set a (.inl (3, n, .inr (.inl (vp_updL f I.toNat x)))), ?_, Sk_set h1 rfl, ?_⟩
  · unfold sJ; rw [h1]
    exact (if_pos ⟨rfl, h2⟩).trans (by rw [h3])
  · rw [rd_setL h1 c.1, hx, z6_to hr]
theorem aL_rd (e : cA (Sk h) a (5 * t + 1) = some n) (ht : t < 5) : aL h a = some (Z3 (n : Int)) := by
  obtain ⟨f, h1⟩ := cA_spec e
  unfold aL
  rw [h1]
  exact (if_pos ht).trans (congrArg some (Int32.ofInt_eq_ofNat (n := n)).symm)
theorem aL_rdL (e : cA (Sk h) a (5 * t + 2) = some n) (ht : t < 5) : aL h a = some (Z3 (n : Int)) := by
  obtain ⟨f, h1⟩ := cA_specL e
  unfold aL
  rw [h1]
  exact (if_pos ht).trans (congrArg some (Int32.ofInt_eq_ofNat (n := n)).symm)
theorem aR_rd {l : List Nat} {r : Nat} (e : cW (Sk h) a = some (n, l)) (hn : n < 2147483648) {i : Int32} {I : Int} (hi : i = Z3 I) (c : 0 ≤ I ∧ I < (n : Int)) (hl : l[I.toNat]? = some (r + 3)) : aR h a i = some r := by
  obtain ⟨f, h1, h2⟩ := cW_spec e
  obtain ⟨h3, h4⟩ := in_z3 hi c hn
  unfold aR
  rw [h1]
  refine (if_pos ⟨rfl, h3⟩).trans ?_
  rw [h4]
  subst h2
  rw [List.getElem?_map, List.getElem?_range (by omega)] at hl
  have hk : kO (f I.toNat) = r + 3 := Option.some.inj hl
  cases hq : f I.toNat with
  | none => rw [hq] at hk; simp only [kO] at hk; omega
  | some q =>
    rw [hq] at hk
    simp only [kO] at hk
    congr 1
    omega
theorem cpI_rd {a1 n1 : Nat} (e0 : cA (Sk h) a 1 = some n) (e1 : cA (Sk h) a1 1 = some n1) {sp dp q : Int32} {SP DP Q : Int} (h1 : sp = Z3 SP) (h2 : dp = Z3 DP) (h3 : q = Z3 Q) (c : (0 ≤ SP ∧ 0 ≤ DP ∧ 0 ≤ Q) ∧ SP + Q ≤ (n : Int) ∧ DP + Q ≤ (n1 : Int)) (hn : n < 2147483648) (hn1 : n1 < 2147483648) : ∃ h', cpI h a sp a1 dp q = some h' ∧ Sk h' = Sk h ∧ rd h' = cpy (rd h) a SP a1 DP Q := by
  obtain ⟨f, g0⟩ := cA_spec (t := 0) e0
  obtain ⟨g, g1⟩ := cA_spec (t := 0) e1
  obtain ⟨⟨c1, c2, c3⟩, c4, c5⟩ := c
  have t1 : sp.toInt = SP := by rw [h1, z3_to ⟨by omega, by omega⟩]
  have t2 : dp.toInt = DP := by rw [h2, z3_to ⟨by omega, by omega⟩]
  have t3 : q.toInt = Q := by rw [h3, z3_to ⟨by omega, by omega⟩]
  have u1 : sp.toNatClampNeg = sp.toInt.toNat := rfl
  have u2 : dp.toNatClampNeg = dp.toInt.toNat := rfl
  have u3 : q.toNatClampNeg = q.toInt.toNat := rfl
  have z0 : (0 : Int32).toInt = 0 := by decide
  refine ⟨h.set a1 (.inl (0, n1, .inl (va_cpy f g SP.toNat DP.toNat Q.toNat))), ?_, Sk_set g1 rfl, ?_⟩
  · unfold cpI; rw [g0, g1]
    have w1 : sp.toNatClampNeg = SP.toNat := by omega
    have w2 : dp.toNatClampNeg = DP.toNat := by omega
    have w3 : q.toNatClampNeg = Q.toNat := by omega
    refine (if_pos ⟨rfl, rfl, ?_, ?_, ?_, ?_, ?_⟩).trans (by rw [w1, w2, w3])
    · rw [Int32.lt_iff_toInt_lt]; omega
    · rw [Int32.lt_iff_toInt_lt]; omega
    · rw [Int32.lt_iff_toInt_lt]; omega
    · omega
    · omega
  · funext b j
    unfold cpy
    by_cases hb : b = a1
    · subst hb
      by_cases hj : j < 0
      · rw [if_neg (by omega)]
        unfold rd
        rw [if_pos hj, if_pos hj]
      · rw [rd_row (st_s g1) (by omega)]
        unfold va_cpy
        by_cases hd : DP ≤ j ∧ j < DP + Q
        · rw [if_pos (show DP.toNat ≤ j.toNat ∧ j.toNat < DP.toNat + Q.toNat by omega), if_pos ⟨rfl, hd⟩, rd_row g0 (by omega)]
          congr 2
          omega
        · rw [if_neg (show ¬ (DP.toNat ≤ j.toNat ∧ j.toNat < DP.toNat + Q.toNat) by omega), if_neg (fun q => hd q.2), rd_row g1 (by omega)]
    · rw [if_neg (fun q => hb q.1)]
      exact rd_set_ne (Ne.symm hb) j
theorem Sk_setR {r r' : Nat} {v : PV} {h' : PH} (e : cF (Sk h) a ci k = some (r + 3)) (hv : kV v = r' + 3) (hp : pV h a ci k v = some h') : ∃ l, (Sk h)[a]? = some (0, ci, l) ∧ Sk h' = (Sk h).set a (0, ci, l.set k (r' + 3)) := by
  obtain ⟨fs, w, h1, h2, h3⟩ := cF_spec e
  obtain ⟨fs', g1, g2, g3⟩ := pV_spec hp
  rw [h1] at g1
  have : fs = fs' := by simpa using g1
  subst this
  refine ⟨fs.map kV, by rw [Sk_at, h1]; rfl, ?_⟩
  subst g3
  unfold Sk
  rw [List.map_set]
  congr 1
  simp only [sk]
  congr 2
  rw [List.map_set, hv]
theorem pR_rd {r r' : Nat} (e : cF (Sk h) a ci k = some (r + 3)) : ∃ h', pR h a ci k r' = some h' ∧ (∃ l, (Sk h)[a]? = some (0, ci, l) ∧ Sk h' = (Sk h).set a (0, ci, l.set k (r' + 3))) ∧ rd h' = up (rd h) a k r' := by
  obtain ⟨fs, w, h1, h2, h3⟩ := cF_spec e
  have hk : k < fs.length := (List.getElem?_eq_some_iff.mp h2).1
  have hp : pV h a ci k (.inr (.inr (some r'))) = some (h.set a (.inr (ci, fs.set k (.inr (.inr (some r')))))) := by
    unfold pV; rw [h1]; simp [hk]
  exact ⟨_, hp, Sk_setR e rfl hp, rd_setF h1 hk⟩
end PRIM
/-! Fields and rows of both shapes (written by wip/gen/gx.py). -/
def A1 (a : Nat) : Prop := a = 3 ∨ a = 25
def A2 (a : Nat) : Prop := a = 18 ∨ a = 20 ∨ a = 22 ∨ a = 40 ∨ a = 42 ∨ a = 44
def A4 (a : Nat) : Prop := a = 69 ∨ a = 76 ∨ a = 83
def A6 (a : Nat) : Prop := a = 51 ∨ a = 60
def A8 (a : Nat) : Prop := a = 2 ∨ a = 24
def A10 (a : Nat) : Prop := a = 10 ∨ a = 32
def R1_1 (a : Nat) : Prop := a = 4 ∨ a = 26
def R1_2 (a : Nat) : Prop := a = 5 ∨ a = 27
def R1_3 (a : Nat) : Prop := a = 6 ∨ a = 28
def R1_4 (a : Nat) : Prop := a = 7 ∨ a = 29
def R1_5 (a : Nat) : Prop := a = 8 ∨ a = 30
def R1_6 (a : Nat) : Prop := a = 9 ∨ a = 31
def R2_0 (a : Nat) : Prop := a = 19 ∨ a = 21 ∨ a = 23 ∨ a = 41 ∨ a = 43 ∨ a = 45
def R4_5 (a : Nat) : Prop := a = 70 ∨ a = 77 ∨ a = 84
def R4_6 (a : Nat) : Prop := a = 71 ∨ a = 78 ∨ a = 85
def R4_7 (a : Nat) : Prop := a = 72 ∨ a = 79 ∨ a = 86
def R4_8 (a : Nat) : Prop := a = 73 ∨ a = 80 ∨ a = 87
def R4_9 (a : Nat) : Prop := a = 74 ∨ a = 81 ∨ a = 88
def R4_10 (a : Nat) : Prop := a = 75 ∨ a = 82 ∨ a = 89
def R6_1 (a : Nat) : Prop := a = 52 ∨ a = 61
def R6_2 (a : Nat) : Prop := a = 53 ∨ a = 62
def R6_3 (a : Nat) : Prop := a = 54 ∨ a = 63
def R6_4 (a : Nat) : Prop := a = 55 ∨ a = 64
def R6_5 (a : Nat) : Prop := a = 56 ∨ a = 65
def R6_6 (a : Nat) : Prop := a = 57 ∨ a = 66
def R6_7 (a : Nat) : Prop := a = 58 ∨ a = 67
def R6_8 (a : Nat) : Prop := a = 59 ∨ a = 68
def R8_11 (a : Nat) : Prop := a = 17 ∨ a = 39
def R10_2 (a : Nat) : Prop := a = 11 ∨ a = 33
def R10_3 (a : Nat) : Prop := a = 12 ∨ a = 34
def R10_4 (a : Nat) : Prop := a = 13 ∨ a = 35
def R10_5 (a : Nat) : Prop := a = 14 ∨ a = 36
def R10_6 (a : Nat) : Prop := a = 15 ∨ a = 37
def R10_7 (a : Nat) : Prop := a = 16 ∨ a = 38
theorem p4_69 : A4 69 := by simp [A4]
theorem p4_76 : A4 76 := by simp [A4]
theorem p4_83 : A4 83 := by simp [A4]
theorem p6_51 : A6 51 := by simp [A6]
theorem p6_60 : A6 60 := by simp [A6]
def ABy (a : Nat) : Prop := a = 49 ∨ a = 1
def SKX (t d r b s o : Nat) : List (Nat × Nat × List Nat) := [(0, 11, [4, 0, 49, t + 3, d + 3, 54, 63, 72, 79, 86, 0, 93, 99, 102]), (6, 700, []), (0, 8, [0, 0, 0, 0, 6, 13, 0, 0, 0, 0, 0, 20, 0, 0]), (0, 1, [0, 7, 8, 9, 10, 11, 12]), (1, 5, []), (1, 5, []), (1, 5, []), (1, 5, []), (1, 5, []), (1, 5, []), (0, 10, [0, 0, 14, 15, 16, 17, 18, 19]), (1, 4, []), (1, 4, []), (1, 28, []), (1, 28, []), (1, 28, []), (1, 28, []), (25, 3, [21, 23, 25]), (0, 2, [22, 0, 0]), (1, 64, []), (0, 2, [24, 0, 0]), (1, 64, []), (0, 2, [26, 0, 0]), (1, 64, []), (0, 8, [0, 0, 0, 0, 28, 35, 0, 0, 0, 0, 0, 42, 0, 0]), (0, 1, [0, 29, 30, 31, 32, 33, 34]), (1, 5, []), (1, 5, []), (1, 5, []), (1, 5, []), (1, 5, []), (1, 5, []), (0, 10, [0, 0, 36, 37, 38, 39, 40, 41]), (1, 4, []), (1, 4, []), (1, 28, []), (1, 28, []), (1, 28, []), (1, 28, []), (25, 3, [43, 45, 47]), (0, 2, [44, 0, 0]), (1, 64, []), (0, 2, [46, 0, 0]), (1, 64, []), (0, 2, [48, 0, 0]), (1, 64, []), (0, 5, [50, 53, 0, 0, 0, 0, 0, 0, 0, 0, r + 3]), (0, 7, [51, b + 3, 0, 0, 0, 0, 0]), (1, 24, []), (6, 0, []), (1, 72, []), (0, 6, [s + 3, 55, 56, 57, 58, 59, 60, 61, 62]), (1, 5, []), (1, 5, []), (1, 28, []), (17, 6, []), (17, 64, []), (1, 5, []), (1, 5, []), (1, 5, []), (0, 6, [o + 3, 64, 65, 66, 67, 68, 69, 70, 71]), (1, 5, []), (1, 5, []), (1, 28, []), (17, 6, []), (17, 64, []), (1, 5, []), (1, 5, []), (1, 5, []), (0, 4, [0, 0, 0, 0, 0, 73, 74, 75, 76, 77, 78]), (1, 5, []), (1, 5, []), (1, 5, []), (1, 5, []), (1, 5, []), (1, 28, []), (0, 4, [0, 0, 0, 0, 0, 80, 81, 82, 83, 84, 85]), (1, 5, []), (1, 5, []), (1, 5, []), (1, 5, []), (1, 5, []), (1, 28, []), (0, 4, [0, 0, 0, 0, 0, 87, 88, 89, 90, 91, 92]), (1, 5, []), (1, 5, []), (1, 5, []), (1, 5, []), (1, 5, []), (1, 28, []), (0, 3, [0, 0, 94, 95, 96, 97, 98]), (1, 24, []), (1, 24, []), (1, 24, []), (1, 24, []), (11, 24, []), (0, 9, [0, 100, 101]), (1, 20, []), (1, 20, []), (0, 0, [103, 104, 105, 106, 107, 108, 0, 109, 110, 111, 112, 0, 0]), (1, 10, []), (1, 280, []), (1, 280, []), (1, 25, []), (1, 25, []), (1, 25, []), (1, 29, []), (1, 28, []), (11, 28, []), (1, 28, [])]
def skx (m : Mem) : List (Nat × Nat × List Nat) := SKX (m 0 3).toNat (m 0 4).toNat (m 46 10).toNat (m 47 1).toNat (m 51 0).toNat (m 60 0).toNat
def vrx (m : Mem) : Prop := (A8 (m 0 3).toNat ∧ A8 (m 0 4).toNat ∧ A8 (m 46 10).toNat ∧ ABy (m 47 1).toNat ∧ A8 (m 51 0).toNat ∧ A8 (m 60 0).toNat) ∧ (0 ≤ m 0 3 ∧ 0 ≤ m 0 4 ∧ 0 ≤ m 46 10 ∧ 0 ≤ m 47 1 ∧ 0 ≤ m 51 0 ∧ 0 ≤ m 60 0)
def OKX (h : PH) : Prop := Sk h = skx (rd h) ∧ vrx (rd h)
def OKM (h : PH) : Prop := Sk h = SM
/-- no place of a reference that changes -/
def nrx (a : Nat) (k : Int) : Prop := ¬ (a = 0 ∧ k = 3) ∧ ¬ (a = 0 ∧ k = 4) ∧ ¬ (a = 46 ∧ k = 10) ∧ ¬ (a = 47 ∧ k = 1) ∧ ¬ (a = 51 ∧ k = 0) ∧ ¬ (a = 60 ∧ k = 0)
theorem up_n {m : Mem} {a : Nat} {k v : Int} {b : Nat} {j : Int} (h : ¬ (a = b ∧ k = j)) : up m a k v b j = m b j := if_neg (fun q => h ⟨q.1.symm, q.2.symm⟩)
theorem skx_e {m m' : Mem} (h1 : m' 0 3 = m 0 3) (h2 : m' 0 4 = m 0 4) (h3 : m' 46 10 = m 46 10) (h4 : m' 47 1 = m 47 1) (h5 : m' 51 0 = m 51 0) (h6 : m' 60 0 = m 60 0) : skx m' = skx m ∧ (vrx m → vrx m') := by
  unfold skx vrx
  rw [h1, h2, h3, h4, h5, h6]
  exact ⟨rfl, id⟩
theorem okx_w {h h' : PH} (H : OKX h) {a : Nat} {k v : Int} (hn : nrx a k) (e1 : Sk h' = Sk h) (e2 : rd h' = up (rd h) a k v) : OKX h' := by
  obtain ⟨n1, n2, n3, n4, n5, n6⟩ := hn
  have e := skx_e (m := rd h) (m' := up (rd h) a k v) (up_n n1) (up_n n2) (up_n n3) (up_n n4) (up_n n5) (up_n n6)
  refine ⟨?_, ?_⟩
  · rw [e1, e2, e.1]; exact H.1
  · rw [e2]; exact e.2 H.2
theorem x_pI {h : PH} (H : OKX h) {a ci k : Nat} (e : cF (skx (rd h)) a ci k = some 0) (hn : nrx a k) {v : Int32} {V : Int} (ev : v = Z3 V) (hr : r3 V) : ∃ h', pI h a ci k v = some h' ∧ OKX h' ∧ rd h' = up (rd h) a k V := by
  obtain ⟨h', e1, e2, e3⟩ := pI_rd (by rw [H.1]; exact e) ev hr
  exact ⟨h', e1, okx_w H hn e2 e3, e3⟩
theorem x_pZ {h : PH} (H : OKX h) {a ci k : Nat} (e : cF (skx (rd h)) a ci k = some 0) (hn : nrx a k) {v : Int32} {V : Int} (ev : v = Z3 V) (hr : V = 0 ∨ V = 1) : ∃ h', pZ h a ci k v = some h' ∧ OKX h' ∧ rd h' = up (rd h) a k V := by
  obtain ⟨h', e1, e2, e3⟩ := pZ_rd (by rw [H.1]; exact e) ev hr
  exact ⟨h', e1, okx_w H hn e2 e3, e3⟩
theorem x_sI {h : PH} (H : OKX h) {a t n : Nat} (e : cA (skx (rd h)) a (5 * t + 1) = some n) (hd : n < 2147483648) (hn : ∀ k, nrx a k) {i : Int32} {I : Int} (hi : i = Z3 I) (c : 0 ≤ I ∧ I < (n : Int)) {x : Int32} {X : Int} (hx : x = Z3 X) (hr : r3 X) : ∃ h', sI h a t i x = some h' ∧ OKX h' ∧ rd h' = up (rd h) a I X := by
  obtain ⟨h', e1, e2, e3⟩ := sI_rd (by rw [H.1]; exact e) hd hi c hx hr
  exact ⟨h', e1, okx_w H (hn I) e2 e3, e3⟩
theorem x_sJ {h : PH} (H : OKX h) {a n : Nat} (e : cA (skx (rd h)) a 17 = some n) (hd : n < 2147483648) (hn : ∀ k, nrx a k) {i : Int32} {I : Int} (hi : i = Z3 I) (c : 0 ≤ I ∧ I < (n : Int)) {x : Int64} {X : Int} (hx : x = Z6 X) (hr : r6 X) : ∃ h', sJ h a i x = some h' ∧ OKX h' ∧ rd h' = up (rd h) a I X := by
  obtain ⟨h', e1, e2, e3⟩ := sJ_rd (by rw [H.1]; exact e) hd hi c hx hr
  exact ⟨h', e1, okx_w H (hn I) e2 e3, e3⟩
theorem nrx_row {a : Nat} (h : a ≠ 0 ∧ a ≠ 46 ∧ a ≠ 47 ∧ a ≠ 51 ∧ a ≠ 60) (k : Int) : nrx a k := ⟨fun q => h.1 q.1, fun q => h.1 q.1, fun q => h.2.1 q.1, fun q => h.2.2.1 q.1, fun q => h.2.2.2.1 q.1, fun q => h.2.2.2.2 q.1⟩
theorem x_cp {h : PH} (H : OKX h) {a a1 n n1 : Nat} (e0 : cA (Sk h) a 1 = some n) (e1 : cA (Sk h) a1 1 = some n1) {sp dp q : Int32} {SP DP Q : Int} (h1 : sp = Z3 SP) (h2 : dp = Z3 DP) (h3 : q = Z3 Q) (c : (0 ≤ SP ∧ 0 ≤ DP ∧ 0 ≤ Q) ∧ SP + Q ≤ (n : Int) ∧ DP + Q ≤ (n1 : Int)) (hn : n < 2147483648) (hn1 : n1 < 2147483648) (hr : a1 ≠ 0 ∧ a1 ≠ 46 ∧ a1 ≠ 47 ∧ a1 ≠ 51 ∧ a1 ≠ 60) : ∃ h', cpI h a sp a1 dp q = some h' ∧ OKX h' ∧ rd h' = cpy (rd h) a SP a1 DP Q := by
  obtain ⟨h', f1, f2, f3⟩ := cpI_rd e0 e1 h1 h2 h3 c hn hn1
  have nn : ∀ (b : Nat) (j : Int), b ≠ a1 → cpy (rd h) a SP a1 DP Q b j = rd h b j := fun b j hb => if_neg (fun q => hb q.1)
  have e := skx_e (m := rd h) (m' := cpy (rd h) a SP a1 DP Q) (nn 0 3 (Ne.symm hr.1)) (nn 0 4 (Ne.symm hr.1)) (nn 46 10 (Ne.symm hr.2.1)) (nn 47 1 (Ne.symm hr.2.2.1)) (nn 51 0 (Ne.symm hr.2.2.2.1)) (nn 60 0 (Ne.symm hr.2.2.2.2))
  refine ⟨h', f1, ⟨?_, ?_⟩, f3⟩
  · rw [f2, f3, e.1]; exact H.1
  · rw [f3]; exact e.2 H.2
theorem m_pI {h : PH} (H : OKM h) {a ci k : Nat} (e : cF SM a ci k = some 0) {v : Int32} {V : Int} (ev : v = Z3 V) (hr : r3 V) : ∃ h', pI h a ci k v = some h' ∧ OKM h' ∧ rd h' = up (rd h) a k V := by
  obtain ⟨h', e1, e2, e3⟩ := pI_rd (by rw [H]; exact e) ev hr
  exact ⟨h', e1, e2.trans H, e3⟩
theorem m_pZ {h : PH} (H : OKM h) {a ci k : Nat} (e : cF SM a ci k = some 0) {v : Int32} {V : Int} (ev : v = Z3 V) (hr : V = 0 ∨ V = 1) : ∃ h', pZ h a ci k v = some h' ∧ OKM h' ∧ rd h' = up (rd h) a k V := by
  obtain ⟨h', e1, e2, e3⟩ := pZ_rd (by rw [H]; exact e) ev hr
  exact ⟨h', e1, e2.trans H, e3⟩
theorem m_pJ {h : PH} (H : OKM h) {a ci k : Nat} (e : cF SM a ci k = some 1) {v : Int64} {V : Int} (ev : v = Z6 V) (hr : r6 V) : ∃ h', pJ h a ci k v = some h' ∧ OKM h' ∧ rd h' = up (rd h) a k V := by
  obtain ⟨h', e1, e2, e3⟩ := pJ_rd (by rw [H]; exact e) ev hr
  exact ⟨h', e1, e2.trans H, e3⟩
theorem m_sI {h : PH} (H : OKM h) {a t n : Nat} (e : cA SM a (5 * t + 1) = some n) (hd : n < 2147483648) {i : Int32} {I : Int} (hi : i = Z3 I) (c : 0 ≤ I ∧ I < (n : Int)) {x : Int32} {X : Int} (hx : x = Z3 X) (hr : r3 X) : ∃ h', sI h a t i x = some h' ∧ OKM h' ∧ rd h' = up (rd h) a I X := by
  obtain ⟨h', e1, e2, e3⟩ := sI_rd (by rw [H]; exact e) hd hi c hx hr
  exact ⟨h', e1, e2.trans H, e3⟩
theorem m_sJ {h : PH} (H : OKM h) {a n : Nat} (e : cA SM a 17 = some n) (hd : n < 2147483648) {i : Int32} {I : Int} (hi : i = Z3 I) (c : 0 ≤ I ∧ I < (n : Int)) {x : Int64} {X : Int} (hx : x = Z6 X) (hr : r6 X) : ∃ h', sJ h a i x = some h' ∧ OKM h' ∧ rd h' = up (rd h) a I X := by
  obtain ⟨h', e1, e2, e3⟩ := sJ_rd (by rw [H]; exact e) hd hi c hx hr
  exact ⟨h', e1, e2.trans H, e3⟩
/-- any row of ints of the reference -/
def AnyM (a : Nat) : Prop := ∃ n, cA SM a 1 = some n ∧ n < 2147483648
def lnM (a : Nat) : Int := ((cA SM a 1).getD 0 : Nat)
theorem m_aI_any {h : PH} (H : OKM h) {a : Nat} (ha : AnyM a) {i : Int32} {I : Int} (hi : i = Z3 I) (c : 0 ≤ I ∧ I < lnM a) : aI h a 0 i = some (Z3 (rd h a I)) ∧ r3 (rd h a I) := by
  obtain ⟨n, e, hn⟩ := ha
  refine aI_rd (t := 0) (by rw [H]; exact e) hn hi ?_
  unfold lnM at c
  rw [e] at c
  exact c
theorem m_sI_any {h : PH} (H : OKM h) {a : Nat} (ha : AnyM a) {i : Int32} {I : Int} (hi : i = Z3 I) (c : 0 ≤ I ∧ I < lnM a) {x : Int32} {X : Int} (hx : x = Z3 X) (hr : r3 X) : ∃ h', sI h a 0 i x = some h' ∧ OKM h' ∧ rd h' = up (rd h) a I X := by
  obtain ⟨n, e, hn⟩ := ha
  refine m_sI (t := 0) H e hn hi ?_ hx hr
  unfold lnM at c
  rw [e] at c
  exact c
theorem r3_div {A B : Int} (ha : r3 A) (hb : r3 B) (h : 0 ≤ A ∧ 0 < B) : r3 (A / B) := by
  have h1 := Int.ediv_nonneg h.1 (Int.le_of_lt h.2)
  have h2 := Int.ediv_le_self B h.1
  have := ha.2
  exact ⟨by omega, by omega⟩
theorem r3_rem {A B : Int} (ha : r3 A) (hb : r3 B) (h : 0 ≤ A ∧ 0 < B) : r3 (A % B) := by
  have h1 := Int.emod_nonneg A (by omega : B ≠ 0)
  have h2 := Int.emod_lt_of_pos A h.2
  have := hb.2
  exact ⟨by omega, by omega⟩
theorem r3_b {A : Int} (h : A = 0 ∨ A = 1) : r3 A := by rcases h with rfl | rfl <;> exact ⟨by decide, by decide⟩
/-- the ways of a game -/
def gw (x : Int) : Int := if x = 0 then 4 else x - 1
theorem gw_rd {i : Int32} {I : Int} (hi : i = Z3 I) (c : 0 ≤ I ∧ I < 5) : gwA i = some (Z3 (gw I)) ∧ r3 (gw I) := by
  subst hi
  have : I = 0 ∨ I = 1 ∨ I = 2 ∨ I = 3 ∨ I = 4 := by omega
  rcases this with rfl | rfl | rfl | rfl | rfl <;> exact ⟨by decide, by unfold r3; decide⟩
theorem ao_1_1 {a : Nat} (h : A1 a) : R1_1 (a + 1) := by rcases h with rfl | rfl <;> simp [R1_1]
theorem ao_1_2 {a : Nat} (h : A1 a) : R1_2 (a + 2) := by rcases h with rfl | rfl <;> simp [R1_2]
theorem ao_1_3 {a : Nat} (h : A1 a) : R1_3 (a + 3) := by rcases h with rfl | rfl <;> simp [R1_3]
theorem ao_1_4 {a : Nat} (h : A1 a) : R1_4 (a + 4) := by rcases h with rfl | rfl <;> simp [R1_4]
theorem ao_1_5 {a : Nat} (h : A1 a) : R1_5 (a + 5) := by rcases h with rfl | rfl <;> simp [R1_5]
theorem ao_1_6 {a : Nat} (h : A1 a) : R1_6 (a + 6) := by rcases h with rfl | rfl <;> simp [R1_6]
theorem ao_2_0 {a : Nat} (h : A2 a) : R2_0 (a + 1) := by rcases h with rfl | rfl | rfl | rfl | rfl | rfl <;> simp [R2_0]
theorem ao_4_5 {a : Nat} (h : A4 a) : R4_5 (a + 1) := by rcases h with rfl | rfl | rfl <;> simp [R4_5]
theorem ao_4_6 {a : Nat} (h : A4 a) : R4_6 (a + 2) := by rcases h with rfl | rfl | rfl <;> simp [R4_6]
theorem ao_4_7 {a : Nat} (h : A4 a) : R4_7 (a + 3) := by rcases h with rfl | rfl | rfl <;> simp [R4_7]
theorem ao_4_8 {a : Nat} (h : A4 a) : R4_8 (a + 4) := by rcases h with rfl | rfl | rfl <;> simp [R4_8]
theorem ao_4_9 {a : Nat} (h : A4 a) : R4_9 (a + 5) := by rcases h with rfl | rfl | rfl <;> simp [R4_9]
theorem ao_4_10 {a : Nat} (h : A4 a) : R4_10 (a + 6) := by rcases h with rfl | rfl | rfl <;> simp [R4_10]
theorem ao_6_1 {a : Nat} (h : A6 a) : R6_1 (a + 1) := by rcases h with rfl | rfl <;> simp [R6_1]
theorem ao_6_2 {a : Nat} (h : A6 a) : R6_2 (a + 2) := by rcases h with rfl | rfl <;> simp [R6_2]
theorem ao_6_3 {a : Nat} (h : A6 a) : R6_3 (a + 3) := by rcases h with rfl | rfl <;> simp [R6_3]
theorem ao_6_4 {a : Nat} (h : A6 a) : R6_4 (a + 4) := by rcases h with rfl | rfl <;> simp [R6_4]
theorem ao_6_5 {a : Nat} (h : A6 a) : R6_5 (a + 5) := by rcases h with rfl | rfl <;> simp [R6_5]
theorem ao_6_6 {a : Nat} (h : A6 a) : R6_6 (a + 6) := by rcases h with rfl | rfl <;> simp [R6_6]
theorem ao_6_7 {a : Nat} (h : A6 a) : R6_7 (a + 7) := by rcases h with rfl | rfl <;> simp [R6_7]
theorem ao_6_8 {a : Nat} (h : A6 a) : R6_8 (a + 8) := by rcases h with rfl | rfl <;> simp [R6_8]
theorem ao_8_4 {a : Nat} (h : A8 a) : A1 (a + 1) := by rcases h with rfl | rfl <;> simp [A1]
theorem ao_8_5 {a : Nat} (h : A8 a) : A10 (a + 8) := by rcases h with rfl | rfl <;> simp [A10]
theorem ao_8_11 {a : Nat} (h : A8 a) : R8_11 (a + 15) := by rcases h with rfl | rfl <;> simp [R8_11]
theorem ao_10_2 {a : Nat} (h : A10 a) : R10_2 (a + 1) := by rcases h with rfl | rfl <;> simp [R10_2]
theorem ao_10_3 {a : Nat} (h : A10 a) : R10_3 (a + 2) := by rcases h with rfl | rfl <;> simp [R10_3]
theorem ao_10_4 {a : Nat} (h : A10 a) : R10_4 (a + 3) := by rcases h with rfl | rfl <;> simp [R10_4]
theorem ao_10_5 {a : Nat} (h : A10 a) : R10_5 (a + 4) := by rcases h with rfl | rfl <;> simp [R10_5]
theorem ao_10_6 {a : Nat} (h : A10 a) : R10_6 (a + 5) := by rcases h with rfl | rfl <;> simp [R10_6]
theorem ao_10_7 {a : Nat} (h : A10 a) : R10_7 (a + 6) := by rcases h with rfl | rfl <;> simp [R10_7]
theorem x_aI_0_0 {h : PH} (H : OKX h) {i : Int32} {I : Int} (hi : i = Z3 I) (c : 0 ≤ I ∧ I < 10) : aI h 100 0 i = some (Z3 (rd h 100 I)) ∧ r3 (rd h 100 I) := aI_rd (t := 0) (n := 10) (by rw [H.1]; rfl) (by decide) hi c
theorem x_aI_0_1 {h : PH} (H : OKX h) {i : Int32} {I : Int} (hi : i = Z3 I) (c : 0 ≤ I ∧ I < 280) : aI h 101 0 i = some (Z3 (rd h 101 I)) ∧ r3 (rd h 101 I) := aI_rd (t := 0) (n := 280) (by rw [H.1]; rfl) (by decide) hi c
theorem x_aI_0_10 {h : PH} (H : OKX h) {i : Int32} {I : Int} (hi : i = Z3 I) (c : 0 ≤ I ∧ I < 28) : aI h 109 0 i = some (Z3 (rd h 109 I)) ∧ r3 (rd h 109 I) := aI_rd (t := 0) (n := 28) (by rw [H.1]; rfl) (by decide) hi c
theorem x_aI_0_2 {h : PH} (H : OKX h) {i : Int32} {I : Int} (hi : i = Z3 I) (c : 0 ≤ I ∧ I < 280) : aI h 102 0 i = some (Z3 (rd h 102 I)) ∧ r3 (rd h 102 I) := aI_rd (t := 0) (n := 280) (by rw [H.1]; rfl) (by decide) hi c
theorem x_aI_0_3 {h : PH} (H : OKX h) {i : Int32} {I : Int} (hi : i = Z3 I) (c : 0 ≤ I ∧ I < 25) : aI h 103 0 i = some (Z3 (rd h 103 I)) ∧ r3 (rd h 103 I) := aI_rd (t := 0) (n := 25) (by rw [H.1]; rfl) (by decide) hi c
theorem x_aI_0_4 {h : PH} (H : OKX h) {i : Int32} {I : Int} (hi : i = Z3 I) (c : 0 ≤ I ∧ I < 25) : aI h 104 0 i = some (Z3 (rd h 104 I)) ∧ r3 (rd h 104 I) := aI_rd (t := 0) (n := 25) (by rw [H.1]; rfl) (by decide) hi c
theorem x_aI_0_5 {h : PH} (H : OKX h) {i : Int32} {I : Int} (hi : i = Z3 I) (c : 0 ≤ I ∧ I < 25) : aI h 105 0 i = some (Z3 (rd h 105 I)) ∧ r3 (rd h 105 I) := aI_rd (t := 0) (n := 25) (by rw [H.1]; rfl) (by decide) hi c
theorem x_aI_0_7 {h : PH} (H : OKX h) {i : Int32} {I : Int} (hi : i = Z3 I) (c : 0 ≤ I ∧ I < 29) : aI h 106 0 i = some (Z3 (rd h 106 I)) ∧ r3 (rd h 106 I) := aI_rd (t := 0) (n := 29) (by rw [H.1]; rfl) (by decide) hi c
theorem x_aI_0_8 {h : PH} (H : OKX h) {i : Int32} {I : Int} (hi : i = Z3 I) (c : 0 ≤ I ∧ I < 28) : aI h 107 0 i = some (Z3 (rd h 107 I)) ∧ r3 (rd h 107 I) := aI_rd (t := 0) (n := 28) (by rw [H.1]; rfl) (by decide) hi c
theorem x_aI_0_9 {h : PH} (H : OKX h) {i : Int32} {I : Int} (hi : i = Z3 I) (c : 0 ≤ I ∧ I < 28) : aI h 108 2 i = some (Z3 (rd h 108 I)) ∧ r3 (rd h 108 I) := aI_rd (t := 2) (n := 28) (by rw [H.1]; rfl) (by decide) hi c
theorem x_aI_1_1 {h : PH} (H : OKX h) {a : Nat} (ha : R1_1 a) {i : Int32} {I : Int} (hi : i = Z3 I) (c : 0 ≤ I ∧ I < 5) : aI h a 0 i = some (Z3 (rd h a I)) ∧ r3 (rd h a I) := aI_rd (t := 0) (n := 5) (by rw [H.1]; rcases ha with rfl | rfl <;> rfl) (by decide) hi c
theorem x_aI_1_2 {h : PH} (H : OKX h) {a : Nat} (ha : R1_2 a) {i : Int32} {I : Int} (hi : i = Z3 I) (c : 0 ≤ I ∧ I < 5) : aI h a 0 i = some (Z3 (rd h a I)) ∧ r3 (rd h a I) := aI_rd (t := 0) (n := 5) (by rw [H.1]; rcases ha with rfl | rfl <;> rfl) (by decide) hi c
theorem x_aI_1_4 {h : PH} (H : OKX h) {a : Nat} (ha : R1_4 a) {i : Int32} {I : Int} (hi : i = Z3 I) (c : 0 ≤ I ∧ I < 5) : aI h a 0 i = some (Z3 (rd h a I)) ∧ r3 (rd h a I) := aI_rd (t := 0) (n := 5) (by rw [H.1]; rcases ha with rfl | rfl <;> rfl) (by decide) hi c
theorem x_aI_1_6 {h : PH} (H : OKX h) {a : Nat} (ha : R1_6 a) {i : Int32} {I : Int} (hi : i = Z3 I) (c : 0 ≤ I ∧ I < 5) : aI h a 0 i = some (Z3 (rd h a I)) ∧ r3 (rd h a I) := aI_rd (t := 0) (n := 5) (by rw [H.1]; rcases ha with rfl | rfl <;> rfl) (by decide) hi c
theorem x_aI_10_2 {h : PH} (H : OKX h) {a : Nat} (ha : R10_2 a) {i : Int32} {I : Int} (hi : i = Z3 I) (c : 0 ≤ I ∧ I < 4) : aI h a 0 i = some (Z3 (rd h a I)) ∧ r3 (rd h a I) := aI_rd (t := 0) (n := 4) (by rw [H.1]; rcases ha with rfl | rfl <;> rfl) (by decide) hi c
theorem x_aI_10_3 {h : PH} (H : OKX h) {a : Nat} (ha : R10_3 a) {i : Int32} {I : Int} (hi : i = Z3 I) (c : 0 ≤ I ∧ I < 4) : aI h a 0 i = some (Z3 (rd h a I)) ∧ r3 (rd h a I) := aI_rd (t := 0) (n := 4) (by rw [H.1]; rcases ha with rfl | rfl <;> rfl) (by decide) hi c
theorem x_aI_10_4 {h : PH} (H : OKX h) {a : Nat} (ha : R10_4 a) {i : Int32} {I : Int} (hi : i = Z3 I) (c : 0 ≤ I ∧ I < 28) : aI h a 0 i = some (Z3 (rd h a I)) ∧ r3 (rd h a I) := aI_rd (t := 0) (n := 28) (by rw [H.1]; rcases ha with rfl | rfl <;> rfl) (by decide) hi c
theorem x_aI_10_5 {h : PH} (H : OKX h) {a : Nat} (ha : R10_5 a) {i : Int32} {I : Int} (hi : i = Z3 I) (c : 0 ≤ I ∧ I < 28) : aI h a 0 i = some (Z3 (rd h a I)) ∧ r3 (rd h a I) := aI_rd (t := 0) (n := 28) (by rw [H.1]; rcases ha with rfl | rfl <;> rfl) (by decide) hi c
theorem x_aI_10_6 {h : PH} (H : OKX h) {a : Nat} (ha : R10_6 a) {i : Int32} {I : Int} (hi : i = Z3 I) (c : 0 ≤ I ∧ I < 28) : aI h a 0 i = some (Z3 (rd h a I)) ∧ r3 (rd h a I) := aI_rd (t := 0) (n := 28) (by rw [H.1]; rcases ha with rfl | rfl <;> rfl) (by decide) hi c
theorem x_aI_10_7 {h : PH} (H : OKX h) {a : Nat} (ha : R10_7 a) {i : Int32} {I : Int} (hi : i = Z3 I) (c : 0 ≤ I ∧ I < 28) : aI h a 0 i = some (Z3 (rd h a I)) ∧ r3 (rd h a I) := aI_rd (t := 0) (n := 28) (by rw [H.1]; rcases ha with rfl | rfl <;> rfl) (by decide) hi c
theorem m_aI_12_0 {h : PH} (H : OKM h) {i : Int32} {I : Int} (hi : i = Z3 I) (c : 0 ≤ I ∧ I < 700) : aI h 1 0 i = some (Z3 (rd h 1 I)) ∧ r3 (rd h 1 I) := aI_rd (t := 0) (n := 700) (by rw [H]; rfl) (by decide) hi c
theorem m_aI_12_25 {h : PH} (H : OKM h) {i : Int32} {I : Int} (hi : i = Z3 I) (c : 0 ≤ I ∧ I < 5) : aI h 3 2 i = some (Z3 (rd h 3 I)) ∧ r3 (rd h 3 I) := aI_rd (t := 2) (n := 5) (by rw [H]; rfl) (by decide) hi c
theorem m_aI_12_26 {h : PH} (H : OKM h) {i : Int32} {I : Int} (hi : i = Z3 I) (c : 0 ≤ I ∧ I < 14) : aI h 4 0 i = some (Z3 (rd h 4 I)) ∧ r3 (rd h 4 I) := aI_rd (t := 0) (n := 14) (by rw [H]; rfl) (by decide) hi c
theorem m_aI_12_27 {h : PH} (H : OKM h) {i : Int32} {I : Int} (hi : i = Z3 I) (c : 0 ≤ I ∧ I < 10) : aI h 5 0 i = some (Z3 (rd h 5 I)) ∧ r3 (rd h 5 I) := aI_rd (t := 0) (n := 10) (by rw [H]; rfl) (by decide) hi c
theorem m_aI_12_28 {h : PH} (H : OKM h) {i : Int32} {I : Int} (hi : i = Z3 I) (c : 0 ≤ I ∧ I < 10) : aI h 6 0 i = some (Z3 (rd h 6 I)) ∧ r3 (rd h 6 I) := aI_rd (t := 0) (n := 10) (by rw [H]; rfl) (by decide) hi c
theorem m_aI_12_29 {h : PH} (H : OKM h) {i : Int32} {I : Int} (hi : i = Z3 I) (c : 0 ≤ I ∧ I < 10) : aI h 7 0 i = some (Z3 (rd h 7 I)) ∧ r3 (rd h 7 I) := aI_rd (t := 0) (n := 10) (by rw [H]; rfl) (by decide) hi c
theorem m_aI_12_3 {h : PH} (H : OKM h) {i : Int32} {I : Int} (hi : i = Z3 I) (c : 0 ≤ I ∧ I < 120) : aI h 2 0 i = some (Z3 (rd h 2 I)) ∧ r3 (rd h 2 I) := aI_rd (t := 0) (n := 120) (by rw [H]; rfl) (by decide) hi c
theorem m_aI_12_30 {h : PH} (H : OKM h) {i : Int32} {I : Int} (hi : i = Z3 I) (c : 0 ≤ I ∧ I < 10) : aI h 8 0 i = some (Z3 (rd h 8 I)) ∧ r3 (rd h 8 I) := aI_rd (t := 0) (n := 10) (by rw [H]; rfl) (by decide) hi c
theorem m_aI_12_31 {h : PH} (H : OKM h) {i : Int32} {I : Int} (hi : i = Z3 I) (c : 0 ≤ I ∧ I < 10) : aI h 9 0 i = some (Z3 (rd h 9 I)) ∧ r3 (rd h 9 I) := aI_rd (t := 0) (n := 10) (by rw [H]; rfl) (by decide) hi c
theorem m_aI_12_32 {h : PH} (H : OKM h) {i : Int32} {I : Int} (hi : i = Z3 I) (c : 0 ≤ I ∧ I < 10) : aI h 10 0 i = some (Z3 (rd h 10 I)) ∧ r3 (rd h 10 I) := aI_rd (t := 0) (n := 10) (by rw [H]; rfl) (by decide) hi c
theorem m_aI_12_33 {h : PH} (H : OKM h) {i : Int32} {I : Int} (hi : i = Z3 I) (c : 0 ≤ I ∧ I < 8) : aI h 11 0 i = some (Z3 (rd h 11 I)) ∧ r3 (rd h 11 I) := aI_rd (t := 0) (n := 8) (by rw [H]; rfl) (by decide) hi c
theorem m_aI_12_34 {h : PH} (H : OKM h) {i : Int32} {I : Int} (hi : i = Z3 I) (c : 0 ≤ I ∧ I < 56) : aI h 12 0 i = some (Z3 (rd h 12 I)) ∧ r3 (rd h 12 I) := aI_rd (t := 0) (n := 56) (by rw [H]; rfl) (by decide) hi c
theorem m_aI_12_35 {h : PH} (H : OKM h) {i : Int32} {I : Int} (hi : i = Z3 I) (c : 0 ≤ I ∧ I < 56) : aI h 13 0 i = some (Z3 (rd h 13 I)) ∧ r3 (rd h 13 I) := aI_rd (t := 0) (n := 56) (by rw [H]; rfl) (by decide) hi c
theorem m_aI_12_36 {h : PH} (H : OKM h) {i : Int32} {I : Int} (hi : i = Z3 I) (c : 0 ≤ I ∧ I < 56) : aI h 14 0 i = some (Z3 (rd h 14 I)) ∧ r3 (rd h 14 I) := aI_rd (t := 0) (n := 56) (by rw [H]; rfl) (by decide) hi c
theorem m_aI_12_37 {h : PH} (H : OKM h) {i : Int32} {I : Int} (hi : i = Z3 I) (c : 0 ≤ I ∧ I < 6) : aI h 15 2 i = some (Z3 (rd h 15 I)) ∧ r3 (rd h 15 I) := aI_rd (t := 2) (n := 6) (by rw [H]; rfl) (by decide) hi c
theorem m_aI_12_38 {h : PH} (H : OKM h) {i : Int32} {I : Int} (hi : i = Z3 I) (c : 0 ≤ I ∧ I < 6) : aI h 16 0 i = some (Z3 (rd h 16 I)) ∧ r3 (rd h 16 I) := aI_rd (t := 0) (n := 6) (by rw [H]; rfl) (by decide) hi c
theorem m_aI_12_39 {h : PH} (H : OKM h) {i : Int32} {I : Int} (hi : i = Z3 I) (c : 0 ≤ I ∧ I < 6) : aI h 17 0 i = some (Z3 (rd h 17 I)) ∧ r3 (rd h 17 I) := aI_rd (t := 0) (n := 6) (by rw [H]; rfl) (by decide) hi c
theorem m_aI_12_40 {h : PH} (H : OKM h) {i : Int32} {I : Int} (hi : i = Z3 I) (c : 0 ≤ I ∧ I < 128) : aI h 18 0 i = some (Z3 (rd h 18 I)) ∧ r3 (rd h 18 I) := aI_rd (t := 0) (n := 128) (by rw [H]; rfl) (by decide) hi c
theorem m_aI_12_41 {h : PH} (H : OKM h) {i : Int32} {I : Int} (hi : i = Z3 I) (c : 0 ≤ I ∧ I < 128) : aI h 19 0 i = some (Z3 (rd h 19 I)) ∧ r3 (rd h 19 I) := aI_rd (t := 0) (n := 128) (by rw [H]; rfl) (by decide) hi c
theorem m_aI_12_42 {h : PH} (H : OKM h) {i : Int32} {I : Int} (hi : i = Z3 I) (c : 0 ≤ I ∧ I < 128) : aI h 20 0 i = some (Z3 (rd h 20 I)) ∧ r3 (rd h 20 I) := aI_rd (t := 0) (n := 128) (by rw [H]; rfl) (by decide) hi c
theorem m_aI_12_44 {h : PH} (H : OKM h) {i : Int32} {I : Int} (hi : i = Z3 I) (c : 0 ≤ I ∧ I < 96) : aI h 21 0 i = some (Z3 (rd h 21 I)) ∧ r3 (rd h 21 I) := aI_rd (t := 0) (n := 96) (by rw [H]; rfl) (by decide) hi c
theorem m_aI_12_45 {h : PH} (H : OKM h) {i : Int32} {I : Int} (hi : i = Z3 I) (c : 0 ≤ I ∧ I < 96) : aI h 22 0 i = some (Z3 (rd h 22 I)) ∧ r3 (rd h 22 I) := aI_rd (t := 0) (n := 96) (by rw [H]; rfl) (by decide) hi c
theorem m_aI_12_55 {h : PH} (H : OKM h) {i : Int32} {I : Int} (hi : i = Z3 I) (c : 0 ≤ I ∧ I < 10) : aI h 25 0 i = some (Z3 (rd h 25 I)) ∧ r3 (rd h 25 I) := aI_rd (t := 0) (n := 10) (by rw [H]; rfl) (by decide) hi c
theorem m_aI_12_56 {h : PH} (H : OKM h) {i : Int32} {I : Int} (hi : i = Z3 I) (c : 0 ≤ I ∧ I < 10) : aI h 26 0 i = some (Z3 (rd h 26 I)) ∧ r3 (rd h 26 I) := aI_rd (t := 0) (n := 10) (by rw [H]; rfl) (by decide) hi c
theorem m_aI_12_57 {h : PH} (H : OKM h) {i : Int32} {I : Int} (hi : i = Z3 I) (c : 0 ≤ I ∧ I < 10) : aI h 27 0 i = some (Z3 (rd h 27 I)) ∧ r3 (rd h 27 I) := aI_rd (t := 0) (n := 10) (by rw [H]; rfl) (by decide) hi c
theorem m_aI_12_58 {h : PH} (H : OKM h) {i : Int32} {I : Int} (hi : i = Z3 I) (c : 0 ≤ I ∧ I < 10) : aI h 28 0 i = some (Z3 (rd h 28 I)) ∧ r3 (rd h 28 I) := aI_rd (t := 0) (n := 10) (by rw [H]; rfl) (by decide) hi c
theorem m_aI_12_59 {h : PH} (H : OKM h) {i : Int32} {I : Int} (hi : i = Z3 I) (c : 0 ≤ I ∧ I < 5) : aI h 29 0 i = some (Z3 (rd h 29 I)) ∧ r3 (rd h 29 I) := aI_rd (t := 0) (n := 5) (by rw [H]; rfl) (by decide) hi c
theorem m_aI_12_60 {h : PH} (H : OKM h) {i : Int32} {I : Int} (hi : i = Z3 I) (c : 0 ≤ I ∧ I < 56) : aI h 30 0 i = some (Z3 (rd h 30 I)) ∧ r3 (rd h 30 I) := aI_rd (t := 0) (n := 56) (by rw [H]; rfl) (by decide) hi c
theorem m_aI_12_61 {h : PH} (H : OKM h) {i : Int32} {I : Int} (hi : i = Z3 I) (c : 0 ≤ I ∧ I < 2) : aI h 31 0 i = some (Z3 (rd h 31 I)) ∧ r3 (rd h 31 I) := aI_rd (t := 0) (n := 2) (by rw [H]; rfl) (by decide) hi c
theorem m_aI_12_62 {h : PH} (H : OKM h) {i : Int32} {I : Int} (hi : i = Z3 I) (c : 0 ≤ I ∧ I < 2) : aI h 32 0 i = some (Z3 (rd h 32 I)) ∧ r3 (rd h 32 I) := aI_rd (t := 0) (n := 2) (by rw [H]; rfl) (by decide) hi c
theorem m_aI_12_63 {h : PH} (H : OKM h) {i : Int32} {I : Int} (hi : i = Z3 I) (c : 0 ≤ I ∧ I < 2) : aI h 33 0 i = some (Z3 (rd h 33 I)) ∧ r3 (rd h 33 I) := aI_rd (t := 0) (n := 2) (by rw [H]; rfl) (by decide) hi c
theorem m_aI_12_68 {h : PH} (H : OKM h) {i : Int32} {I : Int} (hi : i = Z3 I) (c : 0 ≤ I ∧ I < 5) : aI h 34 0 i = some (Z3 (rd h 34 I)) ∧ r3 (rd h 34 I) := aI_rd (t := 0) (n := 5) (by rw [H]; rfl) (by decide) hi c
theorem m_aI_12_70 {h : PH} (H : OKM h) {i : Int32} {I : Int} (hi : i = Z3 I) (c : 0 ≤ I ∧ I < 25) : aI h 35 0 i = some (Z3 (rd h 35 I)) ∧ r3 (rd h 35 I) := aI_rd (t := 0) (n := 25) (by rw [H]; rfl) (by decide) hi c
theorem m_aI_12_71 {h : PH} (H : OKM h) {i : Int32} {I : Int} (hi : i = Z3 I) (c : 0 ≤ I ∧ I < 25) : aI h 36 0 i = some (Z3 (rd h 36 I)) ∧ r3 (rd h 36 I) := aI_rd (t := 0) (n := 25) (by rw [H]; rfl) (by decide) hi c
theorem m_aI_12_72 {h : PH} (H : OKM h) {i : Int32} {I : Int} (hi : i = Z3 I) (c : 0 ≤ I ∧ I < 29) : aI h 37 0 i = some (Z3 (rd h 37 I)) ∧ r3 (rd h 37 I) := aI_rd (t := 0) (n := 29) (by rw [H]; rfl) (by decide) hi c
theorem m_aI_12_73 {h : PH} (H : OKM h) {i : Int32} {I : Int} (hi : i = Z3 I) (c : 0 ≤ I ∧ I < 28) : aI h 38 0 i = some (Z3 (rd h 38 I)) ∧ r3 (rd h 38 I) := aI_rd (t := 0) (n := 28) (by rw [H]; rfl) (by decide) hi c
theorem m_aI_12_76 {h : PH} (H : OKM h) {i : Int32} {I : Int} (hi : i = Z3 I) (c : 0 ≤ I ∧ I < 72) : aI h 39 0 i = some (Z3 (rd h 39 I)) ∧ r3 (rd h 39 I) := aI_rd (t := 0) (n := 72) (by rw [H]; rfl) (by decide) hi c
theorem m_aI_12_77 {h : PH} (H : OKM h) {i : Int32} {I : Int} (hi : i = Z3 I) (c : 0 ≤ I ∧ I < 24) : aI h 40 2 i = some (Z3 (rd h 40 I)) ∧ r3 (rd h 40 I) := aI_rd (t := 2) (n := 24) (by rw [H]; rfl) (by decide) hi c
theorem m_aI_12_79 {h : PH} (H : OKM h) {i : Int32} {I : Int} (hi : i = Z3 I) (c : 0 ≤ I ∧ I < 220) : aI h 41 0 i = some (Z3 (rd h 41 I)) ∧ r3 (rd h 41 I) := aI_rd (t := 0) (n := 220) (by rw [H]; rfl) (by decide) hi c
theorem m_aI_12_81 {h : PH} (H : OKM h) {i : Int32} {I : Int} (hi : i = Z3 I) (c : 0 ≤ I ∧ I < 53) : aI h 42 0 i = some (Z3 (rd h 42 I)) ∧ r3 (rd h 42 I) := aI_rd (t := 0) (n := 53) (by rw [H]; rfl) (by decide) hi c
theorem x_aI_2_0 {h : PH} (H : OKX h) {a : Nat} (ha : R2_0 a) {i : Int32} {I : Int} (hi : i = Z3 I) (c : 0 ≤ I ∧ I < 64) : aI h a 0 i = some (Z3 (rd h a I)) ∧ r3 (rd h a I) := aI_rd (t := 0) (n := 64) (by rw [H.1]; rcases ha with rfl | rfl | rfl | rfl | rfl | rfl <;> rfl) (by decide) hi c
theorem x_aI_3_2 {h : PH} (H : OKX h) {i : Int32} {I : Int} (hi : i = Z3 I) (c : 0 ≤ I ∧ I < 24) : aI h 91 0 i = some (Z3 (rd h 91 I)) ∧ r3 (rd h 91 I) := aI_rd (t := 0) (n := 24) (by rw [H.1]; rfl) (by decide) hi c
theorem x_aI_3_3 {h : PH} (H : OKX h) {i : Int32} {I : Int} (hi : i = Z3 I) (c : 0 ≤ I ∧ I < 24) : aI h 92 0 i = some (Z3 (rd h 92 I)) ∧ r3 (rd h 92 I) := aI_rd (t := 0) (n := 24) (by rw [H.1]; rfl) (by decide) hi c
theorem x_aI_3_4 {h : PH} (H : OKX h) {i : Int32} {I : Int} (hi : i = Z3 I) (c : 0 ≤ I ∧ I < 24) : aI h 93 0 i = some (Z3 (rd h 93 I)) ∧ r3 (rd h 93 I) := aI_rd (t := 0) (n := 24) (by rw [H.1]; rfl) (by decide) hi c
theorem x_aI_3_5 {h : PH} (H : OKX h) {i : Int32} {I : Int} (hi : i = Z3 I) (c : 0 ≤ I ∧ I < 24) : aI h 94 0 i = some (Z3 (rd h 94 I)) ∧ r3 (rd h 94 I) := aI_rd (t := 0) (n := 24) (by rw [H.1]; rfl) (by decide) hi c
theorem x_aI_3_6 {h : PH} (H : OKX h) {i : Int32} {I : Int} (hi : i = Z3 I) (c : 0 ≤ I ∧ I < 24) : aI h 95 2 i = some (Z3 (rd h 95 I)) ∧ r3 (rd h 95 I) := aI_rd (t := 2) (n := 24) (by rw [H.1]; rfl) (by decide) hi c
theorem x_aI_4_10 {h : PH} (H : OKX h) {a : Nat} (ha : R4_10 a) {i : Int32} {I : Int} (hi : i = Z3 I) (c : 0 ≤ I ∧ I < 28) : aI h a 0 i = some (Z3 (rd h a I)) ∧ r3 (rd h a I) := aI_rd (t := 0) (n := 28) (by rw [H.1]; rcases ha with rfl | rfl | rfl <;> rfl) (by decide) hi c
theorem x_aI_4_5 {h : PH} (H : OKX h) {a : Nat} (ha : R4_5 a) {i : Int32} {I : Int} (hi : i = Z3 I) (c : 0 ≤ I ∧ I < 5) : aI h a 0 i = some (Z3 (rd h a I)) ∧ r3 (rd h a I) := aI_rd (t := 0) (n := 5) (by rw [H.1]; rcases ha with rfl | rfl | rfl <;> rfl) (by decide) hi c
theorem x_aI_4_6 {h : PH} (H : OKX h) {a : Nat} (ha : R4_6 a) {i : Int32} {I : Int} (hi : i = Z3 I) (c : 0 ≤ I ∧ I < 5) : aI h a 0 i = some (Z3 (rd h a I)) ∧ r3 (rd h a I) := aI_rd (t := 0) (n := 5) (by rw [H.1]; rcases ha with rfl | rfl | rfl <;> rfl) (by decide) hi c
theorem x_aI_4_7 {h : PH} (H : OKX h) {a : Nat} (ha : R4_7 a) {i : Int32} {I : Int} (hi : i = Z3 I) (c : 0 ≤ I ∧ I < 5) : aI h a 0 i = some (Z3 (rd h a I)) ∧ r3 (rd h a I) := aI_rd (t := 0) (n := 5) (by rw [H.1]; rcases ha with rfl | rfl | rfl <;> rfl) (by decide) hi c
theorem x_aI_4_8 {h : PH} (H : OKX h) {a : Nat} (ha : R4_8 a) {i : Int32} {I : Int} (hi : i = Z3 I) (c : 0 ≤ I ∧ I < 5) : aI h a 0 i = some (Z3 (rd h a I)) ∧ r3 (rd h a I) := aI_rd (t := 0) (n := 5) (by rw [H.1]; rcases ha with rfl | rfl | rfl <;> rfl) (by decide) hi c
theorem x_aI_4_9 {h : PH} (H : OKX h) {a : Nat} (ha : R4_9 a) {i : Int32} {I : Int} (hi : i = Z3 I) (c : 0 ≤ I ∧ I < 5) : aI h a 0 i = some (Z3 (rd h a I)) ∧ r3 (rd h a I) := aI_rd (t := 0) (n := 5) (by rw [H.1]; rcases ha with rfl | rfl | rfl <;> rfl) (by decide) hi c
theorem x_aI_5_1 {h : PH} (H : OKX h) {i : Int32} {I : Int} (hi : i = Z3 I) (c : 0 ≤ I ∧ I < 72) : aI h 50 0 i = some (Z3 (rd h 50 I)) ∧ r3 (rd h 50 I) := aI_rd (t := 0) (n := 72) (by rw [H.1]; rfl) (by decide) hi c
theorem x_aI_6_1 {h : PH} (H : OKX h) {a : Nat} (ha : R6_1 a) {i : Int32} {I : Int} (hi : i = Z3 I) (c : 0 ≤ I ∧ I < 5) : aI h a 0 i = some (Z3 (rd h a I)) ∧ r3 (rd h a I) := aI_rd (t := 0) (n := 5) (by rw [H.1]; rcases ha with rfl | rfl <;> rfl) (by decide) hi c
theorem x_aI_6_2 {h : PH} (H : OKX h) {a : Nat} (ha : R6_2 a) {i : Int32} {I : Int} (hi : i = Z3 I) (c : 0 ≤ I ∧ I < 5) : aI h a 0 i = some (Z3 (rd h a I)) ∧ r3 (rd h a I) := aI_rd (t := 0) (n := 5) (by rw [H.1]; rcases ha with rfl | rfl <;> rfl) (by decide) hi c
theorem x_aI_6_3 {h : PH} (H : OKX h) {a : Nat} (ha : R6_3 a) {i : Int32} {I : Int} (hi : i = Z3 I) (c : 0 ≤ I ∧ I < 28) : aI h a 0 i = some (Z3 (rd h a I)) ∧ r3 (rd h a I) := aI_rd (t := 0) (n := 28) (by rw [H.1]; rcases ha with rfl | rfl <;> rfl) (by decide) hi c
theorem x_aI_6_6 {h : PH} (H : OKX h) {a : Nat} (ha : R6_6 a) {i : Int32} {I : Int} (hi : i = Z3 I) (c : 0 ≤ I ∧ I < 5) : aI h a 0 i = some (Z3 (rd h a I)) ∧ r3 (rd h a I) := aI_rd (t := 0) (n := 5) (by rw [H.1]; rcases ha with rfl | rfl <;> rfl) (by decide) hi c
theorem x_aI_6_7 {h : PH} (H : OKX h) {a : Nat} (ha : R6_7 a) {i : Int32} {I : Int} (hi : i = Z3 I) (c : 0 ≤ I ∧ I < 5) : aI h a 0 i = some (Z3 (rd h a I)) ∧ r3 (rd h a I) := aI_rd (t := 0) (n := 5) (by rw [H.1]; rcases ha with rfl | rfl <;> rfl) (by decide) hi c
theorem x_aI_6_8 {h : PH} (H : OKX h) {a : Nat} (ha : R6_8 a) {i : Int32} {I : Int} (hi : i = Z3 I) (c : 0 ≤ I ∧ I < 5) : aI h a 0 i = some (Z3 (rd h a I)) ∧ r3 (rd h a I) := aI_rd (t := 0) (n := 5) (by rw [H.1]; rcases ha with rfl | rfl <;> rfl) (by decide) hi c
theorem x_aI_7_0 {h : PH} (H : OKX h) {i : Int32} {I : Int} (hi : i = Z3 I) (c : 0 ≤ I ∧ I < 24) : aI h 48 0 i = some (Z3 (rd h 48 I)) ∧ r3 (rd h 48 I) := aI_rd (t := 0) (n := 24) (by rw [H.1]; rfl) (by decide) hi c
theorem x_aI_9_1 {h : PH} (H : OKX h) {i : Int32} {I : Int} (hi : i = Z3 I) (c : 0 ≤ I ∧ I < 20) : aI h 97 0 i = some (Z3 (rd h 97 I)) ∧ r3 (rd h 97 I) := aI_rd (t := 0) (n := 20) (by rw [H.1]; rfl) (by decide) hi c
theorem x_aI_9_2 {h : PH} (H : OKX h) {i : Int32} {I : Int} (hi : i = Z3 I) (c : 0 ≤ I ∧ I < 20) : aI h 98 0 i = some (Z3 (rd h 98 I)) ∧ r3 (rd h 98 I) := aI_rd (t := 0) (n := 20) (by rw [H.1]; rfl) (by decide) hi c
theorem m_aJ_12_52 {h : PH} (H : OKM h) {i : Int32} {I : Int} (hi : i = Z3 I) (c : 0 ≤ I ∧ I < 6) : aJ h 23 i = some (Z6 (rd h 23 I)) ∧ r6 (rd h 23 I) := aJ_rd (n := 6) (by rw [H]; rfl) (by decide) hi c
theorem m_aJ_12_53 {h : PH} (H : OKM h) {i : Int32} {I : Int} (hi : i = Z3 I) (c : 0 ≤ I ∧ I < 64) : aJ h 24 i = some (Z6 (rd h 24 I)) ∧ r6 (rd h 24 I) := aJ_rd (n := 64) (by rw [H]; rfl) (by decide) hi c
theorem x_aJ_6_4 {h : PH} (H : OKX h) {a : Nat} (ha : R6_4 a) {i : Int32} {I : Int} (hi : i = Z3 I) (c : 0 ≤ I ∧ I < 6) : aJ h a i = some (Z6 (rd h a I)) ∧ r6 (rd h a I) := aJ_rd (n := 6) (by rw [H.1]; rcases ha with rfl | rfl <;> rfl) (by decide) hi c
theorem x_aJ_6_5 {h : PH} (H : OKX h) {a : Nat} (ha : R6_5 a) {i : Int32} {I : Int} (hi : i = Z3 I) (c : 0 ≤ I ∧ I < 64) : aJ h a i = some (Z6 (rd h a I)) ∧ r6 (rd h a I) := aJ_rd (n := 64) (by rw [H.1]; rcases ha with rfl | rfl <;> rfl) (by decide) hi c
theorem x_aL_11_0 {h : PH} (H : OKX h) : aL h 1 = some (Z3 700) := aL_rd (t := 1) (n := 700) (by rw [H.1]; rfl) (by decide)
theorem m_aL_12_3 {h : PH} (H : OKM h) : aL h 2 = some (Z3 120) := aL_rd (t := 0) (n := 120) (by rw [H]; rfl) (by decide)
theorem x_aL_2_0 {h : PH} (H : OKX h) {a : Nat} (ha : R2_0 a) : aL h a = some (Z3 64) := aL_rd (t := 0) (n := 64) (by rw [H.1]; rcases ha with rfl | rfl | rfl | rfl | rfl | rfl <;> rfl) (by decide)
theorem x_aL_5_1 {h : PH} (H : OKX h) : aL h 50 = some (Z3 72) := aL_rd (t := 0) (n := 72) (by rw [H.1]; rfl) (by decide)
theorem x_aL_6_5 {h : PH} (H : OKX h) {a : Nat} (ha : R6_5 a) : aL h a = some (Z3 64) := aL_rdL (t := 3) (n := 64) (by rw [H.1]; rcases ha with rfl | rfl <;> rfl) (by decide)
theorem x_gI_0_11 {h : PH} (H : OKX h) : gI h 99 0 11 = some (Z3 (rd h 99 11)) ∧ r3 (rd h 99 11) := gI_rd (by rw [H.1]; rfl)
theorem x_gI_0_12 {h : PH} (H : OKX h) : gI h 99 0 12 = some (Z3 (rd h 99 12)) ∧ r3 (rd h 99 12) := gI_rd (by rw [H.1]; rfl)
theorem x_gI_0_6 {h : PH} (H : OKX h) : gI h 99 0 6 = some (Z3 (rd h 99 6)) ∧ r3 (rd h 99 6) := gI_rd (by rw [H.1]; rfl)
theorem x_gI_1_0 {h : PH} (H : OKX h) {a : Nat} (ha : A1 a) : gI h a 1 0 = some (Z3 (rd h a 0)) ∧ r3 (rd h a 0) := gI_rd (by rw [H.1]; rcases ha with rfl | rfl <;> rfl)
theorem x_gI_10_0 {h : PH} (H : OKX h) {a : Nat} (ha : A10 a) : gI h a 10 0 = some (Z3 (rd h a 0)) ∧ r3 (rd h a 0) := gI_rd (by rw [H.1]; rcases ha with rfl | rfl <;> rfl)
theorem x_gI_10_1 {h : PH} (H : OKX h) {a : Nat} (ha : A10 a) : gI h a 10 1 = some (Z3 (rd h a 1)) ∧ r3 (rd h a 1) := gI_rd (by rw [H.1]; rcases ha with rfl | rfl <;> rfl)
theorem x_gI_11_1 {h : PH} (H : OKX h) : gI h 0 11 1 = some (Z3 (rd h 0 1)) ∧ r3 (rd h 0 1) := gI_rd (by rw [H.1]; rfl)
theorem x_gI_11_10 {h : PH} (H : OKX h) : gI h 0 11 10 = some (Z3 (rd h 0 10)) ∧ r3 (rd h 0 10) := gI_rd (by rw [H.1]; rfl)
theorem m_gI_12_1 {h : PH} (H : OKM h) : gI h 0 12 1 = some (Z3 (rd h 0 1)) ∧ r3 (rd h 0 1) := gI_rd (by rw [H]; rfl)
theorem m_gI_12_10 {h : PH} (H : OKM h) : gI h 0 12 10 = some (Z3 (rd h 0 10)) ∧ r3 (rd h 0 10) := gI_rd (by rw [H]; rfl)
theorem m_gI_12_11 {h : PH} (H : OKM h) : gI h 0 12 11 = some (Z3 (rd h 0 11)) ∧ r3 (rd h 0 11) := gI_rd (by rw [H]; rfl)
theorem m_gI_12_12 {h : PH} (H : OKM h) : gI h 0 12 12 = some (Z3 (rd h 0 12)) ∧ r3 (rd h 0 12) := gI_rd (by rw [H]; rfl)
theorem m_gI_12_13 {h : PH} (H : OKM h) : gI h 0 12 13 = some (Z3 (rd h 0 13)) ∧ r3 (rd h 0 13) := gI_rd (by rw [H]; rfl)
theorem m_gI_12_14 {h : PH} (H : OKM h) : gI h 0 12 14 = some (Z3 (rd h 0 14)) ∧ r3 (rd h 0 14) := gI_rd (by rw [H]; rfl)
theorem m_gI_12_15 {h : PH} (H : OKM h) : gI h 0 12 15 = some (Z3 (rd h 0 15)) ∧ r3 (rd h 0 15) := gI_rd (by rw [H]; rfl)
theorem m_gI_12_16 {h : PH} (H : OKM h) : gI h 0 12 16 = some (Z3 (rd h 0 16)) ∧ r3 (rd h 0 16) := gI_rd (by rw [H]; rfl)
theorem m_gI_12_17 {h : PH} (H : OKM h) : gI h 0 12 17 = some (Z3 (rd h 0 17)) ∧ r3 (rd h 0 17) := gI_rd (by rw [H]; rfl)
theorem m_gI_12_18 {h : PH} (H : OKM h) : gI h 0 12 18 = some (Z3 (rd h 0 18)) ∧ r3 (rd h 0 18) := gI_rd (by rw [H]; rfl)
theorem m_gI_12_19 {h : PH} (H : OKM h) : gI h 0 12 19 = some (Z3 (rd h 0 19)) ∧ r3 (rd h 0 19) := gI_rd (by rw [H]; rfl)
theorem m_gI_12_20 {h : PH} (H : OKM h) : gI h 0 12 20 = some (Z3 (rd h 0 20)) ∧ r3 (rd h 0 20) := gI_rd (by rw [H]; rfl)
theorem m_gI_12_21 {h : PH} (H : OKM h) : gI h 0 12 21 = some (Z3 (rd h 0 21)) ∧ r3 (rd h 0 21) := gI_rd (by rw [H]; rfl)
theorem m_gI_12_22 {h : PH} (H : OKM h) : gI h 0 12 22 = some (Z3 (rd h 0 22)) ∧ r3 (rd h 0 22) := gI_rd (by rw [H]; rfl)
theorem m_gI_12_23 {h : PH} (H : OKM h) : gI h 0 12 23 = some (Z3 (rd h 0 23)) ∧ r3 (rd h 0 23) := gI_rd (by rw [H]; rfl)
theorem m_gI_12_24 {h : PH} (H : OKM h) : gI h 0 12 24 = some (Z3 (rd h 0 24)) ∧ r3 (rd h 0 24) := gI_rd (by rw [H]; rfl)
theorem m_gI_12_4 {h : PH} (H : OKM h) : gI h 0 12 4 = some (Z3 (rd h 0 4)) ∧ r3 (rd h 0 4) := gI_rd (by rw [H]; rfl)
theorem m_gI_12_43 {h : PH} (H : OKM h) : gI h 0 12 43 = some (Z3 (rd h 0 43)) ∧ r3 (rd h 0 43) := gI_rd (by rw [H]; rfl)
theorem m_gI_12_46 {h : PH} (H : OKM h) : gI h 0 12 46 = some (Z3 (rd h 0 46)) ∧ r3 (rd h 0 46) := gI_rd (by rw [H]; rfl)
theorem m_gI_12_47 {h : PH} (H : OKM h) : gI h 0 12 47 = some (Z3 (rd h 0 47)) ∧ r3 (rd h 0 47) := gI_rd (by rw [H]; rfl)
theorem m_gI_12_48 {h : PH} (H : OKM h) : gI h 0 12 48 = some (Z3 (rd h 0 48)) ∧ r3 (rd h 0 48) := gI_rd (by rw [H]; rfl)
theorem m_gI_12_49 {h : PH} (H : OKM h) : gI h 0 12 49 = some (Z3 (rd h 0 49)) ∧ r3 (rd h 0 49) := gI_rd (by rw [H]; rfl)
theorem m_gI_12_5 {h : PH} (H : OKM h) : gI h 0 12 5 = some (Z3 (rd h 0 5)) ∧ r3 (rd h 0 5) := gI_rd (by rw [H]; rfl)
theorem m_gI_12_50 {h : PH} (H : OKM h) : gI h 0 12 50 = some (Z3 (rd h 0 50)) ∧ r3 (rd h 0 50) := gI_rd (by rw [H]; rfl)
theorem m_gI_12_51 {h : PH} (H : OKM h) : gI h 0 12 51 = some (Z3 (rd h 0 51)) ∧ r3 (rd h 0 51) := gI_rd (by rw [H]; rfl)
theorem m_gI_12_54 {h : PH} (H : OKM h) : gI h 0 12 54 = some (Z3 (rd h 0 54)) ∧ r3 (rd h 0 54) := gI_rd (by rw [H]; rfl)
theorem m_gI_12_6 {h : PH} (H : OKM h) : gI h 0 12 6 = some (Z3 (rd h 0 6)) ∧ r3 (rd h 0 6) := gI_rd (by rw [H]; rfl)
theorem m_gI_12_64 {h : PH} (H : OKM h) : gI h 0 12 64 = some (Z3 (rd h 0 64)) ∧ r3 (rd h 0 64) := gI_rd (by rw [H]; rfl)
theorem m_gI_12_66 {h : PH} (H : OKM h) : gI h 0 12 66 = some (Z3 (rd h 0 66)) ∧ r3 (rd h 0 66) := gI_rd (by rw [H]; rfl)
theorem m_gI_12_67 {h : PH} (H : OKM h) : gI h 0 12 67 = some (Z3 (rd h 0 67)) ∧ r3 (rd h 0 67) := gI_rd (by rw [H]; rfl)
theorem m_gI_12_69 {h : PH} (H : OKM h) : gI h 0 12 69 = some (Z3 (rd h 0 69)) ∧ r3 (rd h 0 69) := gI_rd (by rw [H]; rfl)
theorem m_gI_12_7 {h : PH} (H : OKM h) : gI h 0 12 7 = some (Z3 (rd h 0 7)) ∧ r3 (rd h 0 7) := gI_rd (by rw [H]; rfl)
theorem m_gI_12_74 {h : PH} (H : OKM h) : gI h 0 12 74 = some (Z3 (rd h 0 74)) ∧ r3 (rd h 0 74) := gI_rd (by rw [H]; rfl)
theorem m_gI_12_75 {h : PH} (H : OKM h) : gI h 0 12 75 = some (Z3 (rd h 0 75)) ∧ r3 (rd h 0 75) := gI_rd (by rw [H]; rfl)
theorem m_gI_12_78 {h : PH} (H : OKM h) : gI h 0 12 78 = some (Z3 (rd h 0 78)) ∧ r3 (rd h 0 78) := gI_rd (by rw [H]; rfl)
theorem m_gI_12_8 {h : PH} (H : OKM h) : gI h 0 12 8 = some (Z3 (rd h 0 8)) ∧ r3 (rd h 0 8) := gI_rd (by rw [H]; rfl)
theorem m_gI_12_80 {h : PH} (H : OKM h) : gI h 0 12 80 = some (Z3 (rd h 0 80)) ∧ r3 (rd h 0 80) := gI_rd (by rw [H]; rfl)
theorem m_gI_12_82 {h : PH} (H : OKM h) : gI h 0 12 82 = some (Z3 (rd h 0 82)) ∧ r3 (rd h 0 82) := gI_rd (by rw [H]; rfl)
theorem m_gI_12_83 {h : PH} (H : OKM h) : gI h 0 12 83 = some (Z3 (rd h 0 83)) ∧ r3 (rd h 0 83) := gI_rd (by rw [H]; rfl)
theorem m_gI_12_84 {h : PH} (H : OKM h) : gI h 0 12 84 = some (Z3 (rd h 0 84)) ∧ r3 (rd h 0 84) := gI_rd (by rw [H]; rfl)
theorem m_gI_12_85 {h : PH} (H : OKM h) : gI h 0 12 85 = some (Z3 (rd h 0 85)) ∧ r3 (rd h 0 85) := gI_rd (by rw [H]; rfl)
theorem m_gI_12_9 {h : PH} (H : OKM h) : gI h 0 12 9 = some (Z3 (rd h 0 9)) ∧ r3 (rd h 0 9) := gI_rd (by rw [H]; rfl)
theorem x_gI_2_1 {h : PH} (H : OKX h) {a : Nat} (ha : A2 a) : gI h a 2 1 = some (Z3 (rd h a 1)) ∧ r3 (rd h a 1) := gI_rd (by rw [H.1]; rcases ha with rfl | rfl | rfl | rfl | rfl | rfl <;> rfl)
theorem x_gI_2_2 {h : PH} (H : OKX h) {a : Nat} (ha : A2 a) : gI h a 2 2 = some (Z3 (rd h a 2)) ∧ r3 (rd h a 2) := gI_rd (by rw [H.1]; rcases ha with rfl | rfl | rfl | rfl | rfl | rfl <;> rfl)
theorem x_gI_3_0 {h : PH} (H : OKX h) : gI h 90 3 0 = some (Z3 (rd h 90 0)) ∧ r3 (rd h 90 0) := gI_rd (by rw [H.1]; rfl)
theorem x_gI_3_1 {h : PH} (H : OKX h) : gI h 90 3 1 = some (Z3 (rd h 90 1)) ∧ r3 (rd h 90 1) := gI_rd (by rw [H.1]; rfl)
theorem x_gI_4_0 {h : PH} (H : OKX h) {a : Nat} (ha : A4 a) : gI h a 4 0 = some (Z3 (rd h a 0)) ∧ r3 (rd h a 0) := gI_rd (by rw [H.1]; rcases ha with rfl | rfl | rfl <;> rfl)
theorem x_gI_4_1 {h : PH} (H : OKX h) {a : Nat} (ha : A4 a) : gI h a 4 1 = some (Z3 (rd h a 1)) ∧ r3 (rd h a 1) := gI_rd (by rw [H.1]; rcases ha with rfl | rfl | rfl <;> rfl)
theorem x_gI_4_2 {h : PH} (H : OKX h) {a : Nat} (ha : A4 a) : gI h a 4 2 = some (Z3 (rd h a 2)) ∧ r3 (rd h a 2) := gI_rd (by rw [H.1]; rcases ha with rfl | rfl | rfl <;> rfl)
theorem x_gI_4_3 {h : PH} (H : OKX h) {a : Nat} (ha : A4 a) : gI h a 4 3 = some (Z3 (rd h a 3)) ∧ r3 (rd h a 3) := gI_rd (by rw [H.1]; rcases ha with rfl | rfl | rfl <;> rfl)
theorem x_gI_4_4 {h : PH} (H : OKX h) {a : Nat} (ha : A4 a) : gI h a 4 4 = some (Z3 (rd h a 4)) ∧ r3 (rd h a 4) := gI_rd (by rw [H.1]; rcases ha with rfl | rfl | rfl <;> rfl)
theorem x_gI_5_2 {h : PH} (H : OKX h) : gI h 46 5 2 = some (Z3 (rd h 46 2)) ∧ r3 (rd h 46 2) := gI_rd (by rw [H.1]; rfl)
theorem x_gI_5_3 {h : PH} (H : OKX h) : gI h 46 5 3 = some (Z3 (rd h 46 3)) ∧ r3 (rd h 46 3) := gI_rd (by rw [H.1]; rfl)
theorem x_gI_5_4 {h : PH} (H : OKX h) : gI h 46 5 4 = some (Z3 (rd h 46 4)) ∧ r3 (rd h 46 4) := gI_rd (by rw [H.1]; rfl)
theorem x_gI_5_5 {h : PH} (H : OKX h) : gI h 46 5 5 = some (Z3 (rd h 46 5)) ∧ r3 (rd h 46 5) := gI_rd (by rw [H.1]; rfl)
theorem x_gI_5_6 {h : PH} (H : OKX h) : gI h 46 5 6 = some (Z3 (rd h 46 6)) ∧ r3 (rd h 46 6) := gI_rd (by rw [H.1]; rfl)
theorem x_gI_5_7 {h : PH} (H : OKX h) : gI h 46 5 7 = some (Z3 (rd h 46 7)) ∧ r3 (rd h 46 7) := gI_rd (by rw [H.1]; rfl)
theorem x_gI_5_8 {h : PH} (H : OKX h) : gI h 46 5 8 = some (Z3 (rd h 46 8)) ∧ r3 (rd h 46 8) := gI_rd (by rw [H.1]; rfl)
theorem x_gI_5_9 {h : PH} (H : OKX h) : gI h 46 5 9 = some (Z3 (rd h 46 9)) ∧ r3 (rd h 46 9) := gI_rd (by rw [H.1]; rfl)
theorem x_gI_7_2 {h : PH} (H : OKX h) : gI h 47 7 2 = some (Z3 (rd h 47 2)) ∧ r3 (rd h 47 2) := gI_rd (by rw [H.1]; rfl)
theorem x_gI_7_3 {h : PH} (H : OKX h) : gI h 47 7 3 = some (Z3 (rd h 47 3)) ∧ r3 (rd h 47 3) := gI_rd (by rw [H.1]; rfl)
theorem x_gI_7_4 {h : PH} (H : OKX h) : gI h 47 7 4 = some (Z3 (rd h 47 4)) ∧ r3 (rd h 47 4) := gI_rd (by rw [H.1]; rfl)
theorem x_gI_7_5 {h : PH} (H : OKX h) : gI h 47 7 5 = some (Z3 (rd h 47 5)) ∧ r3 (rd h 47 5) := gI_rd (by rw [H.1]; rfl)
theorem x_gI_7_6 {h : PH} (H : OKX h) : gI h 47 7 6 = some (Z3 (rd h 47 6)) ∧ r3 (rd h 47 6) := gI_rd (by rw [H.1]; rfl)
theorem x_gI_8_0 {h : PH} (H : OKX h) {a : Nat} (ha : A8 a) : gI h a 8 0 = some (Z3 (rd h a 0)) ∧ r3 (rd h a 0) := gI_rd (by rw [H.1]; rcases ha with rfl | rfl <;> rfl)
theorem x_gI_8_1 {h : PH} (H : OKX h) {a : Nat} (ha : A8 a) : gI h a 8 1 = some (Z3 (rd h a 1)) ∧ r3 (rd h a 1) := gI_rd (by rw [H.1]; rcases ha with rfl | rfl <;> rfl)
theorem x_gI_8_10 {h : PH} (H : OKX h) {a : Nat} (ha : A8 a) : gI h a 8 10 = some (Z3 (rd h a 10)) ∧ r3 (rd h a 10) := gI_rd (by rw [H.1]; rcases ha with rfl | rfl <;> rfl)
theorem x_gI_8_12 {h : PH} (H : OKX h) {a : Nat} (ha : A8 a) : gI h a 8 12 = some (Z3 (rd h a 12)) ∧ r3 (rd h a 12) := gI_rd (by rw [H.1]; rcases ha with rfl | rfl <;> rfl)
theorem x_gI_8_13 {h : PH} (H : OKX h) {a : Nat} (ha : A8 a) : gI h a 8 13 = some (Z3 (rd h a 13)) ∧ r3 (rd h a 13) := gI_rd (by rw [H.1]; rcases ha with rfl | rfl <;> rfl)
theorem x_gI_8_2 {h : PH} (H : OKX h) {a : Nat} (ha : A8 a) : gI h a 8 2 = some (Z3 (rd h a 2)) ∧ r3 (rd h a 2) := gI_rd (by rw [H.1]; rcases ha with rfl | rfl <;> rfl)
theorem x_gI_8_3 {h : PH} (H : OKX h) {a : Nat} (ha : A8 a) : gI h a 8 3 = some (Z3 (rd h a 3)) ∧ r3 (rd h a 3) := gI_rd (by rw [H.1]; rcases ha with rfl | rfl <;> rfl)
theorem x_gI_8_6 {h : PH} (H : OKX h) {a : Nat} (ha : A8 a) : gI h a 8 6 = some (Z3 (rd h a 6)) ∧ r3 (rd h a 6) := gI_rd (by rw [H.1]; rcases ha with rfl | rfl <;> rfl)
theorem x_gI_8_7 {h : PH} (H : OKX h) {a : Nat} (ha : A8 a) : gI h a 8 7 = some (Z3 (rd h a 7)) ∧ r3 (rd h a 7) := gI_rd (by rw [H.1]; rcases ha with rfl | rfl <;> rfl)
theorem x_gI_8_8 {h : PH} (H : OKX h) {a : Nat} (ha : A8 a) : gI h a 8 8 = some (Z3 (rd h a 8)) ∧ r3 (rd h a 8) := gI_rd (by rw [H.1]; rcases ha with rfl | rfl <;> rfl)
theorem x_gI_8_9 {h : PH} (H : OKX h) {a : Nat} (ha : A8 a) : gI h a 8 9 = some (Z3 (rd h a 9)) ∧ r3 (rd h a 9) := gI_rd (by rw [H.1]; rcases ha with rfl | rfl <;> rfl)
theorem x_gI_9_0 {h : PH} (H : OKX h) : gI h 96 9 0 = some (Z3 (rd h 96 0)) ∧ r3 (rd h 96 0) := gI_rd (by rw [H.1]; rfl)
theorem m_gJ_12_65 {h : PH} (H : OKM h) : gJ h 0 12 65 = some (Z6 (rd h 0 65)) ∧ r6 (rd h 0 65) := gJ_rd (by rw [H]; rfl)
theorem m_gJ_12_86 {h : PH} (H : OKM h) : gJ h 0 12 86 = some (Z6 (rd h 0 86)) ∧ r6 (rd h 0 86) := gJ_rd (by rw [H]; rfl)
theorem x_gR_0_0 {h : PH} (H : OKX h) : gR h 99 0 0 = some 100 := by rw [gR_Sk, H.1]; rfl
theorem x_gR_0_1 {h : PH} (H : OKX h) : gR h 99 0 1 = some 101 := by rw [gR_Sk, H.1]; rfl
theorem x_gR_0_10 {h : PH} (H : OKX h) : gR h 99 0 10 = some 109 := by rw [gR_Sk, H.1]; rfl
theorem x_gR_0_2 {h : PH} (H : OKX h) : gR h 99 0 2 = some 102 := by rw [gR_Sk, H.1]; rfl
theorem x_gR_0_3 {h : PH} (H : OKX h) : gR h 99 0 3 = some 103 := by rw [gR_Sk, H.1]; rfl
theorem x_gR_0_4 {h : PH} (H : OKX h) : gR h 99 0 4 = some 104 := by rw [gR_Sk, H.1]; rfl
theorem x_gR_0_5 {h : PH} (H : OKX h) : gR h 99 0 5 = some 105 := by rw [gR_Sk, H.1]; rfl
theorem x_gR_0_7 {h : PH} (H : OKX h) : gR h 99 0 7 = some 106 := by rw [gR_Sk, H.1]; rfl
theorem x_gR_0_8 {h : PH} (H : OKX h) : gR h 99 0 8 = some 107 := by rw [gR_Sk, H.1]; rfl
theorem x_gR_0_9 {h : PH} (H : OKX h) : gR h 99 0 9 = some 108 := by rw [gR_Sk, H.1]; rfl
theorem x_gR_1_1 {h : PH} (H : OKX h) {a : Nat} (ha : A1 a) : gR h a 1 1 = some (a + 1) := by rw [gR_Sk, H.1]; rcases ha with rfl | rfl <;> rfl
theorem x_gR_1_2 {h : PH} (H : OKX h) {a : Nat} (ha : A1 a) : gR h a 1 2 = some (a + 2) := by rw [gR_Sk, H.1]; rcases ha with rfl | rfl <;> rfl
theorem x_gR_1_3 {h : PH} (H : OKX h) {a : Nat} (ha : A1 a) : gR h a 1 3 = some (a + 3) := by rw [gR_Sk, H.1]; rcases ha with rfl | rfl <;> rfl
theorem x_gR_1_4 {h : PH} (H : OKX h) {a : Nat} (ha : A1 a) : gR h a 1 4 = some (a + 4) := by rw [gR_Sk, H.1]; rcases ha with rfl | rfl <;> rfl
theorem x_gR_1_5 {h : PH} (H : OKX h) {a : Nat} (ha : A1 a) : gR h a 1 5 = some (a + 5) := by rw [gR_Sk, H.1]; rcases ha with rfl | rfl <;> rfl
theorem x_gR_1_6 {h : PH} (H : OKX h) {a : Nat} (ha : A1 a) : gR h a 1 6 = some (a + 6) := by rw [gR_Sk, H.1]; rcases ha with rfl | rfl <;> rfl
theorem x_gR_10_2 {h : PH} (H : OKX h) {a : Nat} (ha : A10 a) : gR h a 10 2 = some (a + 1) := by rw [gR_Sk, H.1]; rcases ha with rfl | rfl <;> rfl
theorem x_gR_10_3 {h : PH} (H : OKX h) {a : Nat} (ha : A10 a) : gR h a 10 3 = some (a + 2) := by rw [gR_Sk, H.1]; rcases ha with rfl | rfl <;> rfl
theorem x_gR_10_4 {h : PH} (H : OKX h) {a : Nat} (ha : A10 a) : gR h a 10 4 = some (a + 3) := by rw [gR_Sk, H.1]; rcases ha with rfl | rfl <;> rfl
theorem x_gR_10_5 {h : PH} (H : OKX h) {a : Nat} (ha : A10 a) : gR h a 10 5 = some (a + 4) := by rw [gR_Sk, H.1]; rcases ha with rfl | rfl <;> rfl
theorem x_gR_10_6 {h : PH} (H : OKX h) {a : Nat} (ha : A10 a) : gR h a 10 6 = some (a + 5) := by rw [gR_Sk, H.1]; rcases ha with rfl | rfl <;> rfl
theorem x_gR_10_7 {h : PH} (H : OKX h) {a : Nat} (ha : A10 a) : gR h a 10 7 = some (a + 6) := by rw [gR_Sk, H.1]; rcases ha with rfl | rfl <;> rfl
theorem x_gR_11_0 {h : PH} (H : OKX h) : gR h 0 11 0 = some 1 := by rw [gR_Sk, H.1]; rfl
theorem x_gR_11_11 {h : PH} (H : OKX h) : gR h 0 11 11 = some 90 := by rw [gR_Sk, H.1]; rfl
theorem x_gR_11_12 {h : PH} (H : OKX h) : gR h 0 11 12 = some 96 := by rw [gR_Sk, H.1]; rfl
theorem x_gR_11_13 {h : PH} (H : OKX h) : gR h 0 11 13 = some 99 := by rw [gR_Sk, H.1]; rfl
theorem x_gR_11_2 {h : PH} (H : OKX h) : gR h 0 11 2 = some 46 := by rw [gR_Sk, H.1]; rfl
theorem x_gR_11_3 {h : PH} (H : OKX h) : gR h 0 11 3 = some (rd h 0 3).toNat := by rw [gR_Sk, H.1]; rfl
theorem x_gR_11_4 {h : PH} (H : OKX h) : gR h 0 11 4 = some (rd h 0 4).toNat := by rw [gR_Sk, H.1]; rfl
theorem x_gR_11_5 {h : PH} (H : OKX h) : gR h 0 11 5 = some 51 := by rw [gR_Sk, H.1]; rfl
theorem x_gR_11_6 {h : PH} (H : OKX h) : gR h 0 11 6 = some 60 := by rw [gR_Sk, H.1]; rfl
theorem x_gR_11_7 {h : PH} (H : OKX h) : gR h 0 11 7 = some 69 := by rw [gR_Sk, H.1]; rfl
theorem x_gR_11_8 {h : PH} (H : OKX h) : gR h 0 11 8 = some 76 := by rw [gR_Sk, H.1]; rfl
theorem x_gR_11_9 {h : PH} (H : OKX h) : gR h 0 11 9 = some 83 := by rw [gR_Sk, H.1]; rfl
theorem m_gR_12_0 {h : PH} (H : OKM h) : gR h 0 12 0 = some 1 := by rw [gR_Sk, H]; rfl
theorem m_gR_12_25 {h : PH} (H : OKM h) : gR h 0 12 25 = some 3 := by rw [gR_Sk, H]; rfl
theorem m_gR_12_26 {h : PH} (H : OKM h) : gR h 0 12 26 = some 4 := by rw [gR_Sk, H]; rfl
theorem m_gR_12_27 {h : PH} (H : OKM h) : gR h 0 12 27 = some 5 := by rw [gR_Sk, H]; rfl
theorem m_gR_12_28 {h : PH} (H : OKM h) : gR h 0 12 28 = some 6 := by rw [gR_Sk, H]; rfl
theorem m_gR_12_29 {h : PH} (H : OKM h) : gR h 0 12 29 = some 7 := by rw [gR_Sk, H]; rfl
theorem m_gR_12_3 {h : PH} (H : OKM h) : gR h 0 12 3 = some 2 := by rw [gR_Sk, H]; rfl
theorem m_gR_12_30 {h : PH} (H : OKM h) : gR h 0 12 30 = some 8 := by rw [gR_Sk, H]; rfl
theorem m_gR_12_31 {h : PH} (H : OKM h) : gR h 0 12 31 = some 9 := by rw [gR_Sk, H]; rfl
theorem m_gR_12_32 {h : PH} (H : OKM h) : gR h 0 12 32 = some 10 := by rw [gR_Sk, H]; rfl
theorem m_gR_12_33 {h : PH} (H : OKM h) : gR h 0 12 33 = some 11 := by rw [gR_Sk, H]; rfl
theorem m_gR_12_34 {h : PH} (H : OKM h) : gR h 0 12 34 = some 12 := by rw [gR_Sk, H]; rfl
theorem m_gR_12_35 {h : PH} (H : OKM h) : gR h 0 12 35 = some 13 := by rw [gR_Sk, H]; rfl
theorem m_gR_12_36 {h : PH} (H : OKM h) : gR h 0 12 36 = some 14 := by rw [gR_Sk, H]; rfl
theorem m_gR_12_37 {h : PH} (H : OKM h) : gR h 0 12 37 = some 15 := by rw [gR_Sk, H]; rfl
theorem m_gR_12_38 {h : PH} (H : OKM h) : gR h 0 12 38 = some 16 := by rw [gR_Sk, H]; rfl
theorem m_gR_12_39 {h : PH} (H : OKM h) : gR h 0 12 39 = some 17 := by rw [gR_Sk, H]; rfl
theorem m_gR_12_40 {h : PH} (H : OKM h) : gR h 0 12 40 = some 18 := by rw [gR_Sk, H]; rfl
theorem m_gR_12_41 {h : PH} (H : OKM h) : gR h 0 12 41 = some 19 := by rw [gR_Sk, H]; rfl
theorem m_gR_12_42 {h : PH} (H : OKM h) : gR h 0 12 42 = some 20 := by rw [gR_Sk, H]; rfl
theorem m_gR_12_44 {h : PH} (H : OKM h) : gR h 0 12 44 = some 21 := by rw [gR_Sk, H]; rfl
theorem m_gR_12_45 {h : PH} (H : OKM h) : gR h 0 12 45 = some 22 := by rw [gR_Sk, H]; rfl
theorem m_gR_12_52 {h : PH} (H : OKM h) : gR h 0 12 52 = some 23 := by rw [gR_Sk, H]; rfl
theorem m_gR_12_53 {h : PH} (H : OKM h) : gR h 0 12 53 = some 24 := by rw [gR_Sk, H]; rfl
theorem m_gR_12_55 {h : PH} (H : OKM h) : gR h 0 12 55 = some 25 := by rw [gR_Sk, H]; rfl
theorem m_gR_12_56 {h : PH} (H : OKM h) : gR h 0 12 56 = some 26 := by rw [gR_Sk, H]; rfl
theorem m_gR_12_57 {h : PH} (H : OKM h) : gR h 0 12 57 = some 27 := by rw [gR_Sk, H]; rfl
theorem m_gR_12_58 {h : PH} (H : OKM h) : gR h 0 12 58 = some 28 := by rw [gR_Sk, H]; rfl
theorem m_gR_12_59 {h : PH} (H : OKM h) : gR h 0 12 59 = some 29 := by rw [gR_Sk, H]; rfl
theorem m_gR_12_60 {h : PH} (H : OKM h) : gR h 0 12 60 = some 30 := by rw [gR_Sk, H]; rfl
theorem m_gR_12_61 {h : PH} (H : OKM h) : gR h 0 12 61 = some 31 := by rw [gR_Sk, H]; rfl
theorem m_gR_12_62 {h : PH} (H : OKM h) : gR h 0 12 62 = some 32 := by rw [gR_Sk, H]; rfl
theorem m_gR_12_63 {h : PH} (H : OKM h) : gR h 0 12 63 = some 33 := by rw [gR_Sk, H]; rfl
theorem m_gR_12_68 {h : PH} (H : OKM h) : gR h 0 12 68 = some 34 := by rw [gR_Sk, H]; rfl
theorem m_gR_12_70 {h : PH} (H : OKM h) : gR h 0 12 70 = some 35 := by rw [gR_Sk, H]; rfl
theorem m_gR_12_71 {h : PH} (H : OKM h) : gR h 0 12 71 = some 36 := by rw [gR_Sk, H]; rfl
theorem m_gR_12_72 {h : PH} (H : OKM h) : gR h 0 12 72 = some 37 := by rw [gR_Sk, H]; rfl
theorem m_gR_12_73 {h : PH} (H : OKM h) : gR h 0 12 73 = some 38 := by rw [gR_Sk, H]; rfl
theorem m_gR_12_76 {h : PH} (H : OKM h) : gR h 0 12 76 = some 39 := by rw [gR_Sk, H]; rfl
theorem m_gR_12_77 {h : PH} (H : OKM h) : gR h 0 12 77 = some 40 := by rw [gR_Sk, H]; rfl
theorem m_gR_12_79 {h : PH} (H : OKM h) : gR h 0 12 79 = some 41 := by rw [gR_Sk, H]; rfl
theorem m_gR_12_81 {h : PH} (H : OKM h) : gR h 0 12 81 = some 42 := by rw [gR_Sk, H]; rfl
theorem x_gR_2_0 {h : PH} (H : OKX h) {a : Nat} (ha : A2 a) : gR h a 2 0 = some (a + 1) := by rw [gR_Sk, H.1]; rcases ha with rfl | rfl | rfl | rfl | rfl | rfl <;> rfl
theorem x_gR_3_2 {h : PH} (H : OKX h) : gR h 90 3 2 = some 91 := by rw [gR_Sk, H.1]; rfl
theorem x_gR_3_3 {h : PH} (H : OKX h) : gR h 90 3 3 = some 92 := by rw [gR_Sk, H.1]; rfl
theorem x_gR_3_4 {h : PH} (H : OKX h) : gR h 90 3 4 = some 93 := by rw [gR_Sk, H.1]; rfl
theorem x_gR_3_5 {h : PH} (H : OKX h) : gR h 90 3 5 = some 94 := by rw [gR_Sk, H.1]; rfl
theorem x_gR_3_6 {h : PH} (H : OKX h) : gR h 90 3 6 = some 95 := by rw [gR_Sk, H.1]; rfl
theorem x_gR_4_10 {h : PH} (H : OKX h) {a : Nat} (ha : A4 a) : gR h a 4 10 = some (a + 6) := by rw [gR_Sk, H.1]; rcases ha with rfl | rfl | rfl <;> rfl
theorem x_gR_4_5 {h : PH} (H : OKX h) {a : Nat} (ha : A4 a) : gR h a 4 5 = some (a + 1) := by rw [gR_Sk, H.1]; rcases ha with rfl | rfl | rfl <;> rfl
theorem x_gR_4_6 {h : PH} (H : OKX h) {a : Nat} (ha : A4 a) : gR h a 4 6 = some (a + 2) := by rw [gR_Sk, H.1]; rcases ha with rfl | rfl | rfl <;> rfl
theorem x_gR_4_7 {h : PH} (H : OKX h) {a : Nat} (ha : A4 a) : gR h a 4 7 = some (a + 3) := by rw [gR_Sk, H.1]; rcases ha with rfl | rfl | rfl <;> rfl
theorem x_gR_4_8 {h : PH} (H : OKX h) {a : Nat} (ha : A4 a) : gR h a 4 8 = some (a + 4) := by rw [gR_Sk, H.1]; rcases ha with rfl | rfl | rfl <;> rfl
theorem x_gR_4_9 {h : PH} (H : OKX h) {a : Nat} (ha : A4 a) : gR h a 4 9 = some (a + 5) := by rw [gR_Sk, H.1]; rcases ha with rfl | rfl | rfl <;> rfl
theorem x_gR_5_0 {h : PH} (H : OKX h) : gR h 46 5 0 = some 47 := by rw [gR_Sk, H.1]; rfl
theorem x_gR_5_1 {h : PH} (H : OKX h) : gR h 46 5 1 = some 50 := by rw [gR_Sk, H.1]; rfl
theorem x_gR_5_10 {h : PH} (H : OKX h) : gR h 46 5 10 = some (rd h 46 10).toNat := by rw [gR_Sk, H.1]; rfl
theorem x_gR_6_0 {h : PH} (H : OKX h) {a : Nat} (ha : A6 a) : gR h a 6 0 = some (rd h a 0).toNat := by rw [gR_Sk, H.1]; rcases ha with rfl | rfl <;> rfl
theorem x_gR_6_1 {h : PH} (H : OKX h) {a : Nat} (ha : A6 a) : gR h a 6 1 = some (a + 1) := by rw [gR_Sk, H.1]; rcases ha with rfl | rfl <;> rfl
theorem x_gR_6_2 {h : PH} (H : OKX h) {a : Nat} (ha : A6 a) : gR h a 6 2 = some (a + 2) := by rw [gR_Sk, H.1]; rcases ha with rfl | rfl <;> rfl
theorem x_gR_6_3 {h : PH} (H : OKX h) {a : Nat} (ha : A6 a) : gR h a 6 3 = some (a + 3) := by rw [gR_Sk, H.1]; rcases ha with rfl | rfl <;> rfl
theorem x_gR_6_4 {h : PH} (H : OKX h) {a : Nat} (ha : A6 a) : gR h a 6 4 = some (a + 4) := by rw [gR_Sk, H.1]; rcases ha with rfl | rfl <;> rfl
theorem x_gR_6_5 {h : PH} (H : OKX h) {a : Nat} (ha : A6 a) : gR h a 6 5 = some (a + 5) := by rw [gR_Sk, H.1]; rcases ha with rfl | rfl <;> rfl
theorem x_gR_6_6 {h : PH} (H : OKX h) {a : Nat} (ha : A6 a) : gR h a 6 6 = some (a + 6) := by rw [gR_Sk, H.1]; rcases ha with rfl | rfl <;> rfl
theorem x_gR_6_7 {h : PH} (H : OKX h) {a : Nat} (ha : A6 a) : gR h a 6 7 = some (a + 7) := by rw [gR_Sk, H.1]; rcases ha with rfl | rfl <;> rfl
theorem x_gR_6_8 {h : PH} (H : OKX h) {a : Nat} (ha : A6 a) : gR h a 6 8 = some (a + 8) := by rw [gR_Sk, H.1]; rcases ha with rfl | rfl <;> rfl
theorem x_gR_7_0 {h : PH} (H : OKX h) : gR h 47 7 0 = some 48 := by rw [gR_Sk, H.1]; rfl
theorem x_gR_7_1 {h : PH} (H : OKX h) : gR h 47 7 1 = some (rd h 47 1).toNat := by rw [gR_Sk, H.1]; rfl
theorem x_gR_8_11 {h : PH} (H : OKX h) {a : Nat} (ha : A8 a) : gR h a 8 11 = some (a + 15) := by rw [gR_Sk, H.1]; rcases ha with rfl | rfl <;> rfl
theorem x_gR_8_4 {h : PH} (H : OKX h) {a : Nat} (ha : A8 a) : gR h a 8 4 = some (a + 1) := by rw [gR_Sk, H.1]; rcases ha with rfl | rfl <;> rfl
theorem x_gR_8_5 {h : PH} (H : OKX h) {a : Nat} (ha : A8 a) : gR h a 8 5 = some (a + 8) := by rw [gR_Sk, H.1]; rcases ha with rfl | rfl <;> rfl
theorem x_gR_9_1 {h : PH} (H : OKX h) : gR h 96 9 1 = some 97 := by rw [gR_Sk, H.1]; rfl
theorem x_gR_9_2 {h : PH} (H : OKX h) : gR h 96 9 2 = some 98 := by rw [gR_Sk, H.1]; rfl
theorem nr_4_10 {a : Nat} (ha : R4_10 a) : a ≠ 0 ∧ a ≠ 46 ∧ a ≠ 47 ∧ a ≠ 51 ∧ a ≠ 60 := by rcases ha with rfl | rfl | rfl <;> decide
theorem nr_4_5 {a : Nat} (ha : R4_5 a) : a ≠ 0 ∧ a ≠ 46 ∧ a ≠ 47 ∧ a ≠ 51 ∧ a ≠ 60 := by rcases ha with rfl | rfl | rfl <;> decide
theorem nr_4_6 {a : Nat} (ha : R4_6 a) : a ≠ 0 ∧ a ≠ 46 ∧ a ≠ 47 ∧ a ≠ 51 ∧ a ≠ 60 := by rcases ha with rfl | rfl | rfl <;> decide
theorem nr_4_7 {a : Nat} (ha : R4_7 a) : a ≠ 0 ∧ a ≠ 46 ∧ a ≠ 47 ∧ a ≠ 51 ∧ a ≠ 60 := by rcases ha with rfl | rfl | rfl <;> decide
theorem nr_4_8 {a : Nat} (ha : R4_8 a) : a ≠ 0 ∧ a ≠ 46 ∧ a ≠ 47 ∧ a ≠ 51 ∧ a ≠ 60 := by rcases ha with rfl | rfl | rfl <;> decide
theorem nr_4_9 {a : Nat} (ha : R4_9 a) : a ≠ 0 ∧ a ≠ 46 ∧ a ≠ 47 ∧ a ≠ 51 ∧ a ≠ 60 := by rcases ha with rfl | rfl | rfl <;> decide
theorem nr_6_1 {a : Nat} (ha : R6_1 a) : a ≠ 0 ∧ a ≠ 46 ∧ a ≠ 47 ∧ a ≠ 51 ∧ a ≠ 60 := by rcases ha with rfl | rfl <;> decide
theorem nr_6_2 {a : Nat} (ha : R6_2 a) : a ≠ 0 ∧ a ≠ 46 ∧ a ≠ 47 ∧ a ≠ 51 ∧ a ≠ 60 := by rcases ha with rfl | rfl <;> decide
theorem nr_6_3 {a : Nat} (ha : R6_3 a) : a ≠ 0 ∧ a ≠ 46 ∧ a ≠ 47 ∧ a ≠ 51 ∧ a ≠ 60 := by rcases ha with rfl | rfl <;> decide
theorem nr_9_1 : 97 ≠ 0 ∧ 97 ≠ 46 ∧ 97 ≠ 47 ∧ 97 ≠ 51 ∧ 97 ≠ 60 := by decide
theorem nr_9_2 : 98 ≠ 0 ∧ 98 ≠ 46 ∧ 98 ≠ 47 ∧ 98 ≠ 51 ∧ 98 ≠ 60 := by decide
theorem x_ok_0 {h : PH} (H : OKX h) : okO h 99 0 = true := by rw [okO_Sk, H.1]; rfl
theorem x_ok_1 {h : PH} (H : OKX h) {a : Nat} (ha : A1 a) : okO h a 1 = true := by rw [okO_Sk, H.1]; rcases ha with rfl | rfl <;> rfl
theorem x_ok_10 {h : PH} (H : OKX h) {a : Nat} (ha : A10 a) : okO h a 10 = true := by rw [okO_Sk, H.1]; rcases ha with rfl | rfl <;> rfl
theorem x_ok_11 {h : PH} (H : OKX h) : okO h 0 11 = true := by rw [okO_Sk, H.1]; rfl
theorem m_ok_12 {h : PH} (H : OKM h) : okO h 0 12 = true := by rw [okO_Sk, H]; rfl
theorem x_ok_2 {h : PH} (H : OKX h) {a : Nat} (ha : A2 a) : okO h a 2 = true := by rw [okO_Sk, H.1]; rcases ha with rfl | rfl | rfl | rfl | rfl | rfl <;> rfl
theorem x_ok_3 {h : PH} (H : OKX h) : okO h 90 3 = true := by rw [okO_Sk, H.1]; rfl
theorem x_ok_4 {h : PH} (H : OKX h) {a : Nat} (ha : A4 a) : okO h a 4 = true := by rw [okO_Sk, H.1]; rcases ha with rfl | rfl | rfl <;> rfl
theorem x_ok_5 {h : PH} (H : OKX h) : okO h 46 5 = true := by rw [okO_Sk, H.1]; rfl
theorem x_ok_6 {h : PH} (H : OKX h) {a : Nat} (ha : A6 a) : okO h a 6 = true := by rw [okO_Sk, H.1]; rcases ha with rfl | rfl <;> rfl
theorem x_ok_7 {h : PH} (H : OKX h) : okO h 47 7 = true := by rw [okO_Sk, H.1]; rfl
theorem x_ok_8 {h : PH} (H : OKX h) {a : Nat} (ha : A8 a) : okO h a 8 = true := by rw [okO_Sk, H.1]; rcases ha with rfl | rfl <;> rfl
theorem x_ok_9 {h : PH} (H : OKX h) : okO h 96 9 = true := by rw [okO_Sk, H.1]; rfl
theorem x_pI_0_11 {h : PH} (H : OKX h) {v : Int32} {V : Int} (ev : v = Z3 V) (hr : r3 V) : ∃ h', pI h 99 0 11 v = some h' ∧ OKX h' ∧ rd h' = up (rd h) 99 11 V := x_pI H rfl (by simp [nrx]) ev hr
theorem x_pI_0_12 {h : PH} (H : OKX h) {v : Int32} {V : Int} (ev : v = Z3 V) (hr : r3 V) : ∃ h', pI h 99 0 12 v = some h' ∧ OKX h' ∧ rd h' = up (rd h) 99 12 V := x_pI H rfl (by simp [nrx]) ev hr
theorem x_pI_0_6 {h : PH} (H : OKX h) {v : Int32} {V : Int} (ev : v = Z3 V) (hr : r3 V) : ∃ h', pI h 99 0 6 v = some h' ∧ OKX h' ∧ rd h' = up (rd h) 99 6 V := x_pI H rfl (by simp [nrx]) ev hr
theorem x_pI_1_0 {h : PH} (H : OKX h) {a : Nat} (ha : A1 a) {v : Int32} {V : Int} (ev : v = Z3 V) (hr : r3 V) : ∃ h', pI h a 1 0 v = some h' ∧ OKX h' ∧ rd h' = up (rd h) a 0 V := x_pI H (by rcases ha with rfl | rfl <;> rfl) (by rcases ha with rfl | rfl <;> simp [nrx]) ev hr
theorem x_pI_10_0 {h : PH} (H : OKX h) {a : Nat} (ha : A10 a) {v : Int32} {V : Int} (ev : v = Z3 V) (hr : r3 V) : ∃ h', pI h a 10 0 v = some h' ∧ OKX h' ∧ rd h' = up (rd h) a 0 V := x_pI H (by rcases ha with rfl | rfl <;> rfl) (by rcases ha with rfl | rfl <;> simp [nrx]) ev hr
theorem x_pI_10_1 {h : PH} (H : OKX h) {a : Nat} (ha : A10 a) {v : Int32} {V : Int} (ev : v = Z3 V) (hr : r3 V) : ∃ h', pI h a 10 1 v = some h' ∧ OKX h' ∧ rd h' = up (rd h) a 1 V := x_pI H (by rcases ha with rfl | rfl <;> rfl) (by rcases ha with rfl | rfl <;> simp [nrx]) ev hr
theorem x_pI_11_1 {h : PH} (H : OKX h) {v : Int32} {V : Int} (ev : v = Z3 V) (hr : r3 V) : ∃ h', pI h 0 11 1 v = some h' ∧ OKX h' ∧ rd h' = up (rd h) 0 1 V := x_pI H rfl (by simp [nrx]) ev hr
theorem m_pI_12_1 {h : PH} (H : OKM h) {v : Int32} {V : Int} (ev : v = Z3 V) (hr : r3 V) : ∃ h', pI h 0 12 1 v = some h' ∧ OKM h' ∧ rd h' = up (rd h) 0 1 V := m_pI H rfl ev hr
theorem m_pI_12_10 {h : PH} (H : OKM h) {v : Int32} {V : Int} (ev : v = Z3 V) (hr : r3 V) : ∃ h', pI h 0 12 10 v = some h' ∧ OKM h' ∧ rd h' = up (rd h) 0 10 V := m_pI H rfl ev hr
theorem m_pI_12_11 {h : PH} (H : OKM h) {v : Int32} {V : Int} (ev : v = Z3 V) (hr : r3 V) : ∃ h', pI h 0 12 11 v = some h' ∧ OKM h' ∧ rd h' = up (rd h) 0 11 V := m_pI H rfl ev hr
theorem m_pI_12_12 {h : PH} (H : OKM h) {v : Int32} {V : Int} (ev : v = Z3 V) (hr : r3 V) : ∃ h', pI h 0 12 12 v = some h' ∧ OKM h' ∧ rd h' = up (rd h) 0 12 V := m_pI H rfl ev hr
theorem m_pI_12_13 {h : PH} (H : OKM h) {v : Int32} {V : Int} (ev : v = Z3 V) (hr : r3 V) : ∃ h', pI h 0 12 13 v = some h' ∧ OKM h' ∧ rd h' = up (rd h) 0 13 V := m_pI H rfl ev hr
theorem m_pI_12_14 {h : PH} (H : OKM h) {v : Int32} {V : Int} (ev : v = Z3 V) (hr : r3 V) : ∃ h', pI h 0 12 14 v = some h' ∧ OKM h' ∧ rd h' = up (rd h) 0 14 V := m_pI H rfl ev hr
theorem m_pI_12_15 {h : PH} (H : OKM h) {v : Int32} {V : Int} (ev : v = Z3 V) (hr : r3 V) : ∃ h', pI h 0 12 15 v = some h' ∧ OKM h' ∧ rd h' = up (rd h) 0 15 V := m_pI H rfl ev hr
theorem m_pI_12_16 {h : PH} (H : OKM h) {v : Int32} {V : Int} (ev : v = Z3 V) (hr : r3 V) : ∃ h', pI h 0 12 16 v = some h' ∧ OKM h' ∧ rd h' = up (rd h) 0 16 V := m_pI H rfl ev hr
theorem m_pI_12_17 {h : PH} (H : OKM h) {v : Int32} {V : Int} (ev : v = Z3 V) (hr : r3 V) : ∃ h', pI h 0 12 17 v = some h' ∧ OKM h' ∧ rd h' = up (rd h) 0 17 V := m_pI H rfl ev hr
theorem m_pI_12_18 {h : PH} (H : OKM h) {v : Int32} {V : Int} (ev : v = Z3 V) (hr : r3 V) : ∃ h', pI h 0 12 18 v = some h' ∧ OKM h' ∧ rd h' = up (rd h) 0 18 V := m_pI H rfl ev hr
theorem m_pI_12_19 {h : PH} (H : OKM h) {v : Int32} {V : Int} (ev : v = Z3 V) (hr : r3 V) : ∃ h', pI h 0 12 19 v = some h' ∧ OKM h' ∧ rd h' = up (rd h) 0 19 V := m_pI H rfl ev hr
theorem m_pI_12_2 {h : PH} (H : OKM h) {v : Int32} {V : Int} (ev : v = Z3 V) (hr : r3 V) : ∃ h', pI h 0 12 2 v = some h' ∧ OKM h' ∧ rd h' = up (rd h) 0 2 V := m_pI H rfl ev hr
theorem m_pI_12_20 {h : PH} (H : OKM h) {v : Int32} {V : Int} (ev : v = Z3 V) (hr : r3 V) : ∃ h', pI h 0 12 20 v = some h' ∧ OKM h' ∧ rd h' = up (rd h) 0 20 V := m_pI H rfl ev hr
theorem m_pI_12_21 {h : PH} (H : OKM h) {v : Int32} {V : Int} (ev : v = Z3 V) (hr : r3 V) : ∃ h', pI h 0 12 21 v = some h' ∧ OKM h' ∧ rd h' = up (rd h) 0 21 V := m_pI H rfl ev hr
theorem m_pI_12_22 {h : PH} (H : OKM h) {v : Int32} {V : Int} (ev : v = Z3 V) (hr : r3 V) : ∃ h', pI h 0 12 22 v = some h' ∧ OKM h' ∧ rd h' = up (rd h) 0 22 V := m_pI H rfl ev hr
theorem m_pI_12_23 {h : PH} (H : OKM h) {v : Int32} {V : Int} (ev : v = Z3 V) (hr : r3 V) : ∃ h', pI h 0 12 23 v = some h' ∧ OKM h' ∧ rd h' = up (rd h) 0 23 V := m_pI H rfl ev hr
theorem m_pI_12_4 {h : PH} (H : OKM h) {v : Int32} {V : Int} (ev : v = Z3 V) (hr : r3 V) : ∃ h', pI h 0 12 4 v = some h' ∧ OKM h' ∧ rd h' = up (rd h) 0 4 V := m_pI H rfl ev hr
theorem m_pI_12_43 {h : PH} (H : OKM h) {v : Int32} {V : Int} (ev : v = Z3 V) (hr : r3 V) : ∃ h', pI h 0 12 43 v = some h' ∧ OKM h' ∧ rd h' = up (rd h) 0 43 V := m_pI H rfl ev hr
theorem m_pI_12_46 {h : PH} (H : OKM h) {v : Int32} {V : Int} (ev : v = Z3 V) (hr : r3 V) : ∃ h', pI h 0 12 46 v = some h' ∧ OKM h' ∧ rd h' = up (rd h) 0 46 V := m_pI H rfl ev hr
theorem m_pI_12_47 {h : PH} (H : OKM h) {v : Int32} {V : Int} (ev : v = Z3 V) (hr : r3 V) : ∃ h', pI h 0 12 47 v = some h' ∧ OKM h' ∧ rd h' = up (rd h) 0 47 V := m_pI H rfl ev hr
theorem m_pI_12_48 {h : PH} (H : OKM h) {v : Int32} {V : Int} (ev : v = Z3 V) (hr : r3 V) : ∃ h', pI h 0 12 48 v = some h' ∧ OKM h' ∧ rd h' = up (rd h) 0 48 V := m_pI H rfl ev hr
theorem m_pI_12_49 {h : PH} (H : OKM h) {v : Int32} {V : Int} (ev : v = Z3 V) (hr : r3 V) : ∃ h', pI h 0 12 49 v = some h' ∧ OKM h' ∧ rd h' = up (rd h) 0 49 V := m_pI H rfl ev hr
theorem m_pI_12_5 {h : PH} (H : OKM h) {v : Int32} {V : Int} (ev : v = Z3 V) (hr : r3 V) : ∃ h', pI h 0 12 5 v = some h' ∧ OKM h' ∧ rd h' = up (rd h) 0 5 V := m_pI H rfl ev hr
theorem m_pI_12_6 {h : PH} (H : OKM h) {v : Int32} {V : Int} (ev : v = Z3 V) (hr : r3 V) : ∃ h', pI h 0 12 6 v = some h' ∧ OKM h' ∧ rd h' = up (rd h) 0 6 V := m_pI H rfl ev hr
theorem m_pI_12_64 {h : PH} (H : OKM h) {v : Int32} {V : Int} (ev : v = Z3 V) (hr : r3 V) : ∃ h', pI h 0 12 64 v = some h' ∧ OKM h' ∧ rd h' = up (rd h) 0 64 V := m_pI H rfl ev hr
theorem m_pI_12_66 {h : PH} (H : OKM h) {v : Int32} {V : Int} (ev : v = Z3 V) (hr : r3 V) : ∃ h', pI h 0 12 66 v = some h' ∧ OKM h' ∧ rd h' = up (rd h) 0 66 V := m_pI H rfl ev hr
theorem m_pI_12_67 {h : PH} (H : OKM h) {v : Int32} {V : Int} (ev : v = Z3 V) (hr : r3 V) : ∃ h', pI h 0 12 67 v = some h' ∧ OKM h' ∧ rd h' = up (rd h) 0 67 V := m_pI H rfl ev hr
theorem m_pI_12_69 {h : PH} (H : OKM h) {v : Int32} {V : Int} (ev : v = Z3 V) (hr : r3 V) : ∃ h', pI h 0 12 69 v = some h' ∧ OKM h' ∧ rd h' = up (rd h) 0 69 V := m_pI H rfl ev hr
theorem m_pI_12_7 {h : PH} (H : OKM h) {v : Int32} {V : Int} (ev : v = Z3 V) (hr : r3 V) : ∃ h', pI h 0 12 7 v = some h' ∧ OKM h' ∧ rd h' = up (rd h) 0 7 V := m_pI H rfl ev hr
theorem m_pI_12_74 {h : PH} (H : OKM h) {v : Int32} {V : Int} (ev : v = Z3 V) (hr : r3 V) : ∃ h', pI h 0 12 74 v = some h' ∧ OKM h' ∧ rd h' = up (rd h) 0 74 V := m_pI H rfl ev hr
theorem m_pI_12_75 {h : PH} (H : OKM h) {v : Int32} {V : Int} (ev : v = Z3 V) (hr : r3 V) : ∃ h', pI h 0 12 75 v = some h' ∧ OKM h' ∧ rd h' = up (rd h) 0 75 V := m_pI H rfl ev hr
theorem m_pI_12_78 {h : PH} (H : OKM h) {v : Int32} {V : Int} (ev : v = Z3 V) (hr : r3 V) : ∃ h', pI h 0 12 78 v = some h' ∧ OKM h' ∧ rd h' = up (rd h) 0 78 V := m_pI H rfl ev hr
theorem m_pI_12_8 {h : PH} (H : OKM h) {v : Int32} {V : Int} (ev : v = Z3 V) (hr : r3 V) : ∃ h', pI h 0 12 8 v = some h' ∧ OKM h' ∧ rd h' = up (rd h) 0 8 V := m_pI H rfl ev hr
theorem m_pI_12_82 {h : PH} (H : OKM h) {v : Int32} {V : Int} (ev : v = Z3 V) (hr : r3 V) : ∃ h', pI h 0 12 82 v = some h' ∧ OKM h' ∧ rd h' = up (rd h) 0 82 V := m_pI H rfl ev hr
theorem m_pI_12_83 {h : PH} (H : OKM h) {v : Int32} {V : Int} (ev : v = Z3 V) (hr : r3 V) : ∃ h', pI h 0 12 83 v = some h' ∧ OKM h' ∧ rd h' = up (rd h) 0 83 V := m_pI H rfl ev hr
theorem m_pI_12_84 {h : PH} (H : OKM h) {v : Int32} {V : Int} (ev : v = Z3 V) (hr : r3 V) : ∃ h', pI h 0 12 84 v = some h' ∧ OKM h' ∧ rd h' = up (rd h) 0 84 V := m_pI H rfl ev hr
theorem m_pI_12_85 {h : PH} (H : OKM h) {v : Int32} {V : Int} (ev : v = Z3 V) (hr : r3 V) : ∃ h', pI h 0 12 85 v = some h' ∧ OKM h' ∧ rd h' = up (rd h) 0 85 V := m_pI H rfl ev hr
theorem m_pI_12_9 {h : PH} (H : OKM h) {v : Int32} {V : Int} (ev : v = Z3 V) (hr : r3 V) : ∃ h', pI h 0 12 9 v = some h' ∧ OKM h' ∧ rd h' = up (rd h) 0 9 V := m_pI H rfl ev hr
theorem x_pI_2_1 {h : PH} (H : OKX h) {a : Nat} (ha : A2 a) {v : Int32} {V : Int} (ev : v = Z3 V) (hr : r3 V) : ∃ h', pI h a 2 1 v = some h' ∧ OKX h' ∧ rd h' = up (rd h) a 1 V := x_pI H (by rcases ha with rfl | rfl | rfl | rfl | rfl | rfl <;> rfl) (by rcases ha with rfl | rfl | rfl | rfl | rfl | rfl <;> simp [nrx]) ev hr
theorem x_pI_3_0 {h : PH} (H : OKX h) {v : Int32} {V : Int} (ev : v = Z3 V) (hr : r3 V) : ∃ h', pI h 90 3 0 v = some h' ∧ OKX h' ∧ rd h' = up (rd h) 90 0 V := x_pI H rfl (by simp [nrx]) ev hr
theorem x_pI_3_1 {h : PH} (H : OKX h) {v : Int32} {V : Int} (ev : v = Z3 V) (hr : r3 V) : ∃ h', pI h 90 3 1 v = some h' ∧ OKX h' ∧ rd h' = up (rd h) 90 1 V := x_pI H rfl (by simp [nrx]) ev hr
theorem x_pI_4_0 {h : PH} (H : OKX h) {a : Nat} (ha : A4 a) {v : Int32} {V : Int} (ev : v = Z3 V) (hr : r3 V) : ∃ h', pI h a 4 0 v = some h' ∧ OKX h' ∧ rd h' = up (rd h) a 0 V := x_pI H (by rcases ha with rfl | rfl | rfl <;> rfl) (by rcases ha with rfl | rfl | rfl <;> simp [nrx]) ev hr
theorem x_pI_4_1 {h : PH} (H : OKX h) {a : Nat} (ha : A4 a) {v : Int32} {V : Int} (ev : v = Z3 V) (hr : r3 V) : ∃ h', pI h a 4 1 v = some h' ∧ OKX h' ∧ rd h' = up (rd h) a 1 V := x_pI H (by rcases ha with rfl | rfl | rfl <;> rfl) (by rcases ha with rfl | rfl | rfl <;> simp [nrx]) ev hr
theorem x_pI_4_2 {h : PH} (H : OKX h) {a : Nat} (ha : A4 a) {v : Int32} {V : Int} (ev : v = Z3 V) (hr : r3 V) : ∃ h', pI h a 4 2 v = some h' ∧ OKX h' ∧ rd h' = up (rd h) a 2 V := x_pI H (by rcases ha with rfl | rfl | rfl <;> rfl) (by rcases ha with rfl | rfl | rfl <;> simp [nrx]) ev hr
theorem x_pI_4_3 {h : PH} (H : OKX h) {a : Nat} (ha : A4 a) {v : Int32} {V : Int} (ev : v = Z3 V) (hr : r3 V) : ∃ h', pI h a 4 3 v = some h' ∧ OKX h' ∧ rd h' = up (rd h) a 3 V := x_pI H (by rcases ha with rfl | rfl | rfl <;> rfl) (by rcases ha with rfl | rfl | rfl <;> simp [nrx]) ev hr
theorem x_pI_4_4 {h : PH} (H : OKX h) {a : Nat} (ha : A4 a) {v : Int32} {V : Int} (ev : v = Z3 V) (hr : r3 V) : ∃ h', pI h a 4 4 v = some h' ∧ OKX h' ∧ rd h' = up (rd h) a 4 V := x_pI H (by rcases ha with rfl | rfl | rfl <;> rfl) (by rcases ha with rfl | rfl | rfl <;> simp [nrx]) ev hr
theorem x_pI_5_2 {h : PH} (H : OKX h) {v : Int32} {V : Int} (ev : v = Z3 V) (hr : r3 V) : ∃ h', pI h 46 5 2 v = some h' ∧ OKX h' ∧ rd h' = up (rd h) 46 2 V := x_pI H rfl (by simp [nrx]) ev hr
theorem x_pI_5_3 {h : PH} (H : OKX h) {v : Int32} {V : Int} (ev : v = Z3 V) (hr : r3 V) : ∃ h', pI h 46 5 3 v = some h' ∧ OKX h' ∧ rd h' = up (rd h) 46 3 V := x_pI H rfl (by simp [nrx]) ev hr
theorem x_pI_5_6 {h : PH} (H : OKX h) {v : Int32} {V : Int} (ev : v = Z3 V) (hr : r3 V) : ∃ h', pI h 46 5 6 v = some h' ∧ OKX h' ∧ rd h' = up (rd h) 46 6 V := x_pI H rfl (by simp [nrx]) ev hr
theorem x_pI_5_8 {h : PH} (H : OKX h) {v : Int32} {V : Int} (ev : v = Z3 V) (hr : r3 V) : ∃ h', pI h 46 5 8 v = some h' ∧ OKX h' ∧ rd h' = up (rd h) 46 8 V := x_pI H rfl (by simp [nrx]) ev hr
theorem x_pI_5_9 {h : PH} (H : OKX h) {v : Int32} {V : Int} (ev : v = Z3 V) (hr : r3 V) : ∃ h', pI h 46 5 9 v = some h' ∧ OKX h' ∧ rd h' = up (rd h) 46 9 V := x_pI H rfl (by simp [nrx]) ev hr
theorem x_pI_7_2 {h : PH} (H : OKX h) {v : Int32} {V : Int} (ev : v = Z3 V) (hr : r3 V) : ∃ h', pI h 47 7 2 v = some h' ∧ OKX h' ∧ rd h' = up (rd h) 47 2 V := x_pI H rfl (by simp [nrx]) ev hr
theorem x_pI_7_3 {h : PH} (H : OKX h) {v : Int32} {V : Int} (ev : v = Z3 V) (hr : r3 V) : ∃ h', pI h 47 7 3 v = some h' ∧ OKX h' ∧ rd h' = up (rd h) 47 3 V := x_pI H rfl (by simp [nrx]) ev hr
theorem x_pI_7_4 {h : PH} (H : OKX h) {v : Int32} {V : Int} (ev : v = Z3 V) (hr : r3 V) : ∃ h', pI h 47 7 4 v = some h' ∧ OKX h' ∧ rd h' = up (rd h) 47 4 V := x_pI H rfl (by simp [nrx]) ev hr
theorem x_pI_7_5 {h : PH} (H : OKX h) {v : Int32} {V : Int} (ev : v = Z3 V) (hr : r3 V) : ∃ h', pI h 47 7 5 v = some h' ∧ OKX h' ∧ rd h' = up (rd h) 47 5 V := x_pI H rfl (by simp [nrx]) ev hr
theorem x_pI_7_6 {h : PH} (H : OKX h) {v : Int32} {V : Int} (ev : v = Z3 V) (hr : r3 V) : ∃ h', pI h 47 7 6 v = some h' ∧ OKX h' ∧ rd h' = up (rd h) 47 6 V := x_pI H rfl (by simp [nrx]) ev hr
theorem x_pI_8_0 {h : PH} (H : OKX h) {a : Nat} (ha : A8 a) {v : Int32} {V : Int} (ev : v = Z3 V) (hr : r3 V) : ∃ h', pI h a 8 0 v = some h' ∧ OKX h' ∧ rd h' = up (rd h) a 0 V := x_pI H (by rcases ha with rfl | rfl <;> rfl) (by rcases ha with rfl | rfl <;> simp [nrx]) ev hr
theorem x_pI_8_1 {h : PH} (H : OKX h) {a : Nat} (ha : A8 a) {v : Int32} {V : Int} (ev : v = Z3 V) (hr : r3 V) : ∃ h', pI h a 8 1 v = some h' ∧ OKX h' ∧ rd h' = up (rd h) a 1 V := x_pI H (by rcases ha with rfl | rfl <;> rfl) (by rcases ha with rfl | rfl <;> simp [nrx]) ev hr
theorem x_pI_8_10 {h : PH} (H : OKX h) {a : Nat} (ha : A8 a) {v : Int32} {V : Int} (ev : v = Z3 V) (hr : r3 V) : ∃ h', pI h a 8 10 v = some h' ∧ OKX h' ∧ rd h' = up (rd h) a 10 V := x_pI H (by rcases ha with rfl | rfl <;> rfl) (by rcases ha with rfl | rfl <;> simp [nrx]) ev hr
theorem x_pI_8_12 {h : PH} (H : OKX h) {a : Nat} (ha : A8 a) {v : Int32} {V : Int} (ev : v = Z3 V) (hr : r3 V) : ∃ h', pI h a 8 12 v = some h' ∧ OKX h' ∧ rd h' = up (rd h) a 12 V := x_pI H (by rcases ha with rfl | rfl <;> rfl) (by rcases ha with rfl | rfl <;> simp [nrx]) ev hr
theorem x_pI_8_13 {h : PH} (H : OKX h) {a : Nat} (ha : A8 a) {v : Int32} {V : Int} (ev : v = Z3 V) (hr : r3 V) : ∃ h', pI h a 8 13 v = some h' ∧ OKX h' ∧ rd h' = up (rd h) a 13 V := x_pI H (by rcases ha with rfl | rfl <;> rfl) (by rcases ha with rfl | rfl <;> simp [nrx]) ev hr
theorem x_pI_8_2 {h : PH} (H : OKX h) {a : Nat} (ha : A8 a) {v : Int32} {V : Int} (ev : v = Z3 V) (hr : r3 V) : ∃ h', pI h a 8 2 v = some h' ∧ OKX h' ∧ rd h' = up (rd h) a 2 V := x_pI H (by rcases ha with rfl | rfl <;> rfl) (by rcases ha with rfl | rfl <;> simp [nrx]) ev hr
theorem x_pI_8_3 {h : PH} (H : OKX h) {a : Nat} (ha : A8 a) {v : Int32} {V : Int} (ev : v = Z3 V) (hr : r3 V) : ∃ h', pI h a 8 3 v = some h' ∧ OKX h' ∧ rd h' = up (rd h) a 3 V := x_pI H (by rcases ha with rfl | rfl <;> rfl) (by rcases ha with rfl | rfl <;> simp [nrx]) ev hr
theorem x_pI_8_6 {h : PH} (H : OKX h) {a : Nat} (ha : A8 a) {v : Int32} {V : Int} (ev : v = Z3 V) (hr : r3 V) : ∃ h', pI h a 8 6 v = some h' ∧ OKX h' ∧ rd h' = up (rd h) a 6 V := x_pI H (by rcases ha with rfl | rfl <;> rfl) (by rcases ha with rfl | rfl <;> simp [nrx]) ev hr
theorem x_pI_8_7 {h : PH} (H : OKX h) {a : Nat} (ha : A8 a) {v : Int32} {V : Int} (ev : v = Z3 V) (hr : r3 V) : ∃ h', pI h a 8 7 v = some h' ∧ OKX h' ∧ rd h' = up (rd h) a 7 V := x_pI H (by rcases ha with rfl | rfl <;> rfl) (by rcases ha with rfl | rfl <;> simp [nrx]) ev hr
theorem x_pI_8_8 {h : PH} (H : OKX h) {a : Nat} (ha : A8 a) {v : Int32} {V : Int} (ev : v = Z3 V) (hr : r3 V) : ∃ h', pI h a 8 8 v = some h' ∧ OKX h' ∧ rd h' = up (rd h) a 8 V := x_pI H (by rcases ha with rfl | rfl <;> rfl) (by rcases ha with rfl | rfl <;> simp [nrx]) ev hr
theorem x_pI_8_9 {h : PH} (H : OKX h) {a : Nat} (ha : A8 a) {v : Int32} {V : Int} (ev : v = Z3 V) (hr : r3 V) : ∃ h', pI h a 8 9 v = some h' ∧ OKX h' ∧ rd h' = up (rd h) a 9 V := x_pI H (by rcases ha with rfl | rfl <;> rfl) (by rcases ha with rfl | rfl <;> simp [nrx]) ev hr
theorem x_pI_9_0 {h : PH} (H : OKX h) {v : Int32} {V : Int} (ev : v = Z3 V) (hr : r3 V) : ∃ h', pI h 96 9 0 v = some h' ∧ OKX h' ∧ rd h' = up (rd h) 96 0 V := x_pI H rfl (by simp [nrx]) ev hr
theorem m_pJ_12_65 {h : PH} (H : OKM h) {v : Int64} {V : Int} (ev : v = Z6 V) (hr : r6 V) : ∃ h', pJ h 0 12 65 v = some h' ∧ OKM h' ∧ rd h' = up (rd h) 0 65 V := m_pJ H rfl ev hr
theorem m_pJ_12_86 {h : PH} (H : OKM h) {v : Int64} {V : Int} (ev : v = Z6 V) (hr : r6 V) : ∃ h', pJ h 0 12 86 v = some h' ∧ OKM h' ∧ rd h' = up (rd h) 0 86 V := m_pJ H rfl ev hr
-- pR 11 3
-- pR 11 4
-- pR 5 10
-- pR 6 0
-- pR 7 1
theorem x_pZ_11_10 {h : PH} (H : OKX h) {v : Int32} {V : Int} (ev : v = Z3 V) (hr : V = 0 ∨ V = 1) : ∃ h', pZ h 0 11 10 v = some h' ∧ OKX h' ∧ rd h' = up (rd h) 0 10 V := x_pZ H rfl (by simp [nrx]) ev hr
theorem m_pZ_12_24 {h : PH} (H : OKM h) {v : Int32} {V : Int} (ev : v = Z3 V) (hr : V = 0 ∨ V = 1) : ∃ h', pZ h 0 12 24 v = some h' ∧ OKM h' ∧ rd h' = up (rd h) 0 24 V := m_pZ H rfl ev hr
theorem m_pZ_12_50 {h : PH} (H : OKM h) {v : Int32} {V : Int} (ev : v = Z3 V) (hr : V = 0 ∨ V = 1) : ∃ h', pZ h 0 12 50 v = some h' ∧ OKM h' ∧ rd h' = up (rd h) 0 50 V := m_pZ H rfl ev hr
theorem m_pZ_12_51 {h : PH} (H : OKM h) {v : Int32} {V : Int} (ev : v = Z3 V) (hr : V = 0 ∨ V = 1) : ∃ h', pZ h 0 12 51 v = some h' ∧ OKM h' ∧ rd h' = up (rd h) 0 51 V := m_pZ H rfl ev hr
theorem m_pZ_12_54 {h : PH} (H : OKM h) {v : Int32} {V : Int} (ev : v = Z3 V) (hr : V = 0 ∨ V = 1) : ∃ h', pZ h 0 12 54 v = some h' ∧ OKM h' ∧ rd h' = up (rd h) 0 54 V := m_pZ H rfl ev hr
theorem m_pZ_12_80 {h : PH} (H : OKM h) {v : Int32} {V : Int} (ev : v = Z3 V) (hr : V = 0 ∨ V = 1) : ∃ h', pZ h 0 12 80 v = some h' ∧ OKM h' ∧ rd h' = up (rd h) 0 80 V := m_pZ H rfl ev hr
theorem x_pZ_2_2 {h : PH} (H : OKX h) {a : Nat} (ha : A2 a) {v : Int32} {V : Int} (ev : v = Z3 V) (hr : V = 0 ∨ V = 1) : ∃ h', pZ h a 2 2 v = some h' ∧ OKX h' ∧ rd h' = up (rd h) a 2 V := x_pZ H (by rcases ha with rfl | rfl | rfl | rfl | rfl | rfl <;> rfl) (by rcases ha with rfl | rfl | rfl | rfl | rfl | rfl <;> simp [nrx]) ev hr
theorem x_pZ_5_4 {h : PH} (H : OKX h) {v : Int32} {V : Int} (ev : v = Z3 V) (hr : V = 0 ∨ V = 1) : ∃ h', pZ h 46 5 4 v = some h' ∧ OKX h' ∧ rd h' = up (rd h) 46 4 V := x_pZ H rfl (by simp [nrx]) ev hr
theorem x_pZ_5_5 {h : PH} (H : OKX h) {v : Int32} {V : Int} (ev : v = Z3 V) (hr : V = 0 ∨ V = 1) : ∃ h', pZ h 46 5 5 v = some h' ∧ OKX h' ∧ rd h' = up (rd h) 46 5 V := x_pZ H rfl (by simp [nrx]) ev hr
theorem x_pZ_5_7 {h : PH} (H : OKX h) {v : Int32} {V : Int} (ev : v = Z3 V) (hr : V = 0 ∨ V = 1) : ∃ h', pZ h 46 5 7 v = some h' ∧ OKX h' ∧ rd h' = up (rd h) 46 7 V := x_pZ H rfl (by simp [nrx]) ev hr
theorem x_row_1_3 {h : PH} (H : OKX h) {a : Nat} (ha : R1_3 a) : cA (Sk h) a 1 = some 5 := by rw [H.1]; rcases ha with rfl | rfl <;> rfl
theorem x_row_1_5 {h : PH} (H : OKX h) {a : Nat} (ha : R1_5 a) : cA (Sk h) a 1 = some 5 := by rw [H.1]; rcases ha with rfl | rfl <;> rfl
theorem x_row_4_10 {h : PH} (H : OKX h) {a : Nat} (ha : R4_10 a) : cA (Sk h) a 1 = some 28 := by rw [H.1]; rcases ha with rfl | rfl | rfl <;> rfl
theorem x_row_4_5 {h : PH} (H : OKX h) {a : Nat} (ha : R4_5 a) : cA (Sk h) a 1 = some 5 := by rw [H.1]; rcases ha with rfl | rfl | rfl <;> rfl
theorem x_row_4_6 {h : PH} (H : OKX h) {a : Nat} (ha : R4_6 a) : cA (Sk h) a 1 = some 5 := by rw [H.1]; rcases ha with rfl | rfl | rfl <;> rfl
theorem x_row_4_7 {h : PH} (H : OKX h) {a : Nat} (ha : R4_7 a) : cA (Sk h) a 1 = some 5 := by rw [H.1]; rcases ha with rfl | rfl | rfl <;> rfl
theorem x_row_4_8 {h : PH} (H : OKX h) {a : Nat} (ha : R4_8 a) : cA (Sk h) a 1 = some 5 := by rw [H.1]; rcases ha with rfl | rfl | rfl <;> rfl
theorem x_row_4_9 {h : PH} (H : OKX h) {a : Nat} (ha : R4_9 a) : cA (Sk h) a 1 = some 5 := by rw [H.1]; rcases ha with rfl | rfl | rfl <;> rfl
theorem x_row_6_1 {h : PH} (H : OKX h) {a : Nat} (ha : R6_1 a) : cA (Sk h) a 1 = some 5 := by rw [H.1]; rcases ha with rfl | rfl <;> rfl
theorem x_row_6_2 {h : PH} (H : OKX h) {a : Nat} (ha : R6_2 a) : cA (Sk h) a 1 = some 5 := by rw [H.1]; rcases ha with rfl | rfl <;> rfl
theorem x_row_6_3 {h : PH} (H : OKX h) {a : Nat} (ha : R6_3 a) : cA (Sk h) a 1 = some 28 := by rw [H.1]; rcases ha with rfl | rfl <;> rfl
theorem x_row_9_1 {h : PH} (H : OKX h) : cA (Sk h) 97 1 = some 20 := by rw [H.1]; rfl
theorem x_row_9_2 {h : PH} (H : OKX h) : cA (Sk h) 98 1 = some 20 := by rw [H.1]; rfl
theorem x_sI_0_0 {h : PH} (H : OKX h) {i : Int32} {I : Int} (hi : i = Z3 I) (c : 0 ≤ I ∧ I < 10) {x : Int32} {X : Int} (hx : x = Z3 X) (hr : r3 X) : ∃ h', sI h 100 0 i x = some h' ∧ OKX h' ∧ rd h' = up (rd h) 100 I X := x_sI (t := 0) (n := 10) H rfl (by decide) (fun k => nrx_row (by decide) k) hi c hx hr
theorem x_sI_0_1 {h : PH} (H : OKX h) {i : Int32} {I : Int} (hi : i = Z3 I) (c : 0 ≤ I ∧ I < 280) {x : Int32} {X : Int} (hx : x = Z3 X) (hr : r3 X) : ∃ h', sI h 101 0 i x = some h' ∧ OKX h' ∧ rd h' = up (rd h) 101 I X := x_sI (t := 0) (n := 280) H rfl (by decide) (fun k => nrx_row (by decide) k) hi c hx hr
theorem x_sI_0_10 {h : PH} (H : OKX h) {i : Int32} {I : Int} (hi : i = Z3 I) (c : 0 ≤ I ∧ I < 28) {x : Int32} {X : Int} (hx : x = Z3 X) (hr : r3 X) : ∃ h', sI h 109 0 i x = some h' ∧ OKX h' ∧ rd h' = up (rd h) 109 I X := x_sI (t := 0) (n := 28) H rfl (by decide) (fun k => nrx_row (by decide) k) hi c hx hr
theorem x_sI_0_2 {h : PH} (H : OKX h) {i : Int32} {I : Int} (hi : i = Z3 I) (c : 0 ≤ I ∧ I < 280) {x : Int32} {X : Int} (hx : x = Z3 X) (hr : r3 X) : ∃ h', sI h 102 0 i x = some h' ∧ OKX h' ∧ rd h' = up (rd h) 102 I X := x_sI (t := 0) (n := 280) H rfl (by decide) (fun k => nrx_row (by decide) k) hi c hx hr
theorem x_sI_0_3 {h : PH} (H : OKX h) {i : Int32} {I : Int} (hi : i = Z3 I) (c : 0 ≤ I ∧ I < 25) {x : Int32} {X : Int} (hx : x = Z3 X) (hr : r3 X) : ∃ h', sI h 103 0 i x = some h' ∧ OKX h' ∧ rd h' = up (rd h) 103 I X := x_sI (t := 0) (n := 25) H rfl (by decide) (fun k => nrx_row (by decide) k) hi c hx hr
theorem x_sI_0_4 {h : PH} (H : OKX h) {i : Int32} {I : Int} (hi : i = Z3 I) (c : 0 ≤ I ∧ I < 25) {x : Int32} {X : Int} (hx : x = Z3 X) (hr : r3 X) : ∃ h', sI h 104 0 i x = some h' ∧ OKX h' ∧ rd h' = up (rd h) 104 I X := x_sI (t := 0) (n := 25) H rfl (by decide) (fun k => nrx_row (by decide) k) hi c hx hr
theorem x_sI_0_5 {h : PH} (H : OKX h) {i : Int32} {I : Int} (hi : i = Z3 I) (c : 0 ≤ I ∧ I < 25) {x : Int32} {X : Int} (hx : x = Z3 X) (hr : r3 X) : ∃ h', sI h 105 0 i x = some h' ∧ OKX h' ∧ rd h' = up (rd h) 105 I X := x_sI (t := 0) (n := 25) H rfl (by decide) (fun k => nrx_row (by decide) k) hi c hx hr
theorem x_sI_0_7 {h : PH} (H : OKX h) {i : Int32} {I : Int} (hi : i = Z3 I) (c : 0 ≤ I ∧ I < 29) {x : Int32} {X : Int} (hx : x = Z3 X) (hr : r3 X) : ∃ h', sI h 106 0 i x = some h' ∧ OKX h' ∧ rd h' = up (rd h) 106 I X := x_sI (t := 0) (n := 29) H rfl (by decide) (fun k => nrx_row (by decide) k) hi c hx hr
theorem x_sI_0_8 {h : PH} (H : OKX h) {i : Int32} {I : Int} (hi : i = Z3 I) (c : 0 ≤ I ∧ I < 28) {x : Int32} {X : Int} (hx : x = Z3 X) (hr : r3 X) : ∃ h', sI h 107 0 i x = some h' ∧ OKX h' ∧ rd h' = up (rd h) 107 I X := x_sI (t := 0) (n := 28) H rfl (by decide) (fun k => nrx_row (by decide) k) hi c hx hr
theorem x_sI_0_9 {h : PH} (H : OKX h) {i : Int32} {I : Int} (hi : i = Z3 I) (c : 0 ≤ I ∧ I < 28) {x : Int32} {X : Int} (hx : x = Z3 X) (hr : r3 X) : ∃ h', sI h 108 2 i x = some h' ∧ OKX h' ∧ rd h' = up (rd h) 108 I X := x_sI (t := 2) (n := 28) H rfl (by decide) (fun k => nrx_row (by decide) k) hi c hx hr
theorem x_sI_1_1 {h : PH} (H : OKX h) {a : Nat} (ha : R1_1 a) {i : Int32} {I : Int} (hi : i = Z3 I) (c : 0 ≤ I ∧ I < 5) {x : Int32} {X : Int} (hx : x = Z3 X) (hr : r3 X) : ∃ h', sI h a 0 i x = some h' ∧ OKX h' ∧ rd h' = up (rd h) a I X := x_sI (t := 0) (n := 5) H (by rcases ha with rfl | rfl <;> rfl) (by decide) (fun k => nrx_row (by rcases ha with rfl | rfl <;> decide) k) hi c hx hr
theorem x_sI_1_2 {h : PH} (H : OKX h) {a : Nat} (ha : R1_2 a) {i : Int32} {I : Int} (hi : i = Z3 I) (c : 0 ≤ I ∧ I < 5) {x : Int32} {X : Int} (hx : x = Z3 X) (hr : r3 X) : ∃ h', sI h a 0 i x = some h' ∧ OKX h' ∧ rd h' = up (rd h) a I X := x_sI (t := 0) (n := 5) H (by rcases ha with rfl | rfl <;> rfl) (by decide) (fun k => nrx_row (by rcases ha with rfl | rfl <;> decide) k) hi c hx hr
theorem x_sI_1_3 {h : PH} (H : OKX h) {a : Nat} (ha : R1_3 a) {i : Int32} {I : Int} (hi : i = Z3 I) (c : 0 ≤ I ∧ I < 5) {x : Int32} {X : Int} (hx : x = Z3 X) (hr : r3 X) : ∃ h', sI h a 0 i x = some h' ∧ OKX h' ∧ rd h' = up (rd h) a I X := x_sI (t := 0) (n := 5) H (by rcases ha with rfl | rfl <;> rfl) (by decide) (fun k => nrx_row (by rcases ha with rfl | rfl <;> decide) k) hi c hx hr
theorem x_sI_1_4 {h : PH} (H : OKX h) {a : Nat} (ha : R1_4 a) {i : Int32} {I : Int} (hi : i = Z3 I) (c : 0 ≤ I ∧ I < 5) {x : Int32} {X : Int} (hx : x = Z3 X) (hr : r3 X) : ∃ h', sI h a 0 i x = some h' ∧ OKX h' ∧ rd h' = up (rd h) a I X := x_sI (t := 0) (n := 5) H (by rcases ha with rfl | rfl <;> rfl) (by decide) (fun k => nrx_row (by rcases ha with rfl | rfl <;> decide) k) hi c hx hr
theorem x_sI_1_5 {h : PH} (H : OKX h) {a : Nat} (ha : R1_5 a) {i : Int32} {I : Int} (hi : i = Z3 I) (c : 0 ≤ I ∧ I < 5) {x : Int32} {X : Int} (hx : x = Z3 X) (hr : r3 X) : ∃ h', sI h a 0 i x = some h' ∧ OKX h' ∧ rd h' = up (rd h) a I X := x_sI (t := 0) (n := 5) H (by rcases ha with rfl | rfl <;> rfl) (by decide) (fun k => nrx_row (by rcases ha with rfl | rfl <;> decide) k) hi c hx hr
theorem x_sI_1_6 {h : PH} (H : OKX h) {a : Nat} (ha : R1_6 a) {i : Int32} {I : Int} (hi : i = Z3 I) (c : 0 ≤ I ∧ I < 5) {x : Int32} {X : Int} (hx : x = Z3 X) (hr : r3 X) : ∃ h', sI h a 0 i x = some h' ∧ OKX h' ∧ rd h' = up (rd h) a I X := x_sI (t := 0) (n := 5) H (by rcases ha with rfl | rfl <;> rfl) (by decide) (fun k => nrx_row (by rcases ha with rfl | rfl <;> decide) k) hi c hx hr
theorem x_sI_10_2 {h : PH} (H : OKX h) {a : Nat} (ha : R10_2 a) {i : Int32} {I : Int} (hi : i = Z3 I) (c : 0 ≤ I ∧ I < 4) {x : Int32} {X : Int} (hx : x = Z3 X) (hr : r3 X) : ∃ h', sI h a 0 i x = some h' ∧ OKX h' ∧ rd h' = up (rd h) a I X := x_sI (t := 0) (n := 4) H (by rcases ha with rfl | rfl <;> rfl) (by decide) (fun k => nrx_row (by rcases ha with rfl | rfl <;> decide) k) hi c hx hr
theorem x_sI_10_3 {h : PH} (H : OKX h) {a : Nat} (ha : R10_3 a) {i : Int32} {I : Int} (hi : i = Z3 I) (c : 0 ≤ I ∧ I < 4) {x : Int32} {X : Int} (hx : x = Z3 X) (hr : r3 X) : ∃ h', sI h a 0 i x = some h' ∧ OKX h' ∧ rd h' = up (rd h) a I X := x_sI (t := 0) (n := 4) H (by rcases ha with rfl | rfl <;> rfl) (by decide) (fun k => nrx_row (by rcases ha with rfl | rfl <;> decide) k) hi c hx hr
theorem x_sI_10_4 {h : PH} (H : OKX h) {a : Nat} (ha : R10_4 a) {i : Int32} {I : Int} (hi : i = Z3 I) (c : 0 ≤ I ∧ I < 28) {x : Int32} {X : Int} (hx : x = Z3 X) (hr : r3 X) : ∃ h', sI h a 0 i x = some h' ∧ OKX h' ∧ rd h' = up (rd h) a I X := x_sI (t := 0) (n := 28) H (by rcases ha with rfl | rfl <;> rfl) (by decide) (fun k => nrx_row (by rcases ha with rfl | rfl <;> decide) k) hi c hx hr
theorem x_sI_10_5 {h : PH} (H : OKX h) {a : Nat} (ha : R10_5 a) {i : Int32} {I : Int} (hi : i = Z3 I) (c : 0 ≤ I ∧ I < 28) {x : Int32} {X : Int} (hx : x = Z3 X) (hr : r3 X) : ∃ h', sI h a 0 i x = some h' ∧ OKX h' ∧ rd h' = up (rd h) a I X := x_sI (t := 0) (n := 28) H (by rcases ha with rfl | rfl <;> rfl) (by decide) (fun k => nrx_row (by rcases ha with rfl | rfl <;> decide) k) hi c hx hr
theorem x_sI_10_6 {h : PH} (H : OKX h) {a : Nat} (ha : R10_6 a) {i : Int32} {I : Int} (hi : i = Z3 I) (c : 0 ≤ I ∧ I < 28) {x : Int32} {X : Int} (hx : x = Z3 X) (hr : r3 X) : ∃ h', sI h a 0 i x = some h' ∧ OKX h' ∧ rd h' = up (rd h) a I X := x_sI (t := 0) (n := 28) H (by rcases ha with rfl | rfl <;> rfl) (by decide) (fun k => nrx_row (by rcases ha with rfl | rfl <;> decide) k) hi c hx hr
theorem x_sI_10_7 {h : PH} (H : OKX h) {a : Nat} (ha : R10_7 a) {i : Int32} {I : Int} (hi : i = Z3 I) (c : 0 ≤ I ∧ I < 28) {x : Int32} {X : Int} (hx : x = Z3 X) (hr : r3 X) : ∃ h', sI h a 0 i x = some h' ∧ OKX h' ∧ rd h' = up (rd h) a I X := x_sI (t := 0) (n := 28) H (by rcases ha with rfl | rfl <;> rfl) (by decide) (fun k => nrx_row (by rcases ha with rfl | rfl <;> decide) k) hi c hx hr
theorem x_sI_11_0 {h : PH} (H : OKX h) {i : Int32} {I : Int} (hi : i = Z3 I) (c : 0 ≤ I ∧ I < 700) {x : Int32} {X : Int} (hx : x = Z3 X) (hr : r3 X) : ∃ h', sI h 1 1 i x = some h' ∧ OKX h' ∧ rd h' = up (rd h) 1 I X := x_sI (t := 1) (n := 700) H rfl (by decide) (fun k => nrx_row (by decide) k) hi c hx hr
theorem m_sI_12_0 {h : PH} (H : OKM h) {i : Int32} {I : Int} (hi : i = Z3 I) (c : 0 ≤ I ∧ I < 700) {x : Int32} {X : Int} (hx : x = Z3 X) (hr : r3 X) : ∃ h', sI h 1 0 i x = some h' ∧ OKM h' ∧ rd h' = up (rd h) 1 I X := m_sI (t := 0) (n := 700) H rfl (by decide) hi c hx hr
theorem m_sI_12_25 {h : PH} (H : OKM h) {i : Int32} {I : Int} (hi : i = Z3 I) (c : 0 ≤ I ∧ I < 5) {x : Int32} {X : Int} (hx : x = Z3 X) (hr : r3 X) : ∃ h', sI h 3 2 i x = some h' ∧ OKM h' ∧ rd h' = up (rd h) 3 I X := m_sI (t := 2) (n := 5) H rfl (by decide) hi c hx hr
theorem m_sI_12_26 {h : PH} (H : OKM h) {i : Int32} {I : Int} (hi : i = Z3 I) (c : 0 ≤ I ∧ I < 14) {x : Int32} {X : Int} (hx : x = Z3 X) (hr : r3 X) : ∃ h', sI h 4 0 i x = some h' ∧ OKM h' ∧ rd h' = up (rd h) 4 I X := m_sI (t := 0) (n := 14) H rfl (by decide) hi c hx hr
theorem m_sI_12_27 {h : PH} (H : OKM h) {i : Int32} {I : Int} (hi : i = Z3 I) (c : 0 ≤ I ∧ I < 10) {x : Int32} {X : Int} (hx : x = Z3 X) (hr : r3 X) : ∃ h', sI h 5 0 i x = some h' ∧ OKM h' ∧ rd h' = up (rd h) 5 I X := m_sI (t := 0) (n := 10) H rfl (by decide) hi c hx hr
theorem m_sI_12_28 {h : PH} (H : OKM h) {i : Int32} {I : Int} (hi : i = Z3 I) (c : 0 ≤ I ∧ I < 10) {x : Int32} {X : Int} (hx : x = Z3 X) (hr : r3 X) : ∃ h', sI h 6 0 i x = some h' ∧ OKM h' ∧ rd h' = up (rd h) 6 I X := m_sI (t := 0) (n := 10) H rfl (by decide) hi c hx hr
theorem m_sI_12_29 {h : PH} (H : OKM h) {i : Int32} {I : Int} (hi : i = Z3 I) (c : 0 ≤ I ∧ I < 10) {x : Int32} {X : Int} (hx : x = Z3 X) (hr : r3 X) : ∃ h', sI h 7 0 i x = some h' ∧ OKM h' ∧ rd h' = up (rd h) 7 I X := m_sI (t := 0) (n := 10) H rfl (by decide) hi c hx hr
theorem m_sI_12_30 {h : PH} (H : OKM h) {i : Int32} {I : Int} (hi : i = Z3 I) (c : 0 ≤ I ∧ I < 10) {x : Int32} {X : Int} (hx : x = Z3 X) (hr : r3 X) : ∃ h', sI h 8 0 i x = some h' ∧ OKM h' ∧ rd h' = up (rd h) 8 I X := m_sI (t := 0) (n := 10) H rfl (by decide) hi c hx hr
theorem m_sI_12_31 {h : PH} (H : OKM h) {i : Int32} {I : Int} (hi : i = Z3 I) (c : 0 ≤ I ∧ I < 10) {x : Int32} {X : Int} (hx : x = Z3 X) (hr : r3 X) : ∃ h', sI h 9 0 i x = some h' ∧ OKM h' ∧ rd h' = up (rd h) 9 I X := m_sI (t := 0) (n := 10) H rfl (by decide) hi c hx hr
theorem m_sI_12_32 {h : PH} (H : OKM h) {i : Int32} {I : Int} (hi : i = Z3 I) (c : 0 ≤ I ∧ I < 10) {x : Int32} {X : Int} (hx : x = Z3 X) (hr : r3 X) : ∃ h', sI h 10 0 i x = some h' ∧ OKM h' ∧ rd h' = up (rd h) 10 I X := m_sI (t := 0) (n := 10) H rfl (by decide) hi c hx hr
theorem m_sI_12_33 {h : PH} (H : OKM h) {i : Int32} {I : Int} (hi : i = Z3 I) (c : 0 ≤ I ∧ I < 8) {x : Int32} {X : Int} (hx : x = Z3 X) (hr : r3 X) : ∃ h', sI h 11 0 i x = some h' ∧ OKM h' ∧ rd h' = up (rd h) 11 I X := m_sI (t := 0) (n := 8) H rfl (by decide) hi c hx hr
theorem m_sI_12_34 {h : PH} (H : OKM h) {i : Int32} {I : Int} (hi : i = Z3 I) (c : 0 ≤ I ∧ I < 56) {x : Int32} {X : Int} (hx : x = Z3 X) (hr : r3 X) : ∃ h', sI h 12 0 i x = some h' ∧ OKM h' ∧ rd h' = up (rd h) 12 I X := m_sI (t := 0) (n := 56) H rfl (by decide) hi c hx hr
theorem m_sI_12_35 {h : PH} (H : OKM h) {i : Int32} {I : Int} (hi : i = Z3 I) (c : 0 ≤ I ∧ I < 56) {x : Int32} {X : Int} (hx : x = Z3 X) (hr : r3 X) : ∃ h', sI h 13 0 i x = some h' ∧ OKM h' ∧ rd h' = up (rd h) 13 I X := m_sI (t := 0) (n := 56) H rfl (by decide) hi c hx hr
theorem m_sI_12_36 {h : PH} (H : OKM h) {i : Int32} {I : Int} (hi : i = Z3 I) (c : 0 ≤ I ∧ I < 56) {x : Int32} {X : Int} (hx : x = Z3 X) (hr : r3 X) : ∃ h', sI h 14 0 i x = some h' ∧ OKM h' ∧ rd h' = up (rd h) 14 I X := m_sI (t := 0) (n := 56) H rfl (by decide) hi c hx hr
theorem m_sI_12_37 {h : PH} (H : OKM h) {i : Int32} {I : Int} (hi : i = Z3 I) (c : 0 ≤ I ∧ I < 6) {x : Int32} {X : Int} (hx : x = Z3 X) (hr : r3 X) : ∃ h', sI h 15 2 i x = some h' ∧ OKM h' ∧ rd h' = up (rd h) 15 I X := m_sI (t := 2) (n := 6) H rfl (by decide) hi c hx hr
theorem m_sI_12_38 {h : PH} (H : OKM h) {i : Int32} {I : Int} (hi : i = Z3 I) (c : 0 ≤ I ∧ I < 6) {x : Int32} {X : Int} (hx : x = Z3 X) (hr : r3 X) : ∃ h', sI h 16 0 i x = some h' ∧ OKM h' ∧ rd h' = up (rd h) 16 I X := m_sI (t := 0) (n := 6) H rfl (by decide) hi c hx hr
theorem m_sI_12_39 {h : PH} (H : OKM h) {i : Int32} {I : Int} (hi : i = Z3 I) (c : 0 ≤ I ∧ I < 6) {x : Int32} {X : Int} (hx : x = Z3 X) (hr : r3 X) : ∃ h', sI h 17 0 i x = some h' ∧ OKM h' ∧ rd h' = up (rd h) 17 I X := m_sI (t := 0) (n := 6) H rfl (by decide) hi c hx hr
theorem m_sI_12_40 {h : PH} (H : OKM h) {i : Int32} {I : Int} (hi : i = Z3 I) (c : 0 ≤ I ∧ I < 128) {x : Int32} {X : Int} (hx : x = Z3 X) (hr : r3 X) : ∃ h', sI h 18 0 i x = some h' ∧ OKM h' ∧ rd h' = up (rd h) 18 I X := m_sI (t := 0) (n := 128) H rfl (by decide) hi c hx hr
theorem m_sI_12_41 {h : PH} (H : OKM h) {i : Int32} {I : Int} (hi : i = Z3 I) (c : 0 ≤ I ∧ I < 128) {x : Int32} {X : Int} (hx : x = Z3 X) (hr : r3 X) : ∃ h', sI h 19 0 i x = some h' ∧ OKM h' ∧ rd h' = up (rd h) 19 I X := m_sI (t := 0) (n := 128) H rfl (by decide) hi c hx hr
theorem m_sI_12_42 {h : PH} (H : OKM h) {i : Int32} {I : Int} (hi : i = Z3 I) (c : 0 ≤ I ∧ I < 128) {x : Int32} {X : Int} (hx : x = Z3 X) (hr : r3 X) : ∃ h', sI h 20 0 i x = some h' ∧ OKM h' ∧ rd h' = up (rd h) 20 I X := m_sI (t := 0) (n := 128) H rfl (by decide) hi c hx hr
theorem m_sI_12_44 {h : PH} (H : OKM h) {i : Int32} {I : Int} (hi : i = Z3 I) (c : 0 ≤ I ∧ I < 96) {x : Int32} {X : Int} (hx : x = Z3 X) (hr : r3 X) : ∃ h', sI h 21 0 i x = some h' ∧ OKM h' ∧ rd h' = up (rd h) 21 I X := m_sI (t := 0) (n := 96) H rfl (by decide) hi c hx hr
theorem m_sI_12_45 {h : PH} (H : OKM h) {i : Int32} {I : Int} (hi : i = Z3 I) (c : 0 ≤ I ∧ I < 96) {x : Int32} {X : Int} (hx : x = Z3 X) (hr : r3 X) : ∃ h', sI h 22 0 i x = some h' ∧ OKM h' ∧ rd h' = up (rd h) 22 I X := m_sI (t := 0) (n := 96) H rfl (by decide) hi c hx hr
theorem m_sI_12_55 {h : PH} (H : OKM h) {i : Int32} {I : Int} (hi : i = Z3 I) (c : 0 ≤ I ∧ I < 10) {x : Int32} {X : Int} (hx : x = Z3 X) (hr : r3 X) : ∃ h', sI h 25 0 i x = some h' ∧ OKM h' ∧ rd h' = up (rd h) 25 I X := m_sI (t := 0) (n := 10) H rfl (by decide) hi c hx hr
theorem m_sI_12_56 {h : PH} (H : OKM h) {i : Int32} {I : Int} (hi : i = Z3 I) (c : 0 ≤ I ∧ I < 10) {x : Int32} {X : Int} (hx : x = Z3 X) (hr : r3 X) : ∃ h', sI h 26 0 i x = some h' ∧ OKM h' ∧ rd h' = up (rd h) 26 I X := m_sI (t := 0) (n := 10) H rfl (by decide) hi c hx hr
theorem m_sI_12_57 {h : PH} (H : OKM h) {i : Int32} {I : Int} (hi : i = Z3 I) (c : 0 ≤ I ∧ I < 10) {x : Int32} {X : Int} (hx : x = Z3 X) (hr : r3 X) : ∃ h', sI h 27 0 i x = some h' ∧ OKM h' ∧ rd h' = up (rd h) 27 I X := m_sI (t := 0) (n := 10) H rfl (by decide) hi c hx hr
theorem m_sI_12_58 {h : PH} (H : OKM h) {i : Int32} {I : Int} (hi : i = Z3 I) (c : 0 ≤ I ∧ I < 10) {x : Int32} {X : Int} (hx : x = Z3 X) (hr : r3 X) : ∃ h', sI h 28 0 i x = some h' ∧ OKM h' ∧ rd h' = up (rd h) 28 I X := m_sI (t := 0) (n := 10) H rfl (by decide) hi c hx hr
theorem m_sI_12_59 {h : PH} (H : OKM h) {i : Int32} {I : Int} (hi : i = Z3 I) (c : 0 ≤ I ∧ I < 5) {x : Int32} {X : Int} (hx : x = Z3 X) (hr : r3 X) : ∃ h', sI h 29 0 i x = some h' ∧ OKM h' ∧ rd h' = up (rd h) 29 I X := m_sI (t := 0) (n := 5) H rfl (by decide) hi c hx hr
theorem m_sI_12_60 {h : PH} (H : OKM h) {i : Int32} {I : Int} (hi : i = Z3 I) (c : 0 ≤ I ∧ I < 56) {x : Int32} {X : Int} (hx : x = Z3 X) (hr : r3 X) : ∃ h', sI h 30 0 i x = some h' ∧ OKM h' ∧ rd h' = up (rd h) 30 I X := m_sI (t := 0) (n := 56) H rfl (by decide) hi c hx hr
theorem m_sI_12_61 {h : PH} (H : OKM h) {i : Int32} {I : Int} (hi : i = Z3 I) (c : 0 ≤ I ∧ I < 2) {x : Int32} {X : Int} (hx : x = Z3 X) (hr : r3 X) : ∃ h', sI h 31 0 i x = some h' ∧ OKM h' ∧ rd h' = up (rd h) 31 I X := m_sI (t := 0) (n := 2) H rfl (by decide) hi c hx hr
theorem m_sI_12_62 {h : PH} (H : OKM h) {i : Int32} {I : Int} (hi : i = Z3 I) (c : 0 ≤ I ∧ I < 2) {x : Int32} {X : Int} (hx : x = Z3 X) (hr : r3 X) : ∃ h', sI h 32 0 i x = some h' ∧ OKM h' ∧ rd h' = up (rd h) 32 I X := m_sI (t := 0) (n := 2) H rfl (by decide) hi c hx hr
theorem m_sI_12_63 {h : PH} (H : OKM h) {i : Int32} {I : Int} (hi : i = Z3 I) (c : 0 ≤ I ∧ I < 2) {x : Int32} {X : Int} (hx : x = Z3 X) (hr : r3 X) : ∃ h', sI h 33 0 i x = some h' ∧ OKM h' ∧ rd h' = up (rd h) 33 I X := m_sI (t := 0) (n := 2) H rfl (by decide) hi c hx hr
theorem m_sI_12_68 {h : PH} (H : OKM h) {i : Int32} {I : Int} (hi : i = Z3 I) (c : 0 ≤ I ∧ I < 5) {x : Int32} {X : Int} (hx : x = Z3 X) (hr : r3 X) : ∃ h', sI h 34 0 i x = some h' ∧ OKM h' ∧ rd h' = up (rd h) 34 I X := m_sI (t := 0) (n := 5) H rfl (by decide) hi c hx hr
theorem m_sI_12_70 {h : PH} (H : OKM h) {i : Int32} {I : Int} (hi : i = Z3 I) (c : 0 ≤ I ∧ I < 25) {x : Int32} {X : Int} (hx : x = Z3 X) (hr : r3 X) : ∃ h', sI h 35 0 i x = some h' ∧ OKM h' ∧ rd h' = up (rd h) 35 I X := m_sI (t := 0) (n := 25) H rfl (by decide) hi c hx hr
theorem m_sI_12_71 {h : PH} (H : OKM h) {i : Int32} {I : Int} (hi : i = Z3 I) (c : 0 ≤ I ∧ I < 25) {x : Int32} {X : Int} (hx : x = Z3 X) (hr : r3 X) : ∃ h', sI h 36 0 i x = some h' ∧ OKM h' ∧ rd h' = up (rd h) 36 I X := m_sI (t := 0) (n := 25) H rfl (by decide) hi c hx hr
theorem m_sI_12_72 {h : PH} (H : OKM h) {i : Int32} {I : Int} (hi : i = Z3 I) (c : 0 ≤ I ∧ I < 29) {x : Int32} {X : Int} (hx : x = Z3 X) (hr : r3 X) : ∃ h', sI h 37 0 i x = some h' ∧ OKM h' ∧ rd h' = up (rd h) 37 I X := m_sI (t := 0) (n := 29) H rfl (by decide) hi c hx hr
theorem m_sI_12_73 {h : PH} (H : OKM h) {i : Int32} {I : Int} (hi : i = Z3 I) (c : 0 ≤ I ∧ I < 28) {x : Int32} {X : Int} (hx : x = Z3 X) (hr : r3 X) : ∃ h', sI h 38 0 i x = some h' ∧ OKM h' ∧ rd h' = up (rd h) 38 I X := m_sI (t := 0) (n := 28) H rfl (by decide) hi c hx hr
theorem m_sI_12_76 {h : PH} (H : OKM h) {i : Int32} {I : Int} (hi : i = Z3 I) (c : 0 ≤ I ∧ I < 72) {x : Int32} {X : Int} (hx : x = Z3 X) (hr : r3 X) : ∃ h', sI h 39 0 i x = some h' ∧ OKM h' ∧ rd h' = up (rd h) 39 I X := m_sI (t := 0) (n := 72) H rfl (by decide) hi c hx hr
theorem m_sI_12_77 {h : PH} (H : OKM h) {i : Int32} {I : Int} (hi : i = Z3 I) (c : 0 ≤ I ∧ I < 24) {x : Int32} {X : Int} (hx : x = Z3 X) (hr : r3 X) : ∃ h', sI h 40 2 i x = some h' ∧ OKM h' ∧ rd h' = up (rd h) 40 I X := m_sI (t := 2) (n := 24) H rfl (by decide) hi c hx hr
theorem m_sI_12_79 {h : PH} (H : OKM h) {i : Int32} {I : Int} (hi : i = Z3 I) (c : 0 ≤ I ∧ I < 220) {x : Int32} {X : Int} (hx : x = Z3 X) (hr : r3 X) : ∃ h', sI h 41 0 i x = some h' ∧ OKM h' ∧ rd h' = up (rd h) 41 I X := m_sI (t := 0) (n := 220) H rfl (by decide) hi c hx hr
theorem m_sI_12_81 {h : PH} (H : OKM h) {i : Int32} {I : Int} (hi : i = Z3 I) (c : 0 ≤ I ∧ I < 53) {x : Int32} {X : Int} (hx : x = Z3 X) (hr : r3 X) : ∃ h', sI h 42 0 i x = some h' ∧ OKM h' ∧ rd h' = up (rd h) 42 I X := m_sI (t := 0) (n := 53) H rfl (by decide) hi c hx hr
theorem x_sI_2_0 {h : PH} (H : OKX h) {a : Nat} (ha : R2_0 a) {i : Int32} {I : Int} (hi : i = Z3 I) (c : 0 ≤ I ∧ I < 64) {x : Int32} {X : Int} (hx : x = Z3 X) (hr : r3 X) : ∃ h', sI h a 0 i x = some h' ∧ OKX h' ∧ rd h' = up (rd h) a I X := x_sI (t := 0) (n := 64) H (by rcases ha with rfl | rfl | rfl | rfl | rfl | rfl <;> rfl) (by decide) (fun k => nrx_row (by rcases ha with rfl | rfl | rfl | rfl | rfl | rfl <;> decide) k) hi c hx hr
theorem x_sI_3_2 {h : PH} (H : OKX h) {i : Int32} {I : Int} (hi : i = Z3 I) (c : 0 ≤ I ∧ I < 24) {x : Int32} {X : Int} (hx : x = Z3 X) (hr : r3 X) : ∃ h', sI h 91 0 i x = some h' ∧ OKX h' ∧ rd h' = up (rd h) 91 I X := x_sI (t := 0) (n := 24) H rfl (by decide) (fun k => nrx_row (by decide) k) hi c hx hr
theorem x_sI_3_3 {h : PH} (H : OKX h) {i : Int32} {I : Int} (hi : i = Z3 I) (c : 0 ≤ I ∧ I < 24) {x : Int32} {X : Int} (hx : x = Z3 X) (hr : r3 X) : ∃ h', sI h 92 0 i x = some h' ∧ OKX h' ∧ rd h' = up (rd h) 92 I X := x_sI (t := 0) (n := 24) H rfl (by decide) (fun k => nrx_row (by decide) k) hi c hx hr
theorem x_sI_3_4 {h : PH} (H : OKX h) {i : Int32} {I : Int} (hi : i = Z3 I) (c : 0 ≤ I ∧ I < 24) {x : Int32} {X : Int} (hx : x = Z3 X) (hr : r3 X) : ∃ h', sI h 93 0 i x = some h' ∧ OKX h' ∧ rd h' = up (rd h) 93 I X := x_sI (t := 0) (n := 24) H rfl (by decide) (fun k => nrx_row (by decide) k) hi c hx hr
theorem x_sI_3_5 {h : PH} (H : OKX h) {i : Int32} {I : Int} (hi : i = Z3 I) (c : 0 ≤ I ∧ I < 24) {x : Int32} {X : Int} (hx : x = Z3 X) (hr : r3 X) : ∃ h', sI h 94 0 i x = some h' ∧ OKX h' ∧ rd h' = up (rd h) 94 I X := x_sI (t := 0) (n := 24) H rfl (by decide) (fun k => nrx_row (by decide) k) hi c hx hr
theorem x_sI_3_6 {h : PH} (H : OKX h) {i : Int32} {I : Int} (hi : i = Z3 I) (c : 0 ≤ I ∧ I < 24) {x : Int32} {X : Int} (hx : x = Z3 X) (hr : r3 X) : ∃ h', sI h 95 2 i x = some h' ∧ OKX h' ∧ rd h' = up (rd h) 95 I X := x_sI (t := 2) (n := 24) H rfl (by decide) (fun k => nrx_row (by decide) k) hi c hx hr
theorem x_sI_4_10 {h : PH} (H : OKX h) {a : Nat} (ha : R4_10 a) {i : Int32} {I : Int} (hi : i = Z3 I) (c : 0 ≤ I ∧ I < 28) {x : Int32} {X : Int} (hx : x = Z3 X) (hr : r3 X) : ∃ h', sI h a 0 i x = some h' ∧ OKX h' ∧ rd h' = up (rd h) a I X := x_sI (t := 0) (n := 28) H (by rcases ha with rfl | rfl | rfl <;> rfl) (by decide) (fun k => nrx_row (by rcases ha with rfl | rfl | rfl <;> decide) k) hi c hx hr
theorem x_sI_4_5 {h : PH} (H : OKX h) {a : Nat} (ha : R4_5 a) {i : Int32} {I : Int} (hi : i = Z3 I) (c : 0 ≤ I ∧ I < 5) {x : Int32} {X : Int} (hx : x = Z3 X) (hr : r3 X) : ∃ h', sI h a 0 i x = some h' ∧ OKX h' ∧ rd h' = up (rd h) a I X := x_sI (t := 0) (n := 5) H (by rcases ha with rfl | rfl | rfl <;> rfl) (by decide) (fun k => nrx_row (by rcases ha with rfl | rfl | rfl <;> decide) k) hi c hx hr
theorem x_sI_4_6 {h : PH} (H : OKX h) {a : Nat} (ha : R4_6 a) {i : Int32} {I : Int} (hi : i = Z3 I) (c : 0 ≤ I ∧ I < 5) {x : Int32} {X : Int} (hx : x = Z3 X) (hr : r3 X) : ∃ h', sI h a 0 i x = some h' ∧ OKX h' ∧ rd h' = up (rd h) a I X := x_sI (t := 0) (n := 5) H (by rcases ha with rfl | rfl | rfl <;> rfl) (by decide) (fun k => nrx_row (by rcases ha with rfl | rfl | rfl <;> decide) k) hi c hx hr
theorem x_sI_4_7 {h : PH} (H : OKX h) {a : Nat} (ha : R4_7 a) {i : Int32} {I : Int} (hi : i = Z3 I) (c : 0 ≤ I ∧ I < 5) {x : Int32} {X : Int} (hx : x = Z3 X) (hr : r3 X) : ∃ h', sI h a 0 i x = some h' ∧ OKX h' ∧ rd h' = up (rd h) a I X := x_sI (t := 0) (n := 5) H (by rcases ha with rfl | rfl | rfl <;> rfl) (by decide) (fun k => nrx_row (by rcases ha with rfl | rfl | rfl <;> decide) k) hi c hx hr
theorem x_sI_4_8 {h : PH} (H : OKX h) {a : Nat} (ha : R4_8 a) {i : Int32} {I : Int} (hi : i = Z3 I) (c : 0 ≤ I ∧ I < 5) {x : Int32} {X : Int} (hx : x = Z3 X) (hr : r3 X) : ∃ h', sI h a 0 i x = some h' ∧ OKX h' ∧ rd h' = up (rd h) a I X := x_sI (t := 0) (n := 5) H (by rcases ha with rfl | rfl | rfl <;> rfl) (by decide) (fun k => nrx_row (by rcases ha with rfl | rfl | rfl <;> decide) k) hi c hx hr
theorem x_sI_4_9 {h : PH} (H : OKX h) {a : Nat} (ha : R4_9 a) {i : Int32} {I : Int} (hi : i = Z3 I) (c : 0 ≤ I ∧ I < 5) {x : Int32} {X : Int} (hx : x = Z3 X) (hr : r3 X) : ∃ h', sI h a 0 i x = some h' ∧ OKX h' ∧ rd h' = up (rd h) a I X := x_sI (t := 0) (n := 5) H (by rcases ha with rfl | rfl | rfl <;> rfl) (by decide) (fun k => nrx_row (by rcases ha with rfl | rfl | rfl <;> decide) k) hi c hx hr
theorem x_sI_5_1 {h : PH} (H : OKX h) {i : Int32} {I : Int} (hi : i = Z3 I) (c : 0 ≤ I ∧ I < 72) {x : Int32} {X : Int} (hx : x = Z3 X) (hr : r3 X) : ∃ h', sI h 50 0 i x = some h' ∧ OKX h' ∧ rd h' = up (rd h) 50 I X := x_sI (t := 0) (n := 72) H rfl (by decide) (fun k => nrx_row (by decide) k) hi c hx hr
theorem x_sI_6_1 {h : PH} (H : OKX h) {a : Nat} (ha : R6_1 a) {i : Int32} {I : Int} (hi : i = Z3 I) (c : 0 ≤ I ∧ I < 5) {x : Int32} {X : Int} (hx : x = Z3 X) (hr : r3 X) : ∃ h', sI h a 0 i x = some h' ∧ OKX h' ∧ rd h' = up (rd h) a I X := x_sI (t := 0) (n := 5) H (by rcases ha with rfl | rfl <;> rfl) (by decide) (fun k => nrx_row (by rcases ha with rfl | rfl <;> decide) k) hi c hx hr
theorem x_sI_6_2 {h : PH} (H : OKX h) {a : Nat} (ha : R6_2 a) {i : Int32} {I : Int} (hi : i = Z3 I) (c : 0 ≤ I ∧ I < 5) {x : Int32} {X : Int} (hx : x = Z3 X) (hr : r3 X) : ∃ h', sI h a 0 i x = some h' ∧ OKX h' ∧ rd h' = up (rd h) a I X := x_sI (t := 0) (n := 5) H (by rcases ha with rfl | rfl <;> rfl) (by decide) (fun k => nrx_row (by rcases ha with rfl | rfl <;> decide) k) hi c hx hr
theorem x_sI_6_3 {h : PH} (H : OKX h) {a : Nat} (ha : R6_3 a) {i : Int32} {I : Int} (hi : i = Z3 I) (c : 0 ≤ I ∧ I < 28) {x : Int32} {X : Int} (hx : x = Z3 X) (hr : r3 X) : ∃ h', sI h a 0 i x = some h' ∧ OKX h' ∧ rd h' = up (rd h) a I X := x_sI (t := 0) (n := 28) H (by rcases ha with rfl | rfl <;> rfl) (by decide) (fun k => nrx_row (by rcases ha with rfl | rfl <;> decide) k) hi c hx hr
theorem x_sI_6_6 {h : PH} (H : OKX h) {a : Nat} (ha : R6_6 a) {i : Int32} {I : Int} (hi : i = Z3 I) (c : 0 ≤ I ∧ I < 5) {x : Int32} {X : Int} (hx : x = Z3 X) (hr : r3 X) : ∃ h', sI h a 0 i x = some h' ∧ OKX h' ∧ rd h' = up (rd h) a I X := x_sI (t := 0) (n := 5) H (by rcases ha with rfl | rfl <;> rfl) (by decide) (fun k => nrx_row (by rcases ha with rfl | rfl <;> decide) k) hi c hx hr
theorem x_sI_6_7 {h : PH} (H : OKX h) {a : Nat} (ha : R6_7 a) {i : Int32} {I : Int} (hi : i = Z3 I) (c : 0 ≤ I ∧ I < 5) {x : Int32} {X : Int} (hx : x = Z3 X) (hr : r3 X) : ∃ h', sI h a 0 i x = some h' ∧ OKX h' ∧ rd h' = up (rd h) a I X := x_sI (t := 0) (n := 5) H (by rcases ha with rfl | rfl <;> rfl) (by decide) (fun k => nrx_row (by rcases ha with rfl | rfl <;> decide) k) hi c hx hr
theorem x_sI_6_8 {h : PH} (H : OKX h) {a : Nat} (ha : R6_8 a) {i : Int32} {I : Int} (hi : i = Z3 I) (c : 0 ≤ I ∧ I < 5) {x : Int32} {X : Int} (hx : x = Z3 X) (hr : r3 X) : ∃ h', sI h a 0 i x = some h' ∧ OKX h' ∧ rd h' = up (rd h) a I X := x_sI (t := 0) (n := 5) H (by rcases ha with rfl | rfl <;> rfl) (by decide) (fun k => nrx_row (by rcases ha with rfl | rfl <;> decide) k) hi c hx hr
theorem x_sI_9_1 {h : PH} (H : OKX h) {i : Int32} {I : Int} (hi : i = Z3 I) (c : 0 ≤ I ∧ I < 20) {x : Int32} {X : Int} (hx : x = Z3 X) (hr : r3 X) : ∃ h', sI h 97 0 i x = some h' ∧ OKX h' ∧ rd h' = up (rd h) 97 I X := x_sI (t := 0) (n := 20) H rfl (by decide) (fun k => nrx_row (by decide) k) hi c hx hr
theorem x_sI_9_2 {h : PH} (H : OKX h) {i : Int32} {I : Int} (hi : i = Z3 I) (c : 0 ≤ I ∧ I < 20) {x : Int32} {X : Int} (hx : x = Z3 X) (hr : r3 X) : ∃ h', sI h 98 0 i x = some h' ∧ OKX h' ∧ rd h' = up (rd h) 98 I X := x_sI (t := 0) (n := 20) H rfl (by decide) (fun k => nrx_row (by decide) k) hi c hx hr
theorem m_sJ_12_52 {h : PH} (H : OKM h) {i : Int32} {I : Int} (hi : i = Z3 I) (c : 0 ≤ I ∧ I < 6) {x : Int64} {X : Int} (hx : x = Z6 X) (hr : r6 X) : ∃ h', sJ h 23 i x = some h' ∧ OKM h' ∧ rd h' = up (rd h) 23 I X := m_sJ (n := 6) H rfl (by decide) hi c hx hr
theorem m_sJ_12_53 {h : PH} (H : OKM h) {i : Int32} {I : Int} (hi : i = Z3 I) (c : 0 ≤ I ∧ I < 64) {x : Int64} {X : Int} (hx : x = Z6 X) (hr : r6 X) : ∃ h', sJ h 24 i x = some h' ∧ OKM h' ∧ rd h' = up (rd h) 24 I X := m_sJ (n := 64) H rfl (by decide) hi c hx hr
theorem x_sJ_6_4 {h : PH} (H : OKX h) {a : Nat} (ha : R6_4 a) {i : Int32} {I : Int} (hi : i = Z3 I) (c : 0 ≤ I ∧ I < 6) {x : Int64} {X : Int} (hx : x = Z6 X) (hr : r6 X) : ∃ h', sJ h a i x = some h' ∧ OKX h' ∧ rd h' = up (rd h) a I X := x_sJ (n := 6) H (by rcases ha with rfl | rfl <;> rfl) (by decide) (fun k => nrx_row (by rcases ha with rfl | rfl <;> decide) k) hi c hx hr
theorem x_sJ_6_5 {h : PH} (H : OKX h) {a : Nat} (ha : R6_5 a) {i : Int32} {I : Int} (hi : i = Z3 I) (c : 0 ≤ I ∧ I < 64) {x : Int64} {X : Int} (hx : x = Z6 X) (hr : r6 X) : ∃ h', sJ h a i x = some h' ∧ OKX h' ∧ rd h' = up (rd h) a I X := x_sJ (n := 64) H (by rcases ha with rfl | rfl <;> rfl) (by decide) (fun k => nrx_row (by rcases ha with rfl | rfl <;> decide) k) hi c hx hr
theorem l3_m8 : ((-8) : Int32) = Z3 (-8) := by decide
theorem lr3_m8 : r3 (-8) := ⟨by decide, by decide⟩
theorem l3_m4 : ((-4) : Int32) = Z3 (-4) := by decide
theorem lr3_m4 : r3 (-4) := ⟨by decide, by decide⟩
theorem l3_m3 : ((-3) : Int32) = Z3 (-3) := by decide
theorem lr3_m3 : r3 (-3) := ⟨by decide, by decide⟩
theorem l3_m2 : ((-2) : Int32) = Z3 (-2) := by decide
theorem lr3_m2 : r3 (-2) := ⟨by decide, by decide⟩
theorem l3_m1 : ((-1) : Int32) = Z3 (-1) := by decide
theorem lr3_m1 : r3 (-1) := ⟨by decide, by decide⟩
theorem l3_0 : (0 : Int32) = Z3 0 := by decide
theorem lr3_0 : r3 0 := ⟨by decide, by decide⟩
theorem l3_1 : (1 : Int32) = Z3 1 := by decide
theorem lr3_1 : r3 1 := ⟨by decide, by decide⟩
theorem l3_2 : (2 : Int32) = Z3 2 := by decide
theorem lr3_2 : r3 2 := ⟨by decide, by decide⟩
theorem l3_3 : (3 : Int32) = Z3 3 := by decide
theorem lr3_3 : r3 3 := ⟨by decide, by decide⟩
theorem l3_4 : (4 : Int32) = Z3 4 := by decide
theorem lr3_4 : r3 4 := ⟨by decide, by decide⟩
theorem l3_5 : (5 : Int32) = Z3 5 := by decide
theorem lr3_5 : r3 5 := ⟨by decide, by decide⟩
theorem l3_6 : (6 : Int32) = Z3 6 := by decide
theorem lr3_6 : r3 6 := ⟨by decide, by decide⟩
theorem l3_7 : (7 : Int32) = Z3 7 := by decide
theorem lr3_7 : r3 7 := ⟨by decide, by decide⟩
theorem l3_8 : (8 : Int32) = Z3 8 := by decide
theorem lr3_8 : r3 8 := ⟨by decide, by decide⟩
theorem l3_9 : (9 : Int32) = Z3 9 := by decide
theorem lr3_9 : r3 9 := ⟨by decide, by decide⟩
theorem l3_10 : (10 : Int32) = Z3 10 := by decide
theorem lr3_10 : r3 10 := ⟨by decide, by decide⟩
theorem l3_11 : (11 : Int32) = Z3 11 := by decide
theorem lr3_11 : r3 11 := ⟨by decide, by decide⟩
theorem l3_12 : (12 : Int32) = Z3 12 := by decide
theorem lr3_12 : r3 12 := ⟨by decide, by decide⟩
theorem l3_13 : (13 : Int32) = Z3 13 := by decide
theorem lr3_13 : r3 13 := ⟨by decide, by decide⟩
theorem l3_14 : (14 : Int32) = Z3 14 := by decide
theorem lr3_14 : r3 14 := ⟨by decide, by decide⟩
theorem l3_15 : (15 : Int32) = Z3 15 := by decide
theorem lr3_15 : r3 15 := ⟨by decide, by decide⟩
theorem l3_16 : (16 : Int32) = Z3 16 := by decide
theorem lr3_16 : r3 16 := ⟨by decide, by decide⟩
theorem l3_17 : (17 : Int32) = Z3 17 := by decide
theorem lr3_17 : r3 17 := ⟨by decide, by decide⟩
theorem l3_18 : (18 : Int32) = Z3 18 := by decide
theorem lr3_18 : r3 18 := ⟨by decide, by decide⟩
theorem l3_19 : (19 : Int32) = Z3 19 := by decide
theorem lr3_19 : r3 19 := ⟨by decide, by decide⟩
theorem l3_20 : (20 : Int32) = Z3 20 := by decide
theorem lr3_20 : r3 20 := ⟨by decide, by decide⟩
theorem l3_24 : (24 : Int32) = Z3 24 := by decide
theorem lr3_24 : r3 24 := ⟨by decide, by decide⟩
theorem l3_25 : (25 : Int32) = Z3 25 := by decide
theorem lr3_25 : r3 25 := ⟨by decide, by decide⟩
theorem l3_26 : (26 : Int32) = Z3 26 := by decide
theorem lr3_26 : r3 26 := ⟨by decide, by decide⟩
theorem l3_27 : (27 : Int32) = Z3 27 := by decide
theorem lr3_27 : r3 27 := ⟨by decide, by decide⟩
theorem l3_28 : (28 : Int32) = Z3 28 := by decide
theorem lr3_28 : r3 28 := ⟨by decide, by decide⟩
theorem l3_29 : (29 : Int32) = Z3 29 := by decide
theorem lr3_29 : r3 29 := ⟨by decide, by decide⟩
theorem l3_30 : (30 : Int32) = Z3 30 := by decide
theorem lr3_30 : r3 30 := ⟨by decide, by decide⟩
theorem l3_31 : (31 : Int32) = Z3 31 := by decide
theorem lr3_31 : r3 31 := ⟨by decide, by decide⟩
theorem l3_32 : (32 : Int32) = Z3 32 := by decide
theorem lr3_32 : r3 32 := ⟨by decide, by decide⟩
theorem l3_33 : (33 : Int32) = Z3 33 := by decide
theorem lr3_33 : r3 33 := ⟨by decide, by decide⟩
theorem l3_34 : (34 : Int32) = Z3 34 := by decide
theorem lr3_34 : r3 34 := ⟨by decide, by decide⟩
theorem l3_35 : (35 : Int32) = Z3 35 := by decide
theorem lr3_35 : r3 35 := ⟨by decide, by decide⟩
theorem l3_36 : (36 : Int32) = Z3 36 := by decide
theorem lr3_36 : r3 36 := ⟨by decide, by decide⟩
theorem l3_37 : (37 : Int32) = Z3 37 := by decide
theorem lr3_37 : r3 37 := ⟨by decide, by decide⟩
theorem l3_38 : (38 : Int32) = Z3 38 := by decide
theorem lr3_38 : r3 38 := ⟨by decide, by decide⟩
theorem l3_39 : (39 : Int32) = Z3 39 := by decide
theorem lr3_39 : r3 39 := ⟨by decide, by decide⟩
theorem l3_40 : (40 : Int32) = Z3 40 := by decide
theorem lr3_40 : r3 40 := ⟨by decide, by decide⟩
theorem l3_41 : (41 : Int32) = Z3 41 := by decide
theorem lr3_41 : r3 41 := ⟨by decide, by decide⟩
theorem l3_42 : (42 : Int32) = Z3 42 := by decide
theorem lr3_42 : r3 42 := ⟨by decide, by decide⟩
theorem l3_43 : (43 : Int32) = Z3 43 := by decide
theorem lr3_43 : r3 43 := ⟨by decide, by decide⟩
theorem l3_45 : (45 : Int32) = Z3 45 := by decide
theorem lr3_45 : r3 45 := ⟨by decide, by decide⟩
theorem l3_47 : (47 : Int32) = Z3 47 := by decide
theorem lr3_47 : r3 47 := ⟨by decide, by decide⟩
theorem l3_48 : (48 : Int32) = Z3 48 := by decide
theorem lr3_48 : r3 48 := ⟨by decide, by decide⟩
theorem l3_57 : (57 : Int32) = Z3 57 := by decide
theorem lr3_57 : r3 57 := ⟨by decide, by decide⟩
theorem l3_59 : (59 : Int32) = Z3 59 := by decide
theorem lr3_59 : r3 59 := ⟨by decide, by decide⟩
theorem l3_60 : (60 : Int32) = Z3 60 := by decide
theorem lr3_60 : r3 60 := ⟨by decide, by decide⟩
theorem l3_61 : (61 : Int32) = Z3 61 := by decide
theorem lr3_61 : r3 61 := ⟨by decide, by decide⟩
theorem l3_62 : (62 : Int32) = Z3 62 := by decide
theorem lr3_62 : r3 62 := ⟨by decide, by decide⟩
theorem l3_64 : (64 : Int32) = Z3 64 := by decide
theorem lr3_64 : r3 64 := ⟨by decide, by decide⟩
theorem lr3_72 : r3 72 := ⟨by decide, by decide⟩
theorem l3_96 : (96 : Int32) = Z3 96 := by decide
theorem l3_97 : (97 : Int32) = Z3 97 := by decide
theorem lr3_97 : r3 97 := ⟨by decide, by decide⟩
theorem l3_99 : (99 : Int32) = Z3 99 := by decide
theorem lr3_99 : r3 99 := ⟨by decide, by decide⟩
theorem l3_100 : (100 : Int32) = Z3 100 := by decide
theorem lr3_100 : r3 100 := ⟨by decide, by decide⟩
theorem lr3_120 : r3 120 := ⟨by decide, by decide⟩
theorem l3_122 : (122 : Int32) = Z3 122 := by decide
theorem lr3_122 : r3 122 := ⟨by decide, by decide⟩
theorem l3_199 : (199 : Int32) = Z3 199 := by decide
theorem lr3_199 : r3 199 := ⟨by decide, by decide⟩
theorem l3_209 : (209 : Int32) = Z3 209 := by decide
theorem lr3_209 : r3 209 := ⟨by decide, by decide⟩
theorem l3_255 : (255 : Int32) = Z3 255 := by decide
theorem l3_700 : (700 : Int32) = Z3 700 := by decide
theorem lr3_700 : r3 700 := ⟨by decide, by decide⟩
theorem l3_999 : (999 : Int32) = Z3 999 := by decide
theorem lr3_999 : r3 999 := ⟨by decide, by decide⟩
theorem l3_1000 : (1000 : Int32) = Z3 1000 := by decide
theorem l3_9999 : (9999 : Int32) = Z3 9999 := by decide
theorem lr3_9999 : r3 9999 := ⟨by decide, by decide⟩
theorem l3_10000 : (10000 : Int32) = Z3 10000 := by decide
theorem l3_99999 : (99999 : Int32) = Z3 99999 := by decide
theorem lr3_99999 : r3 99999 := ⟨by decide, by decide⟩
theorem l3_1000000 : (1000000 : Int32) = Z3 1000000 := by decide
theorem lr3_1000000 : r3 1000000 := ⟨by decide, by decide⟩
theorem l3_2147483647 : (2147483647 : Int32) = Z3 2147483647 := by decide
theorem lr3_2147483647 : r3 2147483647 := ⟨by decide, by decide⟩
theorem l6_m9223372036854775808 : ((-9223372036854775808) : Int64) = Z6 (-9223372036854775808) := by decide
theorem lr6_m9223372036854775808 : r6 (-9223372036854775808) := ⟨by decide, by decide⟩
theorem l6_m1000000000000 : ((-1000000000000) : Int64) = Z6 (-1000000000000) := by decide
theorem lr6_m1000000000000 : r6 (-1000000000000) := ⟨by decide, by decide⟩
theorem l6_m8 : ((-8) : Int64) = Z6 (-8) := by decide
theorem lr6_m8 : r6 (-8) := ⟨by decide, by decide⟩
theorem l6_0 : (0 : Int64) = Z6 0 := by decide
theorem lr6_0 : r6 0 := ⟨by decide, by decide⟩
theorem l6_1 : (1 : Int64) = Z6 1 := by decide
theorem lr6_1 : r6 1 := ⟨by decide, by decide⟩
theorem l6_8 : (8 : Int64) = Z6 8 := by decide
theorem lr6_8 : r6 8 := ⟨by decide, by decide⟩
theorem l6_30 : (30 : Int64) = Z6 30 := by decide
theorem lr6_30 : r6 30 := ⟨by decide, by decide⟩
theorem l6_100 : (100 : Int64) = Z6 100 := by decide
theorem lr6_100 : r6 100 := ⟨by decide, by decide⟩
theorem l6_12345 : (12345 : Int64) = Z6 12345 := by decide
theorem l6_65536 : (65536 : Int64) = Z6 65536 := by decide
theorem lr6_65536 : r6 65536 := ⟨by decide, by decide⟩
theorem l6_1103515245 : (1103515245 : Int64) = Z6 1103515245 := by decide
theorem l6_2147483647 : (2147483647 : Int64) = Z6 2147483647 := by decide
theorem l6_1000000000000 : (1000000000000 : Int64) = Z6 1000000000000 := by decide
theorem lr6_1000000000000 : r6 1000000000000 := ⟨by decide, by decide⟩
theorem x_v_11_3 {h : PH} (H : OKX h) : A8 (rd h 0 3).toNat := H.2.1.1
theorem x_v_11_4 {h : PH} (H : OKX h) : A8 (rd h 0 4).toNat := H.2.1.2.1
theorem x_v_5_10 {h : PH} (H : OKX h) : A8 (rd h 46 10).toNat := H.2.1.2.2.1
theorem x_v_6_0 {h : PH} (H : OKX h) {a : Nat} (ha : A6 a) : A8 (rd h a 0).toNat := by
  rcases ha with rfl | rfl
  · exact H.2.1.2.2.2.2.1
  · exact H.2.1.2.2.2.2.2
theorem x_aI_B {h : PH} (H : OKX h) (hb : rd h 47 1 = 1) {i : Int32} {I : Int} (hi : i = Z3 I) (c : 0 ≤ I ∧ I < 700) : aI h (rd h 47 1).toNat 1 i = some (Z3 (rd h 1 I)) ∧ r3 (rd h 1 I) := by
  rw [hb]
  exact aI_rd (t := 1) (n := 700) (by rw [H.1]; rfl) (by decide) hi c
theorem x_aR {h : PH} (H : OKX h) {a : Nat} (ha : R8_11 a) {i : Int32} {I : Int} (hi : i = Z3 I) (c : 0 ≤ I ∧ I < 3) : aR h a i = some (a + 1 + 2 * I.toNat) := by
  have hI : I = 0 ∨ I = 1 ∨ I = 2 := by omega
  rcases ha with rfl | rfl
  · exact aR_rd (n := 3) (l := [21, 23, 25]) (by rw [H.1]; rfl) (by decide) hi c (by rcases hI with rfl | rfl | rfl <;> rfl)
  · exact aR_rd (n := 3) (l := [43, 45, 47]) (by rw [H.1]; rfl) (by decide) hi c (by rcases hI with rfl | rfl | rfl <;> rfl)
theorem x_aRp {a : Nat} (ha : R8_11 a) {I : Int} (c : 0 ≤ I ∧ I < 3) : A2 (a + 1 + 2 * I.toNat) := by
  have hI : I = 0 ∨ I = 1 ∨ I = 2 := by omega
  rcases ha with rfl | rfl <;> rcases hI with rfl | rfl | rfl <;> simp [A2]
theorem x_pR {h h' : PH} (H : OKX h) {a ci k r' : Nat} {l : List Nat} (e1 : (Sk h)[a]? = some (0, ci, l)) (e2 : Sk h' = (Sk h).set a (0, ci, l.set k (r' + 3))) (e3 : rd h' = up (rd h) a k r') (hs : ∀ l', (skx (rd h))[a]? = some (0, ci, l') → (skx (rd h)).set a (0, ci, l'.set k (r' + 3)) = skx (up (rd h) a k r')) (hv : vrx (rd h) → vrx (up (rd h) a k r')) : OKX h' := by
  refine ⟨?_, ?_⟩
  · rw [e2, e3, H.1]
    exact hs l (by rw [← H.1]; exact e1)
  · rw [e3]; exact hv H.2
theorem x_pR_11_3 {h : PH} (H : OKX h) {r : Nat} (hr : A8 r) : ∃ h', pR h 0 11 3 r = some h' ∧ OKX h' ∧ rd h' = up (rd h) 0 3 ((r : Nat) : Int) := by
  obtain ⟨h', e1, ⟨l, e2, e3⟩, e4⟩ := pR_rd (h := h) (a := 0) (ci := 11) (k := 3) (r := (rd h 0 3).toNat) (r' := r) (by rw [H.1]; rfl)
  refine ⟨h', e1, x_pR H e2 e3 e4 ?_ ?_, e4⟩
  · intro l' q
    have : l' = _ := (congrArg (fun x => (x.getD (0, 0, [])).2.2) q).symm
    subst this
    rfl
  · rintro ⟨⟨v1, v2, v3, v4, v5, v6⟩, w1, w2, w3, w4, w5, w6⟩
    exact ⟨⟨hr, v2, v3, v4, v5, v6⟩, Int.natCast_nonneg _, w2, w3, w4, w5, w6⟩
theorem x_pR_11_4 {h : PH} (H : OKX h) {r : Nat} (hr : A8 r) : ∃ h', pR h 0 11 4 r = some h' ∧ OKX h' ∧ rd h' = up (rd h) 0 4 ((r : Nat) : Int) := by
  obtain ⟨h', e1, ⟨l, e2, e3⟩, e4⟩ := pR_rd (h := h) (a := 0) (ci := 11) (k := 4) (r := (rd h 0 4).toNat) (r' := r) (by rw [H.1]; rfl)
  refine ⟨h', e1, x_pR H e2 e3 e4 ?_ ?_, e4⟩
  · intro l' q
    have : l' = _ := (congrArg (fun x => (x.getD (0, 0, [])).2.2) q).symm
    subst this
    rfl
  · rintro ⟨⟨v1, v2, v3, v4, v5, v6⟩, w1, w2, w3, w4, w5, w6⟩
    exact ⟨⟨v1, hr, v3, v4, v5, v6⟩, w1, Int.natCast_nonneg _, w3, w4, w5, w6⟩
theorem x_pR_5_10 {h : PH} (H : OKX h) {r : Nat} (hr : A8 r) : ∃ h', pR h 46 5 10 r = some h' ∧ OKX h' ∧ rd h' = up (rd h) 46 10 ((r : Nat) : Int) := by
  obtain ⟨h', e1, ⟨l, e2, e3⟩, e4⟩ := pR_rd (h := h) (a := 46) (ci := 5) (k := 10) (r := (rd h 46 10).toNat) (r' := r) (by rw [H.1]; rfl)
  refine ⟨h', e1, x_pR H e2 e3 e4 ?_ ?_, e4⟩
  · intro l' q
    have : l' = _ := (congrArg (fun x => (x.getD (0, 0, [])).2.2) q).symm
    subst this
    rfl
  · rintro ⟨⟨v1, v2, v3, v4, v5, v6⟩, w1, w2, w3, w4, w5, w6⟩
    exact ⟨⟨v1, v2, hr, v4, v5, v6⟩, w1, w2, Int.natCast_nonneg _, w4, w5, w6⟩
theorem x_pR_7_1 {h : PH} (H : OKX h) : ∃ h', pR h 47 7 1 1 = some h' ∧ OKX h' ∧ rd h' = up (rd h) 47 1 ((1 : Nat) : Int) := by
  obtain ⟨h', e1, ⟨l, e2, e3⟩, e4⟩ := pR_rd (h := h) (a := 47) (ci := 7) (k := 1) (r := (rd h 47 1).toNat) (r' := 1) (by rw [H.1]; rfl)
  refine ⟨h', e1, x_pR H e2 e3 e4 ?_ ?_, e4⟩
  · intro l' q
    have : l' = _ := (congrArg (fun x => (x.getD (0, 0, [])).2.2) q).symm
    subst this
    rfl
  · rintro ⟨⟨v1, v2, v3, v4, v5, v6⟩, w1, w2, w3, w4, w5, w6⟩
    exact ⟨⟨v1, v2, v3, Or.inr rfl, v5, v6⟩, w1, w2, w3, Int.natCast_nonneg _, w5, w6⟩
theorem x_pR_6_0 {h : PH} (H : OKX h) {a : Nat} (ha : A6 a) {r : Nat} (hr : A8 r) : ∃ h', pR h a 6 0 r = some h' ∧ OKX h' ∧ rd h' = up (rd h) a 0 ((r : Nat) : Int) := by
  rcases ha with rfl | rfl
  · obtain ⟨h', e1, ⟨l, e2, e3⟩, e4⟩ := pR_rd (h := h) (a := 51) (ci := 6) (k := 0) (r := (rd h 51 0).toNat) (r' := r) (by rw [H.1]; rfl)
    refine ⟨h', e1, x_pR H e2 e3 e4 ?_ ?_, e4⟩
    · intro l' q
      have : l' = _ := (congrArg (fun x => (x.getD (0, 0, [])).2.2) q).symm
      subst this
      rfl
    · rintro ⟨⟨v1, v2, v3, v4, v5, v6⟩, w1, w2, w3, w4, w5, w6⟩
      exact ⟨⟨v1, v2, v3, v4, hr, v6⟩, w1, w2, w3, w4, Int.natCast_nonneg _, w6⟩
  · obtain ⟨h', e1, ⟨l, e2, e3⟩, e4⟩ := pR_rd (h := h) (a := 60) (ci := 6) (k := 0) (r := (rd h 60 0).toNat) (r' := r) (by rw [H.1]; rfl)
    refine ⟨h', e1, x_pR H e2 e3 e4 ?_ ?_, e4⟩
    · intro l' q
      have : l' = _ := (congrArg (fun x => (x.getD (0, 0, [])).2.2) q).symm
      subst this
      rfl
    · rintro ⟨⟨v1, v2, v3, v4, v5, v6⟩, w1, w2, w3, w4, w5, w6⟩
      exact ⟨⟨v1, v2, v3, v4, v5, hr⟩, w1, w2, w3, w4, w5, Int.natCast_nonneg _⟩
theorem anyM_4 : AnyM 4 := ⟨14, rfl, by decide⟩
theorem anyM_5 : AnyM 5 := ⟨10, rfl, by decide⟩
theorem anyM_6 : AnyM 6 := ⟨10, rfl, by decide⟩
theorem anyM_7 : AnyM 7 := ⟨10, rfl, by decide⟩
theorem anyM_8 : AnyM 8 := ⟨10, rfl, by decide⟩
theorem anyM_9 : AnyM 9 := ⟨10, rfl, by decide⟩
theorem anyM_10 : AnyM 10 := ⟨10, rfl, by decide⟩
theorem anyM_11 : AnyM 11 := ⟨8, rfl, by decide⟩
theorem anyM_12 : AnyM 12 := ⟨56, rfl, by decide⟩
theorem anyM_13 : AnyM 13 := ⟨56, rfl, by decide⟩
theorem anyM_14 : AnyM 14 := ⟨56, rfl, by decide⟩
theorem anyM_16 : AnyM 16 := ⟨6, rfl, by decide⟩
theorem anyM_17 : AnyM 17 := ⟨6, rfl, by decide⟩
theorem anyM_18 : AnyM 18 := ⟨128, rfl, by decide⟩
theorem anyM_19 : AnyM 19 := ⟨128, rfl, by decide⟩
theorem anyM_20 : AnyM 20 := ⟨128, rfl, by decide⟩
