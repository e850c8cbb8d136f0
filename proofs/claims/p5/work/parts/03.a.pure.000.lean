/-! The pure heap: a list of cells by number, the cell of number i lies at b + i; what each instruction does to it; rows that tie both. -/
abbrev PV : Type := Int32 ⊕ Int64 ⊕ Option Nat
abbrev PC : Type := (Nat × vp_A) ⊕ (Nat × List PV)
abbrev PH : Type := List PC
def ph_v (b : Nat) (v : PV) : Value := match v with
  | .inl i => .int i
  | .inr (.inl j) => .long j
  | .inr (.inr none) => .null
  | .inr (.inr (some r)) => .ref (b + r)
def ph_a (b : Nat) (a : vp_A) : vp_A := match a with
  | (n, .inr (.inr (.inr (.inr f)))) => (n, .inr (.inr (.inr (.inr (fun k => (f k).map (fun r => b + r))))))
  | a => a
def ph_e (b : Nat) (cy : Nat → ClassId) (c : PC) : va_E := match c with
  | .inl (t, a) => .inl (cy t, ph_a b a)
  | .inr (ci, fs) => .inr (ci, fs.map (ph_v b))
def ph_w (b : Nat) (cy : Nat → ClassId) (h : PH) : va_W := h.mapIdx (fun i c => (b + i, ph_e b cy c))
def ph_cl : List vw_C := [(RX0, TX0, 13), (RX1, TX1, 7), (RX2, TX2, 3), (RX3, TX3, 7), (RX4, TX4, 11), (RX5, TX5, 11), (RX6, TX6, 9), (RX7, TX7, 7), (RX8, TX8, 14), (RX9, TX9, 3), (RX10, TX10, 8), (RX11, TX11, 14), (RX12, TX12, 87)]
def ph_t (cy : Nat → ClassId) : List (ClassId × FieldType) := [(cy 0, .int), (cy 1, .byte), (cy 2, .boolean), (cy 3, .long), (cy 4, .object "WhoseWave$Law")]
theorem ph_w_at (b : Nat) (cy : Nat → ClassId) (h : PH) (i : Nat) : (ph_w b cy h)[i]? = (h[i]?).map (fun c => (b + i, ph_e b cy c)) := by
  simp [ph_w, List.getElem?_mapIdx]
theorem ph_w_get {b : Nat} {cy : Nat → ClassId} {h : PH} {i : Nat} {c : PC} (e : h[i]? = some c) : (ph_w b cy h)[i]? = some (b + i, ph_e b cy c) := by
  rw [ph_w_at, e]; rfl
theorem ph_w_set (b : Nat) (cy : Nat → ClassId) (h : PH) (i : Nat) (c : PC) : (ph_w b cy h).set i (b + i, ph_e b cy c) = ph_w b cy (h.set i c) := by
  apply List.ext_getElem?
  intro j
  rw [ph_w_at, List.getElem?_set, List.getElem?_set, ph_w_at]
  have hl : (ph_w b cy h).length = h.length := by simp [ph_w]
  rw [hl]
  by_cases hij : i = j
  · subst hij
    by_cases hi : i < h.length
    · simp [hi]
    · simp [hi]
  · simp [hij]
theorem ph_w_push (b : Nat) (cy : Nat → ClassId) (h : PH) (c : PC) : ph_w b cy (h ++ [c]) = ph_w b cy h ++ [(b + h.length, ph_e b cy c)] := by
  simp [ph_w, List.mapIdx_append]
theorem ph_D {A : Nat → Prop} {b : Nat} {cy : Nat → ClassId} {h : PH} (hA : ∀ i, i < h.length → A (b + i)) : va_D A (ph_w b cy h) := by
  have key : ∀ (k : Nat) (q : Nat × va_E), (ph_w b cy h)[k]? = some q → q.1 = b + k ∧ k < h.length := by
    intro k q hk
    rw [ph_w_at] at hk
    cases hc : h[k]? with
    | none => rw [hc] at hk; cases hk
    | some c =>
      rw [hc] at hk
      have e := Option.some.inj hk
      subst e
      exact ⟨rfl, (List.getElem?_eq_some_iff.mp hc).1⟩
  refine ⟨fun i j x y hi hj hxy => ?_, fun k q hk => ?_⟩
  · have e1 := (key i x hi).1
    have e2 := (key j y hj).1
    omega
  · rw [(key k q hk).1]
    exact hA k (key k q hk).2
-- what lies outside the pure heap and never changes: the ways of a game, the language's text, what strings and throws ask for
def ph_gw (j : Nat) : Int32 := [4, 0, 1, 2, 3].getD j 0
def ph_lang : List Int32 := [115, 101, 97, 32, 32, 32, 112, 101, 97, 107, 32, 32, 115, 117, 114, 102, 101, 114, 115, 101, 116, 32, 32, 32, 98, 97, 110, 107, 32, 32, 114, 117, 108, 101, 32, 32, 115, 101, 101, 100, 32, 32, 108, 97, 119, 32, 32, 32, 100, 101, 101, 112, 32, 32, 116, 117, 114, 110, 115, 32, 101, 97, 99, 104, 32, 32, 111, 117, 116, 32, 32, 32, 99, 97, 116, 99, 104, 32, 100, 114, 105, 102, 116, 32, 97, 119, 97, 121, 32, 32, 110, 111, 116, 32, 32, 32, 97, 110, 100, 32, 32, 32, 111, 114, 32, 32, 32, 32, 102, 97, 114, 32, 32, 32, 115, 105, 100, 101, 32, 32, 98, 111, 97, 114, 100, 32, 115, 105, 122, 101, 32, 32, 109, 105, 110, 117, 116, 101, 119, 104, 105, 99, 104, 32]
def ph_E1 : String := "java/lang/IndexOutOfBoundsException"
def ph_E2 : String := "java/util/NoSuchElementException"
def ph_X (cy : Nat → ClassId) (A : Nat → Prop) (U : State) : Prop :=
  va_AO "WhoseWave$Law" U ∧ (∃ t : Nat, va_Z "WhoseWave" "GAME_WAYS" "[I" (.ref t) A U U.heap ∧ va_T .int t 5 (fun j => .int (ph_gw j)) A U U.heap) ∧
  (vk_R "WhoseWave$Tokens" 19 "sea   peak  surferset   bank  rule  seed  law   deep  turns each  out   catch drift away  not   and   or    far   side  board size  minutewhich " (cy 100) U ∧ vk_S 1 [144] [ph_lang] (fun _ => cy 100) (fun _ => cy 101) A U U.heap) ∧
  va_Z "java/lang/String" "COMPACT_STRINGS" "Z" (.int 1) A U U.heap ∧ va_Zq "jdk/internal/util/Preconditions" "SIOOBE_FORMATTER" "Ljava/util/function/BiFunction;" A U U.heap ∧
  vx_Zq Bundle.tN "UNASSIGNED_STACK" Bundle.steD A U U.heap ∧ vx_Zq Bundle.tN "SUPPRESSED_SENTINEL" Bundle.listD A U U.heap ∧ va_Nw (.castable ph_E1 ph_E1) U ∧ va_Nw (.castable ph_E2 ph_E2) U ∧ va_Nw (.fieldLinkNest RX0 84 "WhoseWave" "GAME_WAYS" "[I" "WhoseWave") U
theorem ph_X_move {cy : Nat → ClassId} {A : Nat → Prop} {s U : State} {H : Heap} {locs : List Loc} (h : ph_X cy A s) (hS : va_S A s.heap H locs) (hU : U.heap = H) (hW : s.WarmedH U.vm) : ph_X cy A U := by
  obtain ⟨h1, ⟨t, h2, h3⟩, ⟨h4, h5⟩, h6, h7, h8, h9, h10, h11, h12⟩ := h
  have hq : ∀ a : Nat, a < s.heap.size → ¬ A a → U.heap[a]? = s.heap[a]? := by rw [hU]; exact hS.2.1
  exact ⟨h1.moved hW.alike, ⟨t, (h2.kept hq).moved hW.alike, (h3.kept hq).moved hW.alike⟩, ⟨h4.warm hW, (h5.kept hq).moved hW.alike⟩, (h6.kept hq).moved hW.alike, (h7.kept hq).moved hW.alike, (h8.kept hq).moved hW.alike, (h9.kept hq).moved hW.alike, h10.warmC hW, h11.warmC hW, h12.warmF hW⟩
def ph_I (D : va_G) (cy : Nat → ClassId) (b : Nat) (A : Nat → Prop) (fl : Bool) (h : PH) (s : State) (H : Heap) (locs : List Loc) : Prop :=
  va_P D ph_cl (ph_w b cy h) H ∧ va_K D ph_cl (ph_t cy) s ∧ va_S A s.heap H locs ∧ (∀ i, i < h.length → A (b + i)) ∧ (fl = true → H.size = b + h.length) ∧ ph_X cy A s
def ph_B (D : va_G) (cy : Nat → ClassId) (b : Nat) (A : Nat → Prop) (fl : Bool) (h : PH) (U : State) : Prop :=
  va_P D ph_cl (ph_w b cy h) U.heap ∧ va_K D ph_cl (ph_t cy) U ∧ (∀ i, i < h.length → A (b + i)) ∧ (fl = true → U.heap.size = b + h.length) ∧ ph_X cy A U
theorem ob {α β : Type} {x : Option α} {k : α → Option β} {y : β} (h : x.bind k = some y) : ∃ v, x = some v ∧ k v = some y := by
  cases x with
  | none => cases h
  | some v => exact ⟨v, rfl, h⟩
theorem gd {α : Type} {c : Bool} {x : Option α} {y : α} (h : (cond c x none) = some y) : c = true ∧ x = some y := by
  cases c with
  | false => cases h
  | true => exact ⟨rfl, h⟩
-- the pure instructions
def okO (h : PH) (a ci : Nat) : Bool := match h[a]? with
  | some (.inr (c, _)) => c == ci
  | _ => false
def gV (h : PH) (a ci k : Nat) : Option PV := match h[a]? with
  | some (.inr (c, fs)) => if c = ci then fs[k]? else none
  | _ => none
def gI (h : PH) (a ci k : Nat) : Option Int32 := match gV h a ci k with
  | some (.inl v) => some v
  | _ => none
def gJ (h : PH) (a ci k : Nat) : Option Int64 := match gV h a ci k with
  | some (.inr (.inl v)) => some v
  | _ => none
def gR (h : PH) (a ci k : Nat) : Option Nat := match gV h a ci k with
  | some (.inr (.inr (some r))) => some r
  | _ => none
def pV (h : PH) (a ci k : Nat) (v : PV) : Option PH := match h[a]? with
  | some (.inr (c, fs)) => if c = ci ∧ k < fs.length then some (h.set a (.inr (c, fs.set k v))) else none
  | _ => none
def pI (h : PH) (a ci k : Nat) (v : Int32) : Option PH := pV h a ci k (.inl v)
def pZ (h : PH) (a ci k : Nat) (v : Int32) : Option PH := if v = 0 ∨ v = 1 then pV h a ci k (.inl v) else none
def pJ (h : PH) (a ci k : Nat) (v : Int64) : Option PH := pV h a ci k (.inr (.inl v))
def pR (h : PH) (a ci k : Nat) (r : Nat) : Option PH := pV h a ci k (.inr (.inr (some r)))
def aI (h : PH) (a t : Nat) (i : Int32) : Option Int32 := match h[a]? with
  | some (.inl (t', n, .inl f)) => if t' = t ∧ ¬ (i < 0 ∨ n ≤ i.toNatClampNeg) then some (f i.toNatClampNeg) else none
  | _ => none
def sI (h : PH) (a t : Nat) (i x : Int32) : Option PH := match h[a]? with
  | some (.inl (t', n, .inl f)) => if t' = t ∧ ¬ (i < 0 ∨ n ≤ i.toNatClampNeg) then some (h.set a (.inl (t', n, .inl (upd f i.toNatClampNeg x)))) else none
  | _ => none
def aJ (h : PH) (a : Nat) (i : Int32) : Option Int64 := match h[a]? with
  | some (.inl (t', n, .inr (.inl f))) => if t' = 3 ∧ ¬ (i < 0 ∨ n ≤ i.toNatClampNeg) then some (f i.toNatClampNeg) else none
  | _ => none
def sJ (h : PH) (a : Nat) (i : Int32) (x : Int64) : Option PH := match h[a]? with
  | some (.inl (t', n, .inr (.inl f))) => if t' = 3 ∧ ¬ (i < 0 ∨ n ≤ i.toNatClampNeg) then some (h.set a (.inl (t', n, .inr (.inl (vp_updL f i.toNatClampNeg x))))) else none
  | _ => none
def aR (h : PH) (a : Nat) (i : Int32) : Option Nat := match h[a]? with
  | some (.inl (t', n, .inr (.inr (.inr (.inr f))))) => if t' = 4 ∧ ¬ (i < 0 ∨ n ≤ i.toNatClampNeg) then f i.toNatClampNeg else none
  | _ => none
def sR (h : PH) (a : Nat) (i : Int32) (r : Nat) : Option PH := match h[a]? with
  | some (.inl (t', n, .inr (.inr (.inr (.inr f))))) => if t' = 4 ∧ ¬ (i < 0 ∨ n ≤ i.toNatClampNeg) ∧ okO h r 2 = true then some (h.set a (.inl (t', n, .inr (.inr (.inr (.inr (va_up f i.toNatClampNeg (some r)))))))) else none
  | _ => none
def aL (h : PH) (a : Nat) : Option Int32 := match h[a]? with
  | some (.inl (t, n, _)) => if t < 5 then some (Int32.ofNat n) else none
  | _ => none
def cpI (h : PH) (a0 : Nat) (sp : Int32) (a1 : Nat) (dp n : Int32) : Option PH := match h[a0]?, h[a1]? with
  | some (.inl (t0, n0, .inl f)), some (.inl (t1, n1, .inl g)) => if t0 = 0 ∧ t1 = 0 ∧ ¬ sp < 0 ∧ ¬ dp < 0 ∧ ¬ n < 0 ∧ sp.toNatClampNeg + n.toNatClampNeg ≤ n0 ∧ dp.toNatClampNeg + n.toNatClampNeg ≤ n1 then some (h.set a1 (.inl (t1, n1, .inl (va_cpy f g sp.toNatClampNeg dp.toNatClampNeg n.toNatClampNeg)))) else none
  | _, _ => none
def zI (t n : Nat) : PC := .inl (t, n, .inl (fun _ => 0))
def zJ (n : Nat) : PC := .inl (3, n, .inr (.inl (fun _ => 0)))
def zR (n : Nat) : PC := .inl (4, n, .inr (.inr (.inr (.inr (fun _ => none)))))
def nC (h : PH) (c : PC) : Option PH := some (h ++ [c])
def rz (v : Int32) (h : PH) : Option (Int32 × PH) := if v = 0 ∨ v = 1 then some (v, h) else none
theorem okO_spec {h : PH} {a ci : Nat} (e : okO h a ci = true) : ∃ fs, h[a]? = some (.inr (ci, fs)) := by
  unfold okO at e
  split at e
  · rename_i c fs hc
    have : c = ci := by simpa using e
    exact ⟨fs, by rw [hc, this]⟩
  · cases e
theorem gV_spec {h : PH} {a ci k : Nat} {v : PV} (e : gV h a ci k = some v) : ∃ fs, h[a]? = some (.inr (ci, fs)) ∧ fs[k]? = some v := by
  unfold gV at e
  split at e
  · rename_i c fs hc
    split at e
    · rename_i hci
      subst hci
      exact ⟨fs, hc, e⟩
    · cases e
  · cases e
theorem gI_spec {h : PH} {a ci k : Nat} {v : Int32} (e : gI h a ci k = some v) : gV h a ci k = some (.inl v) := by
  unfold gI at e
  split at e
  · rename_i w hw
    rw [hw, Option.some.inj e]
  · cases e
theorem gJ_spec {h : PH} {a ci k : Nat} {v : Int64} (e : gJ h a ci k = some v) : gV h a ci k = some (.inr (.inl v)) := by
  unfold gJ at e
  split at e
  · rename_i w hw
    rw [hw, Option.some.inj e]
  · cases e
theorem gR_spec {h : PH} {a ci k : Nat} {v : Nat} (e : gR h a ci k = some v) : gV h a ci k = some (.inr (.inr (some v))) := by
  unfold gR at e
  split at e
  · rename_i w hw
    rw [hw, Option.some.inj e]
  · cases e
theorem pV_spec {h h' : PH} {a ci k : Nat} {v : PV} (e : pV h a ci k v = some h') : ∃ fs, h[a]? = some (.inr (ci, fs)) ∧ k < fs.length ∧ h' = h.set a (.inr (ci, fs.set k v)) := by
  unfold pV at e
  split at e
  · rename_i c fs hc
    split at e
    · rename_i hci
      obtain ⟨rfl, hk⟩ := hci
      exact ⟨fs, hc, hk, (Option.some.inj e).symm⟩
    · cases e
  · cases e
theorem aI_spec {h : PH} {a t : Nat} {i v : Int32} (e : aI h a t i = some v) : ∃ n f, h[a]? = some (.inl (t, n, .inl f)) ∧ vp_in i n ∧ v = f i.toNatClampNeg := by
  unfold aI at e
  split at e
  · rename_i t' n f hc
    split at e
    · rename_i hci
      obtain ⟨rfl, hk⟩ := hci
      exact ⟨n, f, hc, hk, (Option.some.inj e).symm⟩
    · cases e
  · cases e
theorem sI_spec {h h' : PH} {a t : Nat} {i x : Int32} (e : sI h a t i x = some h') : ∃ n f, h[a]? = some (.inl (t, n, .inl f)) ∧ vp_in i n ∧ h' = h.set a (.inl (t, n, .inl (upd f i.toNatClampNeg x))) := by
  unfold sI at e
  split at e
  · rename_i t' n f hc
    split at e
    · rename_i hci
      obtain ⟨rfl, hk⟩ := hci
      exact ⟨n, f, hc, hk, (Option.some.inj e).symm⟩
    · cases e
  · cases e
theorem aJ_spec {h : PH} {a : Nat} {i : Int32} {v : Int64} (e : aJ h a i = some v) : ∃ n f, h[a]? = some (.inl (3, n, .inr (.inl f))) ∧ vp_in i n ∧ v = f i.toNatClampNeg := by
  unfold aJ at e
  split at e
  · rename_i t' n f hc
    split at e
    · rename_i hci
      obtain ⟨rfl, hk⟩ := hci
      exact ⟨n, f, hc, hk, (Option.some.inj e).symm⟩
    · cases e
  · cases e
theorem sJ_spec {h h' : PH} {a : Nat} {i : Int32} {x : Int64} (e : sJ h a i x = some h') : ∃ n f, h[a]? = some (.inl (3, n, .inr (.inl f))) ∧ vp_in i n ∧ h' = h.set a (.inl (3, n, .inr (.inl (vp_updL f i.toNatClampNeg x)))) := by
  unfold sJ at e
  split at e
  · rename_i t' n f hc
    split at e
    · rename_i hci
      obtain ⟨rfl, hk⟩ := hci
      exact ⟨n, f, hc, hk, (Option.some.inj e).symm⟩
    · cases e
  · cases e
theorem aR_spec {h : PH} {a : Nat} {i : Int32} {v : Nat} (e : aR h a i = some v) : ∃ n f, h[a]? = some (.inl (4, n, .inr (.inr (.inr (.inr f))))) ∧ vp_in i n ∧ f i.toNatClampNeg = some v := by
  unfold aR at e
  split at e
  · rename_i t' n f hc
    split at e
    · rename_i hci
      obtain ⟨rfl, hk⟩ := hci
      exact ⟨n, f, hc, hk, e⟩
    · cases e
  · cases e
theorem sR_spec {h h' : PH} {a : Nat} {i : Int32} {r : Nat} (e : sR h a i r = some h') : ∃ n f, h[a]? = some (.inl (4, n, .inr (.inr (.inr (.inr f))))) ∧ vp_in i n ∧ okO h r 2 = true ∧ h' = h.set a (.inl (4, n, .inr (.inr (.inr (.inr (va_up f i.toNatClampNeg (some r))))))) := by
  unfold sR at e
  split at e
  · rename_i t' n f hc
    split at e
    · rename_i hci
      obtain ⟨rfl, hk, ho⟩ := hci
      exact ⟨n, f, hc, hk, ho, (Option.some.inj e).symm⟩
    · cases e
  · cases e
theorem aL_spec {h : PH} {a : Nat} {v : Int32} (e : aL h a = some v) : ∃ t n g, h[a]? = some (.inl (t, n, g)) ∧ t < 5 ∧ Int32.ofNat n = v := by
  unfold aL at e
  split at e
  · rename_i t n g hc
    split at e
    · rename_i hci
      exact ⟨t, n, g, hc, hci, Option.some.inj e⟩
    · cases e
  · cases e
theorem cpI_spec {h h' : PH} {a0 a1 : Nat} {sp dp n : Int32} (e : cpI h a0 sp a1 dp n = some h') : ∃ n0 f n1 g, h[a0]? = some (.inl (0, n0, .inl f)) ∧ h[a1]? = some (.inl (0, n1, .inl g)) ∧ (¬ sp < 0 ∧ ¬ dp < 0 ∧ ¬ n < 0 ∧ sp.toNatClampNeg + n.toNatClampNeg ≤ n0 ∧ dp.toNatClampNeg + n.toNatClampNeg ≤ n1) ∧ h' = h.set a1 (.inl (0, n1, .inl (va_cpy f g sp.toNatClampNeg dp.toNatClampNeg n.toNatClampNeg))) := by
  unfold cpI at e
  split at e
  · rename_i t0 n0 f t1 n1 g hc0 hc1
    split at e
    · rename_i hci
      obtain ⟨rfl, rfl, hk⟩ := hci
      exact ⟨n0, f, n1, g, hc0, hc1, hk, (Option.some.inj e).symm⟩
    · cases e
  · cases e
/-! Rows of the program that the pure functions read. -/
def gwA (i : Int32) : Option Int32 := if i < 0 ∨ 5 ≤ i.toNatClampNeg then none else some (ph_gw i.toNatClampNeg)
def chV (k : Nat) : Int32 := ((ph_lang.getD k 0 &&& 255).toUInt32 % 65536).toInt32
def chA (i : Int32) : Option Int32 := if i < 0 ∨ 144 ≤ i.toNatClampNeg then none else some (chV i.toNatClampNeg)
def zF0 : List PV := [.inr (.inr none), .inr (.inr none), .inr (.inr none), .inr (.inr none), .inr (.inr none), .inr (.inr none), .inl 0, .inr (.inr none), .inr (.inr none), .inr (.inr none), .inr (.inr none), .inl 0, .inl 0]
def zF1 : List PV := [.inl 0, .inr (.inr none), .inr (.inr none), .inr (.inr none), .inr (.inr none), .inr (.inr none), .inr (.inr none)]
def zF2 : List PV := [.inr (.inr none), .inl 0, .inl 0]
def zF3 : List PV := [.inl 0, .inl 0, .inr (.inr none), .inr (.inr none), .inr (.inr none), .inr (.inr none), .inr (.inr none)]
def zF4 : List PV := [.inl 0, .inl 0, .inl 0, .inl 0, .inl 0, .inr (.inr none), .inr (.inr none), .inr (.inr none), .inr (.inr none), .inr (.inr none), .inr (.inr none)]
def zF5 : List PV := [.inr (.inr none), .inr (.inr none), .inl 0, .inl 0, .inl 0, .inl 0, .inl 0, .inl 0, .inl 0, .inl 0, .inr (.inr none)]
def zF6 : List PV := [.inr (.inr none), .inr (.inr none), .inr (.inr none), .inr (.inr none), .inr (.inr none), .inr (.inr none), .inr (.inr none), .inr (.inr none), .inr (.inr none)]
def zF7 : List PV := [.inr (.inr none), .inr (.inr none), .inl 0, .inl 0, .inl 0, .inl 0, .inl 0]
def zF8 : List PV := [.inl 0, .inl 0, .inl 0, .inl 0, .inr (.inr none), .inr (.inr none), .inl 0, .inl 0, .inl 0, .inl 0, .inl 0, .inr (.inr none), .inl 0, .inl 0]
def zF9 : List PV := [.inl 0, .inr (.inr none), .inr (.inr none)]
def zF10 : List PV := [.inl 0, .inl 0, .inr (.inr none), .inr (.inr none), .inr (.inr none), .inr (.inr none), .inr (.inr none), .inr (.inr none)]
def zF11 : List PV := [.inr (.inr none), .inl 0, .inr (.inr none), .inr (.inr none), .inr (.inr none), .inr (.inr none), .inr (.inr none), .inr (.inr none), .inr (.inr none), .inr (.inr none), .inl 0, .inr (.inr none), .inr (.inr none), .inr (.inr none)]
def zF12 : List PV := [.inr (.inr none), .inl 0, .inl 0, .inr (.inr none), .inl 0, .inl 0, .inl 0, .inl 0, .inl 0, .inl 0, .inl 0, .inl 0, .inl 0, .inl 0, .inl 0, .inl 0, .inl 0, .inl 0, .inl 0, .inl 0, .inl 0, .inl 0, .inl 0, .inl 0, .inl 0, .inr (.inr none), .inr (.inr none), .inr (.inr none), .inr (.inr none), .inr (.inr none), .inr (.inr none), .inr (.inr none), .inr (.inr none), .inr (.inr none), .inr (.inr none), .inr (.inr none), .inr (.inr none), .inr (.inr none), .inr (.inr none), .inr (.inr none), .inr (.inr none), .inr (.inr none), .inr (.inr none), .inl 0, .inr (.inr none), .inr (.inr none), .inl 0, .inl 0, .inl 0, .inl 0, .inl 0, .inl 0, .inr (.inr none), .inr (.inr none), .inl 0, .inr (.inr none), .inr (.inr none), .inr (.inr none), .inr (.inr none), .inr (.inr none), .inr (.inr none), .inr (.inr none), .inr (.inr none), .inr (.inr none), .inl 0, .inr (.inl 0), .inl 0, .inl 0, .inr (.inr none), .inl 0, .inr (.inr none), .inr (.inr none), .inr (.inr none), .inr (.inr none), .inl 0, .inl 0, .inr (.inr none), .inr (.inr none), .inl 0, .inr (.inr none), .inl 0, .inr (.inr none), .inl 0, .inl 0, .inl 0, .inl 0, .inr (.inl 0)]
/-! The pure functions of the methods (written by wip/gen/gen.py, split.py). -/
def F0_isRest_66 (k26 : PH → Nat → Int32 → Int32 → Int32 → Option (Int32 × PH)) (h : PH) (a0 : Nat) (x1 : Int32) (x2 : Int32) (x3 : Int32) : Option (Int32 × PH) := (gR h a0 0 0).bind fun r1 => (aI h r1 0 (5 + x3)).bind fun v4 => if v4 = (-1) then (k26 h a0 x1 x2 (x3 + 1)) else ((gR h a0 0 4).bind fun r6 => (aI h r6 0 ((x1 * 5) + x3)).bind fun v9 => (gR h a0 0 4).bind fun r10 => (aI h r10 0 ((x1 * 5) + x2)).bind fun v13 => if v9 ≤ v13 then (k26 h a0 x1 x2 (x3 + 1)) else (rz 0 h))
def F0_isRest_26  : Nat → PH → Nat → Int32 → Int32 → Int32 → Option (Int32 × PH)
  | 0, _, _, _, _, _ => none
  | n + 1, h, a0, x1, x2, x3 => if 5 ≤ x3 then (rz 1 h) else ((gR h a0 0 0).bind fun r2 => (aI h r2 0 x3).bind fun v5 => if v5 = (-1) then (F0_isRest_66 (fun h a0 x1 x2 x3 => F0_isRest_26  n h a0 x1 x2 x3) h a0 x1 x2 x3) else ((gR h a0 0 3).bind fun r7 => (aI h r7 0 ((x3 * 5) + x2)).bind fun v10 => (gR h a0 0 3).bind fun r11 => (aI h r11 0 ((x1 * 5) + x2)).bind fun v14 => if v10 ≤ v14 then (F0_isRest_66 (fun h a0 x1 x2 x3 => F0_isRest_26  n h a0 x1 x2 x3) h a0 x1 x2 x3) else (rz 0 h)))
def F0_isRest_0  (h : PH) (a0 : Nat) (x1 : Int32) (x2 : Int32) : Option (Int32 × PH) := (gR h a0 0 0).bind fun r1 => (aI h r1 0 x1).bind fun v4 => if v4 = (-1) then (rz 0 h) else ((gR h a0 0 0).bind fun r6 => (aI h r6 0 (5 + x2)).bind fun v9 => if v9 = (-1) then (rz 0 h) else (F0_isRest_26  1024 h a0 x1 x2 0))
def F0_isRest (h : PH) (a0 : Nat) (x1 : Int32) (x2 : Int32) : Option (Int32 × PH) := cond (okO h a0 0) (F0_isRest_0 h a0 x1 x2) none
def F0_findRests_14 (k7 : PH → Nat → Int32 → Option (PH)) : Nat → PH → Nat → Int32 → Int32 → Option (PH)
  | 0, _, _, _, _ => none
  | n + 1, h, a0, x1, x2 => if 5 ≤ x2 then (k7 h a0 (x1 + 1)) else ((F0_isRest h a0 x1 x2).bind fun o2 => if o2.1 = 0 then (F0_findRests_14 k7 n o2.2 a0 x1 (x2 + 1)) else ((gR o2.2 a0 0 5).bind fun r5 => (gI o2.2 a0 0 6).bind fun v7 => (gwA x1).bind fun v12 => (gwA x2).bind fun v16 => (sI o2.2 r5 0 v7 ((10 * v12) + v16)).bind fun h18 => (gI h18 a0 0 6).bind fun v19 => (pI h18 a0 0 6 (v19 + 1)).bind fun h21 => F0_findRests_14 k7 n h21 a0 x1 (x2 + 1)))
def F0_findRests_7  : Nat → PH → Nat → Int32 → Option (PH)
  | 0, _, _, _ => none
  | n + 1, h, a0, x1 => if 5 ≤ x1 then (some h) else (F0_findRests_14 (fun h a0 x1 => F0_findRests_7  n h a0 x1) 1024 h a0 x1 0)
def F0_findRests_0  (h : PH) (a0 : Nat) : Option (PH) := (pI h a0 0 6 0).bind fun h1 => F0_findRests_7  1024 h1 a0 0
def F0_findRests (h : PH) (a0 : Nat) : Option (PH) := cond (okO h a0 0) (F0_findRests_0 h a0) none
def F0_listPlan_10  : Nat → PH → Nat → Int32 → Int32 → Int32 → Option (PH)
  | 0, _, _, _, _, _ => none
  | n + 1, h, a0, x2, x3, x4 => if x2 ≤ x4 then (some h) else (if x4 < x3 then (F0_listPlan_10  n h a0 x2 x3 (x4 + 1)) else ((gR h a0 0 9).bind fun r3 => (aI h r3 2 x4).bind fun v6 => if v6 = 0 then (F0_listPlan_10  n h a0 x2 x3 (x4 + 1)) else ((gR h a0 0 10).bind fun r8 => (gI h a0 0 11).bind fun v10 => (sI h r8 0 v10 x4).bind fun h13 => (gI h13 a0 0 11).bind fun v14 => (pI h13 a0 0 11 (v14 + 1)).bind fun h16 => (gR h16 a0 0 8).bind fun r18 => (aI h16 r18 0 x4).bind fun v21 => F0_listPlan_10  n h16 a0 x2 v21 (x4 + 1))))
def F0_listPlan_0  (h : PH) (a0 : Nat) (x1 : Int32) (x2 : Int32) : Option (PH) := (pI h a0 0 11 0).bind fun h1 => F0_listPlan_10  1024 h1 a0 x2 x1 x1
def F0_listPlan (h : PH) (a0 : Nat) (x1 : Int32) (x2 : Int32) : Option (PH) := cond (okO h a0 0) (F0_listPlan_0 h a0 x1 x2) none
def F10_firstFrom_2  : Nat → PH → Nat → Int32 → Int32 → Option (Int32 × PH)
  | 0, _, _, _, _ => none
  | n + 1, h, a0, x1, x2 => (gI h a0 10 1).bind fun v1 => if v1 ≤ x2 then ((gI h a0 10 1).bind fun v4 => some (v4, h)) else ((gR h a0 10 4).bind fun r6 => (aI h r6 0 x2).bind fun v9 => if v9 < x1 then (F10_firstFrom_2  n h a0 x1 (x2 + 1)) else (some (x2, h)))
def F10_firstFrom_0  (h : PH) (a0 : Nat) (x1 : Int32) : Option (Int32 × PH) := F10_firstFrom_2  1024 h a0 x1 0
def F10_firstFrom (h : PH) (a0 : Nat) (x1 : Int32) : Option (Int32 × PH) := cond (okO h a0 10) (F10_firstFrom_0 h a0 x1) none
def F6_nameAway_0  (h : PH) (a0 : Nat) (x1 : Int32) (x2 : Int32) : Option (PH) := (gR h a0 6 4).bind fun r1 => (sJ h r1 0 (0 : Int64)).bind fun h4 => (gR h4 a0 6 4).bind fun r5 => (sJ h4 r5 1 (0 : Int64)).bind fun h8 => (gR h8 a0 6 4).bind fun r9 => (gR h8 a0 6 1).bind fun r11 => (aI h8 r11 0 x1).bind fun v14 => (sJ h8 r9 2 (Int32.toInt64 v14)).bind fun h16 => (gR h16 a0 6 4).bind fun r17 => (gR h16 a0 6 0).bind fun r19 => (gR h16 r19 8 5).bind fun r21 => (gR h16 r21 10 5).bind fun r23 => (aI h16 r23 0 x2).bind fun v26 => (sJ h16 r17 3 (Int32.toInt64 v26)).bind fun h28 => (gR h28 a0 6 4).bind fun r29 => (gR h28 a0 6 0).bind fun r31 => (gR h28 r31 8 5).bind fun r33 => (gR h28 r33 10 4).bind fun r35 => (aI h28 r35 0 x2).bind fun v38 => (sJ h28 r29 4 (Int32.toInt64 v38)).bind fun h40 => (gR h40 a0 6 4).bind fun r41 => (gR h40 a0 6 0).bind fun r43 => (gR h40 r43 8 5).bind fun r45 => (gR h40 r45 10 7).bind fun r47 => (aI h40 r47 0 x2).bind fun v50 => (sJ h40 r41 5 (Int32.toInt64 v50)).bind fun h52 => some h52
def F6_nameAway (h : PH) (a0 : Nat) (x1 : Int32) (x2 : Int32) : Option (PH) := cond (okO h a0 6) (F6_nameAway_0 h a0 x1 x2) none
def F2_oneIf_0  (h : PH) (x0 : Int32) : Option (Int64 × PH) := if x0 = 0 then (some ((0 : Int64), h)) else (some ((1 : Int64), h))
def F2_oneIf (h : PH) (x0 : Int32) : Option (Int64 × PH) := F2_oneIf_0 h x0
def F2_product_26  (h : PH) (j0 : Int64) (j2 : Int64) (j4 : Int64) (t0 : Int64) : Option (Int64 × PH) := if (lg_cmp t0 (0 : Int64)) ≤ 0 then (some ((j0 * j2), h)) else (if t0 = 0 then none else if (lg_cmp j4 ((1000000000000 : Int64) / t0)) ≤ 0 then (some ((j0 * j2), h)) else (some ((-9223372036854775808 : Int64), h)))
def F2_product_12  (h : PH) (j0 : Int64) (j2 : Int64) (t0 : Int64) : Option (Int64 × PH) := if 0 ≤ (lg_cmp j2 (0 : Int64)) then (F2_product_26  h j0 j2 t0 j2) else (F2_product_26  h j0 j2 t0 (-j2))
def F2_product_0  (h : PH) (j0 : Int64) (j2 : Int64) : Option (Int64 × PH) := if 0 ≤ (lg_cmp j0 (0 : Int64)) then (F2_product_12  h j0 j2 j0) else (F2_product_12  h j0 j2 (-j0))
def F2_product (h : PH) (j0 : Int64) (j2 : Int64) : Option (Int64 × PH) := F2_product_0 h j0 j2
def F2_join_134  (h : PH) (s0 : Int32) : Option (Int64 × PH) := (F2_oneIf h s0).bind fun o1 => some (o1.1, o1.2)
def F2_join_133  (h : PH)  : Option (Int64 × PH) := F2_join_134  h 0
def F2_join_113  (h : PH) (s0 : Int32) : Option (Int64 × PH) := (F2_oneIf h s0).bind fun o1 => some (o1.1, o1.2)
def F2_join_108  (h : PH)  : Option (Int64 × PH) := F2_join_113  h 1
def F2_join_149  (h : PH) (s0 : Int32) : Option (Int64 × PH) := (F2_oneIf h s0).bind fun o1 => some (o1.1, o1.2)
def F2_join_164  (h : PH) (s0 : Int32) : Option (Int64 × PH) := (F2_oneIf h s0).bind fun o1 => some (o1.1, o1.2)
def F2_join_179  (h : PH) (s0 : Int32) : Option (Int64 × PH) := (F2_oneIf h s0).bind fun o1 => some (o1.1, o1.2)
def F2_join_194  (h : PH) (s0 : Int32) : Option (Int64 × PH) := (F2_oneIf h s0).bind fun o1 => some (o1.1, o1.2)
def F2_join_209  (h : PH) (s0 : Int32) : Option (Int64 × PH) := (F2_oneIf h s0).bind fun o1 => some (o1.1, o1.2)
def F2_join_224  (h : PH) (s0 : Int32) : Option (Int64 × PH) := (F2_oneIf h s0).bind fun o1 => some (o1.1, o1.2)
def F2_join_0  (h : PH) (x0 : Int32) (j1 : Int64) (j3 : Int64) : Option (Int64 × PH) := if x0 = 16 then (if (lg_cmp j1 (0 : Int64)) = 0 then (F2_join_133  h) else (if (lg_cmp j3 (0 : Int64)) = 0 then (F2_join_133  h) else (F2_join_134  h 1))) else if x0 = 17 then (if (lg_cmp j1 (0 : Int64)) = 0 then (if (lg_cmp j3 (0 : Int64)) = 0 then (F2_join_113  h 0) else (F2_join_108  h)) else (F2_join_108  h)) else if x0 = 26 then (if 0 ≤ (lg_cmp j1 j3) then (F2_join_149  h 0) else (F2_join_149  h 1)) else if x0 = 27 then (if 0 < (lg_cmp j1 j3) then (F2_join_164  h 0) else (F2_join_164  h 1)) else if x0 = 28 then (if (lg_cmp j1 j3) = 0 then (F2_join_179  h 1) else (F2_join_179  h 0)) else if x0 = 29 then (if (lg_cmp j1 j3) = 0 then (F2_join_194  h 0) else (F2_join_194  h 1)) else if x0 = 30 then (if (lg_cmp j1 j3) < 0 then (F2_join_209  h 0) else (F2_join_209  h 1)) else if x0 = 31 then (if (lg_cmp j1 j3) ≤ 0 then (F2_join_224  h 0) else (F2_join_224  h 1)) else if x0 = 32 then (some ((j1 + j3), h)) else if x0 = 33 then (some ((j1 - j3), h)) else if x0 = 34 then ((F2_product h j1 j3).bind fun o22 => some (o22.1, o22.2)) else if x0 = 35 then (if (lg_cmp j3 (0 : Int64)) = 0 then (some ((-9223372036854775808 : Int64), h)) else (if j3 = 0 then none else some ((j1 / j3), h))) else (some ((-9223372036854775808 : Int64), h))
def F2_join (h : PH) (x0 : Int32) (j1 : Int64) (j3 : Int64) : Option (Int64 × PH) := F2_join_0 h x0 j1 j3
def F2_valueFor_177  (h : PH) (a2 : Nat) (x3 : Int32) : Option (Int64 × PH) := if x3 = 1 then ((aJ h a2 0).bind fun w3 => some (w3, h)) else (some ((-9223372036854775808 : Int64), h))
def F2_valueFor_119 (k5 : PH → Nat → Nat → Nat → Int32 → Int32 → Option (Int64 × PH)) (h : PH) (a0 : Nat) (a1 : Nat) (a2 : Nat) (x3 : Int32) (x4 : Int32) (x5 : Int32) : Option (Int64 × PH) := if x3 ≤ 1 then (k5 h a0 a1 a2 x3 (x4 + 1)) else ((aJ h a2 ((x3 + (-1)) - 1)).bind fun w3 => (aJ h a2 (x3 + (-1))).bind fun w5 => (F2_join h x5 w3 w5).bind fun o6 => if 0 < (lg_cmp o6.1 (1000000000000 : Int64)) then (some ((-9223372036854775808 : Int64), o6.2)) else (if 0 ≤ (lg_cmp o6.1 (-1000000000000 : Int64)) then ((sJ o6.2 a2 ((x3 + (-1)) - 1) o6.1).bind fun h11 => k5 h11 a0 a1 a2 (x3 + (-1)) (x4 + 1)) else (some ((-9223372036854775808 : Int64), o6.2))))
def F2_valueFor_115 (k5 : PH → Nat → Nat → Nat → Int32 → Int32 → Option (Int64 × PH)) (h : PH) (a0 : Nat) (a1 : Nat) (a2 : Nat) (x3 : Int32) (x4 : Int32) (t0 : Int64) (s1 : Int32) (u2 : Nat) : Option (Int64 × PH) := (sJ h u2 s1 t0).bind fun h2 => k5 h2 a0 a1 a2 x3 (x4 + 1)
def F2_valueFor_85 (k5 : PH → Nat → Nat → Nat → Int32 → Int32 → Option (Int64 × PH)) (h : PH) (a0 : Nat) (a1 : Nat) (a2 : Nat) (x3 : Int32) (x4 : Int32) (x5 : Int32) : Option (Int64 × PH) := if x5 = 15 then (if x3 ≤ 0 then (F2_valueFor_119 k5 h a0 a1 a2 x3 x4 x5) else ((aJ h a2 (x3 - 1)).bind fun w4 => if (lg_cmp w4 (0 : Int64)) = 0 then (F2_valueFor_115 k5 h a0 a1 a2 x3 x4 (1 : Int64) (x3 - 1) a2) else (F2_valueFor_115 k5 h a0 a1 a2 x3 x4 (0 : Int64) (x3 - 1) a2))) else (F2_valueFor_119 k5 h a0 a1 a2 x3 x4 x5)
def F2_valueFor_5  : Nat → PH → Nat → Nat → Nat → Int32 → Int32 → Option (Int64 × PH)
  | 0, _, _, _, _, _, _ => none
  | n + 1, h, a0, a1, a2, x3, x4 => (gI h a0 2 1).bind fun v1 => if v1 ≤ x4 then (F2_valueFor_177  h a2 x3) else ((aL h a2).bind fun v4 => if v4 ≤ x3 then (F2_valueFor_177  h a2 x3) else ((gR h a0 2 0).bind fun r7 => (aI h r7 0 x4).bind fun v10 => if 0 ≤ (v10 - 10000) then (if (v10 - 10000) < 18 then (F2_valueFor_85 (fun h a0 a1 a2 x3 x4 => F2_valueFor_5  n h a0 a1 a2 x3 x4) h a0 a1 a2 x3 x4 (v10 - 10000)) else (if 24 ≤ (v10 - 10000) then (F2_valueFor_85 (fun h a0 a1 a2 x3 x4 => F2_valueFor_5  n h a0 a1 a2 x3 x4) h a0 a1 a2 x3 x4 (v10 - 10000)) else ((aJ h a1 ((v10 - 10000) - 18)).bind fun w15 => (sJ h a2 x3 w15).bind fun h17 => F2_valueFor_5  n h17 a0 a1 a2 (x3 + 1) (x4 + 1)))) else ((gR h a0 2 0).bind fun r18 => (aI h r18 0 x4).bind fun v21 => (sJ h a2 x3 (Int32.toInt64 v21)).bind fun h23 => F2_valueFor_5  n h23 a0 a1 a2 (x3 + 1) (x4 + 1))))
def F2_valueFor_0  (h : PH) (a0 : Nat) (a1 : Nat) (a2 : Nat) : Option (Int64 × PH) := F2_valueFor_5  1024 h a0 a1 a2 0 0
def F2_valueFor (h : PH) (a0 : Nat) (a1 : Nat) (a2 : Nat) : Option (Int64 × PH) := cond (okO h a0 2) (F2_valueFor_0 h a0 a1 a2) none
def F6_awayFor_0  (h : PH) (a0 : Nat) (x1 : Int32) (x2 : Int32) : Option (Int32 × PH) := (F6_nameAway h a0 x1 x2).bind fun o1 => (gR o1 a0 6 0).bind fun r3 => (gR o1 r3 8 11).bind fun r5 => (aR o1 r5 2).bind fun r8 => (gR o1 a0 6 4).bind fun r9 => (gR o1 a0 6 5).bind fun r11 => (F2_valueFor o1 r8 r9 r11).bind fun o13 => if (lg_cmp o13.1 (-9223372036854775808 : Int64)) = 0 then (some (5, o13.2)) else (some ((Int64.toInt32 (if (if o13.1 < (30 : Int64) then o13.1 else (30 : Int64)) < (1 : Int64) then (1 : Int64) else (if o13.1 < (30 : Int64) then o13.1 else (30 : Int64)))), o13.2))
def F6_awayFor (h : PH) (a0 : Nat) (x1 : Int32) (x2 : Int32) : Option (Int32 × PH) := cond (okO h a0 6) (F6_awayFor_0 h a0 x1 x2) none
def F8_farFrom_0  (h : PH) (a0 : Nat) (x1 : Int32) (x2 : Int32) : Option (Int32 × PH) := (gI h a0 8 0).bind fun v1 => if 1 ≤ v1 then ((gI h a0 8 0).bind fun v4 => if v4 = 0 then none else (gI h a0 8 0).bind fun v7 => if v7 = 0 then none else (gI h a0 8 3).bind fun v10 => some (((if 0 ≤ ((x1 - x1 / v4 * v4) - x2) then ((x1 - x1 / v4 * v4) - x2) else 0 - ((x1 - x1 / v4 * v4) - x2)) + (if 0 ≤ ((x1 / v7) - v10) then ((x1 / v7) - v10) else 0 - ((x1 / v7) - v10))), h)) else (some (0, h))
def F8_farFrom (h : PH) (a0 : Nat) (x1 : Int32) (x2 : Int32) : Option (Int32 × PH) := cond (okO h a0 8) (F8_farFrom_0 h a0 x1 x2) none
def F8_rowOf_0  (h : PH) (a0 : Nat) (x1 : Int32) : Option (Int32 × PH) := (gI h a0 8 0).bind fun v1 => if v1 ≤ 0 then (some (0, h)) else ((gI h a0 8 0).bind fun v4 => if v4 = 0 then none else some ((x1 / v4), h))
def F8_rowOf (h : PH) (a0 : Nat) (x1 : Int32) : Option (Int32 × PH) := cond (okO h a0 8) (F8_rowOf_0 h a0 x1) none
def F6_nameCatch_0  (h : PH) (a0 : Nat) (x1 : Int32) (x2 : Int32) (x3 : Int32) : Option (PH) := (F6_nameAway h a0 x1 x2).bind fun o1 => (gR o1 a0 6 4).bind fun r3 => (gR o1 a0 6 0).bind fun r5 => (gR o1 a0 6 3).bind fun r7 => (aI o1 r7 0 x2).bind fun v10 => (F8_farFrom o1 r5 x3 v10).bind fun o11 => (sJ o11.2 r3 0 (Int32.toInt64 o11.1)).bind fun h14 => (gR h14 a0 6 4).bind fun r15 => (gR h14 a0 6 0).bind fun r17 => (F8_rowOf h14 r17 x3).bind fun o19 => (gR o19.2 a0 6 0).bind fun r21 => (gI o19.2 r21 8 3).bind fun v23 => (sJ o19.2 r15 1 (Int32.toInt64 (o19.1 - v23))).bind fun h26 => some h26
def F6_nameCatch (h : PH) (a0 : Nat) (x1 : Int32) (x2 : Int32) (x3 : Int32) : Option (PH) := cond (okO h a0 6) (F6_nameCatch_0 h a0 x1 x2 x3) none
def F6_farOf_0  (h : PH) (a0 : Nat) (x1 : Int32) (x2 : Int32) : Option (Int32 × PH) := (gR h a0 6 0).bind fun r1 => (gR h a0 6 3).bind fun r3 => (aI h r3 0 x2).bind fun v6 => (F8_farFrom h r1 x1 v6).bind fun o7 => some (o7.1, o7.2)
def F6_farOf (h : PH) (a0 : Nat) (x1 : Int32) (x2 : Int32) : Option (Int32 × PH) := cond (okO h a0 6) (F6_farOf_0 h a0 x1 x2) none
def F6_oddsAt_0  (h : PH) (a0 : Nat) (x1 : Int32) (x2 : Int32) (x3 : Int32) : Option (Int32 × PH) := (F6_nameCatch h a0 x1 x2 x3).bind fun o1 => (gR o1 a0 6 0).bind fun r3 => (gR o1 r3 8 11).bind fun r5 => (aR o1 r5 0).bind fun r8 => (gR o1 a0 6 4).bind fun r9 => (gR o1 a0 6 5).bind fun r11 => (F2_valueFor o1 r8 r9 r11).bind fun o13 => if (lg_cmp o13.1 (-9223372036854775808 : Int64)) = 0 then ((F6_farOf o13.2 a0 x3 x2).bind fun o16 => some ((if 0 < (100 - (20 * o16.1)) then (100 - (20 * o16.1)) else 0), o16.2)) else (some ((Int64.toInt32 (if (if o13.1 < (100 : Int64) then o13.1 else (100 : Int64)) < (0 : Int64) then (0 : Int64) else (if o13.1 < (100 : Int64) then o13.1 else (100 : Int64)))), o13.2))
def F6_oddsAt (h : PH) (a0 : Nat) (x1 : Int32) (x2 : Int32) (x3 : Int32) : Option (Int32 × PH) := cond (okO h a0 6) (F6_oddsAt_0 h a0 x1 x2 x3) none
def F6_worthAt_0  (h : PH) (a0 : Nat) (x1 : Int32) (x2 : Int32) (x3 : Int32) : Option (Int32 × PH) := (F6_oddsAt h a0 x1 x2 x3).bind fun o1 => (gR o1.2 a0 6 0).bind fun r3 => (gR o1.2 r3 8 5).bind fun r5 => (gR o1.2 r5 10 5).bind fun r7 => (aI o1.2 r7 0 x2).bind fun v10 => some ((o1.1 * v10), o1.2)
def F6_worthAt (h : PH) (a0 : Nat) (x1 : Int32) (x2 : Int32) (x3 : Int32) : Option (Int32 × PH) := cond (okO h a0 6) (F6_worthAt_0 h a0 x1 x2 x3) none
def F0_makePlan_128 (k40 : PH → Nat → Nat → Nat → Int32 → Nat → Int32 → Int32 → Option (PH)) (h : PH) (a0 : Nat) (a1 : Nat) (a2 : Nat) (x3 : Int32) (a4 : Nat) (x5 : Int32) (x6 : Int32) (x7 : Int32) (s0 : Int32) (s1 : Int32) (u2 : Nat) : Option (PH) := (sI h u2 2 s1 (vp_nar .boolean s0)).bind fun h2 => (gR h2 a0 0 7).bind fun r3 => (gR h2 a0 0 7).bind fun r5 => (aI h2 r5 0 (x6 + 1)).bind fun v8 => (sI h2 r3 0 x6 (if x7 < v8 then v8 else x7)).bind fun h10 => k40 h10 a0 a1 a2 x3 a4 x5 (x6 + (-1))
def F0_makePlan_40  : Nat → PH → Nat → Nat → Nat → Int32 → Nat → Int32 → Int32 → Option (PH)
  | 0, _, _, _, _, _, _, _, _ => none
  | n + 1, h, a0, a1, a2, x3, a4, x5, x6 => if x6 < x5 then ((gR h a0 0 7).bind fun r2 => (aI h r2 0 x5).bind fun v5 => (pI h a0 0 12 v5).bind fun h6 => (gI h6 a4 10 1).bind fun v8 => (F0_listPlan h6 a0 x5 v8).bind fun o10 => some o10) else ((gR h a0 0 8).bind fun r12 => (gR h a4 10 4).bind fun r14 => (aI h r14 0 x6).bind fun v17 => (F6_awayFor h a1 x3 x6).bind fun o18 => (F10_firstFrom o18.2 a4 (v17 + o18.1)).bind fun o20 => (sI o20.2 r12 0 x6 o20.1).bind fun h23 => (gR h23 a2 4 5).bind fun r24 => (aI h23 r24 0 x3).bind fun v27 => (F6_worthAt h23 a1 x3 x6 v27).bind fun o28 => (gR o28.2 a0 0 7).bind fun r30 => (gR o28.2 a0 0 8).bind fun r32 => (aI o28.2 r32 0 x6).bind fun v35 => (aI o28.2 r30 0 v35).bind fun v37 => (gR o28.2 a0 0 9).bind fun r38 => (gR o28.2 a0 0 7).bind fun r40 => (aI o28.2 r40 0 (x6 + 1)).bind fun v43 => if (o28.1 + v37) < v43 then (F0_makePlan_128 (fun h a0 a1 a2 x3 a4 x5 x6 => F0_makePlan_40  n h a0 a1 a2 x3 a4 x5 x6) o28.2 a0 a1 a2 x3 a4 x5 x6 (o28.1 + v37) 0 x6 r38) else (F0_makePlan_128 (fun h a0 a1 a2 x3 a4 x5 x6 => F0_makePlan_40  n h a0 a1 a2 x3 a4 x5 x6) o28.2 a0 a1 a2 x3 a4 x5 x6 (o28.1 + v37) 1 x6 r38))
def F0_makePlan_0  (h : PH) (a0 : Nat) (a1 : Nat) (a2 : Nat) (x3 : Int32) : Option (PH) := (gR h a1 6 0).bind fun r1 => (gR h r1 8 5).bind fun r3 => (gI h a2 4 0).bind fun v5 => (F10_firstFrom h r3 v5).bind fun o7 => (gR o7.2 a0 0 7).bind fun r9 => (gI o7.2 r3 10 1).bind fun v11 => (sI o7.2 r9 0 v11 0).bind fun h14 => (gI h14 r3 10 1).bind fun v15 => F0_makePlan_40  1024 h14 a0 a1 a2 x3 r3 o7.1 (v15 - 1)
def F0_makePlan (h : PH) (a0 : Nat) (a1 : Nat) (a2 : Nat) (x3 : Int32) : Option (PH) := cond (okO h a0 0) (F0_makePlan_0 h a0 a1 a2 x3) none
def F8_columnOf_0  (h : PH) (a0 : Nat) (x1 : Int32) : Option (Int32 × PH) := (gI h a0 8 0).bind fun v1 => if v1 ≤ 0 then (some (0, h)) else ((gI h a0 8 0).bind fun v4 => if v4 = 0 then none else some ((x1 - x1 / v4 * v4), h))
def F8_columnOf (h : PH) (a0 : Nat) (x1 : Int32) : Option (Int32 × PH) := cond (okO h a0 8) (F8_columnOf_0 h a0 x1) none
def F8_cellBeside_0  (h : PH) (a0 : Nat) (x1 : Int32) (x2 : Int32) : Option (Int32 × PH) := (F8_columnOf h a0 x1).bind fun o1 => (F8_rowOf o1.2 a0 x1).bind fun o3 => if x2 = 0 then (if o3.1 ≤ 0 then (some ((-1), o3.2)) else ((gI o3.2 a0 8 0).bind fun v7 => some ((x1 - v7), o3.2))) else if x2 = 1 then ((gI o3.2 a0 8 0).bind fun v10 => if (v10 - 1) ≤ o1.1 then (some ((-1), o3.2)) else (some ((x1 + 1), o3.2))) else if x2 = 2 then ((gI o3.2 a0 8 1).bind fun v14 => if (v14 - 1) ≤ o3.1 then (some ((-1), o3.2)) else ((gI o3.2 a0 8 0).bind fun v17 => some ((x1 + v17), o3.2))) else if x2 = 3 then (if o1.1 ≤ 0 then (some ((-1), o3.2)) else (some ((x1 - 1), o3.2))) else (some (x1, o3.2))
def F8_cellBeside (h : PH) (a0 : Nat) (x1 : Int32) (x2 : Int32) : Option (Int32 × PH) := cond (okO h a0 8) (F8_cellBeside_0 h a0 x1 x2) none
def F0_weighWays_46 (k3 : PH → Nat → Nat → Nat → Int32 → Int32 → Int32 → Int32 → Option (PH)) : Nat → PH → Nat → Nat → Nat → Int32 → Int32 → Int32 → Int32 → Int32 → Int32 → Option (PH)
  | 0, _, _, _, _, _, _, _, _, _, _ => none
  | n + 1, h, a0, a1, a2, x3, x4, x5, x6, x7, x8 => if x7 = (-1) then (k3 h a0 a1 a2 x3 x4 x5 (x6 + 1)) else ((gR h a1 6 0).bind fun r2 => (gR h r2 8 5).bind fun r4 => (gI h r4 10 1).bind fun v6 => if v6 ≤ x8 then (k3 h a0 a1 a2 x3 x4 x5 (x6 + 1)) else ((gR h a0 0 1).bind fun r9 => (F6_farOf h a1 x7 x8).bind fun o11 => (sI o11.2 r9 0 (((x4 + x6) * 28) + x8) o11.1).bind fun h14 => (gR h14 a0 0 2).bind fun r15 => (F6_worthAt h14 a1 x3 x8 x7).bind fun o17 => (sI o17.2 r15 0 (((x4 + x6) * 28) + x8) o17.1).bind fun h20 => F0_weighWays_46 k3 n h20 a0 a1 a2 x3 x4 x5 x6 x7 (x8 + 1)))
def F0_weighWays_3  : Nat → PH → Nat → Nat → Nat → Int32 → Int32 → Int32 → Int32 → Option (PH)
  | 0, _, _, _, _, _, _, _, _ => none
  | n + 1, h, a0, a1, a2, x3, x4, x5, x6 => if 5 ≤ x6 then (some h) else ((gR h a1 6 0).bind fun r2 => (gR h a2 4 5).bind fun r4 => (aI h r4 0 x3).bind fun v7 => (gwA x6).bind fun v11 => (F8_cellBeside h r2 v7 v11).bind fun o12 => (gR o12.2 a0 0 0).bind fun r14 => (sI o12.2 r14 0 (x4 + x6) o12.1).bind fun h17 => F0_weighWays_46 (fun h a0 a1 a2 x3 x4 x5 x6 => F0_weighWays_3  n h a0 a1 a2 x3 x4 x5 x6) 1024 h17 a0 a1 a2 x3 x4 x5 x6 o12.1 x5)
def F0_weighWays_0  (h : PH) (a0 : Nat) (a1 : Nat) (a2 : Nat) (x3 : Int32) (x4 : Int32) (x5 : Int32) : Option (PH) := F0_weighWays_3  1024 h a0 a1 a2 x3 x4 x5 0
def F0_weighWays (h : PH) (a0 : Nat) (a1 : Nat) (a2 : Nat) (x3 : Int32) (x4 : Int32) (x5 : Int32) : Option (PH) := cond (okO h a0 0) (F0_weighWays_0 h a0 a1 a2 x3 x4 x5) none
def F0_sharePair_75 (k9 : PH → Nat → Int32 → Int32 → Int32 → Int32 → Int32 → Int32 → Int32 → Option (PH)) (h : PH) (a0 : Nat) (x1 : Int32) (x2 : Int32) (x4 : Int32) (x5 : Int32) (x6 : Int32) (x7 : Int32) (x8 : Int32) (x9 : Int32) : Option (PH) := (gR h a0 0 2).bind fun r1 => (aI h r1 0 x9).bind fun v4 => k9 h a0 x1 x2 x4 x5 (x6 + v4) x7 (x8 + 1)
def F0_sharePair_90 (k9 : PH → Nat → Int32 → Int32 → Int32 → Int32 → Int32 → Int32 → Int32 → Option (PH)) (h : PH) (a0 : Nat) (x1 : Int32) (x2 : Int32) (x4 : Int32) (x5 : Int32) (x6 : Int32) (x7 : Int32) (x8 : Int32) (x10 : Int32) : Option (PH) := (gR h a0 0 2).bind fun r1 => (aI h r1 0 x10).bind fun v4 => k9 h a0 x1 x2 x4 x5 x6 (x7 + v4) (x8 + 1)
def F0_sharePair_9  : Nat → PH → Nat → Int32 → Int32 → Int32 → Int32 → Int32 → Int32 → Int32 → Option (PH)
  | 0, _, _, _, _, _, _, _, _, _ => none
  | n + 1, h, a0, x1, x2, x4, x5, x6, x7, x8 => if x4 ≤ x8 then ((gR h a0 0 3).bind fun r2 => (sI h r2 0 ((x1 * 5) + x2) x6).bind fun h5 => (gR h5 a0 0 4).bind fun r6 => (sI h5 r6 0 ((x1 * 5) + x2) x7).bind fun h9 => some h9) else ((gR h a0 0 1).bind fun r10 => (aI h r10 0 ((x1 * 28) + x8)).bind fun v13 => (gR h a0 0 1).bind fun r14 => (aI h r14 0 (((5 + x2) * 28) + x8)).bind fun v17 => if v13 < v17 then (F0_sharePair_75 (fun h a0 x1 x2 x4 x5 x6 x7 x8 => F0_sharePair_9  n h a0 x1 x2 x4 x5 x6 x7 x8) h a0 x1 x2 x4 x5 x6 x7 x8 ((x1 * 28) + x8)) else ((gR h a0 0 1).bind fun r19 => (aI h r19 0 ((x1 * 28) + x8)).bind fun v22 => (gR h a0 0 1).bind fun r23 => (aI h r23 0 (((5 + x2) * 28) + x8)).bind fun v26 => if v22 = v26 then (if x5 = 0 then (F0_sharePair_90 (fun h a0 x1 x2 x4 x5 x6 x7 x8 => F0_sharePair_9  n h a0 x1 x2 x4 x5 x6 x7 x8) h a0 x1 x2 x4 x5 x6 x7 x8 (((5 + x2) * 28) + x8)) else (F0_sharePair_75 (fun h a0 x1 x2 x4 x5 x6 x7 x8 => F0_sharePair_9  n h a0 x1 x2 x4 x5 x6 x7 x8) h a0 x1 x2 x4 x5 x6 x7 x8 ((x1 * 28) + x8))) else (F0_sharePair_90 (fun h a0 x1 x2 x4 x5 x6 x7 x8 => F0_sharePair_9  n h a0 x1 x2 x4 x5 x6 x7 x8) h a0 x1 x2 x4 x5 x6 x7 x8 (((5 + x2) * 28) + x8))))
def F0_sharePair_0  (h : PH) (a0 : Nat) (x1 : Int32) (x2 : Int32) (x3 : Int32) (x4 : Int32) (x5 : Int32) : Option (PH) := F0_sharePair_9  1024 h a0 x1 x2 x4 x5 0 0 x3
def F0_sharePair (h : PH) (a0 : Nat) (x1 : Int32) (x2 : Int32) (x3 : Int32) (x4 : Int32) (x5 : Int32) : Option (PH) := cond (okO h a0 0) (F0_sharePair_0 h a0 x1 x2 x3 x4 x5) none
def F0_playGame_83 (k40 : PH → Nat → Nat → Int32 → Int32 → Int32 → Int32 → Option (PH)) (k49 : PH → Nat → Nat → Int32 → Int32 → Int32 → Int32 → Int32 → Option (PH)) (h : PH) (a0 : Nat) (a1 : Nat) (x3 : Int32) (x4 : Int32) (x5 : Int32) (x6 : Int32) (x7 : Int32) (s0 : Int32) (s1 : Int32) (s2 : Int32) (s3 : Int32) (s4 : Int32) (u5 : Nat) : Option (PH) := (F0_sharePair h u5 s4 s3 s2 s1 s0).bind fun o1 => k49 o1 a0 a1 x3 x4 x5 x6 (x7 + 1)
def F0_playGame_49 (k40 : PH → Nat → Nat → Int32 → Int32 → Int32 → Int32 → Option (PH)) : Nat → PH → Nat → Nat → Int32 → Int32 → Int32 → Int32 → Int32 → Option (PH)
  | 0, _, _, _, _, _, _, _, _ => none
  | n + 1, h, a0, a1, x3, x4, x5, x6, x7 => if 5 ≤ x7 then (k40 h a0 a1 x3 x4 x5 (x6 + 1)) else ((gR h a1 6 0).bind fun r2 => (gR h r2 8 5).bind fun r4 => (gI h r4 10 1).bind fun v6 => if x4 ≤ x3 then (F0_playGame_83 k40 (fun h a0 a1 x3 x4 x5 x6 x7 => F0_playGame_49 k40 n h a0 a1 x3 x4 x5 x6 x7) h a0 a1 x3 x4 x5 x6 x7 0 v6 x5 x7 x6 a0) else (F0_playGame_83 k40 (fun h a0 a1 x3 x4 x5 x6 x7 => F0_playGame_49 k40 n h a0 a1 x3 x4 x5 x6 x7) h a0 a1 x3 x4 x5 x6 x7 1 v6 x5 x7 x6 a0))
def F0_playGame_40  : Nat → PH → Nat → Nat → Int32 → Int32 → Int32 → Int32 → Option (PH)
  | 0, _, _, _, _, _, _, _ => none
  | n + 1, h, a0, a1, x3, x4, x5, x6 => if 5 ≤ x6 then ((F0_findRests h a0).bind fun o2 => some o2) else (F0_playGame_49 (fun h a0 a1 x3 x4 x5 x6 => F0_playGame_40  n h a0 a1 x3 x4 x5 x6) 1024 h a0 a1 x3 x4 x5 x6 0)
def F0_playGame_0  (h : PH) (a0 : Nat) (a1 : Nat) (a2 : Nat) (x3 : Int32) (x4 : Int32) : Option (PH) := (gR h a1 6 0).bind fun r1 => (gR h r1 8 5).bind fun r3 => (gI h a2 4 0).bind fun v5 => (F10_firstFrom h r3 v5).bind fun o7 => (F0_weighWays o7.2 a0 a1 a2 x3 0 o7.1).bind fun o9 => (F0_weighWays o9 a0 a1 a2 x4 5 o7.1).bind fun o11 => F0_playGame_40  1024 o11 a0 a1 x3 x4 o7.1 0
def F0_playGame (h : PH) (a0 : Nat) (a1 : Nat) (a2 : Nat) (x3 : Int32) (x4 : Int32) : Option (PH) := cond (okO h a0 0) (F0_playGame_0 h a0 a1 a2 x3 x4) none
def F1_add_0  (h : PH) (a0 : Nat) (x1 : Int32) (x2 : Int32) (x3 : Int32) (x4 : Int32) (x5 : Int32) (x6 : Int32) : Option (PH) := (gI h a0 1 0).bind fun v1 => if v1 < 5 then ((gR h a0 1 1).bind fun r4 => (gI h a0 1 0).bind fun v6 => (sI h r4 0 v6 x1).bind fun h9 => (gR h9 a0 1 2).bind fun r10 => (gI h9 a0 1 0).bind fun v12 => (sI h9 r10 0 v12 x2).bind fun h15 => (gR h15 a0 1 3).bind fun r16 => (gI h15 a0 1 0).bind fun v18 => (sI h15 r16 0 v18 x3).bind fun h21 => (gR h21 a0 1 4).bind fun r22 => (gI h21 a0 1 0).bind fun v24 => (sI h21 r22 0 v24 x4).bind fun h27 => (gR h27 a0 1 5).bind fun r28 => (gI h27 a0 1 0).bind fun v30 => (sI h27 r28 0 v30 x5).bind fun h33 => (gR h33 a0 1 6).bind fun r34 => (gI h33 a0 1 0).bind fun v36 => (sI h33 r34 0 v36 x6).bind fun h39 => (gI h39 a0 1 0).bind fun v40 => (pI h39 a0 1 0 (v40 + 1)).bind fun h42 => some h42) else (some h)
def F1_add (h : PH) (a0 : Nat) (x1 : Int32) (x2 : Int32) (x3 : Int32) (x4 : Int32) (x5 : Int32) (x6 : Int32) : Option (PH) := cond (okO h a0 1) (F1_add_0 h a0 x1 x2 x3 x4 x5 x6) none
def F1_hasName_2  : Nat → PH → Nat → Int32 → Int32 → Option (Int32 × PH)
  | 0, _, _, _, _ => none
  | n + 1, h, a0, x1, x2 => (gI h a0 1 0).bind fun v1 => if v1 ≤ x2 then (rz 0 h) else ((gR h a0 1 1).bind fun r4 => (aI h r4 0 x2).bind fun v7 => if v7 = x1 then (rz 1 h) else (F1_hasName_2  n h a0 x1 (x2 + 1)))
def F1_hasName_0  (h : PH) (a0 : Nat) (x1 : Int32) : Option (Int32 × PH) := F1_hasName_2  1024 h a0 x1 0
def F1_hasName (h : PH) (a0 : Nat) (x1 : Int32) : Option (Int32 × PH) := cond (okO h a0 1) (F1_hasName_0 h a0 x1) none
def F2_add_0  (h : PH) (a0 : Nat) (x1 : Int32) : Option (PH) := (gI h a0 2 1).bind fun v1 => (gR h a0 2 0).bind fun r3 => (aL h r3).bind fun v5 => if v5 ≤ v1 then (some h) else ((gR h a0 2 0).bind fun r8 => (gI h a0 2 1).bind fun v10 => (sI h r8 0 v10 x1).bind fun h13 => (gI h13 a0 2 1).bind fun v14 => (pI h13 a0 2 1 (v14 + 1)).bind fun h16 => some h16)
def F2_add (h : PH) (a0 : Nat) (x1 : Int32) : Option (PH) := cond (okO h a0 2) (F2_add_0 h a0 x1) none
def F2_forget_0  (h : PH) (a0 : Nat) : Option (PH) := (pI h a0 2 1 0).bind fun h1 => (pZ h1 a0 2 2 0).bind fun h3 => some h3
def F2_forget (h : PH) (a0 : Nat) : Option (PH) := cond (okO h a0 2) (F2_forget_0 h a0) none
def F3_addSeat_0  (h : PH) (a0 : Nat) (x1 : Int32) (x2 : Int32) (x3 : Int32) : Option (Int32 × PH) := (gI h a0 3 0).bind fun v1 => if v1 < 24 then ((gR h a0 3 2).bind fun r4 => (gI h a0 3 0).bind fun v6 => (sI h r4 0 v6 x1).bind fun h9 => (gR h9 a0 3 3).bind fun r10 => (gI h9 a0 3 0).bind fun v12 => (sI h9 r10 0 v12 x2).bind fun h15 => (gR h15 a0 3 4).bind fun r16 => (gI h15 a0 3 0).bind fun v18 => (sI h15 r16 0 v18 x3).bind fun h21 => (gR h21 a0 3 5).bind fun r22 => (gI h21 a0 3 0).bind fun v24 => (sI h21 r22 0 v24 (-1)).bind fun h27 => (gI h27 a0 3 0).bind fun v28 => (pI h27 a0 3 0 (v28 + 1)).bind fun h30 => (gI h30 a0 3 0).bind fun v32 => some ((v32 - 1), h30)) else (some ((-1), h))
def F3_addSeat (h : PH) (a0 : Nat) (x1 : Int32) (x2 : Int32) (x3 : Int32) : Option (Int32 × PH) := cond (okO h a0 3) (F3_addSeat_0 h a0 x1 x2 x3) none
def F3_addStrike_0  (h : PH) (a0 : Nat) (x1 : Int32) : Option (Int32 × PH) := (gI h a0 3 0).bind fun v1 => if v1 < 24 then ((gR h a0 3 3).bind fun r4 => (gI h a0 3 0).bind fun v6 => (sI h r4 0 v6 (-1)).bind fun h9 => (gR h9 a0 3 5).bind fun r10 => (gI h9 a0 3 0).bind fun v12 => (sI h9 r10 0 v12 x1).bind fun h15 => (gI h15 a0 3 0).bind fun v16 => (pI h15 a0 3 0 (v16 + 1)).bind fun h18 => (gI h18 a0 3 0).bind fun v20 => some ((v20 - 1), h18)) else (some ((-1), h))
def F3_addStrike (h : PH) (a0 : Nat) (x1 : Int32) : Option (Int32 × PH) := cond (okO h a0 3) (F3_addStrike_0 h a0 x1) none
def F3_howManyKnown_0  (h : PH) (a0 : Nat) : Option (Int32 × PH) := (gI h a0 3 1).bind fun v1 => if v1 = (-1) then ((gI h a0 3 0).bind fun v6 => some (v6, h)) else ((gI h a0 3 1).bind fun v4 => some (v4, h))
def F3_howManyKnown (h : PH) (a0 : Nat) : Option (Int32 × PH) := cond (okO h a0 3) (F3_howManyKnown_0 h a0) none
def F3_findStruck_29  : Nat → PH → Nat → Int32 → Option (PH)
  | 0, _, _, _ => none
  | n + 1, h, a0, x2 => if x2 < 0 then (some h) else ((gR h a0 3 6).bind fun r2 => (aI h r2 2 x2).bind fun v5 => if v5 = 0 then ((gR h a0 3 5).bind fun r7 => (aI h r7 0 x2).bind fun v10 => if v10 = (-1) then (F3_findStruck_29  n h a0 (x2 + (-1))) else ((gR h a0 3 6).bind fun r12 => (gR h a0 3 5).bind fun r14 => (aI h r14 0 x2).bind fun v17 => (sI h r12 2 v17 (vp_nar .boolean 1)).bind fun h19 => F3_findStruck_29  n h19 a0 (x2 + (-1)))) else (F3_findStruck_29  n h a0 (x2 + (-1))))
def F3_findStruck_7  : Nat → PH → Nat → Int32 → Int32 → Option (PH)
  | 0, _, _, _, _ => none
  | n + 1, h, a0, x1, x2 => if x1 ≤ x2 then (F3_findStruck_29  1024 h a0 (x1 - 1)) else ((gR h a0 3 6).bind fun r2 => (sI h r2 2 x2 (vp_nar .boolean 0)).bind fun h5 => F3_findStruck_7  n h5 a0 x1 (x2 + 1))
def F3_findStruck_0  (h : PH) (a0 : Nat) : Option (PH) := (F3_howManyKnown h a0).bind fun o1 => F3_findStruck_7  1024 o1.2 a0 o1.1 0
def F3_findStruck (h : PH) (a0 : Nat) : Option (PH) := cond (okO h a0 3) (F3_findStruck_0 h a0) none
def F3_isKnownSeat_0  (h : PH) (a0 : Nat) (x1 : Int32) : Option (Int32 × PH) := (gR h a0 3 6).bind fun r1 => (aI h r1 2 x1).bind fun v4 => if v4 = 0 then ((gR h a0 3 5).bind fun r6 => (aI h r6 0 x1).bind fun v9 => if v9 = (-1) then (rz 1 h) else (rz 0 h)) else (rz 0 h)
def F3_isKnownSeat (h : PH) (a0 : Nat) (x1 : Int32) : Option (Int32 × PH) := cond (okO h a0 3) (F3_isKnownSeat_0 h a0 x1) none
def F4_begin_89  : Nat → PH → Nat → Int32 → Option (PH)
  | 0, _, _, _ => none
  | n + 1, h, a0, x2 => if 28 ≤ x2 then (some h) else ((gR h a0 4 10).bind fun r2 => (sI h r2 0 x2 (-2)).bind fun h5 => F4_begin_89  n h5 a0 (x2 + 1))
def F4_begin_33  : Nat → PH → Nat → Nat → Int32 → Option (PH)
  | 0, _, _, _, _ => none
  | n + 1, h, a0, a1, x2 => if 5 ≤ x2 then (F4_begin_89  1024 h a0 0) else ((gR h a0 4 5).bind fun r2 => (gR h a1 8 4).bind fun r4 => (gR h r4 1 2).bind fun r6 => (aI h r6 0 x2).bind fun v9 => (sI h r2 0 x2 v9).bind fun h11 => (gR h11 a0 4 6).bind fun r12 => (sI h11 r12 0 x2 0).bind fun h15 => (gR h15 a0 4 7).bind fun r16 => (sI h15 r16 0 x2 0).bind fun h19 => (gR h19 a0 4 8).bind fun r20 => (sI h19 r20 0 x2 0).bind fun h23 => (gR h23 a0 4 9).bind fun r24 => (sI h23 r24 0 x2 0).bind fun h27 => F4_begin_33  n h27 a0 a1 (x2 + 1))
def F4_begin_0  (h : PH) (a0 : Nat) (a1 : Nat) : Option (PH) := (pI h a0 4 0 0).bind fun h1 => (gI h1 a1 8 9).bind fun v3 => (pI h1 a0 4 1 v3).bind fun h5 => (gI h5 a1 8 10).bind fun v7 => (pI h5 a0 4 2 v7).bind fun h9 => (pI h9 a0 4 3 0).bind fun h11 => (pI h11 a0 4 4 0).bind fun h13 => F4_begin_33  1024 h13 a0 a1 0
def F4_begin (h : PH) (a0 : Nat) (a1 : Nat) : Option (PH) := cond (okO h a0 4) (F4_begin_0 h a0 a1) none
def F4_isIn_0  (h : PH) (a0 : Nat) (x1 : Int32) (x2 : Int32) : Option (Int32 × PH) := (gR h a0 4 8).bind fun r1 => (aI h r1 0 x1).bind fun v4 => if x2 < v4 then (rz 0 h) else (rz 1 h)
def F4_isIn (h : PH) (a0 : Nat) (x1 : Int32) (x2 : Int32) : Option (Int32 × PH) := cond (okO h a0 4) (F4_isIn_0 h a0 x1 x2) none
def F4_beginMinute_36 (k12 : PH → Nat → Int32 → Int32 → Option (PH)) (h : PH) (a0 : Nat) (x1 : Int32) (x2 : Int32) : Option (PH) := (gR h a0 4 9).bind fun r1 => (sI h r1 0 x2 0).bind fun h4 => k12 h4 a0 x1 (x2 + 1)
def F4_beginMinute_12  : Nat → PH → Nat → Int32 → Int32 → Option (PH)
  | 0, _, _, _, _ => none
  | n + 1, h, a0, x1, x2 => if x1 ≤ x2 then (some h) else ((gI h a0 4 0).bind fun v2 => (F4_isIn h a0 x2 v2).bind fun o4 => if o4.1 = 0 then (F4_beginMinute_36 (fun h a0 x1 x2 => F4_beginMinute_12  n h a0 x1 x2) o4.2 a0 x1 x2) else ((gR o4.2 a0 4 8).bind fun r7 => (sI o4.2 r7 0 x2 0).bind fun h10 => F4_beginMinute_36 (fun h a0 x1 x2 => F4_beginMinute_12  n h a0 x1 x2) h10 a0 x1 x2))
def F4_beginMinute_0  (h : PH) (a0 : Nat) (x1 : Int32) : Option (PH) := (gI h a0 4 0).bind fun v1 => (pI h a0 4 0 (v1 + 1)).bind fun h3 => F4_beginMinute_12  1024 h3 a0 x1 0
def F4_beginMinute (h : PH) (a0 : Nat) (x1 : Int32) : Option (PH) := cond (okO h a0 4) (F4_beginMinute_0 h a0 x1) none
def F4_drawHundredth_0  (h : PH) (a0 : Nat) : Option (Int32 × PH) := (gI h a0 4 2).bind fun v1 => (pI h a0 4 2 (Int64.toInt32 ((((Int32.toInt64 v1) * (1103515245 : Int64)) + (12345 : Int64)) &&& (2147483647 : Int64)))).bind fun h3 => (gI h3 a0 4 2).bind fun v5 => some (((v5 >>> (16 &&& 31)) - (v5 >>> (16 &&& 31)) / 100 * 100), h3)
def F4_drawHundredth (h : PH) (a0 : Nat) : Option (Int32 × PH) := cond (okO h a0 4) (F4_drawHundredth_0 h a0) none
def F4_hadInSum_4  : Nat → PH → Nat → Int32 → Int32 → Int32 → Option (Int32 × PH)
  | 0, _, _, _, _, _ => none
  | n + 1, h, a0, x1, x2, x3 => if x1 ≤ x3 then (some (x2, h)) else ((gR h a0 4 6).bind fun r2 => (aI h r2 0 x3).bind fun v5 => F4_hadInSum_4  n h a0 x1 (x2 + v5) (x3 + 1))
def F4_hadInSum_0  (h : PH) (a0 : Nat) (x1 : Int32) : Option (Int32 × PH) := F4_hadInSum_4  1024 h a0 x1 0 0
def F4_hadInSum (h : PH) (a0 : Nat) (x1 : Int32) : Option (Int32 × PH) := cond (okO h a0 4) (F4_hadInSum_0 h a0 x1) none
def F4_leaveOut_0  (h : PH) (a0 : Nat) (x1 : Int32) : Option (PH) := (gR h a0 4 8).bind fun r1 => (sI h r1 0 x1 2147483647).bind fun h4 => some h4
def F4_leaveOut (h : PH) (a0 : Nat) (x1 : Int32) : Option (PH) := cond (okO h a0 4) (F4_leaveOut_0 h a0 x1) none
def F4_seatAll_2  : Nat → PH → Nat → Int32 → Int32 → Option (PH)
  | 0, _, _, _, _ => none
  | n + 1, h, a0, x1, x2 => if 5 ≤ x2 then (some h) else ((gR h a0 4 5).bind fun r2 => (sI h r2 0 x2 x1).bind fun h5 => F4_seatAll_2  n h5 a0 x1 (x2 + 1))
def F4_seatAll_0  (h : PH) (a0 : Nat) (x1 : Int32) : Option (PH) := F4_seatAll_2  1024 h a0 x1 0
def F4_seatAll (h : PH) (a0 : Nat) (x1 : Int32) : Option (PH) := cond (okO h a0 4) (F4_seatAll_0 h a0 x1) none
def F4_takeAll_0  (h : PH) (a0 : Nat) (a1 : Nat) : Option (PH) := (gI h a1 4 0).bind fun v1 => (pI h a0 4 0 v1).bind fun h3 => (gI h3 a1 4 1).bind fun v5 => (pI h3 a0 4 1 v5).bind fun h7 => (gI h7 a1 4 2).bind fun v9 => (pI h7 a0 4 2 v9).bind fun h11 => (gI h11 a1 4 3).bind fun v13 => (pI h11 a0 4 3 v13).bind fun h15 => (gI h15 a1 4 4).bind fun v17 => (pI h15 a0 4 4 v17).bind fun h19 => (gR h19 a1 4 5).bind fun r21 => (gR h19 a0 4 5).bind fun r23 => (cpI h19 r21 0 r23 0 5).bind fun h25 => (gR h25 a1 4 6).bind fun r27 => (gR h25 a0 4 6).bind fun r29 => (cpI h25 r27 0 r29 0 5).bind fun h31 => (gR h31 a1 4 7).bind fun r33 => (gR h31 a0 4 7).bind fun r35 => (cpI h31 r33 0 r35 0 5).bind fun h37 => (gR h37 a1 4 8).bind fun r39 => (gR h37 a0 4 8).bind fun r41 => (cpI h37 r39 0 r41 0 5).bind fun h43 => (gR h43 a1 4 9).bind fun r45 => (gR h43 a0 4 9).bind fun r47 => (cpI h43 r45 0 r47 0 5).bind fun h49 => (gR h49 a1 4 10).bind fun r51 => (gR h49 a0 4 10).bind fun r53 => (cpI h49 r51 0 r53 0 28).bind fun h55 => some h55
def F4_takeAll (h : PH) (a0 : Nat) (a1 : Nat) : Option (PH) := cond (okO h a0 4) (F4_takeAll_0 h a0 a1) none
def F4_takeForRun_0  (h : PH) (a0 : Nat) (a1 : Nat) (x2 : Int32) (x3 : Int32) : Option (PH) := (F4_takeAll h a0 a1).bind fun o1 => (pI o1 a0 4 1 x2).bind fun h3 => (pI h3 a0 4 2 x3).bind fun h5 => (pI h5 a0 4 3 0).bind fun h7 => (pI h7 a0 4 4 0).bind fun h9 => some h9
def F4_takeForRun (h : PH) (a0 : Nat) (a1 : Nat) (x2 : Int32) (x3 : Int32) : Option (PH) := cond (okO h a0 4) (F4_takeForRun_0 h a0 a1 x2 x3) none
def F4_unlike_24  : Nat → PH → Nat → Int32 → Int32 → Int32 → Int32 → Option (Int32 × PH)
  | 0, _, _, _, _, _, _ => none
  | n + 1, h, a0, x1, x2, x3, x4 => if x1 ≤ x4 then (some ((x2 - x3), h)) else ((gR h a0 4 6).bind fun r2 => (aI h r2 0 x4).bind fun v5 => (gR h a0 4 6).bind fun r6 => (aI h r6 0 x4).bind fun v9 => F4_unlike_24  n h a0 x1 (if x2 < v5 then v5 else x2) (if v9 < x3 then v9 else x3) (x4 + 1))
def F4_unlike_0  (h : PH) (a0 : Nat) (x1 : Int32) : Option (Int32 × PH) := if 1 ≤ x1 then ((gR h a0 4 6).bind fun r2 => (aI h r2 0 0).bind fun v5 => (gR h a0 4 6).bind fun r6 => (aI h r6 0 0).bind fun v9 => F4_unlike_24  1024 h a0 x1 v5 v9 1) else (some (0, h))
def F4_unlike (h : PH) (a0 : Nat) (x1 : Int32) : Option (Int32 × PH) := cond (okO h a0 4) (F4_unlike_0 h a0 x1) none
def F5_refuse_0  (h : PH) (a0 : Nat) (x1 : Int32) : Option (Int32 × PH) := (pI h a0 5 8 x1).bind fun h1 => (gR h1 a0 5 0).bind fun r3 => (gI h1 r3 7 5).bind fun v5 => (pI h1 a0 5 9 v5).bind fun h7 => rz 0 h7
def F5_refuse (h : PH) (a0 : Nat) (x1 : Int32) : Option (Int32 × PH) := cond (okO h a0 5) (F5_refuse_0 h a0 x1) none
def F5_countKnot_0  (h : PH) (a0 : Nat) : Option (Int32 × PH) := (gR h a0 5 10).bind fun r1 => (gI h r1 8 13).bind fun v3 => if v3 < 64 then ((gR h a0 5 10).bind fun r6 => (gI h r6 8 13).bind fun v8 => (pI h r6 8 13 (v8 + 1)).bind fun h10 => rz 1 h10) else ((F5_refuse h a0 2).bind fun o12 => rz o12.1 o12.2)
def F5_countKnot (h : PH) (a0 : Nat) : Option (Int32 × PH) := cond (okO h a0 5) (F5_countKnot_0 h a0) none
def F7_isLetter_0  (h : PH) (x0 : Int32) : Option (Int32 × PH) := if x0 < 97 then (rz 0 h) else (if 122 < x0 then (rz 0 h) else (rz 1 h))
def F7_isLetter (h : PH) (x0 : Int32) : Option (Int32 × PH) := F7_isLetter_0 h x0
def F7_letterBits_0  (h : PH) (x0 : Int32) (x1 : Int32) : Option (Int32 × PH) := some ((((x0 - 97) + 1) <<< ((25 - (5 * x1)) &&& 31)), h)
def F7_letterBits (h : PH) (x0 : Int32) (x1 : Int32) : Option (Int32 × PH) := F7_letterBits_0 h x0 x1
def F5_isFirst_0  (h : PH) (a0 : Nat) (x1 : Int32) : Option (Int32 × PH) := (gI h a0 5 6).bind fun v1 => if (v1 &&& (1 <<< (x1 &&& 31))) = 0 then ((gI h a0 5 6).bind fun v4 => (pI h a0 5 6 (v4 ||| (1 <<< (x1 &&& 31)))).bind fun h6 => rz 1 h6) else ((F5_refuse h a0 3).bind fun o8 => rz o8.1 o8.2)
def F5_isFirst (h : PH) (a0 : Nat) (x1 : Int32) : Option (Int32 × PH) := cond (okO h a0 5) (F5_isFirst_0 h a0 x1) none
def F5_letWait_0  (h : PH) (a0 : Nat) (x1 : Int32) : Option (Int32 × PH) := (gI h a0 5 2).bind fun v1 => (gR h a0 5 1).bind fun r3 => (aL h r3).bind fun v5 => if v1 < v5 then ((gR h a0 5 1).bind fun r8 => (gI h a0 5 2).bind fun v10 => (sI h r8 0 v10 x1).bind fun h13 => (gI h13 a0 5 2).bind fun v14 => (pI h13 a0 5 2 (v14 + 1)).bind fun h16 => rz 1 h16) else ((F5_refuse h a0 2).bind fun o18 => rz o18.1 o18.2)
def F5_letWait (h : PH) (a0 : Nat) (x1 : Int32) : Option (Int32 × PH) := cond (okO h a0 5) (F5_letWait_0 h a0 x1) none
def F7_skipBlanks_40 (k0 : PH → Nat → Option (PH)) (h : PH) (a0 : Nat) : Option (PH) := (gI h a0 7 3).bind fun v1 => (pI h a0 7 3 (v1 + 1)).bind fun h3 => k0 h3 a0
def F7_skipBlanks_0  : Nat → PH → Nat → Option (PH)
  | 0, _, _ => none
  | n + 1, h, a0 => (gI h a0 7 3).bind fun v1 => (gI h a0 7 2).bind fun v3 => if v3 ≤ v1 then (some h) else ((gR h a0 7 1).bind fun r6 => (gI h a0 7 3).bind fun v8 => (aI h r6 1 v8).bind fun v11 => if v11 = 10 then (F7_skipBlanks_40 (fun h a0 => F7_skipBlanks_0  n h a0) h a0) else ((gR h a0 7 1).bind fun r13 => (gI h a0 7 3).bind fun v15 => (aI h r13 1 v15).bind fun v18 => if v18 = 32 then (F7_skipBlanks_40 (fun h a0 => F7_skipBlanks_0  n h a0) h a0) else (some h)))
def F7_skipBlanks (h : PH) (a0 : Nat) : Option (PH) := cond (okO h a0 7) (F7_skipBlanks_0 1024 h a0) none
def F7_wordOf_2  : Nat → PH → Nat → Int32 → Int32 → Option (Int32 × PH)
  | 0, _, _, _, _ => none
  | n + 1, h, a0, x1, x2 => if 24 ≤ x2 then (some (24, h)) else ((gR h a0 7 0).bind fun r2 => (aI h r2 0 x2).bind fun v5 => if v5 = x1 then (some (x2, h)) else (F7_wordOf_2  n h a0 x1 (x2 + 1)))
def F7_wordOf_0  (h : PH) (a0 : Nat) (x1 : Int32) : Option (Int32 × PH) := F7_wordOf_2  1024 h a0 x1 0
def F7_wordOf (h : PH) (a0 : Nat) (x1 : Int32) : Option (Int32 × PH) := cond (okO h a0 7) (F7_wordOf_0 h a0 x1) none
def F7_takeWord_92  (h : PH) (s0 : Int32) (u1 : Nat) : Option (PH) := (pI h u1 7 4 s0).bind fun h1 => some h1
def F7_takeWord_72  (h : PH) (a0 : Nat) (x1 : Int32) : Option (PH) := if x1 ≤ 6 then ((gI h a0 7 6).bind fun v2 => (F7_wordOf h a0 v2).bind fun o4 => F7_takeWord_92  o4.2 o4.1 a0) else (F7_takeWord_92  h 40 a0)
def F7_takeWord_56 (k2 : PH → Nat → Int32 → Option (PH)) (h : PH) (a0 : Nat) (x1 : Int32) : Option (PH) := (gI h a0 7 3).bind fun v1 => (pI h a0 7 3 (v1 + 1)).bind fun h3 => k2 h3 a0 (x1 + 1)
def F7_takeWord_2  : Nat → PH → Nat → Int32 → Option (PH)
  | 0, _, _, _ => none
  | n + 1, h, a0, x1 => (gI h a0 7 3).bind fun v1 => (gI h a0 7 2).bind fun v3 => if v3 ≤ v1 then (F7_takeWord_72  h a0 x1) else ((gR h a0 7 1).bind fun r6 => (gI h a0 7 3).bind fun v8 => (aI h r6 1 v8).bind fun v11 => (F7_isLetter h v11).bind fun o12 => if o12.1 = 0 then (F7_takeWord_72  o12.2 a0 x1) else (if 6 ≤ x1 then (F7_takeWord_56 (fun h a0 x1 => F7_takeWord_2  n h a0 x1) o12.2 a0 x1) else ((gI o12.2 a0 7 6).bind fun v16 => (gR o12.2 a0 7 1).bind fun r18 => (gI o12.2 a0 7 3).bind fun v20 => (aI o12.2 r18 1 v20).bind fun v23 => (F7_letterBits o12.2 v23 x1).bind fun o24 => (pI o24.2 a0 7 6 (v16 ||| o24.1)).bind fun h26 => F7_takeWord_56 (fun h a0 x1 => F7_takeWord_2  n h a0 x1) h26 a0 x1)))
def F7_takeWord_0  (h : PH) (a0 : Nat) : Option (PH) := F7_takeWord_2  1024 h a0 0
def F7_takeWord (h : PH) (a0 : Nat) : Option (PH) := cond (okO h a0 7) (F7_takeWord_0 h a0) none
def F7_isDigit_0  (h : PH) (x0 : Int32) : Option (Int32 × PH) := if x0 < 48 then (rz 0 h) else (if 57 < x0 then (rz 0 h) else (rz 1 h))
/-! The pure functions of the methods (written by wip/gen/gen.py, split.py). -/
def F7_isDigit (h : PH) (x0 : Int32) : Option (Int32 × PH) := F7_isDigit_0 h x0
def F7_takeNumber_68  (h : PH) (a0 : Nat) : Option (PH) := (pI h a0 7 4 25).bind fun h1 => some h1
def F7_takeNumber_0  : Nat → PH → Nat → Option (PH)
  | 0, _, _ => none
  | n + 1, h, a0 => (gI h a0 7 3).bind fun v1 => (gI h a0 7 2).bind fun v3 => if v3 ≤ v1 then (F7_takeNumber_68  h a0) else ((gR h a0 7 1).bind fun r6 => (gI h a0 7 3).bind fun v8 => (aI h r6 1 v8).bind fun v11 => (F7_isDigit h v11).bind fun o12 => if o12.1 = 0 then (F7_takeNumber_68  o12.2 a0) else ((gI o12.2 a0 7 6).bind fun v15 => (gR o12.2 a0 7 1).bind fun r17 => (gI o12.2 a0 7 3).bind fun v19 => (aI o12.2 r17 1 v19).bind fun v22 => (pI o12.2 a0 7 6 (if 1000000 < (((v15 * 10) + v22) - 48) then 1000000 else (((v15 * 10) + v22) - 48))).bind fun h23 => (gI h23 a0 7 3).bind fun v25 => (pI h23 a0 7 3 (v25 + 1)).bind fun h27 => F7_takeNumber_0  n h27 a0))
def F7_takeNumber (h : PH) (a0 : Nat) : Option (PH) := cond (okO h a0 7) (F7_takeNumber_0 1024 h a0) none
def F7_signOf_0  (h : PH) (x0 : Int32) : Option (Int32 × PH) := if x0 = 40 then (some (36, h)) else if x0 = 41 then (some (37, h)) else if x0 = 42 then (some (34, h)) else if x0 = 43 then (some (32, h)) else if x0 = 45 then (some (33, h)) else if x0 = 47 then (some (35, h)) else if x0 = 59 then (some (38, h)) else if x0 = 60 then (some (26, h)) else if x0 = 61 then (some (28, h)) else if x0 = 62 then (some (31, h)) else (some (40, h))
def F7_signOf (h : PH) (x0 : Int32) : Option (Int32 × PH) := F7_signOf_0 h x0
def F7_isNext_0  (h : PH) (a0 : Nat) (x1 : Int32) : Option (Int32 × PH) := (gI h a0 7 3).bind fun v1 => (gI h a0 7 2).bind fun v3 => if v3 ≤ v1 then (rz 0 h) else ((gR h a0 7 1).bind fun r6 => (gI h a0 7 3).bind fun v8 => (aI h r6 1 v8).bind fun v11 => if v11 = x1 then (rz 1 h) else (rz 0 h))
def F7_isNext (h : PH) (a0 : Nat) (x1 : Int32) : Option (Int32 × PH) := cond (okO h a0 7) (F7_isNext_0 h a0 x1) none
def F7_takeSign_102  (h : PH) (a0 : Nat) : Option (PH) := (gI h a0 7 4).bind fun v1 => if v1 = 31 then ((F7_isNext h a0 61).bind fun o4 => if o4.1 = 0 then (some o4.2) else ((pI o4.2 a0 7 4 30).bind fun h7 => (gI h7 a0 7 3).bind fun v9 => (pI h7 a0 7 3 (v9 + 1)).bind fun h11 => some h11)) else (some h)
def F7_takeSign_65  (h : PH) (a0 : Nat) : Option (PH) := (gI h a0 7 4).bind fun v1 => if v1 = 26 then ((F7_isNext h a0 62).bind fun o4 => if o4.1 = 0 then (F7_takeSign_102  o4.2 a0) else ((pI o4.2 a0 7 4 29).bind fun h7 => (gI h7 a0 7 3).bind fun v9 => (pI h7 a0 7 3 (v9 + 1)).bind fun h11 => some h11)) else (F7_takeSign_102  h a0)
def F7_takeSign_0  (h : PH) (a0 : Nat) : Option (PH) := (gR h a0 7 1).bind fun r1 => (gI h a0 7 3).bind fun v3 => (aI h r1 1 v3).bind fun v6 => (gI h a0 7 3).bind fun v7 => (pI h a0 7 3 (v7 + 1)).bind fun h9 => (F7_signOf h9 v6).bind fun o11 => (pI o11.2 a0 7 4 o11.1).bind fun h13 => (gI h13 a0 7 4).bind fun v15 => if v15 = 26 then ((F7_isNext h13 a0 61).bind fun o18 => if o18.1 = 0 then (F7_takeSign_65  o18.2 a0) else ((pI o18.2 a0 7 4 27).bind fun h21 => (gI h21 a0 7 3).bind fun v23 => (pI h21 a0 7 3 (v23 + 1)).bind fun h25 => some h25)) else (F7_takeSign_65  h13 a0)
def F7_takeSign (h : PH) (a0 : Nat) : Option (PH) := cond (okO h a0 7) (F7_takeSign_0 h a0) none
def F7_advance_0  (h : PH) (a0 : Nat) : Option (PH) := (F7_skipBlanks h a0).bind fun o1 => (gI o1 a0 7 3).bind fun v3 => (pI o1 a0 7 5 v3).bind fun h5 => (pI h5 a0 7 6 0).bind fun h7 => (gI h7 a0 7 3).bind fun v9 => (gI h7 a0 7 2).bind fun v11 => if v9 < v11 then ((gR h7 a0 7 1).bind fun r14 => (gI h7 a0 7 3).bind fun v16 => (aI h7 r14 1 v16).bind fun v19 => (F7_isLetter h7 v19).bind fun o20 => if o20.1 = 0 then ((gR o20.2 a0 7 1).bind fun r23 => (gI o20.2 a0 7 3).bind fun v25 => (aI o20.2 r23 1 v25).bind fun v28 => (F7_isDigit o20.2 v28).bind fun o29 => if o29.1 = 0 then ((F7_takeSign o29.2 a0).bind fun o32 => some o32) else ((F7_takeNumber o29.2 a0).bind fun o34 => some o34)) else ((F7_takeWord o20.2 a0).bind fun o36 => some o36)) else ((pI h7 a0 7 4 39).bind fun h38 => some h38)
def F7_advance (h : PH) (a0 : Nat) : Option (PH) := cond (okO h a0 7) (F7_advance_0 h a0) none
def F5_takenNumber_42  (h : PH) (a0 : Nat) : Option (Int32 × PH) := (F5_refuse h a0 2).bind fun o1 => some ((-1), o1.2)
def F5_takenNumber_0  (h : PH) (a0 : Nat) (x1 : Int32) (x2 : Int32) : Option (Int32 × PH) := (gR h a0 5 0).bind fun r1 => (gI h r1 7 4).bind fun v3 => if v3 = 25 then ((gR h a0 5 0).bind fun r6 => (gI h r6 7 6).bind fun v8 => if v8 < x1 then (F5_takenNumber_42  h a0) else ((gR h a0 5 0).bind fun r11 => (gI h r11 7 6).bind fun v13 => if v13 ≤ x2 then ((gR h a0 5 0).bind fun r16 => (gI h r16 7 6).bind fun v18 => some (v18, h)) else (F5_takenNumber_42  h a0))) else ((F5_refuse h a0 1).bind fun o20 => some ((-1), o20.2))
def F5_takenNumber (h : PH) (a0 : Nat) (x1 : Int32) (x2 : Int32) : Option (Int32 × PH) := cond (okO h a0 5) (F5_takenNumber_0 h a0 x1 x2) none
def F5_numberIn_0  (h : PH) (a0 : Nat) (x1 : Int32) (x2 : Int32) : Option (Int32 × PH) := (gR h a0 5 0).bind fun r1 => (F7_advance h r1).bind fun o3 => (F5_takenNumber o3 a0 x1 x2).bind fun o5 => some (o5.1, o5.2)
def F5_numberIn (h : PH) (a0 : Nat) (x1 : Int32) (x2 : Int32) : Option (Int32 × PH) := cond (okO h a0 5) (F5_numberIn_0 h a0 x1 x2) none
def F10_forget_0  (h : PH) (a0 : Nat) : Option (PH) := (pI h a0 10 0 0).bind fun h1 => (pI h1 a0 10 1 0).bind fun h3 => some h3
def F10_forget (h : PH) (a0 : Nat) : Option (PH) := cond (okO h a0 10) (F10_forget_0 h a0) none
def F8_forget_63  : Nat → PH → Nat → Int32 → Option (PH)
  | 0, _, _, _ => none
  | n + 1, h, a0, x1 => if 3 ≤ x1 then ((pI h a0 8 12 0).bind fun h2 => (pI h2 a0 8 13 0).bind fun h4 => some h4) else ((gR h a0 8 11).bind fun r6 => (aR h r6 x1).bind fun r9 => (F2_forget h r9).bind fun o10 => F8_forget_63  n o10 a0 (x1 + 1))
def F8_forget_0  (h : PH) (a0 : Nat) : Option (PH) := (pI h a0 8 0 6).bind fun h1 => (pI h1 a0 8 1 4).bind fun h3 => (pI h3 a0 8 2 0).bind fun h5 => (pI h5 a0 8 3 0).bind fun h7 => (gR h7 a0 8 4).bind fun r9 => (pI h7 r9 1 0 0).bind fun h11 => (gR h11 a0 8 5).bind fun r13 => (F10_forget h11 r13).bind fun o15 => (pI o15 a0 8 6 0).bind fun h17 => (pI h17 a0 8 7 0).bind fun h19 => (pI h19 a0 8 8 0).bind fun h21 => (pI h21 a0 8 9 0).bind fun h23 => (pI h23 a0 8 10 0).bind fun h25 => F8_forget_63  1024 h25 a0 0
def F8_forget (h : PH) (a0 : Nat) : Option (PH) := cond (okO h a0 8) (F8_forget_0 h a0) none
def F7_begin_0  (h : PH) (a0 : Nat) (a1 : Nat) (x2 : Int32) : Option (PH) := (pR h a0 7 1 a1).bind fun h1 => (aL h1 a1).bind fun v3 => (pI h1 a0 7 2 (if v3 < x2 then v3 else x2)).bind fun h5 => (pI h5 a0 7 3 0).bind fun h7 => some h7
def F7_begin (h : PH) (a0 : Nat) (a1 : Nat) (x2 : Int32) : Option (PH) := cond (okO h a0 7) (F7_begin_0 h a0 a1 x2) none
def F5_readStop_0  (h : PH) (a0 : Nat) : Option (Int32 × PH) := (gR h a0 5 0).bind fun r1 => (F7_advance h r1).bind fun o3 => (gR o3 a0 5 0).bind fun r5 => (gI o3 r5 7 4).bind fun v7 => if v7 = 38 then (rz 1 o3) else ((F5_refuse o3 a0 1).bind fun o10 => if o10.1 = 0 then (rz 0 o10.2) else (rz 1 o10.2))
def F5_readStop (h : PH) (a0 : Nat) : Option (Int32 × PH) := cond (okO h a0 5) (F5_readStop_0 h a0) none
def F5_readSea_47  (h : PH) (a0 : Nat) (x1 : Int32) (s0 : Int32) : Option (Int32 × PH) := if s0 = (-1) then (rz 0 h) else ((gR h a0 5 10).bind fun r2 => (pI h r2 8 0 x1).bind fun h4 => (gR h4 a0 5 10).bind fun r6 => (pI h4 r6 8 1 s0).bind fun h8 => (F5_readStop h8 a0).bind fun o10 => rz o10.1 o10.2)
def F5_readSea_0  (h : PH) (a0 : Nat) : Option (Int32 × PH) := (F5_isFirst h a0 0).bind fun o1 => if o1.1 = 0 then (rz 0 o1.2) else ((gI o1.2 a0 5 7).bind fun v4 => if v4 = 0 then ((F5_numberIn o1.2 a0 1 8).bind fun o7 => if o7.1 = (-1) then (F5_readSea_47  o7.2 a0 o7.1 (-1)) else ((F5_numberIn o7.2 a0 1 6).bind fun o10 => F5_readSea_47  o10.2 a0 o7.1 o10.1)) else ((F5_refuse o1.2 a0 4).bind fun o12 => rz o12.1 o12.2))
def F5_readSea (h : PH) (a0 : Nat) : Option (Int32 × PH) := cond (okO h a0 5) (F5_readSea_0 h a0) none
def F5_readPeak_53  (h : PH) (a0 : Nat) (x1 : Int32) (s0 : Int32) : Option (Int32 × PH) := if s0 = (-1) then (rz 0 h) else ((gR h a0 5 10).bind fun r2 => (pI h r2 8 2 x1).bind fun h4 => (gR h4 a0 5 10).bind fun r6 => (pI h4 r6 8 3 s0).bind fun h8 => (F5_readStop h8 a0).bind fun o10 => rz o10.1 o10.2)
def F5_readPeak_0  (h : PH) (a0 : Nat) : Option (Int32 × PH) := (F5_isFirst h a0 1).bind fun o1 => if o1.1 = 0 then (rz 0 o1.2) else ((pZ o1.2 a0 5 7 1).bind fun h4 => (gR h4 a0 5 10).bind fun r6 => (gI h4 r6 8 0).bind fun v8 => (F5_numberIn h4 a0 0 (v8 - 1)).bind fun o10 => if o10.1 = (-1) then (F5_readPeak_53  o10.2 a0 o10.1 (-1)) else ((gR o10.2 a0 5 10).bind fun r13 => (gI o10.2 r13 8 1).bind fun v15 => (F5_numberIn o10.2 a0 0 (v15 - 1)).bind fun o17 => F5_readPeak_53  o17.2 a0 o10.1 o17.1))
def F5_readPeak (h : PH) (a0 : Nat) : Option (Int32 × PH) := cond (okO h a0 5) (F5_readPeak_0 h a0) none
def F5_readSurfer_195  (h : PH) (a0 : Nat) (x1 : Int32) (x2 : Int32) (x3 : Int32) (x4 : Int32) (x5 : Int32) (x6 : Int32) (s0 : Int32) : Option (Int32 × PH) := if s0 = (-1) then (rz 0 h) else ((gR h a0 5 10).bind fun r2 => (gR h r2 8 4).bind fun r4 => (gR h a0 5 10).bind fun r6 => (gI h r6 8 0).bind fun v8 => (F1_add h r4 x1 ((x3 * v8) + x2) x4 x5 x6 s0).bind fun o10 => (F5_readStop o10 a0).bind fun o12 => rz o12.1 o12.2)
