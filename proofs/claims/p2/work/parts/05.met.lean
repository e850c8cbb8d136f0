/-! Classes by their numbers; blank objects; a method from its walk. -/
theorem clX0 : ph_cl[0]? = some (RX0, TX0, 13) := rfl
theorem zF0_ok : ∀ b j, j < 13 → defaultValue (tyX0 j) = vp_V (zF0.map (ph_v b)) j := by
  intro b j hj
  match j, hj with
  | 0, _ => rfl
  | 1, _ => rfl
  | 2, _ => rfl
  | 3, _ => rfl
  | 4, _ => rfl
  | 5, _ => rfl
  | 6, _ => rfl
  | 7, _ => rfl
  | 8, _ => rfl
  | 9, _ => rfl
  | 10, _ => rfl
  | 11, _ => rfl
  | 12, _ => rfl
  | k + 13, h => exact absurd h (by omega)
theorem clX1 : ph_cl[1]? = some (RX1, TX1, 7) := rfl
theorem zF1_ok : ∀ b j, j < 7 → defaultValue (tyX1 j) = vp_V (zF1.map (ph_v b)) j := by
  intro b j hj
  match j, hj with
  | 0, _ => rfl
  | 1, _ => rfl
  | 2, _ => rfl
  | 3, _ => rfl
  | 4, _ => rfl
  | 5, _ => rfl
  | 6, _ => rfl
  | k + 7, h => exact absurd h (by omega)
theorem clX2 : ph_cl[2]? = some (RX2, TX2, 3) := rfl
theorem zF2_ok : ∀ b j, j < 3 → defaultValue (tyX2 j) = vp_V (zF2.map (ph_v b)) j := by
  intro b j hj
  match j, hj with
  | 0, _ => rfl
  | 1, _ => rfl
  | 2, _ => rfl
  | k + 3, h => exact absurd h (by omega)
theorem clX3 : ph_cl[3]? = some (RX3, TX3, 7) := rfl
theorem zF3_ok : ∀ b j, j < 7 → defaultValue (tyX3 j) = vp_V (zF3.map (ph_v b)) j := by
  intro b j hj
  match j, hj with
  | 0, _ => rfl
  | 1, _ => rfl
  | 2, _ => rfl
  | 3, _ => rfl
  | 4, _ => rfl
  | 5, _ => rfl
  | 6, _ => rfl
  | k + 7, h => exact absurd h (by omega)
theorem clX4 : ph_cl[4]? = some (RX4, TX4, 11) := rfl
theorem zF4_ok : ∀ b j, j < 11 → defaultValue (tyX4 j) = vp_V (zF4.map (ph_v b)) j := by
  intro b j hj
  match j, hj with
  | 0, _ => rfl
  | 1, _ => rfl
  | 2, _ => rfl
  | 3, _ => rfl
  | 4, _ => rfl
  | 5, _ => rfl
  | 6, _ => rfl
  | 7, _ => rfl
  | 8, _ => rfl
  | 9, _ => rfl
  | 10, _ => rfl
  | k + 11, h => exact absurd h (by omega)
theorem clX5 : ph_cl[5]? = some (RX5, TX5, 11) := rfl
theorem zF5_ok : ∀ b j, j < 11 → defaultValue (tyX5 j) = vp_V (zF5.map (ph_v b)) j := by
  intro b j hj
  match j, hj with
  | 0, _ => rfl
  | 1, _ => rfl
  | 2, _ => rfl
  | 3, _ => rfl
  | 4, _ => rfl
  | 5, _ => rfl
  | 6, _ => rfl
  | 7, _ => rfl
  | 8, _ => rfl
  | 9, _ => rfl
  | 10, _ => rfl
  | k + 11, h => exact absurd h (by omega)
theorem clX6 : ph_cl[6]? = some (RX6, TX6, 9) := rfl
theorem zF6_ok : ∀ b j, j < 9 → defaultValue (tyX6 j) = vp_V (zF6.map (ph_v b)) j := by
  intro b j hj
  match j, hj with
  | 0, _ => rfl
  | 1, _ => rfl
  | 2, _ => rfl
  | 3, _ => rfl
  | 4, _ => rfl
  | 5, _ => rfl
  | 6, _ => rfl
  | 7, _ => rfl
  | 8, _ => rfl
  | k + 9, h => exact absurd h (by omega)
theorem clX7 : ph_cl[7]? = some (RX7, TX7, 7) := rfl
theorem zF7_ok : ∀ b j, j < 7 → defaultValue (tyX7 j) = vp_V (zF7.map (ph_v b)) j := by
  intro b j hj
  match j, hj with
  | 0, _ => rfl
  | 1, _ => rfl
  | 2, _ => rfl
  | 3, _ => rfl
  | 4, _ => rfl
  | 5, _ => rfl
  | 6, _ => rfl
  | k + 7, h => exact absurd h (by omega)
theorem clX8 : ph_cl[8]? = some (RX8, TX8, 14) := rfl
theorem zF8_ok : ∀ b j, j < 14 → defaultValue (tyX8 j) = vp_V (zF8.map (ph_v b)) j := by
  intro b j hj
  match j, hj with
  | 0, _ => rfl
  | 1, _ => rfl
  | 2, _ => rfl
  | 3, _ => rfl
  | 4, _ => rfl
  | 5, _ => rfl
  | 6, _ => rfl
  | 7, _ => rfl
  | 8, _ => rfl
  | 9, _ => rfl
  | 10, _ => rfl
  | 11, _ => rfl
  | 12, _ => rfl
  | 13, _ => rfl
  | k + 14, h => exact absurd h (by omega)
theorem clX9 : ph_cl[9]? = some (RX9, TX9, 3) := rfl
theorem zF9_ok : ∀ b j, j < 3 → defaultValue (tyX9 j) = vp_V (zF9.map (ph_v b)) j := by
  intro b j hj
  match j, hj with
  | 0, _ => rfl
  | 1, _ => rfl
  | 2, _ => rfl
  | k + 3, h => exact absurd h (by omega)
theorem clX10 : ph_cl[10]? = some (RX10, TX10, 8) := rfl
theorem zF10_ok : ∀ b j, j < 8 → defaultValue (tyX10 j) = vp_V (zF10.map (ph_v b)) j := by
  intro b j hj
  match j, hj with
  | 0, _ => rfl
  | 1, _ => rfl
  | 2, _ => rfl
  | 3, _ => rfl
  | 4, _ => rfl
  | 5, _ => rfl
  | 6, _ => rfl
  | 7, _ => rfl
  | k + 8, h => exact absurd h (by omega)
theorem clX11 : ph_cl[11]? = some (RX11, TX11, 14) := rfl
theorem zF11_ok : ∀ b j, j < 14 → defaultValue (tyX11 j) = vp_V (zF11.map (ph_v b)) j := by
  intro b j hj
  match j, hj with
  | 0, _ => rfl
  | 1, _ => rfl
  | 2, _ => rfl
  | 3, _ => rfl
  | 4, _ => rfl
  | 5, _ => rfl
  | 6, _ => rfl
  | 7, _ => rfl
  | 8, _ => rfl
  | 9, _ => rfl
  | 10, _ => rfl
  | 11, _ => rfl
  | 12, _ => rfl
  | 13, _ => rfl
  | k + 14, h => exact absurd h (by omega)
theorem clX12 : ph_cl[12]? = some (RX12, TX12, 87) := rfl
theorem zF12_ok : ∀ b j, j < 87 → defaultValue (tyX12 j) = vp_V (zF12.map (ph_v b)) j := by
  intro b j hj
  match j, hj with
  | 0, _ => rfl
  | 1, _ => rfl
  | 2, _ => rfl
  | 3, _ => rfl
  | 4, _ => rfl
  | 5, _ => rfl
  | 6, _ => rfl
  | 7, _ => rfl
  | 8, _ => rfl
  | 9, _ => rfl
  | 10, _ => rfl
  | 11, _ => rfl
  | 12, _ => rfl
  | 13, _ => rfl
  | 14, _ => rfl
  | 15, _ => rfl
  | 16, _ => rfl
  | 17, _ => rfl
  | 18, _ => rfl
  | 19, _ => rfl
  | 20, _ => rfl
  | 21, _ => rfl
  | 22, _ => rfl
  | 23, _ => rfl
  | 24, _ => rfl
  | 25, _ => rfl
  | 26, _ => rfl
  | 27, _ => rfl
  | 28, _ => rfl
  | 29, _ => rfl
  | 30, _ => rfl
  | 31, _ => rfl
  | 32, _ => rfl
  | 33, _ => rfl
  | 34, _ => rfl
  | 35, _ => rfl
  | 36, _ => rfl
  | 37, _ => rfl
  | 38, _ => rfl
  | 39, _ => rfl
  | 40, _ => rfl
  | 41, _ => rfl
  | 42, _ => rfl
  | 43, _ => rfl
  | 44, _ => rfl
  | 45, _ => rfl
  | 46, _ => rfl
  | 47, _ => rfl
  | 48, _ => rfl
  | 49, _ => rfl
  | 50, _ => rfl
  | 51, _ => rfl
  | 52, _ => rfl
  | 53, _ => rfl
  | 54, _ => rfl
  | 55, _ => rfl
  | 56, _ => rfl
  | 57, _ => rfl
  | 58, _ => rfl
  | 59, _ => rfl
  | 60, _ => rfl
  | 61, _ => rfl
  | 62, _ => rfl
  | 63, _ => rfl
  | 64, _ => rfl
  | 65, _ => rfl
  | 66, _ => rfl
  | 67, _ => rfl
  | 68, _ => rfl
  | 69, _ => rfl
  | 70, _ => rfl
  | 71, _ => rfl
  | 72, _ => rfl
  | 73, _ => rfl
  | 74, _ => rfl
  | 75, _ => rfl
  | 76, _ => rfl
  | 77, _ => rfl
  | 78, _ => rfl
  | 79, _ => rfl
  | 80, _ => rfl
  | 81, _ => rfl
  | 82, _ => rfl
  | 83, _ => rfl
  | 84, _ => rfl
  | 85, _ => rfl
  | 86, _ => rfl
  | k + 87, h => exact absurd h (by omega)
set_option maxHeartbeats 4000000 in
theorem o_met {l : Launch} {y : MethodName} {ws ws' : List Cond} {rm : Room} {Qc : Array Value → State → Outcome → State → Prop} {mc ms : Nat} {A : Nat → Prop} {cc : ByteArray} {maxL : Nat} {ret : Option FieldType} {own : String} {av : List Value} {D : va_G} {cy : Nat → ClassId} {b : Nat} {fl : Bool} {h : PH}
    (hy : plainName y.cls = true) (hw : ws = Cond.code y cc maxL ret :: ws') (hlen : (lg_sl av).length ≤ maxL) (ho : y.cls = own)
    (body : ∀ (p : Program) (e : Env) (s : State) (m : MethodId) (below : List Frame) (meth : Method) (c : Code), CallFix p m c cc maxL s av.toArray ws own → meth.sig.returnType = ret → meth.locks = false → meth.name = y.name → ∀ (ls : Array Slot), lv_has ls maxL (lv_args 0 av) → ph_I D cy b A fl h s s.heap [] →
      W p l e rm s m av.toArray below meth c s.heap [] 0 0 (MQ below Qc av.toArray s mc ms A) (F0 m 0 ls [])) : Met l y ws rm (va_Pc av (ph_B D cy b A fl h)) Qc mc ms A := by
  refine Met.ofW (cc := cc) (maxL := maxL) (ret := ret) hy hw ?_
  intro p e s m args below meth c s₁ B hml hv
  obtain ⟨rfl, hP, hK, hA, hz, hX⟩ := hv
  have hts := atoms_spec (ws := ws) B.pre
  have hl := lv_entry av (n := maxL) hlen
  rw [lg_entry_eq]
  generalize (lg_sl av ++ List.replicate (maxL - (lg_sl av).length) Slot.unset).toArray = ls at hl ⊢
  exact body p e s m below meth c ⟨B.exec, B.bytes, hml, by rw [← ho]; exact findClass_of_methodNamed B.named, hts⟩ B.returns B.notSynchronized (name_of_methodNamed B.named B.method).1 ls hl ⟨hP, hK, va_S.rf, hA, hz, hX⟩
