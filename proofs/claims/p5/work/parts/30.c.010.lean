section
variable {p : Program} {l : Launch} {e : Env} {s : State} {m : MethodId} {args : Array Value} {below : List Frame} {meth : Method} {c : Code} {D : va_G} {cy : Nat → ClassId} {b : Nat} {A : Nat → Prop} {fl : Bool}
set_option maxHeartbeats 4000000 in
set_option maxRecDepth 100000 in
theorem T12_init_0 (S : CallFix p m c cX12_init 1 s args vX12_init RX12) (hr : meth.sig.returnType = none) (hlo : meth.locks = false) (hin2 : meth.name = "<init>") (hAn : ∀ q, b ≤ q → A q) {out : PH} {h : PH} {a0 : Nat} (f : F12_init_0  h a0 = some out) {H : Heap} {locs : List Loc} (I : ph_I D cy b A true h s H locs) {ls : Array Slot} (hl : lv_has ls 1 [(0, .ref (b + a0))]) : W p l e ({ frames := 2, cells := 42, slots := 2327, locals := 43 } : Room) s m args below meth c H locs 0 0 (MQ below (va_Qv (fun (u : PH) => u = out) (ph_B D cy b A true) A) args s 42 2327 A) (F0 m 0 ls []) := by
  unfold F12_init_0 at f
  refine lv_aload_n S.1 S.2.1 dX12_init_0 rfl (lv_at hl 0 rfl) ?_
  refine o_objI S (List.mem_cons_of_mem _ wT_9_20) (List.mem_cons_of_mem _ wT_1_11) (List.mem_cons_of_mem _ wT_1_12) hl.1 dX12_init_1 (Nat.le_of_ble_eq_true rfl) (Nat.le_of_ble_eq_true rfl) ?_
  refine lv_aload_n S.1 S.2.1 dX12_init_4 rfl (lv_at hl 0 rfl) ?_
  refine lv_sipush (v := 700) S.1 S.2.1 dX12_init_5 (by decide) ?_
  obtain ⟨h1, e2, f⟩ := ob f
  refine o_newI S (List.mem_cons_of_mem _ wT_3_21) I hAn (N := 700) e2 (by decide) (by decide) (Nat.le_of_ble_eq_true rfl) (Nat.le_of_ble_eq_true rfl) (Nat.le_of_ble_eq_true rfl) dX12_init_8 (fun H I => ?_)
  obtain ⟨h3, e4, f⟩ := ob f
  refine o_pRF S hin2 lp12_init_7 (Or.inr ⟨_, rfl⟩) I e4 dX12_init_10 (fun H locs I => ?_)
  refine lv_aload_n S.1 S.2.1 dX12_init_13 rfl (lv_at hl 0 rfl) ?_
  refine lv_bipush (v := 120) S.1 S.2.1 dX12_init_14 (by decide) ?_
  obtain ⟨h5, e6, f⟩ := ob f
  refine o_newI S (List.mem_cons_of_mem _ wT_3_21) I hAn (N := 120) e6 (by decide) (by decide) (Nat.le_of_ble_eq_true rfl) (Nat.le_of_ble_eq_true rfl) (Nat.le_of_ble_eq_true rfl) dX12_init_16 (fun H I => ?_)
  refine lv_dup S.1 S.2.1 dX12_init_18 rfl ?_
  refine lv_iconst (v := 0) S.1 S.2.1 dX12_init_19 (by decide) ?_
  refine lv_bipush (v := 115) S.1 S.2.1 dX12_init_20 (by decide) ?_
  obtain ⟨h8, e7, f⟩ := ob f
  refine o_iast S I e7 dX12_init_22 (fun H locs I => ?_)
  refine lv_dup S.1 S.2.1 dX12_init_23 rfl ?_
  refine lv_iconst (v := 1) S.1 S.2.1 dX12_init_24 (by decide) ?_
  refine lv_bipush (v := 101) S.1 S.2.1 dX12_init_25 (by decide) ?_
  obtain ⟨h10, e9, f⟩ := ob f
  refine o_iast S I e9 dX12_init_27 (fun H locs I => ?_)
  refine lv_dup S.1 S.2.1 dX12_init_28 rfl ?_
  refine lv_iconst (v := 2) S.1 S.2.1 dX12_init_29 (by decide) ?_
  refine lv_bipush (v := 97) S.1 S.2.1 dX12_init_30 (by decide) ?_
  obtain ⟨h12, e11, f⟩ := ob f
  refine o_iast S I e11 dX12_init_32 (fun H locs I => ?_)
  refine lv_dup S.1 S.2.1 dX12_init_33 rfl ?_
  refine lv_iconst (v := 3) S.1 S.2.1 dX12_init_34 (by decide) ?_
  refine lv_bipush (v := 32) S.1 S.2.1 dX12_init_35 (by decide) ?_
  obtain ⟨h14, e13, f⟩ := ob f
  refine o_iast S I e13 dX12_init_37 (fun H locs I => ?_)
  refine lv_dup S.1 S.2.1 dX12_init_38 rfl ?_
  refine lv_iconst (v := 4) S.1 S.2.1 dX12_init_39 (by decide) ?_
  refine lv_bipush (v := 112) S.1 S.2.1 dX12_init_40 (by decide) ?_
  obtain ⟨h16, e15, f⟩ := ob f
  refine o_iast S I e15 dX12_init_42 (fun H locs I => ?_)
  refine lv_dup S.1 S.2.1 dX12_init_43 rfl ?_
  refine lv_iconst (v := 5) S.1 S.2.1 dX12_init_44 (by decide) ?_
  refine lv_bipush (v := 101) S.1 S.2.1 dX12_init_45 (by decide) ?_
  obtain ⟨h18, e17, f⟩ := ob f
  refine o_iast S I e17 dX12_init_47 (fun H locs I => ?_)
  refine lv_dup S.1 S.2.1 dX12_init_48 rfl ?_
  refine lv_bipush (v := 6) S.1 S.2.1 dX12_init_49 (by decide) ?_
  refine lv_bipush (v := 97) S.1 S.2.1 dX12_init_51 (by decide) ?_
  obtain ⟨h20, e19, f⟩ := ob f
  refine o_iast S I e19 dX12_init_53 (fun H locs I => ?_)
  refine lv_dup S.1 S.2.1 dX12_init_54 rfl ?_
  refine lv_bipush (v := 7) S.1 S.2.1 dX12_init_55 (by decide) ?_
  refine lv_bipush (v := 107) S.1 S.2.1 dX12_init_57 (by decide) ?_
  obtain ⟨h22, e21, f⟩ := ob f
  refine o_iast S I e21 dX12_init_59 (fun H locs I => ?_)
  refine lv_dup S.1 S.2.1 dX12_init_60 rfl ?_
  refine lv_bipush (v := 8) S.1 S.2.1 dX12_init_61 (by decide) ?_
  refine lv_bipush (v := 32) S.1 S.2.1 dX12_init_63 (by decide) ?_
  obtain ⟨h24, e23, f⟩ := ob f
  refine o_iast S I e23 dX12_init_65 (fun H locs I => ?_)
  refine lv_dup S.1 S.2.1 dX12_init_66 rfl ?_
  refine lv_bipush (v := 9) S.1 S.2.1 dX12_init_67 (by decide) ?_
  refine lv_bipush (v := 115) S.1 S.2.1 dX12_init_69 (by decide) ?_
  obtain ⟨h26, e25, f⟩ := ob f
  refine o_iast S I e25 dX12_init_71 (fun H locs I => ?_)
  refine lv_dup S.1 S.2.1 dX12_init_72 rfl ?_
  refine lv_bipush (v := 10) S.1 S.2.1 dX12_init_73 (by decide) ?_
  refine lv_bipush (v := 117) S.1 S.2.1 dX12_init_75 (by decide) ?_
  obtain ⟨h28, e27, f⟩ := ob f
  refine o_iast S I e27 dX12_init_77 (fun H locs I => ?_)
  refine lv_dup S.1 S.2.1 dX12_init_78 rfl ?_
  refine lv_bipush (v := 11) S.1 S.2.1 dX12_init_79 (by decide) ?_
  refine lv_bipush (v := 114) S.1 S.2.1 dX12_init_81 (by decide) ?_
  obtain ⟨h30, e29, f⟩ := ob f
  refine o_iast S I e29 dX12_init_83 (fun H locs I => ?_)
  refine lv_dup S.1 S.2.1 dX12_init_84 rfl ?_
  refine lv_bipush (v := 12) S.1 S.2.1 dX12_init_85 (by decide) ?_
  refine lv_bipush (v := 102) S.1 S.2.1 dX12_init_87 (by decide) ?_
  obtain ⟨h32, e31, f⟩ := ob f
  refine o_iast S I e31 dX12_init_89 (fun H locs I => ?_)
  refine lv_dup S.1 S.2.1 dX12_init_90 rfl ?_
  refine lv_bipush (v := 13) S.1 S.2.1 dX12_init_91 (by decide) ?_
  refine lv_bipush (v := 101) S.1 S.2.1 dX12_init_93 (by decide) ?_
  obtain ⟨h34, e33, f⟩ := ob f
  refine o_iast S I e33 dX12_init_95 (fun H locs I => ?_)
  refine lv_dup S.1 S.2.1 dX12_init_96 rfl ?_
  refine lv_bipush (v := 14) S.1 S.2.1 dX12_init_97 (by decide) ?_
  refine lv_bipush (v := 114) S.1 S.2.1 dX12_init_99 (by decide) ?_
  obtain ⟨h36, e35, f⟩ := ob f
  refine o_iast S I e35 dX12_init_101 (fun H locs I => ?_)
  refine lv_dup S.1 S.2.1 dX12_init_102 rfl ?_
  refine lv_bipush (v := 15) S.1 S.2.1 dX12_init_103 (by decide) ?_
  refine lv_bipush (v := 32) S.1 S.2.1 dX12_init_105 (by decide) ?_
  obtain ⟨h38, e37, f⟩ := ob f
  refine o_iast S I e37 dX12_init_107 (fun H locs I => ?_)
  refine lv_dup S.1 S.2.1 dX12_init_108 rfl ?_
  refine lv_bipush (v := 16) S.1 S.2.1 dX12_init_109 (by decide) ?_
  refine lv_bipush (v := 115) S.1 S.2.1 dX12_init_111 (by decide) ?_
  obtain ⟨h40, e39, f⟩ := ob f
  refine o_iast S I e39 dX12_init_113 (fun H locs I => ?_)
  refine lv_dup S.1 S.2.1 dX12_init_114 rfl ?_
  refine lv_bipush (v := 17) S.1 S.2.1 dX12_init_115 (by decide) ?_
  refine lv_bipush (v := 101) S.1 S.2.1 dX12_init_117 (by decide) ?_
  obtain ⟨h42, e41, f⟩ := ob f
  refine o_iast S I e41 dX12_init_119 (fun H locs I => ?_)
  refine lv_dup S.1 S.2.1 dX12_init_120 rfl ?_
  refine lv_bipush (v := 18) S.1 S.2.1 dX12_init_121 (by decide) ?_
  refine lv_bipush (v := 116) S.1 S.2.1 dX12_init_123 (by decide) ?_
  obtain ⟨h44, e43, f⟩ := ob f
  refine o_iast S I e43 dX12_init_125 (fun H locs I => ?_)
  refine lv_dup S.1 S.2.1 dX12_init_126 rfl ?_
  refine lv_bipush (v := 19) S.1 S.2.1 dX12_init_127 (by decide) ?_
  refine lv_bipush (v := 32) S.1 S.2.1 dX12_init_129 (by decide) ?_
  obtain ⟨h46, e45, f⟩ := ob f
  refine o_iast S I e45 dX12_init_131 (fun H locs I => ?_)
  refine lv_dup S.1 S.2.1 dX12_init_132 rfl ?_
  refine lv_bipush (v := 20) S.1 S.2.1 dX12_init_133 (by decide) ?_
  refine lv_bipush (v := 98) S.1 S.2.1 dX12_init_135 (by decide) ?_
  obtain ⟨h48, e47, f⟩ := ob f
  refine o_iast S I e47 dX12_init_137 (fun H locs I => ?_)
  refine lv_dup S.1 S.2.1 dX12_init_138 rfl ?_
  refine lv_bipush (v := 21) S.1 S.2.1 dX12_init_139 (by decide) ?_
  refine lv_bipush (v := 97) S.1 S.2.1 dX12_init_141 (by decide) ?_
  obtain ⟨h50, e49, f⟩ := ob f
  refine o_iast S I e49 dX12_init_143 (fun H locs I => ?_)
  refine lv_dup S.1 S.2.1 dX12_init_144 rfl ?_
  refine lv_bipush (v := 22) S.1 S.2.1 dX12_init_145 (by decide) ?_
  refine lv_bipush (v := 110) S.1 S.2.1 dX12_init_147 (by decide) ?_
  obtain ⟨h52, e51, f⟩ := ob f
  refine o_iast S I e51 dX12_init_149 (fun H locs I => ?_)
  refine lv_dup S.1 S.2.1 dX12_init_150 rfl ?_
  refine lv_bipush (v := 23) S.1 S.2.1 dX12_init_151 (by decide) ?_
  refine lv_bipush (v := 107) S.1 S.2.1 dX12_init_153 (by decide) ?_
  obtain ⟨h54, e53, f⟩ := ob f
  refine o_iast S I e53 dX12_init_155 (fun H locs I => ?_)
  refine lv_dup S.1 S.2.1 dX12_init_156 rfl ?_
  refine lv_bipush (v := 24) S.1 S.2.1 dX12_init_157 (by decide) ?_
  refine lv_bipush (v := 32) S.1 S.2.1 dX12_init_159 (by decide) ?_
  obtain ⟨h56, e55, f⟩ := ob f
  refine o_iast S I e55 dX12_init_161 (fun H locs I => ?_)
  refine lv_dup S.1 S.2.1 dX12_init_162 rfl ?_
  refine lv_bipush (v := 25) S.1 S.2.1 dX12_init_163 (by decide) ?_
  refine lv_bipush (v := 114) S.1 S.2.1 dX12_init_165 (by decide) ?_
  obtain ⟨h58, e57, f⟩ := ob f
  refine o_iast S I e57 dX12_init_167 (fun H locs I => ?_)
  refine lv_dup S.1 S.2.1 dX12_init_168 rfl ?_
  refine lv_bipush (v := 26) S.1 S.2.1 dX12_init_169 (by decide) ?_
  refine lv_bipush (v := 117) S.1 S.2.1 dX12_init_171 (by decide) ?_
  obtain ⟨h60, e59, f⟩ := ob f
  refine o_iast S I e59 dX12_init_173 (fun H locs I => ?_)
  refine lv_dup S.1 S.2.1 dX12_init_174 rfl ?_
  refine lv_bipush (v := 27) S.1 S.2.1 dX12_init_175 (by decide) ?_
  refine lv_bipush (v := 108) S.1 S.2.1 dX12_init_177 (by decide) ?_
  obtain ⟨h62, e61, f⟩ := ob f
  refine o_iast S I e61 dX12_init_179 (fun H locs I => ?_)
  refine lv_dup S.1 S.2.1 dX12_init_180 rfl ?_
  refine lv_bipush (v := 28) S.1 S.2.1 dX12_init_181 (by decide) ?_
  refine lv_bipush (v := 101) S.1 S.2.1 dX12_init_183 (by decide) ?_
  obtain ⟨h64, e63, f⟩ := ob f
  refine o_iast S I e63 dX12_init_185 (fun H locs I => ?_)
  refine lv_dup S.1 S.2.1 dX12_init_186 rfl ?_
  refine lv_bipush (v := 29) S.1 S.2.1 dX12_init_187 (by decide) ?_
  refine lv_bipush (v := 32) S.1 S.2.1 dX12_init_189 (by decide) ?_
  obtain ⟨h66, e65, f⟩ := ob f
  refine o_iast S I e65 dX12_init_191 (fun H locs I => ?_)
  refine lv_dup S.1 S.2.1 dX12_init_192 rfl ?_
  refine lv_bipush (v := 30) S.1 S.2.1 dX12_init_193 (by decide) ?_
  refine lv_bipush (v := 115) S.1 S.2.1 dX12_init_195 (by decide) ?_
  obtain ⟨h68, e67, f⟩ := ob f
  refine o_iast S I e67 dX12_init_197 (fun H locs I => ?_)
  refine lv_dup S.1 S.2.1 dX12_init_198 rfl ?_
  refine lv_bipush (v := 31) S.1 S.2.1 dX12_init_199 (by decide) ?_
  refine lv_bipush (v := 101) S.1 S.2.1 dX12_init_201 (by decide) ?_
  obtain ⟨h70, e69, f⟩ := ob f
  refine o_iast S I e69 dX12_init_203 (fun H locs I => ?_)
  refine lv_dup S.1 S.2.1 dX12_init_204 rfl ?_
  refine lv_bipush (v := 32) S.1 S.2.1 dX12_init_205 (by decide) ?_
  refine lv_bipush (v := 101) S.1 S.2.1 dX12_init_207 (by decide) ?_
  obtain ⟨h72, e71, f⟩ := ob f
  refine o_iast S I e71 dX12_init_209 (fun H locs I => ?_)
  refine lv_dup S.1 S.2.1 dX12_init_210 rfl ?_
  refine lv_bipush (v := 33) S.1 S.2.1 dX12_init_211 (by decide) ?_
  refine lv_bipush (v := 100) S.1 S.2.1 dX12_init_213 (by decide) ?_
  obtain ⟨h74, e73, f⟩ := ob f
  refine o_iast S I e73 dX12_init_215 (fun H locs I => ?_)
  refine lv_dup S.1 S.2.1 dX12_init_216 rfl ?_
  refine lv_bipush (v := 34) S.1 S.2.1 dX12_init_217 (by decide) ?_
  refine lv_bipush (v := 32) S.1 S.2.1 dX12_init_219 (by decide) ?_
  obtain ⟨h76, e75, f⟩ := ob f
  refine o_iast S I e75 dX12_init_221 (fun H locs I => ?_)
  refine lv_dup S.1 S.2.1 dX12_init_222 rfl ?_
  refine lv_bipush (v := 35) S.1 S.2.1 dX12_init_223 (by decide) ?_
  refine lv_bipush (v := 108) S.1 S.2.1 dX12_init_225 (by decide) ?_
  obtain ⟨h78, e77, f⟩ := ob f
  refine o_iast S I e77 dX12_init_227 (fun H locs I => ?_)
  refine lv_dup S.1 S.2.1 dX12_init_228 rfl ?_
  refine lv_bipush (v := 36) S.1 S.2.1 dX12_init_229 (by decide) ?_
  refine lv_bipush (v := 97) S.1 S.2.1 dX12_init_231 (by decide) ?_
  obtain ⟨h80, e79, f⟩ := ob f
  refine o_iast S I e79 dX12_init_233 (fun H locs I => ?_)
  refine lv_dup S.1 S.2.1 dX12_init_234 rfl ?_
  refine lv_bipush (v := 37) S.1 S.2.1 dX12_init_235 (by decide) ?_
  refine lv_bipush (v := 119) S.1 S.2.1 dX12_init_237 (by decide) ?_
  obtain ⟨h82, e81, f⟩ := ob f
  refine o_iast S I e81 dX12_init_239 (fun H locs I => ?_)
  refine lv_dup S.1 S.2.1 dX12_init_240 rfl ?_
  refine lv_bipush (v := 38) S.1 S.2.1 dX12_init_241 (by decide) ?_
  refine lv_bipush (v := 32) S.1 S.2.1 dX12_init_243 (by decide) ?_
  obtain ⟨h84, e83, f⟩ := ob f
  refine o_iast S I e83 dX12_init_245 (fun H locs I => ?_)
  refine lv_dup S.1 S.2.1 dX12_init_246 rfl ?_
  refine lv_bipush (v := 39) S.1 S.2.1 dX12_init_247 (by decide) ?_
  refine lv_bipush (v := 100) S.1 S.2.1 dX12_init_249 (by decide) ?_
  obtain ⟨h86, e85, f⟩ := ob f
  refine o_iast S I e85 dX12_init_251 (fun H locs I => ?_)
  refine lv_dup S.1 S.2.1 dX12_init_252 rfl ?_
  refine lv_bipush (v := 40) S.1 S.2.1 dX12_init_253 (by decide) ?_
  refine lv_bipush (v := 101) S.1 S.2.1 dX12_init_255 (by decide) ?_
  obtain ⟨h88, e87, f⟩ := ob f
  refine o_iast S I e87 dX12_init_257 (fun H locs I => ?_)
  refine lv_dup S.1 S.2.1 dX12_init_258 rfl ?_
  refine lv_bipush (v := 41) S.1 S.2.1 dX12_init_259 (by decide) ?_
  refine lv_bipush (v := 101) S.1 S.2.1 dX12_init_261 (by decide) ?_
  obtain ⟨h90, e89, f⟩ := ob f
  refine o_iast S I e89 dX12_init_263 (fun H locs I => ?_)
  refine lv_dup S.1 S.2.1 dX12_init_264 rfl ?_
  refine lv_bipush (v := 42) S.1 S.2.1 dX12_init_265 (by decide) ?_
  refine lv_bipush (v := 112) S.1 S.2.1 dX12_init_267 (by decide) ?_
  obtain ⟨h92, e91, f⟩ := ob f
  refine o_iast S I e91 dX12_init_269 (fun H locs I => ?_)
  refine lv_dup S.1 S.2.1 dX12_init_270 rfl ?_
  refine lv_bipush (v := 43) S.1 S.2.1 dX12_init_271 (by decide) ?_
  refine lv_bipush (v := 32) S.1 S.2.1 dX12_init_273 (by decide) ?_
  obtain ⟨h94, e93, f⟩ := ob f
  refine o_iast S I e93 dX12_init_275 (fun H locs I => ?_)
  refine lv_dup S.1 S.2.1 dX12_init_276 rfl ?_
  refine lv_bipush (v := 44) S.1 S.2.1 dX12_init_277 (by decide) ?_
  refine lv_bipush (v := 116) S.1 S.2.1 dX12_init_279 (by decide) ?_
  obtain ⟨h96, e95, f⟩ := ob f
  refine o_iast S I e95 dX12_init_281 (fun H locs I => ?_)
  refine lv_dup S.1 S.2.1 dX12_init_282 rfl ?_
  refine lv_bipush (v := 45) S.1 S.2.1 dX12_init_283 (by decide) ?_
  refine lv_bipush (v := 117) S.1 S.2.1 dX12_init_285 (by decide) ?_
  obtain ⟨h98, e97, f⟩ := ob f
  refine o_iast S I e97 dX12_init_287 (fun H locs I => ?_)
  refine lv_dup S.1 S.2.1 dX12_init_288 rfl ?_
  refine lv_bipush (v := 46) S.1 S.2.1 dX12_init_289 (by decide) ?_
  refine lv_bipush (v := 114) S.1 S.2.1 dX12_init_291 (by decide) ?_
  obtain ⟨h100, e99, f⟩ := ob f
  refine o_iast S I e99 dX12_init_293 (fun H locs I => ?_)
  refine lv_dup S.1 S.2.1 dX12_init_294 rfl ?_
  refine lv_bipush (v := 47) S.1 S.2.1 dX12_init_295 (by decide) ?_
  refine lv_bipush (v := 110) S.1 S.2.1 dX12_init_297 (by decide) ?_
  obtain ⟨h102, e101, f⟩ := ob f
  refine o_iast S I e101 dX12_init_299 (fun H locs I => ?_)
  refine lv_dup S.1 S.2.1 dX12_init_300 rfl ?_
  refine lv_bipush (v := 48) S.1 S.2.1 dX12_init_301 (by decide) ?_
  refine lv_bipush (v := 115) S.1 S.2.1 dX12_init_303 (by decide) ?_
  obtain ⟨h104, e103, f⟩ := ob f
  refine o_iast S I e103 dX12_init_305 (fun H locs I => ?_)
  refine lv_dup S.1 S.2.1 dX12_init_306 rfl ?_
  refine lv_bipush (v := 49) S.1 S.2.1 dX12_init_307 (by decide) ?_
  refine lv_bipush (v := 32) S.1 S.2.1 dX12_init_309 (by decide) ?_
  obtain ⟨h106, e105, f⟩ := ob f
  refine o_iast S I e105 dX12_init_311 (fun H locs I => ?_)
  refine lv_dup S.1 S.2.1 dX12_init_312 rfl ?_
  refine lv_bipush (v := 50) S.1 S.2.1 dX12_init_313 (by decide) ?_
  refine lv_bipush (v := 101) S.1 S.2.1 dX12_init_315 (by decide) ?_
  obtain ⟨h108, e107, f⟩ := ob f
  refine o_iast S I e107 dX12_init_317 (fun H locs I => ?_)
  refine lv_dup S.1 S.2.1 dX12_init_318 rfl ?_
  refine lv_bipush (v := 51) S.1 S.2.1 dX12_init_319 (by decide) ?_
  refine lv_bipush (v := 97) S.1 S.2.1 dX12_init_321 (by decide) ?_
  obtain ⟨h110, e109, f⟩ := ob f
  refine o_iast S I e109 dX12_init_323 (fun H locs I => ?_)
  refine lv_dup S.1 S.2.1 dX12_init_324 rfl ?_
  refine lv_bipush (v := 52) S.1 S.2.1 dX12_init_325 (by decide) ?_
  refine lv_bipush (v := 99) S.1 S.2.1 dX12_init_327 (by decide) ?_
  obtain ⟨h112, e111, f⟩ := ob f
  refine o_iast S I e111 dX12_init_329 (fun H locs I => ?_)
  refine lv_dup S.1 S.2.1 dX12_init_330 rfl ?_
  refine lv_bipush (v := 53) S.1 S.2.1 dX12_init_331 (by decide) ?_
  refine lv_bipush (v := 104) S.1 S.2.1 dX12_init_333 (by decide) ?_
  obtain ⟨h114, e113, f⟩ := ob f
  refine o_iast S I e113 dX12_init_335 (fun H locs I => ?_)
  refine lv_dup S.1 S.2.1 dX12_init_336 rfl ?_
  refine lv_bipush (v := 54) S.1 S.2.1 dX12_init_337 (by decide) ?_
  refine lv_bipush (v := 32) S.1 S.2.1 dX12_init_339 (by decide) ?_
  obtain ⟨h116, e115, f⟩ := ob f
  refine o_iast S I e115 dX12_init_341 (fun H locs I => ?_)
  refine lv_dup S.1 S.2.1 dX12_init_342 rfl ?_
  refine lv_bipush (v := 55) S.1 S.2.1 dX12_init_343 (by decide) ?_
  refine lv_bipush (v := 111) S.1 S.2.1 dX12_init_345 (by decide) ?_
  obtain ⟨h118, e117, f⟩ := ob f
  refine o_iast S I e117 dX12_init_347 (fun H locs I => ?_)
  refine lv_dup S.1 S.2.1 dX12_init_348 rfl ?_
  refine lv_bipush (v := 56) S.1 S.2.1 dX12_init_349 (by decide) ?_
  refine lv_bipush (v := 117) S.1 S.2.1 dX12_init_351 (by decide) ?_
  obtain ⟨h120, e119, f⟩ := ob f
  refine o_iast S I e119 dX12_init_353 (fun H locs I => ?_)
  refine lv_dup S.1 S.2.1 dX12_init_354 rfl ?_
  refine lv_bipush (v := 57) S.1 S.2.1 dX12_init_355 (by decide) ?_
  refine lv_bipush (v := 116) S.1 S.2.1 dX12_init_357 (by decide) ?_
  obtain ⟨h122, e121, f⟩ := ob f
  refine o_iast S I e121 dX12_init_359 (fun H locs I => ?_)
  refine lv_dup S.1 S.2.1 dX12_init_360 rfl ?_
  refine lv_bipush (v := 58) S.1 S.2.1 dX12_init_361 (by decide) ?_
  refine lv_bipush (v := 32) S.1 S.2.1 dX12_init_363 (by decide) ?_
  obtain ⟨h124, e123, f⟩ := ob f
  refine o_iast S I e123 dX12_init_365 (fun H locs I => ?_)
  refine lv_dup S.1 S.2.1 dX12_init_366 rfl ?_
  refine lv_bipush (v := 59) S.1 S.2.1 dX12_init_367 (by decide) ?_
  refine lv_bipush (v := 99) S.1 S.2.1 dX12_init_369 (by decide) ?_
  obtain ⟨h126, e125, f⟩ := ob f
  refine o_iast S I e125 dX12_init_371 (fun H locs I => ?_)
  refine lv_dup S.1 S.2.1 dX12_init_372 rfl ?_
  refine lv_bipush (v := 60) S.1 S.2.1 dX12_init_373 (by decide) ?_
  refine lv_bipush (v := 97) S.1 S.2.1 dX12_init_375 (by decide) ?_
  obtain ⟨h128, e127, f⟩ := ob f
  refine o_iast S I e127 dX12_init_377 (fun H locs I => ?_)
  refine lv_dup S.1 S.2.1 dX12_init_378 rfl ?_
  refine lv_bipush (v := 61) S.1 S.2.1 dX12_init_379 (by decide) ?_
  refine lv_bipush (v := 116) S.1 S.2.1 dX12_init_381 (by decide) ?_
  obtain ⟨h130, e129, f⟩ := ob f
  refine o_iast S I e129 dX12_init_383 (fun H locs I => ?_)
  refine lv_dup S.1 S.2.1 dX12_init_384 rfl ?_
  refine lv_bipush (v := 62) S.1 S.2.1 dX12_init_385 (by decide) ?_
  refine lv_bipush (v := 99) S.1 S.2.1 dX12_init_387 (by decide) ?_
  obtain ⟨h132, e131, f⟩ := ob f
  refine o_iast S I e131 dX12_init_389 (fun H locs I => ?_)
  refine lv_dup S.1 S.2.1 dX12_init_390 rfl ?_
  refine lv_bipush (v := 63) S.1 S.2.1 dX12_init_391 (by decide) ?_
  refine lv_bipush (v := 104) S.1 S.2.1 dX12_init_393 (by decide) ?_
  obtain ⟨h134, e133, f⟩ := ob f
  refine o_iast S I e133 dX12_init_395 (fun H locs I => ?_)
  refine lv_dup S.1 S.2.1 dX12_init_396 rfl ?_
  refine lv_bipush (v := 64) S.1 S.2.1 dX12_init_397 (by decide) ?_
  refine lv_bipush (v := 32) S.1 S.2.1 dX12_init_399 (by decide) ?_
  obtain ⟨h136, e135, f⟩ := ob f
  refine o_iast S I e135 dX12_init_401 (fun H locs I => ?_)
  refine lv_dup S.1 S.2.1 dX12_init_402 rfl ?_
  refine lv_bipush (v := 65) S.1 S.2.1 dX12_init_403 (by decide) ?_
  refine lv_bipush (v := 100) S.1 S.2.1 dX12_init_405 (by decide) ?_
  obtain ⟨h138, e137, f⟩ := ob f
  refine o_iast S I e137 dX12_init_407 (fun H locs I => ?_)
  refine lv_dup S.1 S.2.1 dX12_init_408 rfl ?_
  refine lv_bipush (v := 66) S.1 S.2.1 dX12_init_409 (by decide) ?_
  refine lv_bipush (v := 114) S.1 S.2.1 dX12_init_411 (by decide) ?_
  obtain ⟨h140, e139, f⟩ := ob f
  refine o_iast S I e139 dX12_init_413 (fun H locs I => ?_)
  refine lv_dup S.1 S.2.1 dX12_init_414 rfl ?_
  refine lv_bipush (v := 67) S.1 S.2.1 dX12_init_415 (by decide) ?_
  refine lv_bipush (v := 105) S.1 S.2.1 dX12_init_417 (by decide) ?_
  obtain ⟨h142, e141, f⟩ := ob f
  refine o_iast S I e141 dX12_init_419 (fun H locs I => ?_)
  refine lv_dup S.1 S.2.1 dX12_init_420 rfl ?_
  refine lv_bipush (v := 68) S.1 S.2.1 dX12_init_421 (by decide) ?_
  refine lv_bipush (v := 102) S.1 S.2.1 dX12_init_423 (by decide) ?_
  obtain ⟨h144, e143, f⟩ := ob f
  refine o_iast S I e143 dX12_init_425 (fun H locs I => ?_)
  refine lv_dup S.1 S.2.1 dX12_init_426 rfl ?_
  refine lv_bipush (v := 69) S.1 S.2.1 dX12_init_427 (by decide) ?_
  refine lv_bipush (v := 116) S.1 S.2.1 dX12_init_429 (by decide) ?_
  obtain ⟨h146, e145, f⟩ := ob f
  refine o_iast S I e145 dX12_init_431 (fun H locs I => ?_)
  refine lv_dup S.1 S.2.1 dX12_init_432 rfl ?_
  refine lv_bipush (v := 70) S.1 S.2.1 dX12_init_433 (by decide) ?_
  refine lv_bipush (v := 32) S.1 S.2.1 dX12_init_435 (by decide) ?_
  obtain ⟨h148, e147, f⟩ := ob f
  refine o_iast S I e147 dX12_init_437 (fun H locs I => ?_)
  refine lv_dup S.1 S.2.1 dX12_init_438 rfl ?_
  refine lv_bipush (v := 71) S.1 S.2.1 dX12_init_439 (by decide) ?_
  refine lv_bipush (v := 97) S.1 S.2.1 dX12_init_441 (by decide) ?_
  obtain ⟨h150, e149, f⟩ := ob f
  refine o_iast S I e149 dX12_init_443 (fun H locs I => ?_)
  refine lv_dup S.1 S.2.1 dX12_init_444 rfl ?_
  refine lv_bipush (v := 72) S.1 S.2.1 dX12_init_445 (by decide) ?_
  refine lv_bipush (v := 119) S.1 S.2.1 dX12_init_447 (by decide) ?_
  obtain ⟨h152, e151, f⟩ := ob f
  refine o_iast S I e151 dX12_init_449 (fun H locs I => ?_)
  refine lv_dup S.1 S.2.1 dX12_init_450 rfl ?_
  refine lv_bipush (v := 73) S.1 S.2.1 dX12_init_451 (by decide) ?_
  refine lv_bipush (v := 97) S.1 S.2.1 dX12_init_453 (by decide) ?_
  obtain ⟨h154, e153, f⟩ := ob f
  refine o_iast S I e153 dX12_init_455 (fun H locs I => ?_)
  refine lv_dup S.1 S.2.1 dX12_init_456 rfl ?_
  refine lv_bipush (v := 74) S.1 S.2.1 dX12_init_457 (by decide) ?_
  refine lv_bipush (v := 121) S.1 S.2.1 dX12_init_459 (by decide) ?_
  obtain ⟨h156, e155, f⟩ := ob f
  refine o_iast S I e155 dX12_init_461 (fun H locs I => ?_)
  refine lv_dup S.1 S.2.1 dX12_init_462 rfl ?_
  refine lv_bipush (v := 75) S.1 S.2.1 dX12_init_463 (by decide) ?_
  refine lv_bipush (v := 32) S.1 S.2.1 dX12_init_465 (by decide) ?_
  obtain ⟨h158, e157, f⟩ := ob f
  refine o_iast S I e157 dX12_init_467 (fun H locs I => ?_)
  refine lv_dup S.1 S.2.1 dX12_init_468 rfl ?_
  refine lv_bipush (v := 76) S.1 S.2.1 dX12_init_469 (by decide) ?_
  refine lv_bipush (v := 97) S.1 S.2.1 dX12_init_471 (by decide) ?_
  obtain ⟨h160, e159, f⟩ := ob f
  refine o_iast S I e159 dX12_init_473 (fun H locs I => ?_)
  refine lv_dup S.1 S.2.1 dX12_init_474 rfl ?_
  refine lv_bipush (v := 77) S.1 S.2.1 dX12_init_475 (by decide) ?_
  refine lv_bipush (v := 110) S.1 S.2.1 dX12_init_477 (by decide) ?_
  obtain ⟨h162, e161, f⟩ := ob f
  refine o_iast S I e161 dX12_init_479 (fun H locs I => ?_)
  refine lv_dup S.1 S.2.1 dX12_init_480 rfl ?_
  refine lv_bipush (v := 78) S.1 S.2.1 dX12_init_481 (by decide) ?_
  refine lv_bipush (v := 100) S.1 S.2.1 dX12_init_483 (by decide) ?_
  obtain ⟨h164, e163, f⟩ := ob f
  refine o_iast S I e163 dX12_init_485 (fun H locs I => ?_)
  refine lv_dup S.1 S.2.1 dX12_init_486 rfl ?_
  refine lv_bipush (v := 79) S.1 S.2.1 dX12_init_487 (by decide) ?_
  refine lv_bipush (v := 32) S.1 S.2.1 dX12_init_489 (by decide) ?_
  obtain ⟨h166, e165, f⟩ := ob f
  refine o_iast S I e165 dX12_init_491 (fun H locs I => ?_)
  refine lv_dup S.1 S.2.1 dX12_init_492 rfl ?_
  refine lv_bipush (v := 80) S.1 S.2.1 dX12_init_493 (by decide) ?_
  refine lv_bipush (v := 111) S.1 S.2.1 dX12_init_495 (by decide) ?_
  obtain ⟨h168, e167, f⟩ := ob f
  refine o_iast S I e167 dX12_init_497 (fun H locs I => ?_)
  refine lv_dup S.1 S.2.1 dX12_init_498 rfl ?_
  refine lv_bipush (v := 81) S.1 S.2.1 dX12_init_499 (by decide) ?_
  refine lv_bipush (v := 114) S.1 S.2.1 dX12_init_501 (by decide) ?_
  obtain ⟨h170, e169, f⟩ := ob f
  refine o_iast S I e169 dX12_init_503 (fun H locs I => ?_)
  refine lv_dup S.1 S.2.1 dX12_init_504 rfl ?_
  refine lv_bipush (v := 82) S.1 S.2.1 dX12_init_505 (by decide) ?_
  refine lv_bipush (v := 32) S.1 S.2.1 dX12_init_507 (by decide) ?_
  obtain ⟨h172, e171, f⟩ := ob f
  refine o_iast S I e171 dX12_init_509 (fun H locs I => ?_)
  refine lv_dup S.1 S.2.1 dX12_init_510 rfl ?_
  refine lv_bipush (v := 83) S.1 S.2.1 dX12_init_511 (by decide) ?_
  refine lv_bipush (v := 110) S.1 S.2.1 dX12_init_513 (by decide) ?_
  obtain ⟨h174, e173, f⟩ := ob f
  refine o_iast S I e173 dX12_init_515 (fun H locs I => ?_)
  refine lv_dup S.1 S.2.1 dX12_init_516 rfl ?_
  refine lv_bipush (v := 84) S.1 S.2.1 dX12_init_517 (by decide) ?_
  refine lv_bipush (v := 111) S.1 S.2.1 dX12_init_519 (by decide) ?_
  obtain ⟨h176, e175, f⟩ := ob f
  refine o_iast S I e175 dX12_init_521 (fun H locs I => ?_)
  refine lv_dup S.1 S.2.1 dX12_init_522 rfl ?_
  refine lv_bipush (v := 85) S.1 S.2.1 dX12_init_523 (by decide) ?_
  refine lv_bipush (v := 116) S.1 S.2.1 dX12_init_525 (by decide) ?_
  obtain ⟨h178, e177, f⟩ := ob f
  refine o_iast S I e177 dX12_init_527 (fun H locs I => ?_)
  refine lv_dup S.1 S.2.1 dX12_init_528 rfl ?_
  refine lv_bipush (v := 86) S.1 S.2.1 dX12_init_529 (by decide) ?_
  refine lv_bipush (v := 32) S.1 S.2.1 dX12_init_531 (by decide) ?_
  obtain ⟨h180, e179, f⟩ := ob f
  refine o_iast S I e179 dX12_init_533 (fun H locs I => ?_)
  refine lv_dup S.1 S.2.1 dX12_init_534 rfl ?_
  refine lv_bipush (v := 87) S.1 S.2.1 dX12_init_535 (by decide) ?_
  refine lv_bipush (v := 102) S.1 S.2.1 dX12_init_537 (by decide) ?_
  obtain ⟨h182, e181, f⟩ := ob f
  refine o_iast S I e181 dX12_init_539 (fun H locs I => ?_)
  refine lv_dup S.1 S.2.1 dX12_init_540 rfl ?_
  refine lv_bipush (v := 88) S.1 S.2.1 dX12_init_541 (by decide) ?_
  refine lv_bipush (v := 97) S.1 S.2.1 dX12_init_543 (by decide) ?_
  obtain ⟨h184, e183, f⟩ := ob f
  refine o_iast S I e183 dX12_init_545 (fun H locs I => ?_)
  refine lv_dup S.1 S.2.1 dX12_init_546 rfl ?_
  refine lv_bipush (v := 89) S.1 S.2.1 dX12_init_547 (by decide) ?_
  refine lv_bipush (v := 114) S.1 S.2.1 dX12_init_549 (by decide) ?_
  obtain ⟨h186, e185, f⟩ := ob f
  refine o_iast S I e185 dX12_init_551 (fun H locs I => ?_)
  refine lv_dup S.1 S.2.1 dX12_init_552 rfl ?_
  refine lv_bipush (v := 90) S.1 S.2.1 dX12_init_553 (by decide) ?_
  refine lv_bipush (v := 32) S.1 S.2.1 dX12_init_555 (by decide) ?_
  obtain ⟨h188, e187, f⟩ := ob f
  refine o_iast S I e187 dX12_init_557 (fun H locs I => ?_)
  refine lv_dup S.1 S.2.1 dX12_init_558 rfl ?_
  refine lv_bipush (v := 91) S.1 S.2.1 dX12_init_559 (by decide) ?_
  refine lv_bipush (v := 115) S.1 S.2.1 dX12_init_561 (by decide) ?_
  obtain ⟨h190, e189, f⟩ := ob f
  refine o_iast S I e189 dX12_init_563 (fun H locs I => ?_)
  refine lv_dup S.1 S.2.1 dX12_init_564 rfl ?_
  refine lv_bipush (v := 92) S.1 S.2.1 dX12_init_565 (by decide) ?_
  refine lv_bipush (v := 105) S.1 S.2.1 dX12_init_567 (by decide) ?_
  obtain ⟨h192, e191, f⟩ := ob f
  refine o_iast S I e191 dX12_init_569 (fun H locs I => ?_)
  refine lv_dup S.1 S.2.1 dX12_init_570 rfl ?_
  refine lv_bipush (v := 93) S.1 S.2.1 dX12_init_571 (by decide) ?_
  refine lv_bipush (v := 100) S.1 S.2.1 dX12_init_573 (by decide) ?_
  obtain ⟨h194, e193, f⟩ := ob f
  refine o_iast S I e193 dX12_init_575 (fun H locs I => ?_)
  refine lv_dup S.1 S.2.1 dX12_init_576 rfl ?_
  refine lv_bipush (v := 94) S.1 S.2.1 dX12_init_577 (by decide) ?_
  refine lv_bipush (v := 101) S.1 S.2.1 dX12_init_579 (by decide) ?_
  obtain ⟨h196, e195, f⟩ := ob f
  refine o_iast S I e195 dX12_init_581 (fun H locs I => ?_)
  refine lv_dup S.1 S.2.1 dX12_init_582 rfl ?_
  refine lv_bipush (v := 95) S.1 S.2.1 dX12_init_583 (by decide) ?_
  refine lv_bipush (v := 32) S.1 S.2.1 dX12_init_585 (by decide) ?_
  obtain ⟨h198, e197, f⟩ := ob f
  refine o_iast S I e197 dX12_init_587 (fun H locs I => ?_)
  refine lv_dup S.1 S.2.1 dX12_init_588 rfl ?_
  refine lv_bipush (v := 96) S.1 S.2.1 dX12_init_589 (by decide) ?_
  refine lv_bipush (v := 98) S.1 S.2.1 dX12_init_591 (by decide) ?_
  obtain ⟨h200, e199, f⟩ := ob f
  refine o_iast S I e199 dX12_init_593 (fun H locs I => ?_)
  refine lv_dup S.1 S.2.1 dX12_init_594 rfl ?_
  refine lv_bipush (v := 97) S.1 S.2.1 dX12_init_595 (by decide) ?_
  refine lv_bipush (v := 111) S.1 S.2.1 dX12_init_597 (by decide) ?_
  obtain ⟨h202, e201, f⟩ := ob f
  refine o_iast S I e201 dX12_init_599 (fun H locs I => ?_)
  refine lv_dup S.1 S.2.1 dX12_init_600 rfl ?_
  refine lv_bipush (v := 98) S.1 S.2.1 dX12_init_601 (by decide) ?_
  refine lv_bipush (v := 97) S.1 S.2.1 dX12_init_603 (by decide) ?_
  obtain ⟨h204, e203, f⟩ := ob f
  refine o_iast S I e203 dX12_init_605 (fun H locs I => ?_)
  refine lv_dup S.1 S.2.1 dX12_init_606 rfl ?_
  refine lv_bipush (v := 99) S.1 S.2.1 dX12_init_607 (by decide) ?_
  refine lv_bipush (v := 114) S.1 S.2.1 dX12_init_609 (by decide) ?_
  obtain ⟨h206, e205, f⟩ := ob f
  refine o_iast S I e205 dX12_init_611 (fun H locs I => ?_)
  refine lv_dup S.1 S.2.1 dX12_init_612 rfl ?_
  refine lv_bipush (v := 100) S.1 S.2.1 dX12_init_613 (by decide) ?_
  refine lv_bipush (v := 100) S.1 S.2.1 dX12_init_615 (by decide) ?_
  obtain ⟨h208, e207, f⟩ := ob f
  refine o_iast S I e207 dX12_init_617 (fun H locs I => ?_)
  refine lv_dup S.1 S.2.1 dX12_init_618 rfl ?_
  refine lv_bipush (v := 101) S.1 S.2.1 dX12_init_619 (by decide) ?_
  refine lv_bipush (v := 32) S.1 S.2.1 dX12_init_621 (by decide) ?_
  obtain ⟨h210, e209, f⟩ := ob f
  refine o_iast S I e209 dX12_init_623 (fun H locs I => ?_)
  refine lv_dup S.1 S.2.1 dX12_init_624 rfl ?_
  refine lv_bipush (v := 102) S.1 S.2.1 dX12_init_625 (by decide) ?_
  refine lv_bipush (v := 115) S.1 S.2.1 dX12_init_627 (by decide) ?_
  obtain ⟨h212, e211, f⟩ := ob f
  refine o_iast S I e211 dX12_init_629 (fun H locs I => ?_)
  refine lv_dup S.1 S.2.1 dX12_init_630 rfl ?_
  refine lv_bipush (v := 103) S.1 S.2.1 dX12_init_631 (by decide) ?_
  refine lv_bipush (v := 105) S.1 S.2.1 dX12_init_633 (by decide) ?_
  obtain ⟨h214, e213, f⟩ := ob f
  refine o_iast S I e213 dX12_init_635 (fun H locs I => ?_)
  refine lv_dup S.1 S.2.1 dX12_init_636 rfl ?_
  refine lv_bipush (v := 104) S.1 S.2.1 dX12_init_637 (by decide) ?_
  refine lv_bipush (v := 122) S.1 S.2.1 dX12_init_639 (by decide) ?_
  obtain ⟨h216, e215, f⟩ := ob f
  refine o_iast S I e215 dX12_init_641 (fun H locs I => ?_)
  refine lv_dup S.1 S.2.1 dX12_init_642 rfl ?_
  refine lv_bipush (v := 105) S.1 S.2.1 dX12_init_643 (by decide) ?_
  refine lv_bipush (v := 101) S.1 S.2.1 dX12_init_645 (by decide) ?_
  obtain ⟨h218, e217, f⟩ := ob f
  refine o_iast S I e217 dX12_init_647 (fun H locs I => ?_)
  refine lv_dup S.1 S.2.1 dX12_init_648 rfl ?_
  refine lv_bipush (v := 106) S.1 S.2.1 dX12_init_649 (by decide) ?_
  refine lv_bipush (v := 32) S.1 S.2.1 dX12_init_651 (by decide) ?_
  obtain ⟨h220, e219, f⟩ := ob f
  refine o_iast S I e219 dX12_init_653 (fun H locs I => ?_)
  refine lv_dup S.1 S.2.1 dX12_init_654 rfl ?_
  refine lv_bipush (v := 107) S.1 S.2.1 dX12_init_655 (by decide) ?_
  refine lv_bipush (v := 109) S.1 S.2.1 dX12_init_657 (by decide) ?_
  obtain ⟨h222, e221, f⟩ := ob f
  refine o_iast S I e221 dX12_init_659 (fun H locs I => ?_)
  refine lv_dup S.1 S.2.1 dX12_init_660 rfl ?_
  refine lv_bipush (v := 108) S.1 S.2.1 dX12_init_661 (by decide) ?_
  refine lv_bipush (v := 105) S.1 S.2.1 dX12_init_663 (by decide) ?_
  obtain ⟨h224, e223, f⟩ := ob f
  refine o_iast S I e223 dX12_init_665 (fun H locs I => ?_)
  refine lv_dup S.1 S.2.1 dX12_init_666 rfl ?_
  refine lv_bipush (v := 109) S.1 S.2.1 dX12_init_667 (by decide) ?_
  refine lv_bipush (v := 110) S.1 S.2.1 dX12_init_669 (by decide) ?_
  obtain ⟨h226, e225, f⟩ := ob f
  refine o_iast S I e225 dX12_init_671 (fun H locs I => ?_)
  refine lv_dup S.1 S.2.1 dX12_init_672 rfl ?_
  refine lv_bipush (v := 110) S.1 S.2.1 dX12_init_673 (by decide) ?_
  refine lv_bipush (v := 117) S.1 S.2.1 dX12_init_675 (by decide) ?_
  obtain ⟨h228, e227, f⟩ := ob f
  refine o_iast S I e227 dX12_init_677 (fun H locs I => ?_)
  refine lv_dup S.1 S.2.1 dX12_init_678 rfl ?_
  refine lv_bipush (v := 111) S.1 S.2.1 dX12_init_679 (by decide) ?_
  refine lv_bipush (v := 116) S.1 S.2.1 dX12_init_681 (by decide) ?_
  obtain ⟨h230, e229, f⟩ := ob f
  refine o_iast S I e229 dX12_init_683 (fun H locs I => ?_)
  refine lv_dup S.1 S.2.1 dX12_init_684 rfl ?_
  refine lv_bipush (v := 112) S.1 S.2.1 dX12_init_685 (by decide) ?_
  refine lv_bipush (v := 101) S.1 S.2.1 dX12_init_687 (by decide) ?_
  obtain ⟨h232, e231, f⟩ := ob f
  refine o_iast S I e231 dX12_init_689 (fun H locs I => ?_)
  refine lv_dup S.1 S.2.1 dX12_init_690 rfl ?_
  refine lv_bipush (v := 113) S.1 S.2.1 dX12_init_691 (by decide) ?_
  refine lv_bipush (v := 32) S.1 S.2.1 dX12_init_693 (by decide) ?_
  obtain ⟨h234, e233, f⟩ := ob f
  refine o_iast S I e233 dX12_init_695 (fun H locs I => ?_)
  refine lv_dup S.1 S.2.1 dX12_init_696 rfl ?_
  refine lv_bipush (v := 114) S.1 S.2.1 dX12_init_697 (by decide) ?_
  refine lv_bipush (v := 119) S.1 S.2.1 dX12_init_699 (by decide) ?_
  obtain ⟨h236, e235, f⟩ := ob f
  refine o_iast S I e235 dX12_init_701 (fun H locs I => ?_)
  refine lv_dup S.1 S.2.1 dX12_init_702 rfl ?_
  refine lv_bipush (v := 115) S.1 S.2.1 dX12_init_703 (by decide) ?_
  refine lv_bipush (v := 104) S.1 S.2.1 dX12_init_705 (by decide) ?_
  obtain ⟨h238, e237, f⟩ := ob f
  refine o_iast S I e237 dX12_init_707 (fun H locs I => ?_)
  refine lv_dup S.1 S.2.1 dX12_init_708 rfl ?_
  refine lv_bipush (v := 116) S.1 S.2.1 dX12_init_709 (by decide) ?_
  refine lv_bipush (v := 105) S.1 S.2.1 dX12_init_711 (by decide) ?_
  obtain ⟨h240, e239, f⟩ := ob f
  refine o_iast S I e239 dX12_init_713 (fun H locs I => ?_)
  refine lv_dup S.1 S.2.1 dX12_init_714 rfl ?_
  refine lv_bipush (v := 117) S.1 S.2.1 dX12_init_715 (by decide) ?_
  refine lv_bipush (v := 99) S.1 S.2.1 dX12_init_717 (by decide) ?_
  obtain ⟨h242, e241, f⟩ := ob f
  refine o_iast S I e241 dX12_init_719 (fun H locs I => ?_)
  refine lv_dup S.1 S.2.1 dX12_init_720 rfl ?_
  refine lv_bipush (v := 118) S.1 S.2.1 dX12_init_721 (by decide) ?_
  refine lv_bipush (v := 104) S.1 S.2.1 dX12_init_723 (by decide) ?_
  obtain ⟨h244, e243, f⟩ := ob f
  refine o_iast S I e243 dX12_init_725 (fun H locs I => ?_)
  refine lv_dup S.1 S.2.1 dX12_init_726 rfl ?_
  refine lv_bipush (v := 119) S.1 S.2.1 dX12_init_727 (by decide) ?_
  refine lv_bipush (v := 32) S.1 S.2.1 dX12_init_729 (by decide) ?_
  obtain ⟨h246, e245, f⟩ := ob f
  refine o_iast S I e245 dX12_init_731 (fun H locs I => ?_)
  obtain ⟨h247, e248, f⟩ := ob f
  refine o_pRF S hin2 lp12_init_13 (Or.inr ⟨_, rfl⟩) I e248 dX12_init_732 (fun H locs I => ?_)
  refine lv_aload_n S.1 S.2.1 dX12_init_735 rfl (lv_at hl 0 rfl) ?_
  refine lv_iconst (v := (-1)) S.1 S.2.1 dX12_init_736 (by decide) ?_
  obtain ⟨h249, e250, f⟩ := ob f
  refine o_pI S lp12_init_16 I e250 dX12_init_737 (fun H locs I => ?_)
  refine lv_aload_n S.1 S.2.1 dX12_init_740 rfl (lv_at hl 0 rfl) ?_
  refine lv_iconst (v := 5) S.1 S.2.1 dX12_init_741 (by decide) ?_
  obtain ⟨h251, e252, f⟩ := ob f
  refine o_newZ S (List.mem_cons_of_mem _ wT_8_19) I hAn (N := 5) e252 (by decide) (by decide) (Nat.le_of_ble_eq_true rfl) (Nat.le_of_ble_eq_true rfl) (Nat.le_of_ble_eq_true rfl) dX12_init_742 (fun H I => ?_)
  obtain ⟨h253, e254, f⟩ := ob f
  refine o_pRF S hin2 lp12_init_20 (Or.inr ⟨_, rfl⟩) I e254 dX12_init_744 (fun H locs I => ?_)
  refine lv_aload_n S.1 S.2.1 dX12_init_747 rfl (lv_at hl 0 rfl) ?_
  refine lv_bipush (v := 14) S.1 S.2.1 dX12_init_748 (by decide) ?_
  obtain ⟨h255, e256, f⟩ := ob f
  refine o_newI S (List.mem_cons_of_mem _ wT_3_21) I hAn (N := 14) e256 (by decide) (by decide) (Nat.le_of_ble_eq_true rfl) (Nat.le_of_ble_eq_true rfl) (Nat.le_of_ble_eq_true rfl) dX12_init_750 (fun H I => ?_)
  obtain ⟨h257, e258, f⟩ := ob f
  refine o_pRF S hin2 lp12_init_24 (Or.inr ⟨_, rfl⟩) I e258 dX12_init_752 (fun H locs I => ?_)
  refine lv_aload_n S.1 S.2.1 dX12_init_755 rfl (lv_at hl 0 rfl) ?_
  refine lv_bipush (v := 10) S.1 S.2.1 dX12_init_756 (by decide) ?_
  obtain ⟨h259, e260, f⟩ := ob f
  refine o_newI S (List.mem_cons_of_mem _ wT_3_21) I hAn (N := 10) e260 (by decide) (by decide) (Nat.le_of_ble_eq_true rfl) (Nat.le_of_ble_eq_true rfl) (Nat.le_of_ble_eq_true rfl) dX12_init_758 (fun H I => ?_)
  obtain ⟨h261, e262, f⟩ := ob f
  refine o_pRF S hin2 lp12_init_27 (Or.inr ⟨_, rfl⟩) I e262 dX12_init_760 (fun H locs I => ?_)
  refine lv_aload_n S.1 S.2.1 dX12_init_763 rfl (lv_at hl 0 rfl) ?_
  refine lv_bipush (v := 10) S.1 S.2.1 dX12_init_764 (by decide) ?_
  obtain ⟨h263, e264, f⟩ := ob f
  refine o_newI S (List.mem_cons_of_mem _ wT_3_21) I hAn (N := 10) e264 (by decide) (by decide) (Nat.le_of_ble_eq_true rfl) (Nat.le_of_ble_eq_true rfl) (Nat.le_of_ble_eq_true rfl) dX12_init_766 (fun H I => ?_)
  obtain ⟨h265, e266, f⟩ := ob f
  refine o_pRF S hin2 lp12_init_30 (Or.inr ⟨_, rfl⟩) I e266 dX12_init_768 (fun H locs I => ?_)
  refine lv_aload_n S.1 S.2.1 dX12_init_771 rfl (lv_at hl 0 rfl) ?_
  refine lv_bipush (v := 10) S.1 S.2.1 dX12_init_772 (by decide) ?_
  obtain ⟨h267, e268, f⟩ := ob f
  refine o_newI S (List.mem_cons_of_mem _ wT_3_21) I hAn (N := 10) e268 (by decide) (by decide) (Nat.le_of_ble_eq_true rfl) (Nat.le_of_ble_eq_true rfl) (Nat.le_of_ble_eq_true rfl) dX12_init_774 (fun H I => ?_)
  obtain ⟨h269, e270, f⟩ := ob f
  refine o_pRF S hin2 lp12_init_33 (Or.inr ⟨_, rfl⟩) I e270 dX12_init_776 (fun H locs I => ?_)
  refine lv_aload_n S.1 S.2.1 dX12_init_779 rfl (lv_at hl 0 rfl) ?_
  refine lv_bipush (v := 10) S.1 S.2.1 dX12_init_780 (by decide) ?_
  obtain ⟨h271, e272, f⟩ := ob f
  refine o_newI S (List.mem_cons_of_mem _ wT_3_21) I hAn (N := 10) e272 (by decide) (by decide) (Nat.le_of_ble_eq_true rfl) (Nat.le_of_ble_eq_true rfl) (Nat.le_of_ble_eq_true rfl) dX12_init_782 (fun H I => ?_)
  obtain ⟨h273, e274, f⟩ := ob f
  refine o_pRF S hin2 lp12_init_36 (Or.inr ⟨_, rfl⟩) I e274 dX12_init_784 (fun H locs I => ?_)
  refine lv_aload_n S.1 S.2.1 dX12_init_787 rfl (lv_at hl 0 rfl) ?_
  refine lv_bipush (v := 10) S.1 S.2.1 dX12_init_788 (by decide) ?_
  obtain ⟨h275, e276, f⟩ := ob f
  refine o_newI S (List.mem_cons_of_mem _ wT_3_21) I hAn (N := 10) e276 (by decide) (by decide) (Nat.le_of_ble_eq_true rfl) (Nat.le_of_ble_eq_true rfl) (Nat.le_of_ble_eq_true rfl) dX12_init_790 (fun H I => ?_)
  obtain ⟨h277, e278, f⟩ := ob f
  refine o_pRF S hin2 lp12_init_39 (Or.inr ⟨_, rfl⟩) I e278 dX12_init_792 (fun H locs I => ?_)
  refine lv_aload_n S.1 S.2.1 dX12_init_795 rfl (lv_at hl 0 rfl) ?_
  refine lv_bipush (v := 10) S.1 S.2.1 dX12_init_796 (by decide) ?_
  obtain ⟨h279, e280, f⟩ := ob f
  refine o_newI S (List.mem_cons_of_mem _ wT_3_21) I hAn (N := 10) e280 (by decide) (by decide) (Nat.le_of_ble_eq_true rfl) (Nat.le_of_ble_eq_true rfl) (Nat.le_of_ble_eq_true rfl) dX12_init_798 (fun H I => ?_)
  obtain ⟨h281, e282, f⟩ := ob f
  refine o_pRF S hin2 lp12_init_42 (Or.inr ⟨_, rfl⟩) I e282 dX12_init_800 (fun H locs I => ?_)
  refine lv_aload_n S.1 S.2.1 dX12_init_803 rfl (lv_at hl 0 rfl) ?_
  refine lv_bipush (v := 8) S.1 S.2.1 dX12_init_804 (by decide) ?_
  obtain ⟨h283, e284, f⟩ := ob f
  refine o_newI S (List.mem_cons_of_mem _ wT_3_21) I hAn (N := 8) e284 (by decide) (by decide) (Nat.le_of_ble_eq_true rfl) (Nat.le_of_ble_eq_true rfl) (Nat.le_of_ble_eq_true rfl) dX12_init_806 (fun H I => ?_)
  obtain ⟨h285, e286, f⟩ := ob f
  refine o_pRF S hin2 lp12_init_45 (Or.inr ⟨_, rfl⟩) I e286 dX12_init_808 (fun H locs I => ?_)
  refine lv_aload_n S.1 S.2.1 dX12_init_811 rfl (lv_at hl 0 rfl) ?_
  refine lv_bipush (v := 56) S.1 S.2.1 dX12_init_812 (by decide) ?_
  obtain ⟨h287, e288, f⟩ := ob f
  refine o_newI S (List.mem_cons_of_mem _ wT_3_21) I hAn (N := 56) e288 (by decide) (by decide) (Nat.le_of_ble_eq_true rfl) (Nat.le_of_ble_eq_true rfl) (Nat.le_of_ble_eq_true rfl) dX12_init_814 (fun H I => ?_)
  obtain ⟨h289, e290, f⟩ := ob f
  refine o_pRF S hin2 lp12_init_48 (Or.inr ⟨_, rfl⟩) I e290 dX12_init_816 (fun H locs I => ?_)
  refine lv_aload_n S.1 S.2.1 dX12_init_819 rfl (lv_at hl 0 rfl) ?_
  refine lv_bipush (v := 56) S.1 S.2.1 dX12_init_820 (by decide) ?_
  obtain ⟨h291, e292, f⟩ := ob f
  refine o_newI S (List.mem_cons_of_mem _ wT_3_21) I hAn (N := 56) e292 (by decide) (by decide) (Nat.le_of_ble_eq_true rfl) (Nat.le_of_ble_eq_true rfl) (Nat.le_of_ble_eq_true rfl) dX12_init_822 (fun H I => ?_)
  obtain ⟨h293, e294, f⟩ := ob f
  refine o_pRF S hin2 lp12_init_51 (Or.inr ⟨_, rfl⟩) I e294 dX12_init_824 (fun H locs I => ?_)
  refine lv_aload_n S.1 S.2.1 dX12_init_827 rfl (lv_at hl 0 rfl) ?_
  refine lv_bipush (v := 56) S.1 S.2.1 dX12_init_828 (by decide) ?_
  obtain ⟨h295, e296, f⟩ := ob f
  refine o_newI S (List.mem_cons_of_mem _ wT_3_21) I hAn (N := 56) e296 (by decide) (by decide) (Nat.le_of_ble_eq_true rfl) (Nat.le_of_ble_eq_true rfl) (Nat.le_of_ble_eq_true rfl) dX12_init_830 (fun H I => ?_)
  obtain ⟨h297, e298, f⟩ := ob f
  refine o_pRF S hin2 lp12_init_54 (Or.inr ⟨_, rfl⟩) I e298 dX12_init_832 (fun H locs I => ?_)
  refine lv_aload_n S.1 S.2.1 dX12_init_835 rfl (lv_at hl 0 rfl) ?_
  refine lv_bipush (v := 6) S.1 S.2.1 dX12_init_836 (by decide) ?_
  obtain ⟨h299, e300, f⟩ := ob f
  refine o_newZ S (List.mem_cons_of_mem _ wT_8_19) I hAn (N := 6) e300 (by decide) (by decide) (Nat.le_of_ble_eq_true rfl) (Nat.le_of_ble_eq_true rfl) (Nat.le_of_ble_eq_true rfl) dX12_init_838 (fun H I => ?_)
  obtain ⟨h301, e302, f⟩ := ob f
  refine o_pRF S hin2 lp12_init_57 (Or.inr ⟨_, rfl⟩) I e302 dX12_init_840 (fun H locs I => ?_)
  refine lv_aload_n S.1 S.2.1 dX12_init_843 rfl (lv_at hl 0 rfl) ?_
  refine lv_bipush (v := 6) S.1 S.2.1 dX12_init_844 (by decide) ?_
  obtain ⟨h303, e304, f⟩ := ob f
  refine o_newI S (List.mem_cons_of_mem _ wT_3_21) I hAn (N := 6) e304 (by decide) (by decide) (Nat.le_of_ble_eq_true rfl) (Nat.le_of_ble_eq_true rfl) (Nat.le_of_ble_eq_true rfl) dX12_init_846 (fun H I => ?_)
  obtain ⟨h305, e306, f⟩ := ob f
  refine o_pRF S hin2 lp12_init_60 (Or.inr ⟨_, rfl⟩) I e306 dX12_init_848 (fun H locs I => ?_)
  refine lv_aload_n S.1 S.2.1 dX12_init_851 rfl (lv_at hl 0 rfl) ?_
  refine lv_bipush (v := 6) S.1 S.2.1 dX12_init_852 (by decide) ?_
  obtain ⟨h307, e308, f⟩ := ob f
  refine o_newI S (List.mem_cons_of_mem _ wT_3_21) I hAn (N := 6) e308 (by decide) (by decide) (Nat.le_of_ble_eq_true rfl) (Nat.le_of_ble_eq_true rfl) (Nat.le_of_ble_eq_true rfl) dX12_init_854 (fun H I => ?_)
  obtain ⟨h309, e310, f⟩ := ob f
  refine o_pRF S hin2 lp12_init_63 (Or.inr ⟨_, rfl⟩) I e310 dX12_init_856 (fun H locs I => ?_)
  refine lv_aload_n S.1 S.2.1 dX12_init_859 rfl (lv_at hl 0 rfl) ?_
  refine lv_sipush (v := 128) S.1 S.2.1 dX12_init_860 (by decide) ?_
  obtain ⟨h311, e312, f⟩ := ob f
  refine o_newI S (List.mem_cons_of_mem _ wT_3_21) I hAn (N := 128) e312 (by decide) (by decide) (Nat.le_of_ble_eq_true rfl) (Nat.le_of_ble_eq_true rfl) (Nat.le_of_ble_eq_true rfl) dX12_init_863 (fun H I => ?_)
  obtain ⟨h313, e314, f⟩ := ob f
  refine o_pRF S hin2 lp12_init_66 (Or.inr ⟨_, rfl⟩) I e314 dX12_init_865 (fun H locs I => ?_)
  refine lv_aload_n S.1 S.2.1 dX12_init_868 rfl (lv_at hl 0 rfl) ?_
  refine lv_sipush (v := 128) S.1 S.2.1 dX12_init_869 (by decide) ?_
  obtain ⟨h315, e316, f⟩ := ob f
  refine o_newI S (List.mem_cons_of_mem _ wT_3_21) I hAn (N := 128) e316 (by decide) (by decide) (Nat.le_of_ble_eq_true rfl) (Nat.le_of_ble_eq_true rfl) (Nat.le_of_ble_eq_true rfl) dX12_init_872 (fun H I => ?_)
  obtain ⟨h317, e318, f⟩ := ob f
  refine o_pRF S hin2 lp12_init_69 (Or.inr ⟨_, rfl⟩) I e318 dX12_init_874 (fun H locs I => ?_)
  refine lv_aload_n S.1 S.2.1 dX12_init_877 rfl (lv_at hl 0 rfl) ?_
  refine lv_sipush (v := 128) S.1 S.2.1 dX12_init_878 (by decide) ?_
  obtain ⟨h319, e320, f⟩ := ob f
  refine o_newI S (List.mem_cons_of_mem _ wT_3_21) I hAn (N := 128) e320 (by decide) (by decide) (Nat.le_of_ble_eq_true rfl) (Nat.le_of_ble_eq_true rfl) (Nat.le_of_ble_eq_true rfl) dX12_init_881 (fun H I => ?_)
  obtain ⟨h321, e322, f⟩ := ob f
  refine o_pRF S hin2 lp12_init_72 (Or.inr ⟨_, rfl⟩) I e322 dX12_init_883 (fun H locs I => ?_)
  refine lv_aload_n S.1 S.2.1 dX12_init_886 rfl (lv_at hl 0 rfl) ?_
  refine lv_bipush (v := 96) S.1 S.2.1 dX12_init_887 (by decide) ?_
  obtain ⟨h323, e324, f⟩ := ob f
  refine o_newI S (List.mem_cons_of_mem _ wT_3_21) I hAn (N := 96) e324 (by decide) (by decide) (Nat.le_of_ble_eq_true rfl) (Nat.le_of_ble_eq_true rfl) (Nat.le_of_ble_eq_true rfl) dX12_init_889 (fun H I => ?_)
  obtain ⟨h325, e326, f⟩ := ob f
  refine o_pRF S hin2 lp12_init_75 (Or.inr ⟨_, rfl⟩) I e326 dX12_init_891 (fun H locs I => ?_)
  refine lv_aload_n S.1 S.2.1 dX12_init_894 rfl (lv_at hl 0 rfl) ?_
  refine lv_bipush (v := 96) S.1 S.2.1 dX12_init_895 (by decide) ?_
  obtain ⟨h327, e328, f⟩ := ob f
  refine o_newI S (List.mem_cons_of_mem _ wT_3_21) I hAn (N := 96) e328 (by decide) (by decide) (Nat.le_of_ble_eq_true rfl) (Nat.le_of_ble_eq_true rfl) (Nat.le_of_ble_eq_true rfl) dX12_init_897 (fun H I => ?_)
  obtain ⟨h329, e330, f⟩ := ob f
  refine o_pRF S hin2 lp12_init_78 (Or.inr ⟨_, rfl⟩) I e330 dX12_init_899 (fun H locs I => ?_)
  refine lv_aload_n S.1 S.2.1 dX12_init_902 rfl (lv_at hl 0 rfl) ?_
  refine lv_bipush (v := 6) S.1 S.2.1 dX12_init_903 (by decide) ?_
  obtain ⟨h331, e332, f⟩ := ob f
  refine o_newJ S (List.mem_cons_of_mem _ wT_1_6) I hAn (N := 6) e332 (by decide) (by decide) (Nat.le_of_ble_eq_true rfl) (Nat.le_of_ble_eq_true rfl) (Nat.le_of_ble_eq_true rfl) dX12_init_905 (fun H I => ?_)
  obtain ⟨h333, e334, f⟩ := ob f
  refine o_pRF S hin2 lp12_init_81 (Or.inr ⟨_, rfl⟩) I e334 dX12_init_907 (fun H locs I => ?_)
  refine lv_aload_n S.1 S.2.1 dX12_init_910 rfl (lv_at hl 0 rfl) ?_
  refine lv_bipush (v := 64) S.1 S.2.1 dX12_init_911 (by decide) ?_
  obtain ⟨h335, e336, f⟩ := ob f
  refine o_newJ S (List.mem_cons_of_mem _ wT_1_6) I hAn (N := 64) e336 (by decide) (by decide) (Nat.le_of_ble_eq_true rfl) (Nat.le_of_ble_eq_true rfl) (Nat.le_of_ble_eq_true rfl) dX12_init_913 (fun H I => ?_)
  obtain ⟨h337, e338, f⟩ := ob f
  refine o_pRF S hin2 lp12_init_85 (Or.inr ⟨_, rfl⟩) I e338 dX12_init_915 (fun H locs I => ?_)
  refine lv_aload_n S.1 S.2.1 dX12_init_918 rfl (lv_at hl 0 rfl) ?_
  refine lv_bipush (v := 10) S.1 S.2.1 dX12_init_919 (by decide) ?_
  obtain ⟨h339, e340, f⟩ := ob f
  refine o_newI S (List.mem_cons_of_mem _ wT_3_21) I hAn (N := 10) e340 (by decide) (by decide) (Nat.le_of_ble_eq_true rfl) (Nat.le_of_ble_eq_true rfl) (Nat.le_of_ble_eq_true rfl) dX12_init_921 (fun H I => ?_)
  obtain ⟨h341, e342, f⟩ := ob f
  refine o_pRF S hin2 lp12_init_88 (Or.inr ⟨_, rfl⟩) I e342 dX12_init_923 (fun H locs I => ?_)
  refine lv_aload_n S.1 S.2.1 dX12_init_926 rfl (lv_at hl 0 rfl) ?_
  refine lv_bipush (v := 10) S.1 S.2.1 dX12_init_927 (by decide) ?_
  obtain ⟨h343, e344, f⟩ := ob f
  refine o_newI S (List.mem_cons_of_mem _ wT_3_21) I hAn (N := 10) e344 (by decide) (by decide) (Nat.le_of_ble_eq_true rfl) (Nat.le_of_ble_eq_true rfl) (Nat.le_of_ble_eq_true rfl) dX12_init_929 (fun H I => ?_)
  obtain ⟨h345, e346, f⟩ := ob f
  refine o_pRF S hin2 lp12_init_91 (Or.inr ⟨_, rfl⟩) I e346 dX12_init_931 (fun H locs I => ?_)
  refine lv_aload_n S.1 S.2.1 dX12_init_934 rfl (lv_at hl 0 rfl) ?_
  refine lv_bipush (v := 10) S.1 S.2.1 dX12_init_935 (by decide) ?_
  obtain ⟨h347, e348, f⟩ := ob f
  refine o_newI S (List.mem_cons_of_mem _ wT_3_21) I hAn (N := 10) e348 (by decide) (by decide) (Nat.le_of_ble_eq_true rfl) (Nat.le_of_ble_eq_true rfl) (Nat.le_of_ble_eq_true rfl) dX12_init_937 (fun H I => ?_)
  obtain ⟨h349, e350, f⟩ := ob f
  refine o_pRF S hin2 lp12_init_94 (Or.inr ⟨_, rfl⟩) I e350 dX12_init_939 (fun H locs I => ?_)
  refine lv_aload_n S.1 S.2.1 dX12_init_942 rfl (lv_at hl 0 rfl) ?_
  refine lv_bipush (v := 10) S.1 S.2.1 dX12_init_943 (by decide) ?_
  obtain ⟨h351, e352, f⟩ := ob f
  refine o_newI S (List.mem_cons_of_mem _ wT_3_21) I hAn (N := 10) e352 (by decide) (by decide) (Nat.le_of_ble_eq_true rfl) (Nat.le_of_ble_eq_true rfl) (Nat.le_of_ble_eq_true rfl) dX12_init_945 (fun H I => ?_)
  obtain ⟨h353, e354, f⟩ := ob f
  refine o_pRF S hin2 lp12_init_97 (Or.inr ⟨_, rfl⟩) I e354 dX12_init_947 (fun H locs I => ?_)
  refine lv_aload_n S.1 S.2.1 dX12_init_950 rfl (lv_at hl 0 rfl) ?_
  refine lv_iconst (v := 5) S.1 S.2.1 dX12_init_951 (by decide) ?_
  obtain ⟨h355, e356, f⟩ := ob f
  refine o_newI S (List.mem_cons_of_mem _ wT_3_21) I hAn (N := 5) e356 (by decide) (by decide) (Nat.le_of_ble_eq_true rfl) (Nat.le_of_ble_eq_true rfl) (Nat.le_of_ble_eq_true rfl) dX12_init_952 (fun H I => ?_)
  obtain ⟨h357, e358, f⟩ := ob f
  refine o_pRF S hin2 lp12_init_100 (Or.inr ⟨_, rfl⟩) I e358 dX12_init_954 (fun H locs I => ?_)
  refine lv_aload_n S.1 S.2.1 dX12_init_957 rfl (lv_at hl 0 rfl) ?_
  refine lv_bipush (v := 56) S.1 S.2.1 dX12_init_958 (by decide) ?_
  obtain ⟨h359, e360, f⟩ := ob f
  refine o_newI S (List.mem_cons_of_mem _ wT_3_21) I hAn (N := 56) e360 (by decide) (by decide) (Nat.le_of_ble_eq_true rfl) (Nat.le_of_ble_eq_true rfl) (Nat.le_of_ble_eq_true rfl) dX12_init_960 (fun H I => ?_)
  obtain ⟨h361, e362, f⟩ := ob f
  refine o_pRF S hin2 lp12_init_103 (Or.inr ⟨_, rfl⟩) I e362 dX12_init_962 (fun H locs I => ?_)
  refine lv_aload_n S.1 S.2.1 dX12_init_965 rfl (lv_at hl 0 rfl) ?_
  refine lv_iconst (v := 2) S.1 S.2.1 dX12_init_966 (by decide) ?_
  obtain ⟨h363, e364, f⟩ := ob f
  refine o_newI S (List.mem_cons_of_mem _ wT_3_21) I hAn (N := 2) e364 (by decide) (by decide) (Nat.le_of_ble_eq_true rfl) (Nat.le_of_ble_eq_true rfl) (Nat.le_of_ble_eq_true rfl) dX12_init_967 (fun H I => ?_)
  obtain ⟨h365, e366, f⟩ := ob f
  refine o_pRF S hin2 lp12_init_106 (Or.inr ⟨_, rfl⟩) I e366 dX12_init_969 (fun H locs I => ?_)
  refine lv_aload_n S.1 S.2.1 dX12_init_972 rfl (lv_at hl 0 rfl) ?_
  refine lv_iconst (v := 2) S.1 S.2.1 dX12_init_973 (by decide) ?_
  obtain ⟨h367, e368, f⟩ := ob f
  refine o_newI S (List.mem_cons_of_mem _ wT_3_21) I hAn (N := 2) e368 (by decide) (by decide) (Nat.le_of_ble_eq_true rfl) (Nat.le_of_ble_eq_true rfl) (Nat.le_of_ble_eq_true rfl) dX12_init_974 (fun H I => ?_)
  obtain ⟨h369, e370, f⟩ := ob f
  refine o_pRF S hin2 lp12_init_109 (Or.inr ⟨_, rfl⟩) I e370 dX12_init_976 (fun H locs I => ?_)
  refine lv_aload_n S.1 S.2.1 dX12_init_979 rfl (lv_at hl 0 rfl) ?_
  refine lv_iconst (v := 2) S.1 S.2.1 dX12_init_980 (by decide) ?_
  obtain ⟨h371, e372, f⟩ := ob f
  refine o_newI S (List.mem_cons_of_mem _ wT_3_21) I hAn (N := 2) e372 (by decide) (by decide) (Nat.le_of_ble_eq_true rfl) (Nat.le_of_ble_eq_true rfl) (Nat.le_of_ble_eq_true rfl) dX12_init_981 (fun H I => ?_)
  obtain ⟨h373, e374, f⟩ := ob f
  refine o_pRF S hin2 lp12_init_112 (Or.inr ⟨_, rfl⟩) I e374 dX12_init_983 (fun H locs I => ?_)
  refine lv_aload_n S.1 S.2.1 dX12_init_986 rfl (lv_at hl 0 rfl) ?_
  refine lv_iconst (v := (-1)) S.1 S.2.1 dX12_init_987 (by decide) ?_
  obtain ⟨h375, e376, f⟩ := ob f
  refine o_pI S lp12_init_115 I e376 dX12_init_988 (fun H locs I => ?_)
  refine lv_aload_n S.1 S.2.1 dX12_init_991 rfl (lv_at hl 0 rfl) ?_
  refine lv_iconst (v := 5) S.1 S.2.1 dX12_init_992 (by decide) ?_
  obtain ⟨h377, e378, f⟩ := ob f
  refine o_newI S (List.mem_cons_of_mem _ wT_3_21) I hAn (N := 5) e378 (by decide) (by decide) (Nat.le_of_ble_eq_true rfl) (Nat.le_of_ble_eq_true rfl) (Nat.le_of_ble_eq_true rfl) dX12_init_993 (fun H I => ?_)
  obtain ⟨h379, e380, f⟩ := ob f
  refine o_pRF S hin2 lp12_init_118 (Or.inr ⟨_, rfl⟩) I e380 dX12_init_995 (fun H locs I => ?_)
  refine lv_aload_n S.1 S.2.1 dX12_init_998 rfl (lv_at hl 0 rfl) ?_
  refine lv_bipush (v := 25) S.1 S.2.1 dX12_init_999 (by decide) ?_
  obtain ⟨h381, e382, f⟩ := ob f
  refine o_newI S (List.mem_cons_of_mem _ wT_3_21) I hAn (N := 25) e382 (by decide) (by decide) (Nat.le_of_ble_eq_true rfl) (Nat.le_of_ble_eq_true rfl) (Nat.le_of_ble_eq_true rfl) dX12_init_1001 (fun H I => ?_)
  obtain ⟨h383, e384, f⟩ := ob f
  refine o_pRF S hin2 lp12_init_121 (Or.inr ⟨_, rfl⟩) I e384 dX12_init_1003 (fun H locs I => ?_)
  refine lv_aload_n S.1 S.2.1 dX12_init_1006 rfl (lv_at hl 0 rfl) ?_
  refine lv_bipush (v := 25) S.1 S.2.1 dX12_init_1007 (by decide) ?_
  obtain ⟨h385, e386, f⟩ := ob f
  refine o_newI S (List.mem_cons_of_mem _ wT_3_21) I hAn (N := 25) e386 (by decide) (by decide) (Nat.le_of_ble_eq_true rfl) (Nat.le_of_ble_eq_true rfl) (Nat.le_of_ble_eq_true rfl) dX12_init_1009 (fun H I => ?_)
  obtain ⟨h387, e388, f⟩ := ob f
  refine o_pRF S hin2 lp12_init_124 (Or.inr ⟨_, rfl⟩) I e388 dX12_init_1011 (fun H locs I => ?_)
  refine lv_aload_n S.1 S.2.1 dX12_init_1014 rfl (lv_at hl 0 rfl) ?_
  refine lv_bipush (v := 29) S.1 S.2.1 dX12_init_1015 (by decide) ?_
  obtain ⟨h389, e390, f⟩ := ob f
  refine o_newI S (List.mem_cons_of_mem _ wT_3_21) I hAn (N := 29) e390 (by decide) (by decide) (Nat.le_of_ble_eq_true rfl) (Nat.le_of_ble_eq_true rfl) (Nat.le_of_ble_eq_true rfl) dX12_init_1017 (fun H I => ?_)
  obtain ⟨h391, e392, f⟩ := ob f
  refine o_pRF S hin2 lp12_init_127 (Or.inr ⟨_, rfl⟩) I e392 dX12_init_1019 (fun H locs I => ?_)
  refine lv_aload_n S.1 S.2.1 dX12_init_1022 rfl (lv_at hl 0 rfl) ?_
  refine lv_bipush (v := 28) S.1 S.2.1 dX12_init_1023 (by decide) ?_
  obtain ⟨h393, e394, f⟩ := ob f
  refine o_newI S (List.mem_cons_of_mem _ wT_3_21) I hAn (N := 28) e394 (by decide) (by decide) (Nat.le_of_ble_eq_true rfl) (Nat.le_of_ble_eq_true rfl) (Nat.le_of_ble_eq_true rfl) dX12_init_1025 (fun H I => ?_)
  obtain ⟨h395, e396, f⟩ := ob f
  refine o_pRF S hin2 lp12_init_130 (Or.inr ⟨_, rfl⟩) I e396 dX12_init_1027 (fun H locs I => ?_)
  refine lv_aload_n S.1 S.2.1 dX12_init_1030 rfl (lv_at hl 0 rfl) ?_
  refine lv_iconst (v := (-1)) S.1 S.2.1 dX12_init_1031 (by decide) ?_
  obtain ⟨h397, e398, f⟩ := ob f
  refine o_pI S lp12_init_133 I e398 dX12_init_1032 (fun H locs I => ?_)
  refine lv_aload_n S.1 S.2.1 dX12_init_1035 rfl (lv_at hl 0 rfl) ?_
  refine lv_bipush (v := 72) S.1 S.2.1 dX12_init_1036 (by decide) ?_
  obtain ⟨h399, e400, f⟩ := ob f
  refine o_newI S (List.mem_cons_of_mem _ wT_3_21) I hAn (N := 72) e400 (by decide) (by decide) (Nat.le_of_ble_eq_true rfl) (Nat.le_of_ble_eq_true rfl) (Nat.le_of_ble_eq_true rfl) dX12_init_1038 (fun H I => ?_)
  obtain ⟨h401, e402, f⟩ := ob f
  refine o_pRF S hin2 lp12_init_136 (Or.inr ⟨_, rfl⟩) I e402 dX12_init_1040 (fun H locs I => ?_)
  refine lv_aload_n S.1 S.2.1 dX12_init_1043 rfl (lv_at hl 0 rfl) ?_
  refine lv_bipush (v := 24) S.1 S.2.1 dX12_init_1044 (by decide) ?_
  obtain ⟨h403, e404, f⟩ := ob f
  refine o_newZ S (List.mem_cons_of_mem _ wT_8_19) I hAn (N := 24) e404 (by decide) (by decide) (Nat.le_of_ble_eq_true rfl) (Nat.le_of_ble_eq_true rfl) (Nat.le_of_ble_eq_true rfl) dX12_init_1046 (fun H I => ?_)
  obtain ⟨h405, e406, f⟩ := ob f
  refine o_pRF S hin2 lp12_init_139 (Or.inr ⟨_, rfl⟩) I e406 dX12_init_1048 (fun H locs I => ?_)
  refine lv_aload_n S.1 S.2.1 dX12_init_1051 rfl (lv_at hl 0 rfl) ?_
  refine lv_sipush (v := 220) S.1 S.2.1 dX12_init_1052 (by decide) ?_
  obtain ⟨h407, e408, f⟩ := ob f
  refine o_newI S (List.mem_cons_of_mem _ wT_3_21) I hAn (N := 220) e408 (by decide) (by decide) (Nat.le_of_ble_eq_true rfl) (Nat.le_of_ble_eq_true rfl) (Nat.le_of_ble_eq_true rfl) dX12_init_1055 (fun H I => ?_)
  obtain ⟨h409, e410, f⟩ := ob f
  refine o_pRF S hin2 lp12_init_142 (Or.inr ⟨_, rfl⟩) I e410 dX12_init_1057 (fun H locs I => ?_)
  refine lv_aload_n S.1 S.2.1 dX12_init_1060 rfl (lv_at hl 0 rfl) ?_
  refine lv_bipush (v := 53) S.1 S.2.1 dX12_init_1061 (by decide) ?_
  obtain ⟨h411, e412, f⟩ := ob f
  refine o_newI S (List.mem_cons_of_mem _ wT_3_21) I hAn (N := 53) e412 (by decide) (by decide) (Nat.le_of_ble_eq_true rfl) (Nat.le_of_ble_eq_true rfl) (Nat.le_of_ble_eq_true rfl) dX12_init_1063 (fun H I => ?_)
  obtain ⟨h413, e414, f⟩ := ob f
  refine o_pRF S hin2 lp12_init_145 (Or.inr ⟨_, rfl⟩) I e414 dX12_init_1065 (fun H locs I => ?_)
  refine lv_aload_n S.1 S.2.1 dX12_init_1068 rfl (lv_at hl 0 rfl) ?_
  obtain ⟨o415, e416, f⟩ := ob f
  refine o_Vv S (As := []) (rest := []) (ci := 12) (M12_plain l D cy b A true e416) gX12_init_X12_plain rfl rfl rfl cd12_plain ⟨Nat.le_of_ble_eq_true rfl, Nat.le_of_ble_eq_true rfl⟩ I (gd e416).1 clX12 rfl rfl hl.1 rfl (Nat.le_of_ble_eq_true rfl) dX12_init_1069 ⟨Nat.le_of_ble_eq_true rfl, Nat.le_of_ble_eq_true rfl⟩ (fun H locs I => ?_)
  refine lv_aload_n S.1 S.2.1 dX12_init_1072 rfl (lv_at hl 0 rfl) ?_
  obtain ⟨o417, e418, f⟩ := ob f
  refine o_Vv S (As := []) (rest := []) (ci := 12) (M12_keepText l D cy b A true e418) gX12_init_X12_keepText rfl rfl rfl cd12_keepText ⟨Nat.le_of_ble_eq_true rfl, Nat.le_of_ble_eq_true rfl⟩ I (gd e418).1 clX12 rfl rfl hl.1 rfl (Nat.le_of_ble_eq_true rfl) dX12_init_1073 ⟨Nat.le_of_ble_eq_true rfl, Nat.le_of_ble_eq_true rfl⟩ (fun H locs I => ?_)
  exact o_vret S hr hlo I f dX12_init_1076
end
