section Q38
variable {m v : Mem} {S : Int} {D : Nat}
theorem l_law (hD : DI m v D) (h : PostR m v S) : LOut (G5_readLaw m) ((G12_token v).bind fun o30 => if o30 0 8 = 1 then (if o30 0 9 < 12 then G12_lineRead_130 o30 else (if o30 0 9 ≤ 14 then (gdx (3 + o30 0 9 - 12) 6 (if o30 15 (3 + o30 0 9 - 12) = 0 then (gdx (3 + o30 0 9 - 12) 6 (gdb 1 (wt (up o30 15 (3 + o30 0 9 - 12) 1) fun m51 => (G12_token m51).bind fun o52 => gdx (3 + o30 0 9 - 12) 6 (wt (up o52 16 (3 + o30 0 9 - 12) (o52 0 23)) fun m59 => (G12_sumRead m59).bind fun o60 => gdx (3 + o30 0 9 - 12) 6 (wt (up o60.2 17 (3 + o30 0 9 - 12) (o60.2 0 23)) fun m67 => G12_lineRead_197 m67 o60.1))))) else ((G12_wrong o30 3).bind fun o68 => gdb o68.1 (some (o68.1, o68.2))))) else G12_lineRead_130 o30)) else G12_lineRead_130 o30) m v D S := by
  have hDD := hD.1.1
  have hN := hD.n
  have e130 : ∀ u : Mem, G12_lineRead_130 u = some (0, up (up u 0 4 1) 0 5 (u 0 10)) := fun u => by unfold G12_lineRead_130; rw [r_wrong, bs1, gdb_t (by first | decide | omega)]
  obtain ⟨v1, z1, z2, p1⟩ := h.tok
  obtain ⟨m1, y1, y2, h1, y3, _⟩ := p1.adv
  have y2' := y2.mono P47_k
  have z2' := z2.mono Q7_k
  have hD1 : DI m1 v1 D := hD.k y2' z2'
  have hN1 := hD1.n
  unfold G5_readLaw G5_readLaw_0 G5_readKind G5_readKind_0
  rw [z1, bs1, y1, bs1]
  have hk := h1.2.2.2.2.2.2.2
  have hb := KR_b hk
  have hi := KR_kw hk (lo := 12) (hi := 14) (by first | decide | omega) (by first | decide | omega)
  refine lo_tr (m1 := m1) (v1 := v1) ?_ (y2'.mono Pk_x) (z2'.mono Qk_x) y3 (y2 D 12 (by unfold P47; first | decide | omega))
  have e27 : ∀ u : Mem, G5_readKind_27 u = some (-1, up (up u 46 8 1) 46 9 (u 47 5)) := fun u => by unfold G5_readKind_27; rw [c_ref, bs1]
  rw [gd3_t (by first | decide | omega)]
  by_cases c : 12 ≤ m1 47 4 ∧ m1 47 4 ≤ 14
  · obtain ⟨k8, _⟩ := hi.mp c
    have ek : v1 0 9 = m1 47 4 := by
      have hlo : kwf (m1 47 4) = m1 47 4 := kwf_lo (by first | decide | omega)
      unfold KR SGN NumR at hk
      rw [hlo] at hk
      omega
    rw [if_neg (show ¬ m1 47 4 - 12 < 0 by first | decide | omega), gd3_t (by first | decide | omega), if_pos (show m1 47 4 - 12 < 3 by first | decide | omega), gdx_t (by first | decide | omega), if_pos k8, ek, if_neg (show ¬ m1 47 4 < 12 by first | decide | omega), if_pos c.2, hD1.1.2, Int.toNat_natCast]
    obtain ⟨k, p, q, e1, e2, e3, e4, hkp⟩ : ∃ (k : Int) (p q : Nat), m1 47 4 - 12 = k ∧ 3 + m1 47 4 - 12 = 3 + k ∧ D + 16 + 2 * (m1 47 4 - 12).toNat = D + p ∧ q = p + 1 ∧ LCP k p q := by
      rcases (show m1 47 4 = 12 ∨ m1 47 4 = 13 ∨ m1 47 4 = 14 by first | decide | omega) with e | e | e
      · exact ⟨0, 16, 17, by first | decide | omega, by first | decide | omega, by rw [e]; rfl, rfl, by unfold LCP; first | decide | omega⟩
      · exact ⟨1, 18, 19, by first | decide | omega, by first | decide | omega, by rw [e]; rfl, rfl, by unfold LCP; first | decide | omega⟩
      · exact ⟨2, 20, 21, by first | decide | omega, by first | decide | omega, by rw [e]; rfl, rfl, by unfold LCP; first | decide | omega⟩
    have hk3 : 0 ≤ k ∧ k < 3 := by omega
    rw [e1] at e3
    have hkp' := hkp
    unfold LCP at hkp'
    rw [e2, e1, e3, gdx_t (by first | decide | omega)]
    -- told already?
    have told : v1 15 (3 + k) = m1 (D + p) 2 ∧ (m1 (D + p) 2 = 0 → m1 (D + p) 1 = 0) := by
      obtain ⟨_, _, _, _, _, r1, r2, r3⟩ := hD1.2.2.1
      have fin : ∀ (c : Int) (x y : Nat), x ≤ 21 → RLw (kd v1) (sl 21 m1 D) c x y → v1 15 (3 + c) = m1 (D + x) 2 ∧ (m1 (D + x) 2 = 0 → m1 (D + x) 1 = 0) := by
        intro c x y hx r
        obtain ⟨t1, t2, t3, _⟩ := r
        rw [sh15 (by first | decide | omega), sl_e hx] at t1
        rw [sl_e hx, sl_e hx] at t3
        exact ⟨t1, t3⟩
      rcases hkp' with ⟨x1, x2, x3⟩ | ⟨x1, x2, x3⟩ | ⟨x1, x2, x3⟩ <;> rw [x1, x2]
      · exact fin 0 16 17 (by first | decide | omega) r1
      · exact fin 1 18 19 (by first | decide | omega) r2
      · exact fin 2 20 21 (by first | decide | omega) r3
    rw [told.1]
    by_cases c0 : m1 (D + p) 2 = 0
    · rw [if_pos c0, if_pos c0, gdx_t (by first | decide | omega), wt_e, gdx_t (by first | decide | omega), gdx_t (by first | decide | omega), gdb_t (by first | decide | omega), wt_e, bs1]
      have er : up m1 (D + p) 2 1 46 10 = (D : Int) := by rw [up_a (by first | decide | omega)]; exact hD1.1.2
      rw [er, Int.toNat_natCast, e3]
      dsimp only
      rw [if_neg (show ¬ ((D + p : Nat) : Int) = -1 by first | decide | omega), Int.toNat_natCast]
      simp only [wt_e]
      -- the class begins
      have fA : Fm (PLx D p q) m1 (up (up (up (up (up m1 (D + p) 2 1) 46 2 0) 46 3 0) 46 4 1) 46 5 1) := ((((Fm.w1 PLx_t).w (PLx_46 (by first | decide | omega))).w (PLx_46 (by first | decide | omega))).w (PLx_46 (by first | decide | omega))).w (PLx_46 (by first | decide | omega))
      have fA' : Fm (fun b i => (b = D + p ∧ i = 2) ∨ (b = 46 ∧ 2 ≤ i ∧ i ≤ 5)) m1 (up (up (up (up (up m1 (D + p) 2 1) 46 2 0) 46 3 0) 46 4 1) 46 5 1) := (((((Fm.w1 (by first | decide | omega)).w (by first | decide | omega)).w (by first | decide | omega)).w (by first | decide | omega)).w (by first | decide | omega))
      have a2 : up (up (up (up (up m1 (D + p) 2 1) 46 2 0) 46 3 0) 46 4 1) 46 5 1 46 2 = 0 := by rw [up_i (by first | decide | omega), up_i (by first | decide | omega), up_i (by first | decide | omega), up_e]
      have a3 : up (up (up (up (up m1 (D + p) 2 1) 46 2 0) 46 3 0) 46 4 1) 46 5 1 46 3 = 0 := by rw [up_i (by first | decide | omega), up_i (by first | decide | omega), up_e]
      have a4 : up (up (up (up (up m1 (D + p) 2 1) 46 2 0) 46 3 0) 46 4 1) 46 5 1 46 4 = 1 := by rw [up_i (by first | decide | omega), up_e]
      have a5 : up (up (up (up (up m1 (D + p) 2 1) 46 2 0) 46 3 0) 46 4 1) 46 5 1 46 5 = 1 := up_e
      have aT : up (up (up (up (up m1 (D + p) 2 1) 46 2 0) 46 3 0) 46 4 1) 46 5 1 (D + p) 2 = 1 := by rw [up_a (by first | decide | omega), up_a (by first | decide | omega), up_a (by first | decide | omega), up_a (by first | decide | omega), up_e]
      generalize up (up (up (up (up m1 (D + p) 2 1) 46 2 0) 46 3 0) 46 4 1) 46 5 1 = mA at fA fA' a2 a3 a4 a5 aT ⊢
      -- the reference begins
      have hB : PostR mA (up v1 15 (3 + k) 1) S := h1.f (Q := fun b i => b = 15) fA' (Fm.w1 rfl) (by intro b i q; first | decide | omega) (by intro b i q; first | decide | omega)
      obtain ⟨v2, x1, x2, p2⟩ := hB.tok
      rw [x1, bs1, gdx_t (by first | decide | omega)]
      unfold G12_sumRead G12_sumRead_0
      simp only [wt_e]
      have F23 : v2 0 23 = m1 D 13 := by rw [x2 0 23 (by unfold Q7; first | decide | omega), up_a (by first | decide | omega)]; exact hN1.2.2.2.2.2
      have gB : Fm (QLx (m1 D 13) k) v1 (up (up (up (up (up (up v2 16 (3 + k) (m1 D 13)) 0 46 0) 0 47 0) 0 48 0) 0 50 1) 0 51 1) := (((((((Fm.w1 (QLx_r (by first | decide | omega))).tr (x2.mono (fun b i z => Or.inl (Or.inl (Q7_k b i z))))).w (QLx_r (by first | decide | omega))).w (QLx_0 (by first | decide | omega))).w (QLx_0 (by first | decide | omega))).w (QLx_0 (by first | decide | omega))).w (QLx_0 (by first | decide | omega))).w (QLx_0 (by first | decide | omega))
      have gC : Fm (fun b i => b = 16 ∨ (b = 0 ∧ 46 ≤ i)) v2 (up (up (up (up (up (up v2 16 (3 + k) (m1 D 13)) 0 46 0) 0 47 0) 0 48 0) 0 50 1) 0 51 1) := ((((((Fm.w1 (by first | decide | omega)).w (by first | decide | omega)).w (by first | decide | omega)).w (by first | decide | omega)).w (by first | decide | omega)).w (by first | decide | omega))
      have b46 : up (up (up (up (up (up v2 16 (3 + k) (m1 D 13)) 0 46 0) 0 47 0) 0 48 0) 0 50 1) 0 51 1 0 46 = 0 := by rw [up_i (by first | decide | omega), up_i (by first | decide | omega), up_i (by first | decide | omega), up_i (by first | decide | omega), up_e]
      have b47 : up (up (up (up (up (up v2 16 (3 + k) (m1 D 13)) 0 46 0) 0 47 0) 0 48 0) 0 50 1) 0 51 1 0 47 = 0 := by rw [up_i (by first | decide | omega), up_i (by first | decide | omega), up_i (by first | decide | omega), up_e]
      have b48 : up (up (up (up (up (up v2 16 (3 + k) (m1 D 13)) 0 46 0) 0 47 0) 0 48 0) 0 50 1) 0 51 1 0 48 = 0 := by rw [up_i (by first | decide | omega), up_i (by first | decide | omega), up_e]
      have b49 : up (up (up (up (up (up v2 16 (3 + k) (m1 D 13)) 0 46 0) 0 47 0) 0 48 0) 0 50 1) 0 51 1 0 49 = v1 0 49 := by rw [up_i (by first | decide | omega), up_i (by first | decide | omega), up_i (by first | decide | omega), up_i (by first | decide | omega), up_i (by first | decide | omega), up_a (by first | decide | omega), x2 0 49 (by unfold Q7; first | decide | omega), up_a (by first | decide | omega)]
      have b50 : up (up (up (up (up (up v2 16 (3 + k) (m1 D 13)) 0 46 0) 0 47 0) 0 48 0) 0 50 1) 0 51 1 0 50 = 1 := by rw [up_i (by first | decide | omega), up_e]
      have b51 : up (up (up (up (up (up v2 16 (3 + k) (m1 D 13)) 0 46 0) 0 47 0) 0 48 0) 0 50 1) 0 51 1 0 51 = 1 := up_e
      have b16 : up (up (up (up (up (up v2 16 (3 + k) (m1 D 13)) 0 46 0) 0 47 0) 0 48 0) 0 50 1) 0 51 1 16 (3 + k) = m1 D 13 := by rw [up_a (by first | decide | omega), up_a (by first | decide | omega), up_a (by first | decide | omega), up_a (by first | decide | omega), up_a (by first | decide | omega), up_e]
      have b15 : up (up (up (up (up (up v2 16 (3 + k) (m1 D 13)) 0 46 0) 0 47 0) 0 48 0) 0 50 1) 0 51 1 15 (3 + k) = 1 := by rw [up_a (by first | decide | omega), up_a (by first | decide | omega), up_a (by first | decide | omega), up_a (by first | decide | omega), up_a (by first | decide | omega), up_a (by first | decide | omega), x2 15 _ (by unfold Q7; first | decide | omega), up_e]
      rw [F23]
      have pC : PreR mA (up (up (up (up (up (up v2 16 (3 + k) (m1 D 13)) 0 46 0) 0 47 0) 0 48 0) 0 50 1) 0 51 1) S := p2.f (P := fun _ _ => False) Fm.rf gC (fun b i _ => id) (by intro b i q; first | decide | omega)
      have b23 : up (up (up (up (up (up v2 16 (3 + k) (m1 D 13)) 0 46 0) 0 47 0) 0 48 0) 0 50 1) 0 51 1 0 23 = m1 D 13 := by rw [gC 0 23 (by first | decide | omega)]; exact F23
      generalize up (up (up (up (up (up v2 16 (3 + k) (m1 D 13)) 0 46 0) 0 47 0) 0 48 0) 0 50 1) 0 51 1 = vA at gB gC b46 b47 b48 b49 b50 b51 b16 b15 b23 pC ⊢
      have ha : aOk D (D + p) := by unfold aOk; omega
      have w13 : 0 ≤ m1 D 13 ∧ m1 D 13 ≤ 64 := by
        have z : sl 21 m1 D 0 13 = m1 D 13 := sl_e (Nat.zero_le _) _
        have hS := hD1.2.1.1
        unfold WS at hS
        omega
      have c49 : v1 0 49 = m1 D 13 := by rw [hD1.2.2.2.2.2.1]; exact sl_e (Nat.zero_le _) _
      have lA : LI mA vA D (D + p) (m1 D 13) [] 0 := by
        refine ⟨by rw [fA' 46 10 (by first | decide | omega)]; exact hD1.1.2, ⟨a2, b46, trivial, trivial, fun x z => by simp at z⟩, ⟨by rw [fA' (D + p) 1 (by first | decide | omega)]; exact told.2 c0, by rw [b23]; simp, b47, trivial, fun j z => by first | decide | omega, fun j z => by first | decide | omega⟩, ⟨a3, b48, by show (0 : Int) ≤ 8; first | decide | omega⟩, ⟨by rw [b49, fA' D 13 (by first | decide | omega)]; exact c49, by rw [fA' D 13 (by first | decide | omega)]; exact w13.2, ?_⟩, ⟨by rw [a4, b50], Or.inr b50⟩, ⟨by rw [a5, b51], Or.inr b51⟩, by rw [b50]; rfl⟩
        rw [fA' D 13 (by first | decide | omega)]
        show m1 D 13 + ((0 : Nat) : Int) + 0 = m1 D 13
        omega
      have hS7 : S ≤ 700 := h.1.1.2
      have e47 : mA 47 3 = m1 47 3 := fA' 47 3 (by first | decide | omega)
      obtain ⟨m2, v3, u1, u2, u3, kk⟩ := l_sumL ha w13.1 hS7 701 1024 0 mA vA [] 0 (by first | decide | omega) (by first | decide | omega) (by first | decide | omega) (by have := pC.2.2.2.2.1; first | decide | omega) pC lA
      have FX : Fm (PLx D p q) m1 m2 := fA.tr (u1.mono (fun b i z => Or.inl z))
      have GX : Fm (QLx (m1 D 13) k) v1 v3 := gB.tr (u2.mono (fun b i z => Or.inl z))
      have PX' : Fm (PX D) m1 m2 := FX.mono (by intro b i z; unfold PLx PLw Pk at z; unfold PX; first | decide | omega)
      have QX' : Fm QX v1 v3 := GX.mono (by intro b i z; unfold QLx QLw Qk at z; unfold QX; first | decide | omega)
      have e12 : m2 D 12 = m1 D 12 := FX D 12 (by unfold PLx PLw Pk; first | decide | omega)
      rcases kk with ⟨r1, r2, r3, r4, r5, L, r6⟩ | ⟨r1, r2, r3⟩
      · rw [r1, r2, bs1, gdx_t (by first | decide | omega)]
        obtain ⟨t1, t2, ⟨s1, s2, s3, s4, s5, s6⟩, t4, t5, t6, t7, t8⟩ := r6
        have hc0 : cNB ([] : List Int) = 0 := rfl
        have hc1 : cBN ([] : List Int) = 0 := rfl
        have p5 : PostR m2 (up v3 17 (3 + k) (m1 D 13 + L)) S := r3.f (P := fun _ _ => False) (Q := fun b i => b = 17) Fm.rf (Fm.w1 rfl) (fun b i _ => id) (by intro b i q; first | decide | omega)
        obtain ⟨v5, o1, o2, o3, _⟩ := n_stop1 p5 r4
        have G5 : Fm (QLx (m1 D 13) k) v1 v5 := (GX.w (v := m1 D 13 + L) (QLx_r (by first | decide | omega))).tr ((o2.mono Q7_k).mono (fun b i z => Or.inl (Or.inl z)))
        dsimp only
        rw [s2, o1]
        have w5 : ∀ (b : Nat) i, 1 ≤ b → ¬ (b = 17 ∧ i = 3 + k) → v5 b i = v3 b i := fun b i z1 z2 => by
          rw [o2 b i (by unfold Q7; first | decide | omega)]
          by_cases z3 : b = 17
          · rw [z3, up_i (fun z4 => z2 ⟨z3, z4⟩)]
          · rw [up_a z3]
        have w50 : ∀ i, (i < 7 ∨ 10 < i) → v5 0 i = v3 0 i := fun i z => by rw [o2 0 i (by unfold Q7; first | decide | omega), up_a (by first | decide | omega)]
        have eqp : D + p + 1 = D + q := by omega
        rw [eqp] at s5 s6 t8
        have hDn : DI m2 v5 D := by
          refine di_law (k := k) (F := m1 D 13) (p := p) (q := q) (L := L) hD1 hkp rfl FX G5 ⟨by rw [u1 (D + p) 2 (by unfold PLw Pk; first | decide | omega)]; exact aT, s1⟩ ⟨?_, ?_, ?_⟩ (by rw [w50 23 (by first | decide | omega)]; exact s2) ⟨by first | decide | omega, by first | decide | omega⟩ (by rw [w50 49 (by first | decide | omega)]; exact t5.1) (by first | decide | omega) s5 (fun j z => ?_)
          · rw [w5 15 _ (by first | decide | omega) (by first | decide | omega), u2 15 _ (by unfold QLw Qk; first | decide | omega)]; exact b15
          · rw [w5 16 _ (by first | decide | omega) (by first | decide | omega), u2 16 _ (by unfold QLw Qk; first | decide | omega)]; exact b16
          · rw [o2 17 _ (by unfold Q7; first | decide | omega), up_e]
          · refine (s6 j z).c (fun _ _ => rfl) ?_ ?_ ?_
            · exact (sh18 (v := v5) (b := 18) (by first | decide | omega) _).trans ((w5 18 _ (by first | decide | omega) (by first | decide | omega)).trans (sh18 (v := v3) (b := 18) (by first | decide | omega) _).symm)
            · exact (sh18 (v := v5) (b := 19) (by first | decide | omega) _).trans ((w5 19 _ (by first | decide | omega) (by first | decide | omega)).trans (sh18 (v := v3) (b := 19) (by first | decide | omega) _).symm)
            · exact (sh18 (v := v5) (b := 20) (by first | decide | omega) _).trans ((w5 20 _ (by first | decide | omega) (by first | decide | omega)).trans (sh18 (v := v3) (b := 20) (by first | decide | omega) _).symm)
        exact ⟨m2, v5, PX', (QX'.w (v := m1 D 13 + L) (by unfold QX; first | decide | omega)).tr ((o2.mono Q7_k).mono Qk_x), by first | decide | omega, Or.inl ⟨rfl, rfl, hDn, o3, e12⟩⟩
      · rw [r1, r2, bs1, gdx_t (by first | decide | omega)]
        dsimp only
        rw [r197]
        refine lo_fltx ⟨m2, _, PX', QX'.w (by unfold QX; first | decide | omega), by first | decide | omega, rfl, rfl, ?_⟩
        unfold FLT
        rw [up_a (by first | decide | omega), up_a (by first | decide | omega)]
        exact r3
    · rw [if_neg c0, if_neg c0, c_ref, bs1, bs1]
      simp only [if_true]
      rw [r_wrong, bs1, gdb_t (by first | decide | omega), gdx_t (by first | decide | omega)]
      exact lo_ref h1 3 rfl rfl
  · have hX : (if m1 47 4 - 12 < 0 then G5_readKind_27 m1 else gd3 (m1 47 4 - 12) (if m1 47 4 - 12 < 3 then (gdx (m1 47 4 - 12) 3 (if m1 ((m1 46 10).toNat + 16 + 2 * (m1 47 4 - 12).toNat) 2 = 0 then (gdx (m1 47 4 - 12) 3 (wt (up m1 ((m1 46 10).toNat + 16 + 2 * (m1 47 4 - 12).toNat) 2 1) fun m26 => gdx (m1 47 4 - 12) 3 (some ((((m26 46 10).toNat + 16 + 2 * (m1 47 4 - 12).toNat : Nat) : Int), m26)))) else ((G5_refuse m1 3).bind fun o34 => some (-1, o34.2)))) else G5_readKind_27 m1)) = some (-1, up (up m1 46 8 1) 46 9 (m1 47 5)) := by
      by_cases a : m1 47 4 - 12 < 0
      · rw [if_pos a, e27]
      · rw [if_neg a, gd3_t (by first | decide | omega), if_neg (by first | decide | omega), e27]
    rw [hX, bs1]
    simp only [if_true]
    refine lo_ref h1 1 rfl ?_
    by_cases a : v1 0 8 = 1
    · by_cases b : v1 0 9 < 12
      · rw [if_pos a, if_pos b, e130]
      · rw [if_pos a, if_neg b, if_neg (by first | decide | omega), e130]
    · rw [if_neg a, e130]
end Q38
