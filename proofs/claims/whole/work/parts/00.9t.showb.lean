/-! a scene is shown: both -/
theorem both_show {n : Nat} {Mx Mm Ws M1 : g_M} {P : Nat} {e0 c0 d b p : Int} (hP : P ≤ 8) (hr : Rel n Mx Mm) (l3 : LK Mx Mm M1 d b p) {x : Nat} {M W : g_M} (h : EI Mx Mm Ws M1 P x e0 c0 M W) {s : Nat} (hs : s < 12) : ∃ (t y : Nat) (M' W' : g_M), t ≤ 12 ∧ x ≤ y ∧ y ≤ x + 1 ∧ m_X2_showScene s M = some ((t : Int), M') ∧ m_X9_show s W = some ((t : Int), W') ∧ EI Mx Mm Ws M1 P y e0 c0 M' W' ∧ M' 65 3 = M 65 3 := by
  obtain ⟨hA, hB, hC, hD, hE, hF, hG, ⟨v1, v2, v3⟩, hI, hJ, hK, hL⟩ := id h
  obtain ⟨⟨n1, n2, n3⟩, c1, c2, c3⟩ := hG s hs
  obtain ⟨u1, u2, u3⟩ := Rel_u hr
  obtain ⟨w, hw⟩ : ∃ w : Int, w = (M 2 42 * 443 + 331) % 30577 := ⟨_, rfl⟩
  obtain ⟨z, hz⟩ : ∃ z : Int, z = if M 2 (28 + s) + 1 < 9999 then M 2 (28 + s) + 1 else 9999 := ⟨_, rfl⟩
  have hzb : 0 ≤ z ∧ z ≤ 9999 := by
    rw [hz]
    by_cases c : M 2 (28 + s) + 1 < 9999
    · rw [if_pos c]; omega
    · rw [if_neg c]; omega
  obtain ⟨Ma, hMa⟩ : ∃ Ma, Ma = g_wr (g_wr M 2 (28 + s) z) 2 42 w := ⟨_, rfl⟩
  have ma : ∀ a, a ≠ 2 → Ma a = M a := fun a ha => by rw [hMa, a_cell _ ha, a_cell _ ha]
  have ma2 : ∀ j, j ≠ 28 + s → j ≠ 42 → Ma 2 j = M 2 j := fun j h1 h2 => by rw [hMa, a_ne _ (by omega), a_ne _ (by omega)]
  have ma28 : Ma 2 (28 + s) = z := by rw [hMa, a_ne _ (by omega)]; exact wr_at _ _ _ _
  have ma42 : Ma 2 42 = w := by rw [hMa]; exact wr_at _ _ _ _
  have hu : W 1 2 = Mx 1 9 := by rw [hE 2 (by omega)]; exact u3
  have hu1 : M 1 9 = Mx 1 9 := by rw [hA 1 (by omega) (by omega) (by omega) (by omega)]
  obtain ⟨c, Mb, Wb, k0, k1, k2, k3, k4, k5⟩ := both_cue hr ⟨u1, u2⟩ (EI_Ev l3 h ma) (by rw [ma 1 (by omega)]; exact hu1) hu hs (x := M 2 (28 + s)) (y := M 2 42 % 10) ⟨c1, c2⟩ (by omega) c3
  obtain ⟨c, rfl⟩ : ∃ c' : Nat, c = c' := ⟨c.toNat, by omega⟩
  have mb2 : Mb 2 = Ma 2 := k3 2 (by omega) (by omega)
  have mb4 : Mb 4 = Mx 4 := by rw [k3 4 (by omega) (by omega), ma 4 (by omega), hA 4 (by omega) (by omega) (by omega) (by omega)]
  have wb1 : Wb 1 = W 1 := k5 1 (by omega) (by omega) (by omega)
  have wb0 : Wb 0 = W 0 := k5 0 (by omega) (by omega) (by omega)
  obtain ⟨Wa, hWa⟩ : ∃ Wa, Wa = g_wr (g_wr Wb 1 7 w) 1 (10 + s) z := ⟨_, rfl⟩
  have e1 : g_min 9999 (M 2 (28 + s) + 1) = z := by rw [g_min_of (by omega) (by omega), hz]
  have e2 := draw_ten (v := M 2 42) ⟨v1, v2⟩
  have q0 : m_X9_anew Wb = some (g_wr Wb 1 7 w) := by
    rw [q_draw (by rw [wb1, v3]; exact ⟨v1, v2⟩), wb1, v3, hw]
  have p0 : m_X2_drawAnew (g_wr M 2 (28 + s) z) = some Ma := by
    have e : g_wr M 2 (28 + s) z 2 42 = M 2 42 := a_ne _ (by omega)
    rw [p_draw (by rw [e]; exact ⟨v1, v2⟩), e, hMa, hw]
  have q1 : m_X9_cut (gs (M 2 (28 + s) + 1)) 0 9999 = some z := by
    have := q_cut (v := M 2 (28 + s) + 1) (t := 9999) (by unfold V6; omega) (by omega)
    rw [show ((9999 : Nat) : Int) = 9999 from rfl] at this
    rw [gs_id (by omega) (by omega), this, hz]
    unfold ctN
    rw [if_neg (by omega)]
    by_cases g : M 2 (28 + s) + 1 < 9999
    · rw [if_pos g, if_neg (by omega)]
    · rw [if_neg g]
      by_cases g2 : ((9999 : Nat) : Int) < M 2 (28 + s) + 1
      · rw [if_pos g2]; rfl
      · rw [if_neg g2]; congr 1; omega
  have q2 : m_X9_cut (M 2 (28 + s) + 1) 0 9999 = some z := by
    rw [gs_id (by omega) (by omega)] at q1
    exact q1
  have wa : ∀ a, a ≠ 1 → Wa a = Wb a := fun a ha => by rw [hWa, a_cell _ ha, a_cell _ ha]
  have wa1 : ∀ j, j ≠ 7 → j ≠ 10 + s → Wa 1 j = W 1 j := fun j h1 h2 => by rw [hWa, a_ne _ (by omega), a_ne _ (by omega), wb1]
  have wa7 : Wa 1 7 = w := by rw [hWa, a_ne _ (by omega)]; exact wr_at _ _ _ _
  have wa10 : Wa 1 (10 + s) = z := by rw [hWa]; exact wr_at _ _ _ _
  have hb : EI Mx Mm Ws M1 P x e0 c0 Mb Wa := by
    refine ⟨fun a b1 b2 b3 b4 => by rw [k3 a b2 b3, ma a b1]; exact hA a b1 b2 b3 b4, fun j hj => by rw [k4 j hj, ma 33 (by omega)]; exact hB j hj, ⟨by rw [wa 3 (by omega), k5 3 (by omega) (by omega) (by omega)]; exact hC.1, fun a b1 b2 b3 b4 b5 => by rw [wa a b2, k5 a b3 b4 b5]; exact hC.2 a b1 b2 b3 b4 b5⟩, fun j hj => by rw [mb2, ma2 j (by omega) (by omega)]; exact hD j hj, fun j hj => by rw [wa1 j (by omega) (by omega)]; exact hE j hj, fun q i hq hi h1 => by rw [wa1 _ (by omega) (by omega)]; exact hF q i hq hi h1, fun t ht => ?_, ?_, fun q hq => by rw [mb2, ma2 _ (by omega) (by omega), wa1 _ (by omega) (by omega)]; exact hI q hq, ⟨by rw [k3 65 (by omega) (by omega), ma 65 (by omega)]; exact hJ.1, by rw [wa 0 (by omega), wb0]; exact hJ.2⟩, ⟨fun j b1 b2 b3 => by rw [wa 0 (by omega), wb0]; exact hK.1 j b1 b2 b3, fun j hj => by rw [wa1 j (by omega) (by omega)]; exact hK.2 j hj⟩, by rw [wa 0 (by omega), wb0]; exact hL.1, by rw [wa1 8 (by omega) (by omega)]; exact hL.2⟩
    · rw [mb2, ma2 (16 + t) (by omega) (by omega), wa1 (22 + t) (by omega) (by omega)]
      refine ⟨(hG t ht).1, ?_⟩
      by_cases e : t = s
      · subst e
        rw [ma28, wa10]
        exact ⟨hzb.1, hzb.2, rfl⟩
      · rw [ma2 (28 + t) (by omega) (by omega), wa1 (10 + t) (by omega) (by omega)]
        exact (hG t ht).2
    · rw [mb2, ma42, wa7, hw]; omega
  obtain ⟨jA, jB, jC, jD, jE, jF, jG, jH, jI, jJ, jK, jL⟩ := id hb
  obtain ⟨g1, g2⟩ := RF_lead (Rel_RF hr)
  have pa := p_after (M := Mb) (s := s) (c := c) (by omega) (by omega)
  have qa := q_nextOf (nw := Mb 2) (td := Mb 4) (W := Wa) (fun t ht => (jG t ht).1.2.2) (fun i hi => by rw [mb4, jE _ (by omega)]; exact (g2 i hi).2.2) (s := s) (c := c) (by omega) (by omega)
  have vb := nxF_lt (nw := Mb 2) (td := Mb 4) (fun t ht => ⟨(jG t ht).1.1, (jG t ht).1.2.1⟩) (fun i hi => by rw [mb4]; exact ⟨(g2 i hi).1, (g2 i hi).2.1⟩) (s := s) (c := c) (by omega) (by omega)
  generalize nxF (Mb 2) (Mb 4) s c = v at pa qa vb
  obtain ⟨t, rfl⟩ : ∃ t : Nat, v = t := ⟨v.toNat, by omega⟩
  have ld := (jG s hs).1
  have m65 : Mb 65 = M 65 := by rw [k3 65 (by omega) (by omega), ma 65 (by omega)]
  have hsh : Wb 1 (10 + s) = M 2 (28 + s) := by rw [wb1, c3]
  by_cases hc0 : c = 0
  · subst hc0
    refine ⟨t, x, Mb, Wa, by omega, by omega, by omega, ?_, ?_, hb, by rw [m65]⟩
    · unfold m_X2_showScene
      simp (disch := omega) only [↓reduceIte, ↓nm_eq, ↓jn_eq, ↓c_within, ↓c_isIn, ↓c_isScene, ↓c_isPlace, ↓c_isCue, ↓c_isDigit, ↓d_isScene, ↓d_isAny, ↓ta_pb1, ↓ta_pb0, ↓ta_pb1', ↓ta_pb0', ta_lt, ta_nlt, ta_le, ta_nle, ta_eq, ta_neq, ta_nne, ta_ne, gs_id, a_gd01, a_gdT, or_true, true_or, bd_some, bW_sm, a_gd, a_ne, a_rd, Int.toNat_natCast, Int.toNat_add, Int.toNat_mul, Int.reduceToNat, a_gdp, a_cell, and_self, and_true, true_and, e1, e2, p0, k1, pa]
    · unfold m_X9_show
      simp (disch := omega) only [↓reduceIte, ↓nm_eq, ↓jn_eq, ↓c_within, ↓c_isIn, ↓c_isScene, ↓c_isPlace, ↓c_isCue, ↓c_isDigit, ↓d_isScene, ↓d_isAny, ↓ta_pb1, ↓ta_pb0, ↓ta_pb1', ↓ta_pb0', ta_lt, ta_nlt, ta_le, ta_nle, ta_eq, ta_neq, ta_nne, ta_ne, gs_id, a_gd01, a_gdT, or_true, true_or, bd_some, bW_sm, a_gd, a_ne, a_rd, Int.toNat_natCast, Int.toNat_add, Int.toNat_mul, Int.reduceToNat, a_gdp, a_cell, and_self, and_true, true_and, v3, e2, k2, q0, hsh, q2, ← hWa, qa]
  · obtain ⟨c2, c2', Mc, Wc, s0, s1, s2, s3, s4, s5⟩ := both_stays hr ⟨u1, u2⟩ (EI_Ev l3 hb (fun _ _ => rfl)) (by rw [jA 1 (by omega) (by omega) (by omega) (by omega)]) (by rw [jE 2 (by omega)]; exact u3) hs (x := c) (y := t) (by omega) (by omega)
    have wc1 : Wc 1 = Wa 1 := s5 1 (by omega) (by omega) (by omega)
    have wc0 : Wc 0 = Wa 0 := s5 0 (by omega) (by omega) (by omega)
    have mc2 : Mc 2 = Mb 2 := s3 2 (by omega) (by omega)
    have mc65 : Mc 65 = Mb 65 := s3 65 (by omega) (by omega)
    by_cases hl : Mb 2 (16 + s) = t
    · refine ⟨t, x, Mb, Wc, by omega, by omega, by omega, ?_, ?_, EI_law hb (fun _ _ _ => rfl) (fun _ _ => rfl) s5, by rw [m65]⟩
      · unfold m_X2_showScene
        simp (disch := omega) only [↓reduceIte, ↓nm_eq, ↓jn_eq, ↓c_within, ↓c_isIn, ↓c_isScene, ↓c_isPlace, ↓c_isCue, ↓c_isDigit, ↓d_isScene, ↓d_isAny, ↓ta_pb1, ↓ta_pb0, ↓ta_pb1', ↓ta_pb0', ta_lt, ta_nlt, ta_le, ta_nle, ta_eq, ta_neq, ta_nne, ta_ne, gs_id, a_gd01, a_gdT, or_true, true_or, bd_some, bW_sm, a_gd, a_ne, a_rd, Int.toNat_natCast, Int.toNat_add, Int.toNat_mul, Int.reduceToNat, a_gdp, a_cell, and_self, and_true, true_and, e1, e2, p0, k1, pa]
      · unfold m_X9_show
        rcases s0 with ⟨z1, z2⟩ | ⟨z1, z2, z3⟩
        · simp (disch := omega) only [↓reduceIte, ↓nm_eq, ↓jn_eq, ↓c_within, ↓c_isIn, ↓c_isScene, ↓c_isPlace, ↓c_isCue, ↓c_isDigit, ↓d_isScene, ↓d_isAny, ↓ta_pb1, ↓ta_pb0, ↓ta_pb1', ↓ta_pb0', ta_lt, ta_nlt, ta_le, ta_nle, ta_eq, ta_neq, ta_nne, ta_ne, gs_id, a_gd01, a_gdT, or_true, true_or, bd_some, bW_sm, a_gd, a_ne, a_rd, Int.toNat_natCast, Int.toNat_add, Int.toNat_mul, Int.reduceToNat, a_gdp, a_cell, and_self, and_true, true_and, v3, e2, k2, q0, hsh, q2, ← hWa, qa, s2]
        · simp (disch := omega) only [↓reduceIte, ↓nm_eq, ↓jn_eq, ↓c_within, ↓c_isIn, ↓c_isScene, ↓c_isPlace, ↓c_isCue, ↓c_isDigit, ↓d_isScene, ↓d_isAny, ↓ta_pb1, ↓ta_pb0, ↓ta_pb1', ↓ta_pb0', ta_lt, ta_nlt, ta_le, ta_nle, ta_eq, ta_neq, ta_nne, ta_ne, gs_id, a_gd01, a_gdT, or_true, true_or, bd_some, bW_sm, a_gd, a_ne, a_rd, Int.toNat_natCast, Int.toNat_add, Int.toNat_mul, Int.reduceToNat, a_gdp, a_cell, and_self, and_true, true_and, v3, e2, k2, q0, hsh, q2, ← hWa, qa, s2, wc1]
    · rcases s0 with ⟨z1, z2⟩ | ⟨z1, z2, z3⟩
      · refine ⟨t, x, Mc, Wc, by omega, by omega, by omega, ?_, ?_, EI_law hb s3 s4 s5, by rw [mc65, m65]⟩
        · unfold m_X2_showScene
          simp (disch := omega) only [↓reduceIte, ↓nm_eq, ↓jn_eq, ↓c_within, ↓c_isIn, ↓c_isScene, ↓c_isPlace, ↓c_isCue, ↓c_isDigit, ↓d_isScene, ↓d_isAny, ↓ta_pb1, ↓ta_pb0, ↓ta_pb1', ↓ta_pb0', ta_lt, ta_nlt, ta_le, ta_nle, ta_eq, ta_neq, ta_nne, ta_ne, gs_id, a_gd01, a_gdT, or_true, true_or, bd_some, bW_sm, a_gd, a_ne, a_rd, Int.toNat_natCast, Int.toNat_add, Int.toNat_mul, Int.reduceToNat, a_gdp, a_cell, and_self, and_true, true_and, e1, e2, p0, k1, pa, s1]
        · unfold m_X9_show
          simp (disch := omega) only [↓reduceIte, ↓nm_eq, ↓jn_eq, ↓c_within, ↓c_isIn, ↓c_isScene, ↓c_isPlace, ↓c_isCue, ↓c_isDigit, ↓d_isScene, ↓d_isAny, ↓ta_pb1, ↓ta_pb0, ↓ta_pb1', ↓ta_pb0', ta_lt, ta_nlt, ta_le, ta_nle, ta_eq, ta_neq, ta_nne, ta_ne, gs_id, a_gd01, a_gdT, or_true, true_or, bd_some, bW_sm, a_gd, a_ne, a_rd, Int.toNat_natCast, Int.toNat_add, Int.toNat_mul, Int.reduceToNat, a_gdp, a_cell, and_self, and_true, true_and, v3, e2, k2, q0, hsh, q2, ← hWa, qa, s2]
      · refine ⟨t, x + 1, _, _, by omega, by omega, by omega, ?_, ?_, EI_lead hP (EI_law hb s3 s4 s5) hs (v := t) (by omega), by rw [a_ne _ (by omega), a_cell _ (by omega), mc65, m65]⟩
        · unfold m_X2_showScene
          simp (disch := omega) only [↓reduceIte, ↓nm_eq, ↓jn_eq, ↓c_within, ↓c_isIn, ↓c_isScene, ↓c_isPlace, ↓c_isCue, ↓c_isDigit, ↓d_isScene, ↓d_isAny, ↓ta_pb1, ↓ta_pb0, ↓ta_pb1', ↓ta_pb0', ta_lt, ta_nlt, ta_le, ta_nle, ta_eq, ta_neq, ta_nne, ta_ne, gs_id, a_gd01, a_gdT, or_true, true_or, bd_some, bW_sm, a_gd, a_ne, a_rd, Int.toNat_natCast, Int.toNat_add, Int.toNat_mul, Int.reduceToNat, a_gdp, a_cell, and_self, and_true, true_and, e1, e2, p0, k1, pa, s1]
        · unfold m_X9_show
          simp (disch := omega) only [↓reduceIte, ↓nm_eq, ↓jn_eq, ↓c_within, ↓c_isIn, ↓c_isScene, ↓c_isPlace, ↓c_isCue, ↓c_isDigit, ↓d_isScene, ↓d_isAny, ↓ta_pb1, ↓ta_pb0, ↓ta_pb1', ↓ta_pb0', ta_lt, ta_nlt, ta_le, ta_nle, ta_eq, ta_neq, ta_nne, ta_ne, gs_id, a_gd01, a_gdT, or_true, true_or, bd_some, bW_sm, a_gd, a_ne, a_rd, Int.toNat_natCast, Int.toNat_add, Int.toNat_mul, Int.reduceToNat, a_gdp, a_cell, and_self, and_true, true_and, v3, e2, k2, q0, hsh, q2, ← hWa, qa, s2, wc1]
