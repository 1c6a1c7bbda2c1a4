/-! years, foretold: both -/
theorem both_years {N : Nat} {Mx Mm : g_M} (hN : N ≤ 40) : ∀ (d i f g m : Nat) (M W : g_M), i + d = N → d < f → d < g → Rel m M W → Fx Mx M → Fm Mm W → W 0 24 ≤ Mm 0 24 + i → W 0 25 ≤ Mm 0 25 + 30 * i → ∃ (m' : Nat) (M' W' : g_M), m_X2_passYears_L26 N f i M = some M' ∧ (∀ k, m_X9_years_L43 N k g i W = k W') ∧ Rel m' M' W' ∧ Fx Mx M' ∧ Fm Mm W' ∧ W' 0 24 ≤ Mm 0 24 + 40 ∧ W' 0 25 ≤ Mm 0 25 + 1200 := by
  intro d
  induction d with
  | zero =>
    intro i f g m M W h1 h2 h3 h4 h5 h6 h7 h8
    obtain ⟨f, rfl⟩ : ∃ f', f = f' + 1 := ⟨f - 1, by omega⟩
    obtain ⟨g, rfl⟩ : ∃ f', g = f' + 1 := ⟨g - 1, by omega⟩
    refine ⟨m, M, W, ?_, fun k => ?_, h4, h5, h6, by omega, by omega⟩
    · rw [m_X2_passYears_L26]; simp (disch := omega) only [↓reduceIte, ↓nm_eq, ↓jn_eq, ↓c_within, ↓c_isIn, ↓c_isScene, ↓c_isPlace, ↓c_isCue, ↓c_isDigit, ↓d_isScene, ↓d_isAny, ↓ta_pb1, ↓ta_pb0, ↓ta_pb1', ↓ta_pb0', ta_lt, ta_nlt, ta_le, ta_nle, ta_eq, ta_neq, ta_nne, ta_ne, gs_id, a_gd01, a_gdT, or_true, true_or, bd_some, bW_sm, a_gd, a_ne, a_rd, Int.toNat_natCast, Int.toNat_add, Int.toNat_mul, Int.reduceToNat, a_gdp, a_cell, and_self, and_true, true_and]
    · rw [m_X9_years_L43]; simp (disch := omega) only [↓reduceIte, ↓nm_eq, ↓jn_eq, ↓c_within, ↓c_isIn, ↓c_isScene, ↓c_isPlace, ↓c_isCue, ↓c_isDigit, ↓d_isScene, ↓d_isAny, ↓ta_pb1, ↓ta_pb0, ↓ta_pb1', ↓ta_pb0', ta_lt, ta_nlt, ta_le, ta_nle, ta_eq, ta_neq, ta_nne, ta_ne, gs_id, a_gd01, a_gdT, or_true, true_or, bd_some, bW_sm, a_gd, a_ne, a_rd, Int.toNat_natCast, Int.toNat_add, Int.toNat_mul, Int.reduceToNat, a_gdp, a_cell, and_self, and_true, true_and]
  | succ d ih =>
    intro i f g m M W h1 h2 h3 h4 h5 h6 h7 h8
    obtain ⟨f, rfl⟩ : ∃ f', f = f' + 1 := ⟨f - 1, by omega⟩
    obtain ⟨g, rfl⟩ : ∃ f', g = f' + 1 := ⟨g - 1, by omega⟩
    obtain ⟨D, f1, f2, f3, ⟨f4, f5, f6⟩, -⟩ := RF_snapf (Rel_RF h4)
    obtain ⟨w, hw⟩ : ∃ w : Int, w = (M 2 42 * 443 + 331) % 30577 := ⟨_, rfl⟩
    have p0 := p_draw (M := M) ⟨f4, f5⟩
    have q0 := q_draw (W := W) (by rw [f6]; exact ⟨f4, f5⟩)
    rw [f6] at q0
    rw [← hw] at p0 q0
    have e0 : g_wr W 1 7 w 0 = W 0 := a_cell _ (by omega)
    have hr1 : Rel (m + 1) (g_wr M 2 42 w) (g_wr W 1 7 w) := Rel_mk h4 (Fx_wr2 _ _ _) (Fm_wr1 _ _ _) (Rel_c h4 e0).1 (Rel_c h4 e0).2 (RF_setdraw (Rel_RF h4) (by omega))
    obtain ⟨m2, M2, W2, a1, a2, a3, a4, a5, a6, a7⟩ := do_year hr1 (x := M 2 42) ⟨f4, f5⟩
    rw [e0] at a6 a7
    obtain ⟨m3, M3, W3, b1, b2, b3⟩ := ih (i + 1) f g m2 M2 W2 (by omega) (by omega) (by omega) a3 (Fx_trans h5 (Fx_trans (Fx_wr2 _ _ _) a4)) (Fm_trans h6 (Fm_trans (Fm_wr1 _ _ _) a5)) (by omega) (by omega)
    rw [Int.natCast_add, Int.natCast_one] at b1
    refine ⟨m3, M3, W3, ?_, fun k => ?_, b3⟩
    · rw [m_X2_passYears_L26]; simp (disch := omega) only [↓reduceIte, ↓nm_eq, ↓jn_eq, ↓c_within, ↓c_isIn, ↓c_isScene, ↓c_isPlace, ↓c_isCue, ↓c_isDigit, ↓d_isScene, ↓d_isAny, ↓ta_pb1, ↓ta_pb0, ↓ta_pb1', ↓ta_pb0', ta_lt, ta_nlt, ta_le, ta_nle, ta_eq, ta_neq, ta_nne, ta_ne, gs_id, a_gd01, a_gdT, or_true, true_or, bd_some, bW_sm, a_gd, a_ne, a_rd, Int.toNat_natCast, Int.toNat_add, Int.toNat_mul, Int.reduceToNat, a_gdp, a_cell, and_self, and_true, true_and, p0, a1, b1]
    · have b4 := b2 k
      rw [Int.natCast_add, Int.natCast_one] at b4
      rw [m_X9_years_L43]; simp (disch := omega) only [↓reduceIte, ↓nm_eq, ↓jn_eq, ↓c_within, ↓c_isIn, ↓c_isScene, ↓c_isPlace, ↓c_isCue, ↓c_isDigit, ↓d_isScene, ↓d_isAny, ↓ta_pb1, ↓ta_pb0, ↓ta_pb1', ↓ta_pb0', ta_lt, ta_nlt, ta_le, ta_nle, ta_eq, ta_neq, ta_nne, ta_ne, gs_id, a_gd01, a_gdT, or_true, true_or, bd_some, bW_sm, a_gd, a_ne, a_rd, Int.toNat_natCast, Int.toNat_add, Int.toNat_mul, Int.reduceToNat, a_gdp, a_cell, and_self, and_true, true_and, f6, q0, a2, b4]
theorem st_13 : x_step_13 Rel := by
  intro n Mx Mm hr hn a1 a2 h1 h2
  obtain ⟨i1, j1⟩ := h1
  obtain ⟨i2, j2⟩ := h2
  by_cases c1 : 0 ≤ a1 ∧ a1 ≤ 9999
  rotate_left
  · refine ⟨-1, -1, Mx, Mm, ?_, ?_, rfl, st_same hr⟩
    · unfold m_X8_years; simp (disch := omega) only [↓reduceIte, ↓nm_eq, ↓jn_eq, ↓c_within, ↓c_isIn, ↓c_isScene, ↓c_isPlace, ↓c_isCue, ↓c_isDigit, ↓d_isScene, ↓d_isAny, ↓ta_pb1, ↓ta_pb0, ↓ta_pb1', ↓ta_pb0', ta_lt, ta_nlt, ta_le, ta_nle, ta_eq, ta_neq, ta_nne, ta_ne, gs_id, a_gd01, a_gdT, or_true, true_or, bd_some, bW_sm, a_gd, a_ne, a_rd, Int.toNat_natCast, Int.toNat_add, Int.toNat_mul, Int.reduceToNat, a_gdp, a_cell, and_self, and_true, true_and]
    · unfold m_X9_years; simp (disch := omega) only [↓reduceIte, ↓nm_eq, ↓jn_eq, ↓c_within, ↓c_isIn, ↓c_isScene, ↓c_isPlace, ↓c_isCue, ↓c_isDigit, ↓d_isScene, ↓d_isAny, ↓ta_pb1, ↓ta_pb0, ↓ta_pb1', ↓ta_pb0', ta_lt, ta_nlt, ta_le, ta_nle, ta_eq, ta_neq, ta_nne, ta_ne, gs_id, a_gd01, a_gdT, or_true, true_or, bd_some, bW_sm, a_gd, a_ne, a_rd, Int.toNat_natCast, Int.toNat_add, Int.toNat_mul, Int.reduceToNat, a_gdp, a_cell, and_self, and_true, true_and]
  by_cases c2 : 1 ≤ a2 ∧ a2 ≤ 40
  rotate_left
  · refine ⟨-1, -1, Mx, Mm, ?_, ?_, rfl, st_same hr⟩
    · unfold m_X8_years; simp (disch := omega) only [↓reduceIte, ↓nm_eq, ↓jn_eq, ↓c_within, ↓c_isIn, ↓c_isScene, ↓c_isPlace, ↓c_isCue, ↓c_isDigit, ↓d_isScene, ↓d_isAny, ↓ta_pb1, ↓ta_pb0, ↓ta_pb1', ↓ta_pb0', ta_lt, ta_nlt, ta_le, ta_nle, ta_eq, ta_neq, ta_nne, ta_ne, gs_id, a_gd01, a_gdT, or_true, true_or, bd_some, bW_sm, a_gd, a_ne, a_rd, Int.toNat_natCast, Int.toNat_add, Int.toNat_mul, Int.reduceToNat, a_gdp, a_cell, and_self, and_true, true_and]
    · unfold m_X9_years; simp (disch := omega) only [↓reduceIte, ↓nm_eq, ↓jn_eq, ↓c_within, ↓c_isIn, ↓c_isScene, ↓c_isPlace, ↓c_isCue, ↓c_isDigit, ↓d_isScene, ↓d_isAny, ↓ta_pb1, ↓ta_pb0, ↓ta_pb1', ↓ta_pb0', ta_lt, ta_nlt, ta_le, ta_nle, ta_eq, ta_neq, ta_nne, ta_ne, gs_id, a_gd01, a_gdT, or_true, true_or, bd_some, bW_sm, a_gd, a_ne, a_rd, Int.toNat_natCast, Int.toNat_add, Int.toNat_mul, Int.reduceToNat, a_gdp, a_cell, and_self, and_true, true_and]
  obtain ⟨N, rfl⟩ : ∃ s : Nat, a2 = s := ⟨a2.toNat, by omega⟩
  obtain ⟨M1, W1, k1, k2, k3, k4, k5, k6, k7⟩ := both_keep (Rel_RF hr)
  obtain ⟨f1, f2⟩ := keep_F k4 k5 k6
  have w10 : g_wr W1 1 7 (a1 * 2 + 199) 0 = Mm 0 := by rw [a_cell _ (by omega), k6 0 (by omega)]
  have g1 : Fx Mx (g_wr M1 2 42 (a1 * 2 + 199)) := Fx_trans f1 (Fx_wr2 _ _ _)
  have g2 : Fm Mm (g_wr W1 1 7 (a1 * 2 + 199)) := Fm_trans f2 (Fm_wr1 _ _ _)
  have hr1 : Rel (n + 1) (g_wr M1 2 42 (a1 * 2 + 199)) (g_wr W1 1 7 (a1 * 2 + 199)) := Rel_mk hr g1 g2 (Rel_c hr w10).1 (Rel_c hr w10).2 (RF_setdraw k3 (by omega))
  obtain ⟨m, M', W', b1, b2, b3, b4, b5, b6, b7⟩ := both_years (N := N) (Mx := Mx) (Mm := Mm) (by omega) N 0 g_fuel g_fuel (n + 1) _ _ (by omega) (by unfold g_fuel; omega) (by unfold g_fuel; omega) hr1 g1 g2 (by rw [w10]; omega) (by rw [w10]; omega)
  rw [Int.natCast_zero] at b1 b2
  obtain ⟨D, q1, q2, q3⟩ := RF_day (Rel_RF b3)
  have c0 := Rel_c0 b3
  have c0' := Rel_c0 hr
  refine ⟨D, D, M', W', ?_, ?_, rfl, Rel_mk hr b4 b5 (by omega) (by omega) (Rel_RF b3)⟩
  · unfold m_X8_years m_X2_passYears; simp (disch := omega) only [↓reduceIte, ↓nm_eq, ↓jn_eq, ↓c_within, ↓c_isIn, ↓c_isScene, ↓c_isPlace, ↓c_isCue, ↓c_isDigit, ↓d_isScene, ↓d_isAny, ↓ta_pb1, ↓ta_pb0, ↓ta_pb1', ↓ta_pb0', ta_lt, ta_nlt, ta_le, ta_nle, ta_eq, ta_neq, ta_nne, ta_ne, gs_id, a_gd01, a_gdT, or_true, true_or, bd_some, bW_sm, a_gd, a_ne, a_rd, Int.toNat_natCast, Int.toNat_add, Int.toNat_mul, Int.reduceToNat, a_gdp, a_cell, and_self, and_true, true_and, k1, b1, q2]
  · unfold m_X9_years; simp (disch := omega) only [↓reduceIte, ↓nm_eq, ↓jn_eq, ↓c_within, ↓c_isIn, ↓c_isScene, ↓c_isPlace, ↓c_isCue, ↓c_isDigit, ↓d_isScene, ↓d_isAny, ↓ta_pb1, ↓ta_pb0, ↓ta_pb1', ↓ta_pb0', ta_lt, ta_nlt, ta_le, ta_nle, ta_eq, ta_neq, ta_nne, ta_ne, gs_id, a_gd01, a_gdT, or_true, true_or, bd_some, bW_sm, a_gd, a_ne, a_rd, Int.toNat_natCast, Int.toNat_add, Int.toNat_mul, Int.reduceToNat, a_gdp, a_cell, and_self, and_true, true_and, k2, b2, q3]
