/-! evenings: both -/
theorem Rel_23 {n : Nat} {M W : g_M} (h : Rel n M W) : W 0 23 = 1 := h.2.2.2.2.1.1
theorem Rel_c0 {n : Nat} {M W : g_M} (h : Rel n M W) : 0 ≤ W 0 24 ∧ 0 ≤ W 0 25 := ⟨h.2.2.2.2.1.2.1.1, h.2.2.2.2.1.2.2.1⟩
/-- an evening with its step kept -/
theorem one_even {m : Nat} {M W : g_M} (hr : Rel m M W) (hd : M 2 41 < 9999) : ∃ (r y : Nat) (M1 M2 W1 W2 : g_M), r ≤ 1 ∧ y ≤ 30 ∧ m_X1_keepStep M = some M1 ∧ m_X2_holdEvening M1 = some ((r : Int), M2) ∧ m_X9_keep W = some W1 ∧ m_X9_pass W1 = some W2 ∧ Rel (m + 1 + 1) M2 W2 ∧ Fx M M2 ∧ Fm W W2 ∧ W2 0 24 = W 0 24 + r ∧ W2 0 25 = W 0 25 + y ∧ M2 2 41 = M 2 41 + 1 := by
  obtain ⟨M1, W1, k1, k2, k3, k4, k5, k6, k7⟩ := both_keep (Rel_RF hr)
  obtain ⟨f1, f2⟩ := keep_F k4 k5 k6
  have w10 : W1 0 = W 0 := k6 0 (by omega)
  have hr1 : Rel (m + 1) M1 W1 := Rel_mk hr f1 f2 (Rel_c hr w10).1 (Rel_c hr w10).2 k3
  have m12 : M1 2 = M 2 := k4 2 (by omega) (by omega)
  obtain ⟨r, j, y, M2, W2, B, b1, b2, b3, b4, b5, b6, b7, b8, b9, b10, b11, b12, b13, b14, b15, b16, b17, b18, b19, b20⟩ := both_evening hr1 (Ws := W1) ⟨rfl, fun _ _ _ => rfl, Or.inr ⟨Rel_23 hr1, rfl⟩⟩ (by rw [m12]; exact hd)
  have g1 : Fx M1 M2 := ⟨fun k hk => b9 k (by omega) (by omega) (by omega) (by omega), fun i hi => by rw [b9 23 (by omega) (by omega) (by omega) (by omega)], by rw [b9 1 (by omega) (by omega) (by omega) (by omega)]⟩
  have g2 : Fm W1 W2 := ⟨fun k hk => b10 k (by omega) (by omega) (by omega) (by omega) (by omega), fun i hi => b11 i (by omega) (by omega) (by omega)⟩
  have c := Rel_c0 hr1
  refine ⟨r, y, M1, M2, W1, W2, b1, b3, k1, b4, k2, b5, Rel_mk hr1 g1 g2 (by omega) (by omega) (b6 W2 (b8 (Rel_23 hr1))), Fx_trans f1 g1, Fm_trans f2 g2, by rw [b12, w10], by rw [b13, w10], by rw [b19, m12]⟩
theorem both_hold {D N c : Nat} {Mx Mm : g_M} {o : Int} (hN : N ≤ 40) (hc : c = min N (9999 - D)) (hD : D ≤ 9999) : ∀ (d i f g e y m : Nat) (M W : g_M), i + d = c → d < f → d < g → e ≤ i → y ≤ 30 * i → Rel m M W → M 2 41 = ((D + i : Nat) : Int) → W 0 24 = e → W 0 25 = o + y → Fx Mx M → Fm Mm W → ∃ (e' y' m' : Nat) (M' W' : g_M), e' ≤ c ∧ y' ≤ 30 * c ∧ m_X2_holdEvenings_L4 c f e i M = some ((e' : Int), M') ∧ m_X9_arePassed_L7 N g i W = some (if c = N then 1 else 0, W') ∧ Rel m' M' W' ∧ Fx Mx M' ∧ Fm Mm W' ∧ W' 0 24 = e' ∧ W' 0 25 = o + y' := by
  intro d
  induction d with
  | zero =>
    intro i f g e y m M W h1 h2 h3 h4 h5 h6 h7 h8 h9 h10 h11
    obtain ⟨f, rfl⟩ : ∃ f', f = f' + 1 := ⟨f - 1, by omega⟩
    obtain ⟨g, rfl⟩ : ∃ f', g = f' + 1 := ⟨g - 1, by omega⟩
    refine ⟨e, y, m, M, W, by omega, by omega, ?_, ?_, h6, h10, h11, h8, h9⟩
    · rw [m_X2_holdEvenings_L4]; simp (disch := omega) only [↓reduceIte, ↓nm_eq, ↓jn_eq, ↓c_within, ↓c_isIn, ↓c_isScene, ↓c_isPlace, ↓c_isCue, ↓c_isDigit, ↓d_isScene, ↓d_isAny, ↓ta_pb1, ↓ta_pb0, ↓ta_pb1', ↓ta_pb0', ta_lt, ta_nlt, ta_le, ta_nle, ta_eq, ta_neq, ta_nne, ta_ne, gs_id, a_gd01, a_gdT, or_true, true_or, bd_some, bW_sm, a_gd, a_ne, a_rd, Int.toNat_natCast, Int.toNat_add, Int.toNat_mul, Int.reduceToNat, a_gdp, a_cell, and_self, and_true, true_and]
    · obtain ⟨D', q1, q2, q3⟩ := RF_day (Rel_RF h6)
      rw [m_X9_arePassed_L7]
      by_cases z : c = N
      · rw [if_pos z]
        simp (disch := omega) only [↓reduceIte, ↓nm_eq, ↓jn_eq, ↓c_within, ↓c_isIn, ↓c_isScene, ↓c_isPlace, ↓c_isCue, ↓c_isDigit, ↓d_isScene, ↓d_isAny, ↓ta_pb1, ↓ta_pb0, ↓ta_pb1', ↓ta_pb0', ta_lt, ta_nlt, ta_le, ta_nle, ta_eq, ta_neq, ta_nne, ta_ne, gs_id, a_gd01, a_gdT, or_true, true_or, bd_some, bW_sm, a_gd, a_ne, a_rd, Int.toNat_natCast, Int.toNat_add, Int.toNat_mul, Int.reduceToNat, a_gdp, a_cell, and_self, and_true, true_and]
      · have w6 : W 1 6 = 9999 := by omega
        rw [if_neg z]
        simp (disch := omega) only [↓reduceIte, ↓nm_eq, ↓jn_eq, ↓c_within, ↓c_isIn, ↓c_isScene, ↓c_isPlace, ↓c_isCue, ↓c_isDigit, ↓d_isScene, ↓d_isAny, ↓ta_pb1, ↓ta_pb0, ↓ta_pb1', ↓ta_pb0', ta_lt, ta_nlt, ta_le, ta_nle, ta_eq, ta_neq, ta_nne, ta_ne, gs_id, a_gd01, a_gdT, or_true, true_or, bd_some, bW_sm, a_gd, a_ne, a_rd, Int.toNat_natCast, Int.toNat_add, Int.toNat_mul, Int.reduceToNat, a_gdp, a_cell, and_self, and_true, true_and, w6]
  | succ d ih =>
    intro i f g e y m M W h1 h2 h3 h4 h5 h6 h7 h8 h9 h10 h11
    obtain ⟨f, rfl⟩ : ∃ f', f = f' + 1 := ⟨f - 1, by omega⟩
    obtain ⟨g, rfl⟩ : ∃ f', g = f' + 1 := ⟨g - 1, by omega⟩
    obtain ⟨D', q1, q2, q3⟩ := RF_day (Rel_RF h6)
    have w6 : W 1 6 = ((D + i : Nat) : Int) := by omega
    obtain ⟨r, y1, M1, M2, W1, W2, b1, b2, b3, b4, b5, b6, b7, b8, b9, b10, b11, b12⟩ := one_even h6 (by omega)
    obtain ⟨e', y', m', M', W', c1, c2, c3, c4, c5⟩ := ih (i + 1) f g (e + r) (y + y1) (m + 1 + 1) M2 W2 (by omega) (by omega) (by omega) (by omega) (by omega) b7 (by rw [b12, h7]; omega) (by rw [b10, h8]; omega) (by rw [b11, h9]; omega) (Fx_trans h10 b8) (Fm_trans h11 b9)
    rw [Int.natCast_add, Int.natCast_add, Int.natCast_one] at c3
    rw [Int.natCast_add, Int.natCast_one] at c4
    refine ⟨e', y', m', M', W', c1, c2, ?_, ?_, c5⟩
    · rw [m_X2_holdEvenings_L4]; simp (disch := omega) only [↓reduceIte, ↓nm_eq, ↓jn_eq, ↓c_within, ↓c_isIn, ↓c_isScene, ↓c_isPlace, ↓c_isCue, ↓c_isDigit, ↓d_isScene, ↓d_isAny, ↓ta_pb1, ↓ta_pb0, ↓ta_pb1', ↓ta_pb0', ta_lt, ta_nlt, ta_le, ta_nle, ta_eq, ta_neq, ta_nne, ta_ne, gs_id, a_gd01, a_gdT, or_true, true_or, bd_some, bW_sm, a_gd, a_ne, a_rd, Int.toNat_natCast, Int.toNat_add, Int.toNat_mul, Int.reduceToNat, a_gdp, a_cell, and_self, and_true, true_and, b3, b4, c3]
    · rw [m_X9_arePassed_L7]; simp (disch := omega) only [↓reduceIte, ↓nm_eq, ↓jn_eq, ↓c_within, ↓c_isIn, ↓c_isScene, ↓c_isPlace, ↓c_isCue, ↓c_isDigit, ↓d_isScene, ↓d_isAny, ↓ta_pb1, ↓ta_pb0, ↓ta_pb1', ↓ta_pb0', ta_lt, ta_nlt, ta_le, ta_nle, ta_eq, ta_neq, ta_nne, ta_ne, gs_id, a_gd01, a_gdT, or_true, true_or, bd_some, bW_sm, a_gd, a_ne, a_rd, Int.toNat_natCast, Int.toNat_add, Int.toNat_mul, Int.reduceToNat, a_gdp, a_cell, and_self, and_true, true_and, w6, b5, b6, c4]
theorem do_hold {n D N c : Nat} {Mx Mm : g_M} (hr : Rel n Mx Mm) (hN : N ≤ 40) (hc : c = min N (9999 - D)) (hD : Mx 2 41 = D) : ∃ (e y m : Nat) (M' W' : g_M), e ≤ c ∧ y ≤ 30 * c ∧ m_X2_holdEvenings c Mx = some ((e : Int), M') ∧ m_X9_arePassed N Mm = some (if c = N then 1 else 0, W') ∧ Rel m M' W' ∧ Fx Mx M' ∧ Fm Mm W' ∧ W' 0 24 = e ∧ W' 0 25 = Mm 0 25 + y := by
  obtain ⟨D', q1, q2, q3⟩ := RF_day (Rel_RF hr)
  have c0 := Rel_c0 hr
  have f0 : Fm Mm (g_wr Mm 0 24 0) := ⟨fun k hk => by rw [a_cell _ (by omega)], fun j hj => by rw [a_ne _ (by omega)]⟩
  have hr1 : Rel (n + 1) Mx (g_wr Mm 0 24 0) := Rel_mk hr (Fx_refl _) f0 (by rw [wr_at]; omega) (by rw [a_ne _ (by omega)]; omega) (by have h := Rel_RF hr; unfold RF at h ⊢; rw [a_cell _ (by omega)]; exact h)
  obtain ⟨e', y', m', M', W', c1, c2, c3, c4, c5⟩ := both_hold (Mx := Mx) (Mm := Mm) (o := Mm 0 25) hN hc (by omega) c 0 g_fuel g_fuel 0 0 (n + 1) Mx (g_wr Mm 0 24 0) (by omega) (by unfold g_fuel; omega) (by unfold g_fuel; omega) (by omega) (by omega) hr1 (by rw [hD]; omega) (by rw [wr_at]; rfl) (by rw [a_ne _ (by omega)]; omega) (Fx_refl _) f0
  rw [Int.natCast_zero] at c3 c4
  refine ⟨e', y', m', M', W', c1, c2, ?_, ?_, c5⟩
  · unfold m_X2_holdEvenings; simp (disch := omega) only [↓reduceIte, ↓nm_eq, ↓jn_eq, ↓c_within, ↓c_isIn, ↓c_isScene, ↓c_isPlace, ↓c_isCue, ↓c_isDigit, ↓d_isScene, ↓d_isAny, ↓ta_pb1, ↓ta_pb0, ↓ta_pb1', ↓ta_pb0', ta_lt, ta_nlt, ta_le, ta_nle, ta_eq, ta_neq, ta_nne, ta_ne, gs_id, a_gd01, a_gdT, or_true, true_or, bd_some, bW_sm, a_gd, a_ne, a_rd, Int.toNat_natCast, Int.toNat_add, Int.toNat_mul, Int.reduceToNat, a_gdp, a_cell, and_self, and_true, true_and, c3]
  · unfold m_X9_arePassed; simp (disch := omega) only [↓reduceIte, ↓nm_eq, ↓jn_eq, ↓c_within, ↓c_isIn, ↓c_isScene, ↓c_isPlace, ↓c_isCue, ↓c_isDigit, ↓d_isScene, ↓d_isAny, ↓ta_pb1, ↓ta_pb0, ↓ta_pb1', ↓ta_pb0', ta_lt, ta_nlt, ta_le, ta_nle, ta_eq, ta_neq, ta_nne, ta_ne, gs_id, a_gd01, a_gdT, or_true, true_or, bd_some, bW_sm, a_gd, a_ne, a_rd, Int.toNat_natCast, Int.toNat_add, Int.toNat_mul, Int.reduceToNat, a_gdp, a_cell, and_self, and_true, true_and, c4]
theorem p_possible {M : g_M} {N D : Nat} (hN : N ≤ 40) (hD : D ≤ 9999) (h : M 2 41 = D) : m_X2_possible N M = some ((min N (9999 - D) : Nat) : Int) := by
  unfold m_X2_possible
  simp (disch := omega) only [↓reduceIte, ↓nm_eq, ↓jn_eq, ↓c_within, ↓c_isIn, ↓c_isScene, ↓c_isPlace, ↓c_isCue, ↓c_isDigit, ↓d_isScene, ↓d_isAny, ↓ta_pb1, ↓ta_pb0, ↓ta_pb1', ↓ta_pb0', ta_lt, ta_nlt, ta_le, ta_nle, ta_eq, ta_neq, ta_nne, ta_ne, gs_id, a_gd01, a_gdT, or_true, true_or, bd_some, bW_sm, a_gd, a_ne, a_rd, Int.toNat_natCast, Int.toNat_add, Int.toNat_mul, Int.reduceToNat, a_gdp, a_cell, and_self, and_true, true_and, h, g_min_of]
  by_cases c : 9999 - (D : Int) < N
  · rw [if_pos c]; apply congrArg; omega
  · rw [if_neg c]; apply congrArg; omega
theorem st_11 : x_step_11 Rel := by
  intro n Mx Mm hr hn a1 h1
  obtain ⟨i1, j1⟩ := h1
  obtain ⟨D, q1, q2, q3⟩ := RF_day (Rel_RF hr)
  have no : (∃ r, m_X8_evening a1 Mx = some (r, Mx) ∧ m_X9_evening a1 Mm = some (r, Mm)) → ∃ (r r' : Int) (Mx' Mm' : g_M), (m_X8_evening a1 Mx = some (r, Mx')) ∧ (m_X9_evening a1 Mm = some (r', Mm')) ∧ gs r = gs r' ∧ Rel (n + 1) Mx' Mm' := fun ⟨r, e1, e2⟩ => ⟨r, r, Mx, Mm, e1, e2, rfl, st_same hr⟩
  by_cases c1 : 1 ≤ a1 ∧ a1 ≤ 40
  rotate_left
  · refine no ⟨-1, ?_, ?_⟩
    · unfold m_X8_evening; simp (disch := omega) only [↓reduceIte, ↓nm_eq, ↓jn_eq, ↓c_within, ↓c_isIn, ↓c_isScene, ↓c_isPlace, ↓c_isCue, ↓c_isDigit, ↓d_isScene, ↓d_isAny, ↓ta_pb1, ↓ta_pb0, ↓ta_pb1', ↓ta_pb0', ta_lt, ta_nlt, ta_le, ta_nle, ta_eq, ta_neq, ta_nne, ta_ne, gs_id, a_gd01, a_gdT, or_true, true_or, bd_some, bW_sm, a_gd, a_ne, a_rd, Int.toNat_natCast, Int.toNat_add, Int.toNat_mul, Int.reduceToNat, a_gdp, a_cell, and_self, and_true, true_and]
    · unfold m_X9_evening; simp (disch := omega) only [↓reduceIte, ↓nm_eq, ↓jn_eq, ↓c_within, ↓c_isIn, ↓c_isScene, ↓c_isPlace, ↓c_isCue, ↓c_isDigit, ↓d_isScene, ↓d_isAny, ↓ta_pb1, ↓ta_pb0, ↓ta_pb1', ↓ta_pb0', ta_lt, ta_nlt, ta_le, ta_nle, ta_eq, ta_neq, ta_nne, ta_ne, gs_id, a_gd01, a_gdT, or_true, true_or, bd_some, bW_sm, a_gd, a_ne, a_rd, Int.toNat_natCast, Int.toNat_add, Int.toNat_mul, Int.reduceToNat, a_gdp, a_cell, and_self, and_true, true_and]
  obtain ⟨N, rfl⟩ : ∃ s : Nat, a1 = s := ⟨a1.toNat, by omega⟩
  have pp := p_possible (M := Mx) (N := N) (D := D) (by omega) q1 q2
  by_cases c2 : D + N ≤ 9999
  rotate_left
  · refine no ⟨-1, ?_, ?_⟩
    · unfold m_X8_evening; simp (disch := omega) only [↓reduceIte, ↓nm_eq, ↓jn_eq, ↓c_within, ↓c_isIn, ↓c_isScene, ↓c_isPlace, ↓c_isCue, ↓c_isDigit, ↓d_isScene, ↓d_isAny, ↓ta_pb1, ↓ta_pb0, ↓ta_pb1', ↓ta_pb0', ta_lt, ta_nlt, ta_le, ta_nle, ta_eq, ta_neq, ta_nne, ta_ne, gs_id, a_gd01, a_gdT, or_true, true_or, bd_some, bW_sm, a_gd, a_ne, a_rd, Int.toNat_natCast, Int.toNat_add, Int.toNat_mul, Int.reduceToNat, a_gdp, a_cell, and_self, and_true, true_and, pp]
    · unfold m_X9_evening; simp (disch := omega) only [↓reduceIte, ↓nm_eq, ↓jn_eq, ↓c_within, ↓c_isIn, ↓c_isScene, ↓c_isPlace, ↓c_isCue, ↓c_isDigit, ↓d_isScene, ↓d_isAny, ↓ta_pb1, ↓ta_pb0, ↓ta_pb1', ↓ta_pb0', ta_lt, ta_nlt, ta_le, ta_nle, ta_eq, ta_neq, ta_nne, ta_ne, gs_id, a_gd01, a_gdT, or_true, true_or, bd_some, bW_sm, a_gd, a_ne, a_rd, Int.toNat_natCast, Int.toNat_add, Int.toNat_mul, Int.reduceToNat, a_gdp, a_cell, and_self, and_true, true_and, q3]
  obtain ⟨e, y, m, M', W', c3, c4, c5, c6, c7, c8, c9, c10, c11⟩ := do_hold (c := N) hr (N := N) (D := D) (by omega) (by omega) q2
  rw [if_pos rfl] at c6
  have e0 : min N (9999 - D) = N := by omega
  rw [e0] at pp
  have c0 := Rel_c0 hr
  refine ⟨e, e, M', W', ?_, ?_, rfl, Rel_mk hr c8 c9 (by omega) (by omega) (Rel_RF c7)⟩
  · unfold m_X8_evening; simp (disch := omega) only [↓reduceIte, ↓nm_eq, ↓jn_eq, ↓c_within, ↓c_isIn, ↓c_isScene, ↓c_isPlace, ↓c_isCue, ↓c_isDigit, ↓d_isScene, ↓d_isAny, ↓ta_pb1, ↓ta_pb0, ↓ta_pb1', ↓ta_pb0', ta_lt, ta_nlt, ta_le, ta_nle, ta_eq, ta_neq, ta_nne, ta_ne, gs_id, a_gd01, a_gdT, or_true, true_or, bd_some, bW_sm, a_gd, a_ne, a_rd, Int.toNat_natCast, Int.toNat_add, Int.toNat_mul, Int.reduceToNat, a_gdp, a_cell, and_self, and_true, true_and, pp, c5]
  · unfold m_X9_evening; simp (disch := omega) only [↓reduceIte, ↓nm_eq, ↓jn_eq, ↓c_within, ↓c_isIn, ↓c_isScene, ↓c_isPlace, ↓c_isCue, ↓c_isDigit, ↓d_isScene, ↓d_isAny, ↓ta_pb1, ↓ta_pb0, ↓ta_pb1', ↓ta_pb0', ta_lt, ta_nlt, ta_le, ta_nle, ta_eq, ta_neq, ta_nne, ta_ne, gs_id, a_gd01, a_gdT, or_true, true_or, bd_some, bW_sm, a_gd, a_ne, a_rd, Int.toNat_natCast, Int.toNat_add, Int.toNat_mul, Int.reduceToNat, a_gdp, a_cell, and_self, and_true, true_and, q3, c6, c10]
