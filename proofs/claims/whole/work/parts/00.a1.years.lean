/-! played, years: both -/
theorem both_played {t n : Nat} {Mx Mm : g_M} (ht : t < 4) (hn : n ≤ 24) (c6 : Mx (41 + 6 * t) 6 = n) (b0 : Mm 3 (705 * t) = n) (hcl : ∀ k : Nat, k < n → R_clause (Mx (41 + 6 * t + 4) k) (fun j => Mx (41 + 6 * t + 5) (3 * k + j)) (fun j => Mm 3 (705 * t + (1 + 4 * k + j)))) : ∀ (d i f g m : Nat) (M W : g_M), i + d = n → d < f → d < g → Rel m M W → Fx Mx M → Fm Mm W → W 0 24 ≤ Mm 0 24 + 40 → W 0 25 ≤ Mm 0 25 + 1200 * i → 0 ≤ Mm 0 24 → ∃ (r : Int) (m' : Nat) (M' W' : g_M), m_X8_played_L25 (41 + 6 * t) f i M = some (r, M') ∧ m_X9_played_L21 t g i W = some (r, W') ∧ Rel m' M' W' ∧ Fx Mx M' ∧ Fm Mm W' ∧ W' 0 24 ≤ Mm 0 24 + 40 ∧ W' 0 25 ≤ Mm 0 25 + 28800 := by
  intro d
  induction d with
  | zero =>
    intro i f g m M W h1 h2 h3 h4 h5 h6 h7 h8 h9
    obtain ⟨f, rfl⟩ : ∃ f', f = f' + 1 := ⟨f - 1, by omega⟩
    obtain ⟨g, rfl⟩ : ∃ f', g = f' + 1 := ⟨g - 1, by omega⟩
    have e1 : M (41 + 6 * t) 6 = n := by rw [h5.1 _ (by omega)]; exact c6
    have e2 : W 3 (705 * t) = n := by rw [h6.1 3 (by omega)]; exact b0
    refine ⟨-1, m, M, W, ?_, ?_, h4, h5, h6, h7, by omega⟩
    · rw [m_X8_played_L25]; simp (disch := omega) only [↓reduceIte, ↓nm_eq, ↓jn_eq, ↓c_within, ↓c_isIn, ↓c_isScene, ↓c_isPlace, ↓c_isCue, ↓c_isDigit, ↓d_isScene, ↓d_isAny, ↓ta_pb1, ↓ta_pb0, ↓ta_pb1', ↓ta_pb0', ta_lt, ta_nlt, ta_le, ta_nle, ta_eq, ta_neq, ta_nne, ta_ne, gs_id, a_gd01, a_gdT, or_true, true_or, bd_some, bW_sm, a_gd, a_ne, a_rd, Int.toNat_natCast, Int.toNat_add, Int.toNat_mul, Int.reduceToNat, a_gdp, a_cell, and_self, and_true, true_and, e1]
    · rw [m_X9_played_L21]; simp (disch := omega) only [↓reduceIte, ↓nm_eq, ↓jn_eq, ↓c_within, ↓c_isIn, ↓c_isScene, ↓c_isPlace, ↓c_isCue, ↓c_isDigit, ↓d_isScene, ↓d_isAny, ↓ta_pb1, ↓ta_pb0, ↓ta_pb1', ↓ta_pb0', ta_lt, ta_nlt, ta_le, ta_nle, ta_eq, ta_neq, ta_nne, ta_ne, gs_id, a_gd01, a_gdT, or_true, true_or, bd_some, bW_sm, a_gd, a_ne, a_rd, Int.toNat_natCast, Int.toNat_add, Int.toNat_mul, Int.reduceToNat, a_gdp, a_cell, and_self, and_true, true_and, e2]
  | succ d ih =>
    intro i f g m M W h1 h2 h3 h4 h5 h6 h7 h8 h9
    obtain ⟨f, rfl⟩ : ∃ f', f = f' + 1 := ⟨f - 1, by omega⟩
    obtain ⟨g, rfl⟩ : ∃ f', g = f' + 1 := ⟨g - 1, by omega⟩
    have e1 : M (41 + 6 * t) 6 = n := by rw [h5.1 _ (by omega)]; exact c6
    have e2 : W 3 (705 * t) = n := by rw [h6.1 3 (by omega)]; exact b0
    have m4 : M (41 + 6 * t + 4) = Mx (41 + 6 * t + 4) := h5.1 _ (by omega)
    have m5 : M (41 + 6 * t + 5) = Mx (41 + 6 * t + 5) := h5.1 _ (by omega)
    obtain ⟨r, m', M', W', r1, r2, r3, r4, r5, r6, r7, r8⟩ := do_clause h4 (hcl i (by omega)) (Y := 705 * t + 1 + 4 * i) (by omega) (fun j hj => by rw [h6.1 3 (by omega), show 705 * t + 1 + 4 * i + j = 705 * t + (1 + 4 * i + j) by omega])
    have n0 : m_X7_numberOf (41 + 6 * t) i 0 M = some (Mx (41 + 6 * t + 5) (3 * i)) := by
      unfold m_X7_numberOf
      simp (disch := omega) only [↓reduceIte, ↓nm_eq, ↓jn_eq, ↓c_within, ↓c_isIn, ↓c_isScene, ↓c_isPlace, ↓c_isCue, ↓c_isDigit, ↓d_isScene, ↓d_isAny, ↓ta_pb1, ↓ta_pb0, ↓ta_pb1', ↓ta_pb0', ta_lt, ta_nlt, ta_le, ta_nle, ta_eq, ta_neq, ta_nne, ta_ne, gs_id, a_gd01, a_gdT, or_true, true_or, bd_some, bW_sm, a_gd, a_ne, a_rd, Int.toNat_natCast, Int.toNat_add, Int.toNat_mul, Int.reduceToNat, a_gdp, a_cell, and_self, and_true, true_and, m5, Nat.mul_comm 3 i, Nat.add_zero]
    have n1 : m_X7_numberOf (41 + 6 * t) i 1 M = some (Mx (41 + 6 * t + 5) (3 * i + 1)) := by
      unfold m_X7_numberOf
      simp (disch := omega) only [↓reduceIte, ↓nm_eq, ↓jn_eq, ↓c_within, ↓c_isIn, ↓c_isScene, ↓c_isPlace, ↓c_isCue, ↓c_isDigit, ↓d_isScene, ↓d_isAny, ↓ta_pb1, ↓ta_pb0, ↓ta_pb1', ↓ta_pb0', ta_lt, ta_nlt, ta_le, ta_nle, ta_eq, ta_neq, ta_nne, ta_ne, gs_id, a_gd01, a_gdT, or_true, true_or, bd_some, bW_sm, a_gd, a_ne, a_rd, Int.toNat_natCast, Int.toNat_add, Int.toNat_mul, Int.reduceToNat, a_gdp, a_cell, and_self, and_true, true_and, m5, Nat.mul_comm 3 i]
    have n2 : m_X7_numberOf (41 + 6 * t) i 2 M = some (Mx (41 + 6 * t + 5) (3 * i + 2)) := by
      unfold m_X7_numberOf
      simp (disch := omega) only [↓reduceIte, ↓nm_eq, ↓jn_eq, ↓c_within, ↓c_isIn, ↓c_isScene, ↓c_isPlace, ↓c_isCue, ↓c_isDigit, ↓d_isScene, ↓d_isAny, ↓ta_pb1, ↓ta_pb0, ↓ta_pb1', ↓ta_pb0', ta_lt, ta_nlt, ta_le, ta_nle, ta_eq, ta_neq, ta_nne, ta_ne, gs_id, a_gd01, a_gdT, or_true, true_or, bd_some, bW_sm, a_gd, a_ne, a_rd, Int.toNat_natCast, Int.toNat_add, Int.toNat_mul, Int.reduceToNat, a_gdp, a_cell, and_self, and_true, true_and, m5, Nat.mul_comm 3 i]
    have r2' : m_X2_perform (Mx (41 + 6 * t + 4) i) (Mx (41 + 6 * t + 5) (3 * i)) (Mx (41 + 6 * t + 5) (3 * i + 1)) (Mx (41 + 6 * t + 5) (3 * i + 2)) M = some ((r : Int), M') := r2
    have r3' : m_X9_isPlayed (705 * (t : Int) + 1 + 4 * (i : Int)) W = some ((r : Int), W') := by
      rw [show 705 * (t : Int) + 1 + 4 * (i : Int) = ((705 * t + 1 + 4 * i : Nat) : Int) by omega]
      exact r3
    by_cases z : r = 0
    · refine ⟨i, m', M', W', ?_, ?_, r4, Fx_trans h5 r5, Fm_trans h6 r6, by omega, by omega⟩
      · rw [m_X8_played_L25]; simp (disch := omega) only [↓reduceIte, ↓nm_eq, ↓jn_eq, ↓c_within, ↓c_isIn, ↓c_isScene, ↓c_isPlace, ↓c_isCue, ↓c_isDigit, ↓d_isScene, ↓d_isAny, ↓ta_pb1, ↓ta_pb0, ↓ta_pb1', ↓ta_pb0', ta_lt, ta_nlt, ta_le, ta_nle, ta_eq, ta_neq, ta_nne, ta_ne, gs_id, a_gd01, a_gdT, or_true, true_or, bd_some, bW_sm, a_gd, a_ne, a_rd, Int.toNat_natCast, Int.toNat_add, Int.toNat_mul, Int.reduceToNat, a_gdp, a_cell, and_self, and_true, true_and, e1, n0, n1, n2, m4, r2']
      · rw [m_X9_played_L21]; simp (disch := omega) only [↓reduceIte, ↓nm_eq, ↓jn_eq, ↓c_within, ↓c_isIn, ↓c_isScene, ↓c_isPlace, ↓c_isCue, ↓c_isDigit, ↓d_isScene, ↓d_isAny, ↓ta_pb1, ↓ta_pb0, ↓ta_pb1', ↓ta_pb0', ta_lt, ta_nlt, ta_le, ta_nle, ta_eq, ta_neq, ta_nne, ta_ne, gs_id, a_gd01, a_gdT, or_true, true_or, bd_some, bW_sm, a_gd, a_ne, a_rd, Int.toNat_natCast, Int.toNat_add, Int.toNat_mul, Int.reduceToNat, a_gdp, a_cell, and_self, and_true, true_and, e2, r3']
    · obtain ⟨r0, m2, M2, W2, q1, q2, q3⟩ := ih (i + 1) f g m' M' W' (by omega) (by omega) (by omega) r4 (Fx_trans h5 r5) (Fm_trans h6 r6) (by omega) (by omega) h9
      rw [Int.natCast_add, Int.natCast_one] at q1 q2
      refine ⟨r0, m2, M2, W2, ?_, ?_, q3⟩
      · rw [m_X8_played_L25]; simp (disch := omega) only [↓reduceIte, ↓nm_eq, ↓jn_eq, ↓c_within, ↓c_isIn, ↓c_isScene, ↓c_isPlace, ↓c_isCue, ↓c_isDigit, ↓d_isScene, ↓d_isAny, ↓ta_pb1, ↓ta_pb0, ↓ta_pb1', ↓ta_pb0', ta_lt, ta_nlt, ta_le, ta_nle, ta_eq, ta_neq, ta_nne, ta_ne, gs_id, a_gd01, a_gdT, or_true, true_or, bd_some, bW_sm, a_gd, a_ne, a_rd, Int.toNat_natCast, Int.toNat_add, Int.toNat_mul, Int.reduceToNat, a_gdp, a_cell, and_self, and_true, true_and, e1, n0, n1, n2, m4, r2', q1]
      · rw [m_X9_played_L21]; simp (disch := omega) only [↓reduceIte, ↓nm_eq, ↓jn_eq, ↓c_within, ↓c_isIn, ↓c_isScene, ↓c_isPlace, ↓c_isCue, ↓c_isDigit, ↓d_isScene, ↓d_isAny, ↓ta_pb1, ↓ta_pb0, ↓ta_pb1', ↓ta_pb0', ta_lt, ta_nlt, ta_le, ta_nle, ta_eq, ta_neq, ta_nne, ta_ne, gs_id, a_gd01, a_gdT, or_true, true_or, bd_some, bW_sm, a_gd, a_ne, a_rd, Int.toNat_natCast, Int.toNat_add, Int.toNat_mul, Int.reduceToNat, a_gdp, a_cell, and_self, and_true, true_and, e2, r3', q2]
theorem st_12 : x_step_12 Rel := by
  intro n Mx Mm hr hn a1 h1
  obtain ⟨i1, j1⟩ := h1
  obtain ⟨P, T, S, E, C, F, hP, ⟨hT1, hT2, hT3⟩, -⟩ := Rel_RF hr
  have htx := hr.2.2.2.2.2.1
  by_cases c1 : 0 ≤ a1 ∧ a1 < T
  rotate_left
  · refine ⟨-2, -2, Mx, Mm, ?_, ?_, rfl, st_same hr⟩
    · have e := p_isText (a := a1) (M := Mx) (gs_id i1 j1) hT2 hT1
      rw [pb_f c1] at e
      unfold m_X8_played; simp (disch := omega) only [↓reduceIte, ↓nm_eq, ↓jn_eq, ↓c_within, ↓c_isIn, ↓c_isScene, ↓c_isPlace, ↓c_isCue, ↓c_isDigit, ↓d_isScene, ↓d_isAny, ↓ta_pb1, ↓ta_pb0, ↓ta_pb1', ↓ta_pb0', ta_lt, ta_nlt, ta_le, ta_nle, ta_eq, ta_neq, ta_nne, ta_ne, gs_id, a_gd01, a_gdT, or_true, true_or, bd_some, bW_sm, a_gd, a_ne, a_rd, Int.toNat_natCast, Int.toNat_add, Int.toNat_mul, Int.reduceToNat, a_gdp, a_cell, and_self, and_true, true_and, e]
    · unfold m_X9_played; simp (disch := omega) only [↓reduceIte, ↓nm_eq, ↓jn_eq, ↓c_within, ↓c_isIn, ↓c_isScene, ↓c_isPlace, ↓c_isCue, ↓c_isDigit, ↓d_isScene, ↓d_isAny, ↓ta_pb1, ↓ta_pb0, ↓ta_pb1', ↓ta_pb0', ta_lt, ta_nlt, ta_le, ta_nle, ta_eq, ta_neq, ta_nne, ta_ne, gs_id, a_gd01, a_gdT, or_true, true_or, bd_some, bW_sm, a_gd, a_ne, a_rd, Int.toNat_natCast, Int.toNat_add, Int.toNat_mul, Int.reduceToNat, a_gdp, a_cell, and_self, and_true, true_and, hT3]
  obtain ⟨t, rfl⟩ : ∃ s : Nat, a1 = s := ⟨a1.toNat, by omega⟩
  have e := p_isText (a := t) (M := Mx) (gs_id i1 j1) hT2 hT1
  rw [pb_t c1] at e
  obtain ⟨k, k1, k2, k3, k4, -⟩ := htx t (by omega)
  have e2 : m_X3_textOf t Mx = some (41 + 6 * t) := by
    unfold m_X3_textOf
    simp (disch := omega) only [↓reduceIte, ↓nm_eq, ↓jn_eq, ↓c_within, ↓c_isIn, ↓c_isScene, ↓c_isPlace, ↓c_isCue, ↓c_isDigit, ↓d_isScene, ↓d_isAny, ↓ta_pb1, ↓ta_pb0, ↓ta_pb1', ↓ta_pb0', ta_lt, ta_nlt, ta_le, ta_nle, ta_eq, ta_neq, ta_nne, ta_ne, gs_id, a_gd01, a_gdT, or_true, true_or, bd_some, bW_sm, a_gd, a_ne, a_rd, Int.toNat_natCast, Int.toNat_add, Int.toNat_mul, Int.reduceToNat, a_gdp, a_cell, and_self, and_true, true_and]
    rfl
  obtain ⟨r, m, M', W', q1, q2, q3, q4, q5, q6, q7⟩ := both_played (t := t) (n := k) (Mx := Mx) (Mm := Mm) (by omega) k1 k2 k3 k4 k 0 g_fuel g_fuel n Mx Mm (by omega) (by unfold g_fuel; omega) (by unfold g_fuel; omega) hr (Fx_refl _) (Fm_refl _) (by omega) (by omega) (Rel_c0 hr).1
  rw [Int.natCast_zero] at q1 q2
  have c0 := Rel_c0 q3
  refine ⟨r, r, M', W', ?_, ?_, rfl, Rel_mk hr q4 q5 (by omega) (by omega) (Rel_RF q3)⟩
  · have xt : xT (41 + 6 * t) := by unfold xT; omega
    unfold m_X8_played; simp (disch := omega) only [↓reduceIte, ↓nm_eq, ↓jn_eq, ↓c_within, ↓c_isIn, ↓c_isScene, ↓c_isPlace, ↓c_isCue, ↓c_isDigit, ↓d_isScene, ↓d_isAny, ↓ta_pb1, ↓ta_pb0, ↓ta_pb1', ↓ta_pb0', ta_lt, ta_nlt, ta_le, ta_nle, ta_eq, ta_neq, ta_nne, ta_ne, gs_id, a_gd01, a_gdT, or_true, true_or, bd_some, bW_sm, a_gd, a_ne, a_rd, Int.toNat_natCast, Int.toNat_add, Int.toNat_mul, Int.reduceToNat, a_gdp, a_cell, and_self, and_true, true_and, e, e2, q1]
  · unfold m_X9_played; simp (disch := omega) only [↓reduceIte, ↓nm_eq, ↓jn_eq, ↓c_within, ↓c_isIn, ↓c_isScene, ↓c_isPlace, ↓c_isCue, ↓c_isDigit, ↓d_isScene, ↓d_isAny, ↓ta_pb1, ↓ta_pb0, ↓ta_pb1', ↓ta_pb0', ta_lt, ta_nlt, ta_le, ta_nle, ta_eq, ta_neq, ta_nne, ta_ne, gs_id, a_gd01, a_gdT, or_true, true_or, bd_some, bW_sm, a_gd, a_ne, a_rd, Int.toNat_natCast, Int.toNat_add, Int.toNat_mul, Int.reduceToNat, a_gdp, a_cell, and_self, and_true, true_and, hT3, q2]
theorem RF_setdraw {M W : g_M} (H : RF M W) {v : Int} (hv : 0 ≤ v ∧ v < 30577) : RF (g_wr M 2 42 v) (g_wr W 1 7 v) := by
  refine RF_snap H (fun k hk h => a_cell _ h) (fun P hP h7 hs => ?_) (fun j hj => a_ne _ (by omega)) (fun q hq => ⟨a_ne _ (by omega), a_ne _ (by omega)⟩)
  obtain ⟨D, d1, d2, d3, d4, d5, d6, d7, d8, d9, d10⟩ := hs
  refine ⟨D, d1, ?_, ?_, ?_, ?_, ?_, fun s hs => ?_, fun s hs => ?_, fun q hq => ?_, R_book_cg d10 (fun j a b => a_ne _ (by omega)) (fun i hi => a_ne _ (by omega))⟩
  · rw [a_ne _ (by omega)]; exact d2
  · show g_wr W 1 7 v 1 6 = _
    rw [a_ne _ (by omega)]; exact d3
  · show 0 ≤ g_wr M 2 42 v 2 42 ∧ g_wr M 2 42 v 2 42 < 30577 ∧ g_wr W 1 7 v 1 7 = g_wr M 2 42 v 2 42
    rw [wr_at, wr_at]
    exact ⟨hv.1, hv.2, rfl⟩
  · show 0 ≤ g_wr M 2 42 v 2 40 ∧ g_wr M 2 42 v 2 40 ≤ D ∧ g_wr W 1 7 v 1 8 = g_wr M 2 42 v 2 40
    rw [a_ne _ (by omega), a_ne _ (by omega)]; exact d5
  · show g_wr W 1 7 v 1 9 = _
    rw [a_ne _ (by omega)]; exact d6
  · show 0 ≤ g_wr M 2 42 v 2 (28 + s) ∧ g_wr M 2 42 v 2 (28 + s) ≤ 9999 ∧ g_wr W 1 7 v 1 (6 + (4 + s)) = g_wr M 2 42 v 2 (28 + s)
    rw [a_ne _ (by omega), a_ne _ (by omega)]; exact d7 s hs
  · show 0 ≤ g_wr M 2 42 v 2 (16 + s) ∧ g_wr M 2 42 v 2 (16 + s) ≤ 12 ∧ g_wr W 1 7 v 1 (6 + (16 + s)) = g_wr M 2 42 v 2 (16 + s)
    rw [a_ne _ (by omega), a_ne _ (by omega)]; exact d8 s hs
  · show 0 ≤ g_wr M 2 42 v 2 q ∧ g_wr M 2 42 v 2 q ≤ 9 ∧ g_wr W 1 7 v 1 (34 + 4 * q + 0) = g_wr M 2 42 v 2 q ∧ 0 ≤ g_wr M 2 42 v 2 (8 + q) ∧ g_wr M 2 42 v 2 (8 + q) ≤ 99 ∧ g_wr W 1 7 v 1 (34 + 4 * q + 1) = g_wr M 2 42 v 2 (8 + q)
    rw [a_ne _ (by omega), a_ne _ (by omega), a_ne _ (by omega), a_ne _ (by omega)]; exact d9 q hq
theorem RF_setrow {M W : g_M} (H : RF M W) {P q : Nat} (h7 : M 1 7 = P) (hq : q < P) {v : Int} (hv : 0 ≤ v ∧ v ≤ 9) : RF (g_wr M 2 q v) (g_wr W 1 (34 + 4 * q) v) := by
  refine RF_snap H (fun k hk h => a_cell _ h) (fun P' hP' h7' hs => ?_) (fun j hj => ?_) (fun p hp => by simp (disch := omega) only [↓reduceIte, ↓nm_eq, ↓jn_eq, ↓c_within, ↓c_isIn, ↓c_isScene, ↓c_isPlace, ↓c_isCue, ↓c_isDigit, ↓d_isScene, ↓d_isAny, ↓ta_pb1, ↓ta_pb0, ↓ta_pb1', ↓ta_pb0', ta_lt, ta_nlt, ta_le, ta_nle, ta_eq, ta_neq, ta_nne, ta_ne, gs_id, a_gd01, a_gdT, or_true, true_or, bd_some, bW_sm, a_gd, a_ne, a_rd, Int.toNat_natCast, Int.toNat_add, Int.toNat_mul, Int.reduceToNat, a_gdp, a_cell, and_self, and_true, true_and])
  · have eP : P' = P := by omega
    subst eP
    exact R_snap_seat (q := q) hv hP' (by omega) hs (fun j hj h => by simp (disch := omega) only [↓reduceIte, ↓nm_eq, ↓jn_eq, ↓c_within, ↓c_isIn, ↓c_isScene, ↓c_isPlace, ↓c_isCue, ↓c_isDigit, ↓d_isScene, ↓d_isAny, ↓ta_pb1, ↓ta_pb0, ↓ta_pb1', ↓ta_pb0', ta_lt, ta_nlt, ta_le, ta_nle, ta_eq, ta_neq, ta_nne, ta_ne, gs_id, a_gd01, a_gdT, or_true, true_or, bd_some, bW_sm, a_gd, a_ne, a_rd, Int.toNat_natCast, Int.toNat_add, Int.toNat_mul, Int.reduceToNat, a_gdp, a_cell, and_self, and_true, true_and]) (by simp (disch := omega) only [↓reduceIte, ↓nm_eq, ↓jn_eq, ↓c_within, ↓c_isIn, ↓c_isScene, ↓c_isPlace, ↓c_isCue, ↓c_isDigit, ↓d_isScene, ↓d_isAny, ↓ta_pb1, ↓ta_pb0, ↓ta_pb1', ↓ta_pb0', ta_lt, ta_nlt, ta_le, ta_nle, ta_eq, ta_neq, ta_nne, ta_ne, gs_id, a_gd01, a_gdT, or_true, true_or, bd_some, bW_sm, a_gd, a_ne, a_rd, Int.toNat_natCast, Int.toNat_add, Int.toNat_mul, Int.reduceToNat, a_gdp, a_cell, and_self, and_true, true_and]) (fun j hj => by simp (disch := omega) only [↓reduceIte, ↓nm_eq, ↓jn_eq, ↓c_within, ↓c_isIn, ↓c_isScene, ↓c_isPlace, ↓c_isCue, ↓c_isDigit, ↓d_isScene, ↓d_isAny, ↓ta_pb1, ↓ta_pb0, ↓ta_pb1', ↓ta_pb0', ta_lt, ta_nlt, ta_le, ta_nle, ta_eq, ta_neq, ta_nne, ta_ne, gs_id, a_gd01, a_gdT, or_true, true_or, bd_some, bW_sm, a_gd, a_ne, a_rd, Int.toNat_natCast, Int.toNat_add, Int.toNat_mul, Int.reduceToNat, a_gdp, a_cell, and_self, and_true, true_and]) (fun p i hp hi h => by simp (disch := omega) only [↓reduceIte, ↓nm_eq, ↓jn_eq, ↓c_within, ↓c_isIn, ↓c_isScene, ↓c_isPlace, ↓c_isCue, ↓c_isDigit, ↓d_isScene, ↓d_isAny, ↓ta_pb1, ↓ta_pb0, ↓ta_pb1', ↓ta_pb0', ta_lt, ta_nlt, ta_le, ta_nle, ta_eq, ta_neq, ta_nne, ta_ne, gs_id, a_gd01, a_gdT, or_true, true_or, bd_some, bW_sm, a_gd, a_ne, a_rd, Int.toNat_natCast, Int.toNat_add, Int.toNat_mul, Int.reduceToNat, a_gdp, a_cell, and_self, and_true, true_and]) (by simp (disch := omega) only [↓reduceIte, ↓nm_eq, ↓jn_eq, ↓c_within, ↓c_isIn, ↓c_isScene, ↓c_isPlace, ↓c_isCue, ↓c_isDigit, ↓d_isScene, ↓d_isAny, ↓ta_pb1, ↓ta_pb0, ↓ta_pb1', ↓ta_pb0', ta_lt, ta_nlt, ta_le, ta_nle, ta_eq, ta_neq, ta_nne, ta_ne, gs_id, a_gd01, a_gdT, or_true, true_or, bd_some, bW_sm, a_gd, a_ne, a_rd, Int.toNat_natCast, Int.toNat_add, Int.toNat_mul, Int.reduceToNat, a_gdp, a_cell, and_self, and_true, true_and]) (fun i hi => by simp (disch := omega) only [↓reduceIte, ↓nm_eq, ↓jn_eq, ↓c_within, ↓c_isIn, ↓c_isScene, ↓c_isPlace, ↓c_isCue, ↓c_isDigit, ↓d_isScene, ↓d_isAny, ↓ta_pb1, ↓ta_pb0, ↓ta_pb1', ↓ta_pb0', ta_lt, ta_nlt, ta_le, ta_nle, ta_eq, ta_neq, ta_nne, ta_ne, gs_id, a_gd01, a_gdT, or_true, true_or, bd_some, bW_sm, a_gd, a_ne, a_rd, Int.toNat_natCast, Int.toNat_add, Int.toNat_mul, Int.reduceToNat, a_gdp, a_cell, and_self, and_true, true_and])
  · obtain ⟨P', hP, p7, -⟩ := RF_rows H
    exact a_ne _ (by omega)
/-- one year's chance: both -/
theorem do_year {m : Nat} {M W : g_M} (hr : Rel m M W) {x : Int} (hx : 0 ≤ x ∧ x < 30577) : ∃ (m' : Nat) (M' W' : g_M), m_X2_passYear x M = some M' ∧ m_X9_happens x W = some W' ∧ Rel m' M' W' ∧ Fx M M' ∧ Fm W W' ∧ W' 0 24 ≤ W 0 24 + 1 ∧ W' 0 25 ≤ W 0 25 + 30 := by
  have H := Rel_RF hr
  obtain ⟨P, hP, p7, p0, hq⟩ := RF_rows H
  obtain ⟨D, f1, f2, f3, f4, f5, f6, f7, f8⟩ := RF_snapf H
  obtain ⟨g1, g2⟩ := RF_lead H
  obtain ⟨X, rfl⟩ : ∃ X : Nat, x = X := ⟨x.toNat, by omega⟩
  obtain ⟨s, hs⟩ : ∃ s, s = X % 12 := ⟨_, rfl⟩
  have hs12 : s < 12 := by omega
  have r12 : g_rem (X : Int) 12 = s := by rw [g_rem_nn (by omega) (by omega)]; omega
  have r5 : g_rem (X : Int) 5 = ((X % 5 : Nat) : Int) := by rw [g_rem_nn (by omega) (by omega)]; omega
  have r3 : g_rem (X : Int) 3 = ((X % 3 : Nat) : Int) := by rw [g_rem_nn (by omega) (by omega)]; omega
  have v5 : g_div (X : Int) 5 = ((X / 5 : Nat) : Int) := by rw [g_div_nn (by omega) (by omega)]; omega
  have r10 : g_rem ((X / 5 : Nat) : Int) 10 = ((X / 5 % 10 : Nat) : Int) := by rw [g_rem_nn (by omega) (by omega)]; omega
  have same : (m_X2_passYear (X : Int) M = some M ∧ m_X9_happens (X : Int) W = some W) → ∃ (m' : Nat) (M' W' : g_M), m_X2_passYear (X : Int) M = some M' ∧ m_X9_happens (X : Int) W = some W' ∧ Rel m' M' W' ∧ Fx M M' ∧ Fm W W' ∧ W' 0 24 ≤ W 0 24 + 1 ∧ W' 0 25 ≤ W 0 25 + 30 := fun ⟨a, b⟩ => ⟨m, M, W, a, b, hr, Fx_refl _, Fm_refl _, by omega, by omega⟩
  have step : ∀ M' W' : g_M, m_X2_passYear (X : Int) M = some M' → m_X9_happens (X : Int) W = some W' → RF M' W' → Fx M M' → Fm W W' → W' 0 = W 0 → ∃ (m' : Nat) (M' W' : g_M), m_X2_passYear (X : Int) M = some M' ∧ m_X9_happens (X : Int) W = some W' ∧ Rel m' M' W' ∧ Fx M M' ∧ Fm W W' ∧ W' 0 24 ≤ W 0 24 + 1 ∧ W' 0 25 ≤ W 0 25 + 30 := fun M' W' a b c d e f => ⟨m + 1, M', W', a, b, Rel_mk hr d e (Rel_c hr f).1 (Rel_c hr f).2 c, d, e, by rw [f]; omega, by rw [f]; omega⟩
  by_cases c0 : X % 5 = 0
  · by_cases cP : P = 0
    · refine same ⟨?_, ?_⟩
      · unfold m_X2_passYear; simp (disch := omega) only [↓reduceIte, ↓nm_eq, ↓jn_eq, ↓c_within, ↓c_isIn, ↓c_isScene, ↓c_isPlace, ↓c_isCue, ↓c_isDigit, ↓d_isScene, ↓d_isAny, ↓ta_pb1, ↓ta_pb0, ↓ta_pb1', ↓ta_pb0', ta_lt, ta_nlt, ta_le, ta_nle, ta_eq, ta_neq, ta_nne, ta_ne, gs_id, a_gd01, a_gdT, or_true, true_or, bd_some, bW_sm, a_gd, a_ne, a_rd, Int.toNat_natCast, Int.toNat_add, Int.toNat_mul, Int.reduceToNat, a_gdp, a_cell, and_self, and_true, true_and, r12, r5, c0, p7]
      · unfold m_X9_happens; simp (disch := omega) only [↓reduceIte, ↓nm_eq, ↓jn_eq, ↓c_within, ↓c_isIn, ↓c_isScene, ↓c_isPlace, ↓c_isCue, ↓c_isDigit, ↓d_isScene, ↓d_isAny, ↓ta_pb1, ↓ta_pb0, ↓ta_pb1', ↓ta_pb0', ta_lt, ta_nlt, ta_le, ta_nle, ta_eq, ta_neq, ta_nne, ta_ne, gs_id, a_gd01, a_gdT, or_true, true_or, bd_some, bW_sm, a_gd, a_ne, a_rd, Int.toNat_natCast, Int.toNat_add, Int.toNat_mul, Int.reduceToNat, a_gdp, a_cell, and_self, and_true, true_and, r12, r5, c0, p0]
    · have rP : g_rem (X : Int) P = ((X % P : Nat) : Int) := by rw [g_rem_nn (by omega) (by omega)]; omega
      have hq : X % P < P := Nat.mod_lt _ (by omega)
      obtain ⟨q, hq2⟩ : ∃ q, q = X % P := ⟨_, rfl⟩
      rw [← hq2] at rP hq
      refine step (g_wr M 2 q ((X / 5 % 10 : Nat) : Int)) (g_wr W 1 (34 + 4 * q) ((X / 5 % 10 : Nat) : Int)) ?_ ?_ (RF_setrow H p7 hq (by omega)) (Fx_wr2 _ _ _) (Fm_wr1 _ _ _) (a_cell _ (by omega))
      · unfold m_X2_passYear; simp (disch := omega) only [↓reduceIte, ↓nm_eq, ↓jn_eq, ↓c_within, ↓c_isIn, ↓c_isScene, ↓c_isPlace, ↓c_isCue, ↓c_isDigit, ↓d_isScene, ↓d_isAny, ↓ta_pb1, ↓ta_pb0, ↓ta_pb1', ↓ta_pb0', ta_lt, ta_nlt, ta_le, ta_nle, ta_eq, ta_neq, ta_nne, ta_ne, gs_id, a_gd01, a_gdT, or_true, true_or, bd_some, bW_sm, a_gd, a_ne, a_rd, Int.toNat_natCast, Int.toNat_add, Int.toNat_mul, Int.reduceToNat, a_gdp, a_cell, and_self, and_true, true_and, r12, r5, c0, p7, v5, r10, rP, Int.zero_add]
      · unfold m_X9_happens; simp (disch := omega) only [↓reduceIte, ↓nm_eq, ↓jn_eq, ↓c_within, ↓c_isIn, ↓c_isScene, ↓c_isPlace, ↓c_isCue, ↓c_isDigit, ↓d_isScene, ↓d_isAny, ↓ta_pb1, ↓ta_pb0, ↓ta_pb1', ↓ta_pb0', ta_lt, ta_nlt, ta_le, ta_nle, ta_eq, ta_neq, ta_nne, ta_ne, gs_id, a_gd01, a_gdT, or_true, true_or, bd_some, bW_sm, a_gd, a_ne, a_rd, Int.toNat_natCast, Int.toNat_add, Int.toNat_mul, Int.reduceToNat, a_gdp, a_cell, and_self, and_true, true_and, r12, r5, c0, p0, v5, r10, rP, p_put q 0 ((X / 5 % 10 : Nat) : Int) W (34 + 4 * q) (by omega) (by omega)]
  · by_cases c1 : X % 5 = 1
    · have k1 := p_after (M := M) (s := s) (c := 1 + X % 3) (by omega) (by omega)
      have k2 := q_nextOf (W := W) (nw := M 2) (td := M 4) (fun s hs => (g1 s hs).2.2) (fun i hi => (g2 i hi).2.2) (s := s) (c := 1 + X % 3) (by omega) (by omega)
      have nb := nxF_lt (nw := M 2) (td := M 4) (fun s hs => ⟨(g1 s hs).1, (g1 s hs).2.1⟩) (fun i hi => ⟨(g2 i hi).1, (g2 i hi).2.1⟩) (s := s) (c := 1 + X % 3) (by omega) (by omega)
      rw [Int.natCast_add, Int.natCast_one] at k1 k2
      generalize nxF (M 2) (M 4) s (1 + X % 3) = v at k1 k2 nb
      refine step (g_wr M 2 (16 + s) v) (g_wr W 1 (22 + s) v) ?_ ?_ (RF_setlead H hs12 nb) (Fx_wr2 _ _ _) (Fm_wr1 _ _ _) (a_cell _ (by omega))
      · unfold m_X2_passYear; simp (disch := omega) only [↓reduceIte, ↓nm_eq, ↓jn_eq, ↓c_within, ↓c_isIn, ↓c_isScene, ↓c_isPlace, ↓c_isCue, ↓c_isDigit, ↓d_isScene, ↓d_isAny, ↓ta_pb1, ↓ta_pb0, ↓ta_pb1', ↓ta_pb0', ta_lt, ta_nlt, ta_le, ta_nle, ta_eq, ta_neq, ta_nne, ta_ne, gs_id, a_gd01, a_gdT, or_true, true_or, bd_some, bW_sm, a_gd, a_ne, a_rd, Int.toNat_natCast, Int.toNat_add, Int.toNat_mul, Int.reduceToNat, a_gdp, a_cell, and_self, and_true, true_and, r12, r5, c1, r3, k1]
      · unfold m_X9_happens; simp (disch := omega) only [↓reduceIte, ↓nm_eq, ↓jn_eq, ↓c_within, ↓c_isIn, ↓c_isScene, ↓c_isPlace, ↓c_isCue, ↓c_isDigit, ↓d_isScene, ↓d_isAny, ↓ta_pb1, ↓ta_pb0, ↓ta_pb1', ↓ta_pb0', ta_lt, ta_nlt, ta_le, ta_nle, ta_eq, ta_neq, ta_nne, ta_ne, gs_id, a_gd01, a_gdT, or_true, true_or, bd_some, bW_sm, a_gd, a_ne, a_rd, Int.toNat_natCast, Int.toNat_add, Int.toNat_mul, Int.reduceToNat, a_gdp, a_cell, and_self, and_true, true_and, r12, r5, c1, r3, k2]
    · by_cases c2 : X % 5 = 2
      · obtain ⟨b1, b2, b3⟩ := g2 (s * 4) (by omega)
        refine step (g_wr M 2 (16 + s) (M 4 (s * 4))) (g_wr W 1 (22 + s) (M 4 (s * 4))) ?_ ?_ (RF_setlead H hs12 ⟨b1, b2⟩) (Fx_wr2 _ _ _) (Fm_wr1 _ _ _) (a_cell _ (by omega))
        · unfold m_X2_passYear; simp (disch := omega) only [↓reduceIte, ↓nm_eq, ↓jn_eq, ↓c_within, ↓c_isIn, ↓c_isScene, ↓c_isPlace, ↓c_isCue, ↓c_isDigit, ↓d_isScene, ↓d_isAny, ↓ta_pb1, ↓ta_pb0, ↓ta_pb1', ↓ta_pb0', ta_lt, ta_nlt, ta_le, ta_nle, ta_eq, ta_neq, ta_nne, ta_ne, gs_id, a_gd01, a_gdT, or_true, true_or, bd_some, bW_sm, a_gd, a_ne, a_rd, Int.toNat_natCast, Int.toNat_add, Int.toNat_mul, Int.reduceToNat, a_gdp, a_cell, and_self, and_true, true_and, r12, r5, c2]
        · unfold m_X9_happens; simp (disch := omega) only [↓reduceIte, ↓nm_eq, ↓jn_eq, ↓c_within, ↓c_isIn, ↓c_isScene, ↓c_isPlace, ↓c_isCue, ↓c_isDigit, ↓d_isScene, ↓d_isAny, ↓ta_pb1, ↓ta_pb0, ↓ta_pb1', ↓ta_pb0', ta_lt, ta_nlt, ta_le, ta_nle, ta_eq, ta_neq, ta_nne, ta_ne, gs_id, a_gd01, a_gdT, or_true, true_or, bd_some, bW_sm, a_gd, a_ne, a_rd, Int.toNat_natCast, Int.toNat_add, Int.toNat_mul, Int.reduceToNat, a_gdp, a_cell, and_self, and_true, true_and, r12, r5, c2, Nat.mul_comm 4 s, b3]
      · by_cases cD : D = 9999
        · have pp := p_possible (M := M) (N := 1) (D := D) (by omega) f1 f2
          rw [show min 1 (9999 - D) = 0 by omega] at pp
          have pp : m_X2_possible 1 M = some 0 := pp
          refine same ⟨?_, ?_⟩
          · unfold m_X2_passYear; simp (disch := omega) only [↓reduceIte, ↓nm_eq, ↓jn_eq, ↓c_within, ↓c_isIn, ↓c_isScene, ↓c_isPlace, ↓c_isCue, ↓c_isDigit, ↓d_isScene, ↓d_isAny, ↓ta_pb1, ↓ta_pb0, ↓ta_pb1', ↓ta_pb0', ta_lt, ta_nlt, ta_le, ta_nle, ta_eq, ta_neq, ta_nne, ta_ne, gs_id, a_gd01, a_gdT, or_true, true_or, bd_some, bW_sm, a_gd, a_ne, a_rd, Int.toNat_natCast, Int.toNat_add, Int.toNat_mul, Int.reduceToNat, a_gdp, a_cell, and_self, and_true, true_and, r12, r5, pp]
          · unfold m_X9_happens; simp (disch := omega) only [↓reduceIte, ↓nm_eq, ↓jn_eq, ↓c_within, ↓c_isIn, ↓c_isScene, ↓c_isPlace, ↓c_isCue, ↓c_isDigit, ↓d_isScene, ↓d_isAny, ↓ta_pb1, ↓ta_pb0, ↓ta_pb1', ↓ta_pb0', ta_lt, ta_nlt, ta_le, ta_nle, ta_eq, ta_neq, ta_nne, ta_ne, gs_id, a_gd01, a_gdT, or_true, true_or, bd_some, bW_sm, a_gd, a_ne, a_rd, Int.toNat_natCast, Int.toNat_add, Int.toNat_mul, Int.reduceToNat, a_gdp, a_cell, and_self, and_true, true_and, r12, r5, f3]
        · have pp := p_possible (M := M) (N := 1) (D := D) (by omega) f1 f2
          rw [show min 1 (9999 - D) = 1 by omega] at pp
          have pp : m_X2_possible 1 M = some 1 := pp
          obtain ⟨r, j, y, M2, W2, B, b1, b2, b3, b4, b5, b6, b7, b8, b9, b10, b11, b12, b13, b14, b15, b16, b17, b18, b19, b20⟩ := both_evening hr (Ws := W) ⟨rfl, fun _ _ _ => rfl, Or.inr ⟨Rel_23 hr, rfl⟩⟩ (by omega)
          have h1 : Fx M M2 := ⟨fun k hk => b9 k (by omega) (by omega) (by omega) (by omega), fun i hi => by rw [b9 23 (by omega) (by omega) (by omega) (by omega)], by rw [b9 1 (by omega) (by omega) (by omega) (by omega)]⟩
          have h2 : Fm W W2 := ⟨fun k hk => b10 k (by omega) (by omega) (by omega) (by omega) (by omega), fun i hi => b11 i (by omega) (by omega) (by omega)⟩
          have c := Rel_c0 hr
          refine ⟨m + 1, M2, W2, ?_, ?_, Rel_mk hr h1 h2 (by omega) (by omega) (b6 W2 (b8 (Rel_23 hr))), h1, h2, by omega, by omega⟩
          · unfold m_X2_passYear; simp (disch := omega) only [↓reduceIte, ↓nm_eq, ↓jn_eq, ↓c_within, ↓c_isIn, ↓c_isScene, ↓c_isPlace, ↓c_isCue, ↓c_isDigit, ↓d_isScene, ↓d_isAny, ↓ta_pb1, ↓ta_pb0, ↓ta_pb1', ↓ta_pb0', ta_lt, ta_nlt, ta_le, ta_nle, ta_eq, ta_neq, ta_nne, ta_ne, gs_id, a_gd01, a_gdT, or_true, true_or, bd_some, bW_sm, a_gd, a_ne, a_rd, Int.toNat_natCast, Int.toNat_add, Int.toNat_mul, Int.reduceToNat, a_gdp, a_cell, and_self, and_true, true_and, r12, r5, pp, b4]
          · unfold m_X9_happens; simp (disch := omega) only [↓reduceIte, ↓nm_eq, ↓jn_eq, ↓c_within, ↓c_isIn, ↓c_isScene, ↓c_isPlace, ↓c_isCue, ↓c_isDigit, ↓d_isScene, ↓d_isAny, ↓ta_pb1, ↓ta_pb0, ↓ta_pb1', ↓ta_pb0', ta_lt, ta_nlt, ta_le, ta_nle, ta_eq, ta_neq, ta_nne, ta_ne, gs_id, a_gd01, a_gdT, or_true, true_or, bd_some, bW_sm, a_gd, a_ne, a_rd, Int.toNat_natCast, Int.toNat_add, Int.toNat_mul, Int.reduceToNat, a_gdp, a_cell, and_self, and_true, true_and, r12, r5, f3, b5]
