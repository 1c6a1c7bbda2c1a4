/-! round, dead, far, shortest -/
theorem st_29 : x_step_29 Rel := by
  intro n Mx Mm hr hn a1 h1
  obtain ⟨i1, j1⟩ := h1
  by_cases c : 0 ≤ a1 ∧ a1 ≤ 11
  rotate_left
  · refine ⟨-1, -1, Mx, Mm, ?_, ?_, rfl, st_same hr⟩
    · unfold m_X8_round; simp (disch := omega) only [↓reduceIte, ↓nm_eq, ↓jn_eq, ↓c_within, ↓c_isIn, ↓c_isScene, ↓c_isPlace, ↓c_isCue, ↓c_isDigit, ↓d_isScene, ↓d_isAny, ↓ta_pb1, ↓ta_pb0, ↓ta_pb1', ↓ta_pb0', ta_lt, ta_nlt, ta_le, ta_nle, ta_eq, ta_neq, ta_nne, ta_ne, gs_id, a_gd01, a_gdT, or_true, true_or, bd_some, bW_sm, a_gd, a_ne, a_rd, Int.toNat_natCast, Int.toNat_add, Int.toNat_mul, Int.reduceToNat, a_gdp, a_cell, and_self, and_true, true_and]
    · unfold m_X9_round; simp (disch := omega) only [↓reduceIte, ↓nm_eq, ↓jn_eq, ↓c_within, ↓c_isIn, ↓c_isScene, ↓c_isPlace, ↓c_isCue, ↓c_isDigit, ↓d_isScene, ↓d_isAny, ↓ta_pb1, ↓ta_pb0, ↓ta_pb1', ↓ta_pb0', ta_lt, ta_nlt, ta_le, ta_nle, ta_eq, ta_neq, ta_nne, ta_ne, gs_id, a_gd01, a_gdT, or_true, true_or, bd_some, bW_sm, a_gd, a_ne, a_rd, Int.toNat_natCast, Int.toNat_add, Int.toNat_mul, Int.reduceToNat, a_gdp, a_cell, and_self, and_true, true_and]
  obtain ⟨s, rfl⟩ : ∃ s : Nat, a1 = s := ⟨a1.toNat, by omega⟩
  have hs : s ≤ 12 := by omega
  obtain ⟨M', W', nx, f, e1, e2, m1, w1, hn, hsv, hx, hf, m3, w3, -⟩ := both_dst (Rel_RF hr) hs
  obtain ⟨r, r1, r0, r01⟩ : ∃ r : Int, ((∃ c, c < 4 ∧ f (nx s c) ≠ 1000000) → r = 1) ∧ (¬ (∃ c, c < 4 ∧ f (nx s c) ≠ 1000000) → r = 0) ∧ (r = 0 ∨ r = 1) := by
    by_cases p : ∃ c, c < 4 ∧ f (nx s c) ≠ 1000000
    · exact ⟨1, fun _ => rfl, fun z => absurd p z, Or.inr rfl⟩
    · exact ⟨0, fun z => absurd z p, fun _ => rfl, Or.inl rfl⟩
  have k1 : Ok (m_X0_comesAgain_L7 s M' g_fuel 0) (fun q => q = (r, M')) := by
    refine Ok_for 4 (fun f i (_ : Unit) => m_X0_comesAgain_L7 s M' f i) (fun i _ => ∀ c, c < i → f (nx s c) = 1000000) (fun f' u h => ?_) (fun i f' u hi h kk => ?_) 0 g_fuel () (by omega) (by unfold g_fuel; omega) (fun c hc => by omega)
    · show Ok (m_X0_comesAgain_L7 s M' (f' + 1) _) _
      rw [m_X0_comesAgain_L7]
      simp (disch := omega) only [↓reduceIte, ↓nm_eq, ↓jn_eq, ↓c_within, ↓c_isIn, ↓c_isScene, ↓c_isPlace, ↓c_isCue, ↓c_isDigit, ↓d_isScene, ↓d_isAny, ↓ta_pb1, ↓ta_pb0, ↓ta_pb1', ↓ta_pb0', ta_lt, ta_nlt, ta_le, ta_nle, ta_eq, ta_neq, ta_nne, ta_ne, gs_id, a_gd01, a_gdT, or_true, true_or, bd_some, bW_sm, a_gd, a_ne, a_rd, Int.toNat_natCast, Int.toNat_add, Int.toNat_mul, Int.reduceToNat, a_gdp, a_cell, and_self, and_true, true_and]
      exact Ok_some (by rw [r0 (fun ⟨c, hc, z⟩ => z (h c hc))])
    · show Ok (m_X0_comesAgain_L7 s M' (f' + 1) _) _
      rw [m_X0_comesAgain_L7]
      have hu := hn s i hs hi
      have e3 := m3 _ hu
      have e4 := hf _ hu
      have e5 := hsv s i hs hi
      by_cases d : f (nx s i) = 1000000
      · rw [if_pos d] at e3
        simp (disch := omega) only [↓reduceIte, ↓nm_eq, ↓jn_eq, ↓c_within, ↓c_isIn, ↓c_isScene, ↓c_isPlace, ↓c_isCue, ↓c_isDigit, ↓d_isScene, ↓d_isAny, ↓ta_pb1, ↓ta_pb0, ↓ta_pb1', ↓ta_pb0', ta_lt, ta_nlt, ta_le, ta_nle, ta_eq, ta_neq, ta_nne, ta_ne, gs_id, a_gd01, a_gdT, or_true, true_or, bd_some, bW_sm, a_gd, a_ne, a_rd, Int.toNat_natCast, Int.toNat_add, Int.toNat_mul, Int.reduceToNat, a_gdp, a_cell, and_self, and_true, true_and, e5, e3]
        exact kk () (fun c hc => by
          by_cases e : c = i
          · subst e; exact d
          · exact h c (by omega))
      · rw [if_neg d] at e3
        simp (disch := omega) only [↓reduceIte, ↓nm_eq, ↓jn_eq, ↓c_within, ↓c_isIn, ↓c_isScene, ↓c_isPlace, ↓c_isCue, ↓c_isDigit, ↓d_isScene, ↓d_isAny, ↓ta_pb1, ↓ta_pb0, ↓ta_pb1', ↓ta_pb0', ta_lt, ta_nlt, ta_le, ta_nle, ta_eq, ta_neq, ta_nne, ta_ne, gs_id, a_gd01, a_gdT, or_true, true_or, bd_some, bW_sm, a_gd, a_ne, a_rd, Int.toNat_natCast, Int.toNat_add, Int.toNat_mul, Int.reduceToNat, a_gdp, a_cell, and_self, and_true, true_and, e5, e3]
        exact Ok_some (by rw [r1 ⟨i, hi, d⟩])
  have k2 : Ok (m_X9_round_L16 s W' g_fuel 0) (fun q => q = (r, W')) := by
    refine Ok_for 4 (fun f i (_ : Unit) => m_X9_round_L16 s W' f i) (fun i _ => ∀ c, c < i → f (nx s c) = 1000000) (fun f' u h => ?_) (fun i f' u hi h kk => ?_) 0 g_fuel () (by omega) (by unfold g_fuel; omega) (fun c hc => by omega)
    · show Ok (m_X9_round_L16 s W' (f' + 1) _) _
      rw [m_X9_round_L16]
      simp (disch := omega) only [↓reduceIte, ↓nm_eq, ↓jn_eq, ↓c_within, ↓c_isIn, ↓c_isScene, ↓c_isPlace, ↓c_isCue, ↓c_isDigit, ↓d_isScene, ↓d_isAny, ↓ta_pb1, ↓ta_pb0, ↓ta_pb1', ↓ta_pb0', ta_lt, ta_nlt, ta_le, ta_nle, ta_eq, ta_neq, ta_nne, ta_ne, gs_id, a_gd01, a_gdT, or_true, true_or, bd_some, bW_sm, a_gd, a_ne, a_rd, Int.toNat_natCast, Int.toNat_add, Int.toNat_mul, Int.reduceToNat, a_gdp, a_cell, and_self, and_true, true_and]
      exact Ok_some (by rw [r0 (fun ⟨c, hc, z⟩ => z (h c hc))])
    · show Ok (m_X9_round_L16 s W' (f' + 1) _) _
      rw [m_X9_round_L16]
      have hu := hn s i hs hi
      have e3 := w3 _ hu
      have e4 := hf _ hu
      by_cases d : f (nx s i) = 1000000
      · simp (disch := omega) only [↓reduceIte, ↓nm_eq, ↓jn_eq, ↓c_within, ↓c_isIn, ↓c_isScene, ↓c_isPlace, ↓c_isCue, ↓c_isDigit, ↓d_isScene, ↓d_isAny, ↓ta_pb1, ↓ta_pb0, ↓ta_pb1', ↓ta_pb0', ta_lt, ta_nlt, ta_le, ta_nle, ta_eq, ta_neq, ta_nne, ta_ne, gs_id, a_gd01, a_gdT, or_true, true_or, bd_some, bW_sm, a_gd, a_ne, a_rd, Int.toNat_natCast, Int.toNat_add, Int.toNat_mul, Int.reduceToNat, a_gdp, a_cell, and_self, and_true, true_and, hx W' (w1 1 (by omega)) s i hs hi, e3]
        exact kk () (fun c hc => by
          by_cases e : c = i
          · subst e; exact d
          · exact h c (by omega))
      · simp (disch := omega) only [↓reduceIte, ↓nm_eq, ↓jn_eq, ↓c_within, ↓c_isIn, ↓c_isScene, ↓c_isPlace, ↓c_isCue, ↓c_isDigit, ↓d_isScene, ↓d_isAny, ↓ta_pb1, ↓ta_pb0, ↓ta_pb1', ↓ta_pb0', ta_lt, ta_nlt, ta_le, ta_nle, ta_eq, ta_neq, ta_nne, ta_ne, gs_id, a_gd01, a_gdT, or_true, true_or, bd_some, bW_sm, a_gd, a_ne, a_rd, Int.toNat_natCast, Int.toNat_add, Int.toNat_mul, Int.reduceToNat, a_gdp, a_cell, and_self, and_true, true_and, hx W' (w1 1 (by omega)) s i hs hi, e3]
        exact Ok_some (by rw [r1 ⟨i, hi, d⟩])
  obtain ⟨_, k1, rfl⟩ := k1
  obtain ⟨_, k2, rfl⟩ := k2
  refine ⟨r, r, M', W', ?_, ?_, rfl, scr_of hr m1 w1⟩
  · unfold m_X8_round m_X0_comesAgain
    rcases r01 with rfl | rfl
    · simp (disch := omega) only [↓reduceIte, ↓nm_eq, ↓jn_eq, ↓c_within, ↓c_isIn, ↓c_isScene, ↓c_isPlace, ↓c_isCue, ↓c_isDigit, ↓d_isScene, ↓d_isAny, ↓ta_pb1, ↓ta_pb0, ↓ta_pb1', ↓ta_pb0', ta_lt, ta_nlt, ta_le, ta_nle, ta_eq, ta_neq, ta_nne, ta_ne, gs_id, a_gd01, a_gdT, or_true, true_or, bd_some, bW_sm, a_gd, a_ne, a_rd, Int.toNat_natCast, Int.toNat_add, Int.toNat_mul, Int.reduceToNat, a_gdp, a_cell, and_self, and_true, true_and, e1, k1]
    · simp (disch := omega) only [↓reduceIte, ↓nm_eq, ↓jn_eq, ↓c_within, ↓c_isIn, ↓c_isScene, ↓c_isPlace, ↓c_isCue, ↓c_isDigit, ↓d_isScene, ↓d_isAny, ↓ta_pb1, ↓ta_pb0, ↓ta_pb1', ↓ta_pb0', ta_lt, ta_nlt, ta_le, ta_nle, ta_eq, ta_neq, ta_nne, ta_ne, gs_id, a_gd01, a_gdT, or_true, true_or, bd_some, bW_sm, a_gd, a_ne, a_rd, Int.toNat_natCast, Int.toNat_add, Int.toNat_mul, Int.reduceToNat, a_gdp, a_cell, and_self, and_true, true_and, e1, k1]
  · unfold m_X9_round
    simp (disch := omega) only [↓reduceIte, ↓nm_eq, ↓jn_eq, ↓c_within, ↓c_isIn, ↓c_isScene, ↓c_isPlace, ↓c_isCue, ↓c_isDigit, ↓d_isScene, ↓d_isAny, ↓ta_pb1, ↓ta_pb0, ↓ta_pb1', ↓ta_pb0', ta_lt, ta_nlt, ta_le, ta_nle, ta_eq, ta_neq, ta_nne, ta_ne, gs_id, a_gd01, a_gdT, or_true, true_or, bd_some, bW_sm, a_gd, a_ne, a_rd, Int.toNat_natCast, Int.toNat_add, Int.toNat_mul, Int.reduceToNat, a_gdp, a_cell, and_self, and_true, true_and, e2, k2]
theorem st_30 : x_step_30 Rel := by
  intro n Mx Mm hr hn
  obtain ⟨M', W', nx, f, e1, e2, m1, w1, hn, hsv, hx, hf, m3, w3, -⟩ := both_dst (Rel_RF hr) (to := 12) (by omega)
  have h := loop_2 (fun f i s => m_X0_deadBits_L10 M' f s i) (fun f i s => m_X9_dead_L10 W' f s i) 12 (fun i s t => s = t ∧ ∃ v : Nat, v < 2 ^ 12 ∧ s = (v : Int)) (fun a b => ∃ r, a = (r, M') ∧ b = (r, W')) ?_ ?_ 12 0 0 0 g_fuel g_fuel (by omega) (by unfold g_fuel; omega) (by unfold g_fuel; omega) ⟨rfl, 0, by omega, rfl⟩
  · obtain ⟨a, b, k1, k2, r, rfl, rfl⟩ := h
    refine ⟨r, r, M', W', ?_, ?_, rfl, scr_of hr m1 w1⟩
    · unfold m_X8_dead m_X0_deadBits
      rw [show (12 : Int) = ((12 : Nat) : Int) from rfl, e1, bd_some, nm_eq, nm_eq, show m_X0_deadBits_L10 M' g_fuel 0 0 = some (r, M') from k1, bW_sm]
    · unfold m_X9_dead
      rw [show (12 : Int) = ((12 : Nat) : Int) from rfl, e2, bd_some, nm_eq, nm_eq]
      exact k2
  · rintro s t ⟨rfl, v, hv, rfl⟩
    refine ⟨(v, M'), (v, W'), fun f => ?_, fun f => ?_, v, rfl, rfl⟩
    · show m_X0_deadBits_L10 M' (f + 1) v _ = _
      rw [m_X0_deadBits_L10]
      simp (disch := omega) only [↓reduceIte, ↓nm_eq, ↓jn_eq, ↓c_within, ↓c_isIn, ↓c_isScene, ↓c_isPlace, ↓c_isCue, ↓c_isDigit, ↓d_isScene, ↓d_isAny, ↓ta_pb1, ↓ta_pb0, ↓ta_pb1', ↓ta_pb0', ta_lt, ta_nlt, ta_le, ta_nle, ta_eq, ta_neq, ta_nne, ta_ne, gs_id, a_gd01, a_gdT, or_true, true_or, bd_some, bW_sm, a_gd, a_ne, a_rd, Int.toNat_natCast, Int.toNat_add, Int.toNat_mul, Int.reduceToNat, a_gdp, a_cell, and_self, and_true, true_and]
    · show m_X9_dead_L10 W' (f + 1) v _ = _
      rw [m_X9_dead_L10]
      simp (disch := omega) only [↓reduceIte, ↓nm_eq, ↓jn_eq, ↓c_within, ↓c_isIn, ↓c_isScene, ↓c_isPlace, ↓c_isCue, ↓c_isDigit, ↓d_isScene, ↓d_isAny, ↓ta_pb1, ↓ta_pb0, ↓ta_pb1', ↓ta_pb0', ta_lt, ta_nlt, ta_le, ta_nle, ta_eq, ta_neq, ta_nne, ta_ne, gs_id, a_gd01, a_gdT, or_true, true_or, bd_some, bW_sm, a_gd, a_ne, a_rd, Int.toNat_natCast, Int.toNat_add, Int.toNat_mul, Int.reduceToNat, a_gdp, a_cell, and_self, and_true, true_and]
  · rintro i s t hi ⟨rfl, v, hv, rfl⟩
    have e3 := m3 i (by omega)
    have e4 := w3 i (by omega)
    have e5 := hf i (by omega)
    by_cases d : f i = 1000000
    · obtain ⟨y, hy, hy2⟩ := or_bit i hv hi (by omega)
      rw [if_pos d] at e3
      refine ⟨y, y, fun f => ?_, fun f => ?_, rfl, y, hy2, rfl⟩
      · show m_X0_deadBits_L10 M' (f + 1) v _ = m_X0_deadBits_L10 M' f y _
        rw [m_X0_deadBits_L10]
        simp (disch := omega) only [↓reduceIte, ↓nm_eq, ↓jn_eq, ↓c_within, ↓c_isIn, ↓c_isScene, ↓c_isPlace, ↓c_isCue, ↓c_isDigit, ↓d_isScene, ↓d_isAny, ↓ta_pb1, ↓ta_pb0, ↓ta_pb1', ↓ta_pb0', ta_lt, ta_nlt, ta_le, ta_nle, ta_eq, ta_neq, ta_nne, ta_ne, gs_id, a_gd01, a_gdT, or_true, true_or, bd_some, bW_sm, a_gd, a_ne, a_rd, Int.toNat_natCast, Int.toNat_add, Int.toNat_mul, Int.reduceToNat, a_gdp, a_cell, and_self, and_true, true_and, e3, hy, Int.natCast_add, Int.natCast_one]
      · show m_X9_dead_L10 W' (f + 1) v _ = m_X9_dead_L10 W' f y _
        rw [m_X9_dead_L10]
        simp (disch := omega) only [↓reduceIte, ↓nm_eq, ↓jn_eq, ↓c_within, ↓c_isIn, ↓c_isScene, ↓c_isPlace, ↓c_isCue, ↓c_isDigit, ↓d_isScene, ↓d_isAny, ↓ta_pb1, ↓ta_pb0, ↓ta_pb1', ↓ta_pb0', ta_lt, ta_nlt, ta_le, ta_nle, ta_eq, ta_neq, ta_nne, ta_ne, gs_id, a_gd01, a_gdT, or_true, true_or, bd_some, bW_sm, a_gd, a_ne, a_rd, Int.toNat_natCast, Int.toNat_add, Int.toNat_mul, Int.reduceToNat, a_gdp, a_cell, and_self, and_true, true_and, e4, hy, Int.natCast_add, Int.natCast_one]
    · rw [if_neg d] at e3
      have hz := or_0 (x := v) (by omega)
      refine ⟨v, v, fun f => ?_, fun f => ?_, rfl, v, hv, rfl⟩
      · show m_X0_deadBits_L10 M' (f + 1) v _ = m_X0_deadBits_L10 M' f v _
        rw [m_X0_deadBits_L10]
        simp (disch := omega) only [↓reduceIte, ↓nm_eq, ↓jn_eq, ↓c_within, ↓c_isIn, ↓c_isScene, ↓c_isPlace, ↓c_isCue, ↓c_isDigit, ↓d_isScene, ↓d_isAny, ↓ta_pb1, ↓ta_pb0, ↓ta_pb1', ↓ta_pb0', ta_lt, ta_nlt, ta_le, ta_nle, ta_eq, ta_neq, ta_nne, ta_ne, gs_id, a_gd01, a_gdT, or_true, true_or, bd_some, bW_sm, a_gd, a_ne, a_rd, Int.toNat_natCast, Int.toNat_add, Int.toNat_mul, Int.reduceToNat, a_gdp, a_cell, and_self, and_true, true_and, e3, Int.natCast_add, Int.natCast_one]
      · show m_X9_dead_L10 W' (f + 1) v _ = m_X9_dead_L10 W' f v _
        rw [m_X9_dead_L10]
        simp (disch := omega) only [↓reduceIte, ↓nm_eq, ↓jn_eq, ↓c_within, ↓c_isIn, ↓c_isScene, ↓c_isPlace, ↓c_isCue, ↓c_isDigit, ↓d_isScene, ↓d_isAny, ↓ta_pb1, ↓ta_pb0, ↓ta_pb1', ↓ta_pb0', ta_lt, ta_nlt, ta_le, ta_nle, ta_eq, ta_neq, ta_nne, ta_ne, gs_id, a_gd01, a_gdT, or_true, true_or, bd_some, bW_sm, a_gd, a_ne, a_rd, Int.toNat_natCast, Int.toNat_add, Int.toNat_mul, Int.reduceToNat, a_gdp, a_cell, and_self, and_true, true_and, e4, hz, Int.natCast_add, Int.natCast_one]
theorem st_31 : x_step_31 Rel := by
  intro n Mx Mm hr hn
  obtain ⟨M', W', nx, f, e1, e2, m1, w1, hn, hsv, hx, hf, m3, w3, -⟩ := both_dst (Rel_RF hr) (to := 12) (by omega)
  have h := loop_2 (fun f i s => m_X0_farthest_L10 M' f s i) (fun f i s => m_X9_far_L10 W' f s i) 12 (fun i s t => s = t ∧ (s = -1 ∨ ∃ u : Nat, u < 12 ∧ s = u ∧ f u ≤ 12)) (fun a b => ∃ r, a = (r, M') ∧ b = (r, W')) ?_ ?_ 12 0 (-1) (-1) g_fuel g_fuel (by omega) (by unfold g_fuel; omega) (by unfold g_fuel; omega) ⟨rfl, Or.inl rfl⟩
  · obtain ⟨a, b, k1, k2, r, rfl, rfl⟩ := h
    refine ⟨r, r, M', W', ?_, ?_, rfl, scr_of hr m1 w1⟩
    · unfold m_X8_far m_X0_farthest
      rw [show (12 : Int) = ((12 : Nat) : Int) from rfl, e1, bd_some, nm_eq, nm_eq, show m_X0_farthest_L10 M' g_fuel (-1) 0 = some (r, M') from k1, bW_sm]
    · unfold m_X9_far
      rw [show (12 : Int) = ((12 : Nat) : Int) from rfl, e2, bd_some, nm_eq, nm_eq]
      exact k2
  · rintro s t ⟨rfl, -⟩
    refine ⟨(s, M'), (s, W'), fun f => ?_, fun f => ?_, s, rfl, rfl⟩
    · show m_X0_farthest_L10 M' (f + 1) s _ = _
      rw [m_X0_farthest_L10]
      simp (disch := omega) only [↓reduceIte, ↓nm_eq, ↓jn_eq, ↓c_within, ↓c_isIn, ↓c_isScene, ↓c_isPlace, ↓c_isCue, ↓c_isDigit, ↓d_isScene, ↓d_isAny, ↓ta_pb1, ↓ta_pb0, ↓ta_pb1', ↓ta_pb0', ta_lt, ta_nlt, ta_le, ta_nle, ta_eq, ta_neq, ta_nne, ta_ne, gs_id, a_gd01, a_gdT, or_true, true_or, bd_some, bW_sm, a_gd, a_ne, a_rd, Int.toNat_natCast, Int.toNat_add, Int.toNat_mul, Int.reduceToNat, a_gdp, a_cell, and_self, and_true, true_and]
    · show m_X9_far_L10 W' (f + 1) s _ = _
      rw [m_X9_far_L10]
      simp (disch := omega) only [↓reduceIte, ↓nm_eq, ↓jn_eq, ↓c_within, ↓c_isIn, ↓c_isScene, ↓c_isPlace, ↓c_isCue, ↓c_isDigit, ↓d_isScene, ↓d_isAny, ↓ta_pb1, ↓ta_pb0, ↓ta_pb1', ↓ta_pb0', ta_lt, ta_nlt, ta_le, ta_nle, ta_eq, ta_neq, ta_nne, ta_ne, gs_id, a_gd01, a_gdT, or_true, true_or, bd_some, bW_sm, a_gd, a_ne, a_rd, Int.toNat_natCast, Int.toNat_add, Int.toNat_mul, Int.reduceToNat, a_gdp, a_cell, and_self, and_true, true_and]
  · rintro i s t hi ⟨rfl, hh⟩
    have e3 := m3 i (by omega)
    have e4 := w3 i (by omega)
    have e5 := hf i (by omega)
    by_cases d : f i = 1000000
    · rw [if_pos d] at e3
      refine ⟨s, s, fun f => ?_, fun f => ?_, rfl, hh⟩
      · show m_X0_farthest_L10 M' (f + 1) s _ = m_X0_farthest_L10 M' f s _
        rw [m_X0_farthest_L10]
        simp (disch := omega) only [↓reduceIte, ↓nm_eq, ↓jn_eq, ↓c_within, ↓c_isIn, ↓c_isScene, ↓c_isPlace, ↓c_isCue, ↓c_isDigit, ↓d_isScene, ↓d_isAny, ↓ta_pb1, ↓ta_pb0, ↓ta_pb1', ↓ta_pb0', ta_lt, ta_nlt, ta_le, ta_nle, ta_eq, ta_neq, ta_nne, ta_ne, gs_id, a_gd01, a_gdT, or_true, true_or, bd_some, bW_sm, a_gd, a_ne, a_rd, Int.toNat_natCast, Int.toNat_add, Int.toNat_mul, Int.reduceToNat, a_gdp, a_cell, and_self, and_true, true_and, e3, Int.natCast_add, Int.natCast_one]
      · show m_X9_far_L10 W' (f + 1) s _ = m_X9_far_L10 W' f s _
        rw [m_X9_far_L10]
        simp (disch := omega) only [↓reduceIte, ↓nm_eq, ↓jn_eq, ↓c_within, ↓c_isIn, ↓c_isScene, ↓c_isPlace, ↓c_isCue, ↓c_isDigit, ↓d_isScene, ↓d_isAny, ↓ta_pb1, ↓ta_pb0, ↓ta_pb1', ↓ta_pb0', ta_lt, ta_nlt, ta_le, ta_nle, ta_eq, ta_neq, ta_nne, ta_ne, gs_id, a_gd01, a_gdT, or_true, true_or, bd_some, bW_sm, a_gd, a_ne, a_rd, Int.toNat_natCast, Int.toNat_add, Int.toNat_mul, Int.reduceToNat, a_gdp, a_cell, and_self, and_true, true_and, e4, Int.natCast_add, Int.natCast_one]
    · rw [if_neg d] at e3
      rcases hh with rfl | ⟨u, hu, rfl, hu2⟩
      · refine ⟨i, i, fun f => ?_, fun f => ?_, rfl, Or.inr ⟨i, hi, rfl, by omega⟩⟩
        · show m_X0_farthest_L10 M' (f + 1) (-1) _ = m_X0_farthest_L10 M' f i _
          rw [m_X0_farthest_L10]
          simp (disch := omega) only [↓reduceIte, ↓nm_eq, ↓jn_eq, ↓c_within, ↓c_isIn, ↓c_isScene, ↓c_isPlace, ↓c_isCue, ↓c_isDigit, ↓d_isScene, ↓d_isAny, ↓ta_pb1, ↓ta_pb0, ↓ta_pb1', ↓ta_pb0', ta_lt, ta_nlt, ta_le, ta_nle, ta_eq, ta_neq, ta_nne, ta_ne, gs_id, a_gd01, a_gdT, or_true, true_or, bd_some, bW_sm, a_gd, a_ne, a_rd, Int.toNat_natCast, Int.toNat_add, Int.toNat_mul, Int.reduceToNat, a_gdp, a_cell, and_self, and_true, true_and, e3, Int.natCast_add, Int.natCast_one]
        · show m_X9_far_L10 W' (f + 1) (-1) _ = m_X9_far_L10 W' f i _
          rw [m_X9_far_L10]
          simp (disch := omega) only [↓reduceIte, ↓nm_eq, ↓jn_eq, ↓c_within, ↓c_isIn, ↓c_isScene, ↓c_isPlace, ↓c_isCue, ↓c_isDigit, ↓d_isScene, ↓d_isAny, ↓ta_pb1, ↓ta_pb0, ↓ta_pb1', ↓ta_pb0', ta_lt, ta_nlt, ta_le, ta_nle, ta_eq, ta_neq, ta_nne, ta_ne, gs_id, a_gd01, a_gdT, or_true, true_or, bd_some, bW_sm, a_gd, a_ne, a_rd, Int.toNat_natCast, Int.toNat_add, Int.toNat_mul, Int.reduceToNat, a_gdp, a_cell, and_self, and_true, true_and, e4, Int.natCast_add, Int.natCast_one]
      · have q3 := m3 u (by omega)
        have q4 := w3 u (by omega)
        rw [if_neg (by omega)] at q3
        by_cases g : f u < f i
        · refine ⟨i, i, fun f => ?_, fun f => ?_, rfl, Or.inr ⟨i, hi, rfl, by omega⟩⟩
          · show m_X0_farthest_L10 M' (f + 1) u _ = m_X0_farthest_L10 M' f i _
            rw [m_X0_farthest_L10]
            simp (disch := omega) only [↓reduceIte, ↓nm_eq, ↓jn_eq, ↓c_within, ↓c_isIn, ↓c_isScene, ↓c_isPlace, ↓c_isCue, ↓c_isDigit, ↓d_isScene, ↓d_isAny, ↓ta_pb1, ↓ta_pb0, ↓ta_pb1', ↓ta_pb0', ta_lt, ta_nlt, ta_le, ta_nle, ta_eq, ta_neq, ta_nne, ta_ne, gs_id, a_gd01, a_gdT, or_true, true_or, bd_some, bW_sm, a_gd, a_ne, a_rd, Int.toNat_natCast, Int.toNat_add, Int.toNat_mul, Int.reduceToNat, a_gdp, a_cell, and_self, and_true, true_and, e3, q3, Int.natCast_add, Int.natCast_one]
          · show m_X9_far_L10 W' (f + 1) u _ = m_X9_far_L10 W' f i _
            rw [m_X9_far_L10]
            simp (disch := omega) only [↓reduceIte, ↓nm_eq, ↓jn_eq, ↓c_within, ↓c_isIn, ↓c_isScene, ↓c_isPlace, ↓c_isCue, ↓c_isDigit, ↓d_isScene, ↓d_isAny, ↓ta_pb1, ↓ta_pb0, ↓ta_pb1', ↓ta_pb0', ta_lt, ta_nlt, ta_le, ta_nle, ta_eq, ta_neq, ta_nne, ta_ne, gs_id, a_gd01, a_gdT, or_true, true_or, bd_some, bW_sm, a_gd, a_ne, a_rd, Int.toNat_natCast, Int.toNat_add, Int.toNat_mul, Int.reduceToNat, a_gdp, a_cell, and_self, and_true, true_and, e4, q4, Int.natCast_add, Int.natCast_one]
        · refine ⟨u, u, fun f => ?_, fun f => ?_, rfl, Or.inr ⟨u, hu, rfl, hu2⟩⟩
          · show m_X0_farthest_L10 M' (f + 1) u _ = m_X0_farthest_L10 M' f u _
            rw [m_X0_farthest_L10]
            simp (disch := omega) only [↓reduceIte, ↓nm_eq, ↓jn_eq, ↓c_within, ↓c_isIn, ↓c_isScene, ↓c_isPlace, ↓c_isCue, ↓c_isDigit, ↓d_isScene, ↓d_isAny, ↓ta_pb1, ↓ta_pb0, ↓ta_pb1', ↓ta_pb0', ta_lt, ta_nlt, ta_le, ta_nle, ta_eq, ta_neq, ta_nne, ta_ne, gs_id, a_gd01, a_gdT, or_true, true_or, bd_some, bW_sm, a_gd, a_ne, a_rd, Int.toNat_natCast, Int.toNat_add, Int.toNat_mul, Int.reduceToNat, a_gdp, a_cell, and_self, and_true, true_and, e3, q3, Int.natCast_add, Int.natCast_one]
          · show m_X9_far_L10 W' (f + 1) u _ = m_X9_far_L10 W' f u _
            rw [m_X9_far_L10]
            simp (disch := omega) only [↓reduceIte, ↓nm_eq, ↓jn_eq, ↓c_within, ↓c_isIn, ↓c_isScene, ↓c_isPlace, ↓c_isCue, ↓c_isDigit, ↓d_isScene, ↓d_isAny, ↓ta_pb1, ↓ta_pb0, ↓ta_pb1', ↓ta_pb0', ta_lt, ta_nlt, ta_le, ta_nle, ta_eq, ta_neq, ta_nne, ta_ne, gs_id, a_gd01, a_gdT, or_true, true_or, bd_some, bW_sm, a_gd, a_ne, a_rd, Int.toNat_natCast, Int.toNat_add, Int.toNat_mul, Int.reduceToNat, a_gdp, a_cell, and_self, and_true, true_and, e4, q4, Int.natCast_add, Int.natCast_one]
def ncF (nx : Nat → Nat → Nat) (f : Nat → Nat) (s : Nat) : Nat := if f (nx s 0) + 1 = f s then 0 else if f (nx s 1) + 1 = f s then 1 else if f (nx s 2) + 1 = f s then 2 else 3
theorem ncF_spec {nx : Nat → Nat → Nat} {f : Nat → Nat} {s d : Nat} (hd : f s = d + 1) (h : ∃ c, c < 4 ∧ f (nx s c) = d) : ncF nx f s < 4 ∧ f (nx s (ncF nx f s)) = d ∧ ∀ c, c < ncF nx f s → f (nx s c) ≠ d := by
  unfold ncF
  by_cases c0 : f (nx s 0) + 1 = f s
  · rw [if_pos c0]
    exact ⟨by omega, by omega, fun c hc => by omega⟩
  · rw [if_neg c0]
    by_cases c1 : f (nx s 1) + 1 = f s
    · rw [if_pos c1]
      refine ⟨by omega, by omega, fun c hc => ?_⟩
      obtain rfl : c = 0 := by omega
      omega
    · rw [if_neg c1]
      by_cases c2 : f (nx s 2) + 1 = f s
      · rw [if_pos c2]
        refine ⟨by omega, by omega, fun c hc => ?_⟩
        have : c = 0 ∨ c = 1 := by omega
        rcases this with rfl | rfl <;> omega
      · rw [if_neg c2]
        have := four.1 h
        refine ⟨by omega, by omega, fun c hc => ?_⟩
        have : c = 0 ∨ c = 1 ∨ c = 2 := by omega
        rcases this with rfl | rfl | rfl <;> omega
def wkF (nx : Nat → Nat → Nat) (f : Nat → Nat) (s : Nat) : Nat → Nat
  | 0 => s
  | k + 1 => nx (wkF nx f s k) (ncF nx f (wkF nx f s k))
theorem wkF_spec {nx : Nat → Nat → Nat} {f : Nat → Nat} {s : Nat} (hn : ∀ s c, s ≤ 12 → c < 4 → nx s c ≤ 12) (hs : s ≤ 12) (h12 : f s ≤ 12) (st : ∀ s d, s ≤ 12 → f s = d + 1 → d < 12 → ∃ c, c < 4 ∧ f (nx s c) = d) : ∀ k, k ≤ f s → wkF nx f s k ≤ 12 ∧ f (wkF nx f s k) + k = f s := by
  intro k
  induction k with
  | zero => exact fun _ => ⟨hs, rfl⟩
  | succ k ih =>
    intro hk
    obtain ⟨a, b⟩ := ih (by omega)
    obtain ⟨d, hd⟩ : ∃ d, f (wkF nx f s k) = d + 1 := ⟨f (wkF nx f s k) - 1, by omega⟩
    obtain ⟨c1, c2, -⟩ := ncF_spec hd (st _ d a hd (by omega))
    exact ⟨hn _ _ a c1, by show f (nx _ _) + (k + 1) = _; omega⟩
theorem p_near {M : g_M} {nx : Nat → Nat → Nat} {f : Nat → Nat} (hn : ∀ s c, s ≤ 12 → c < 4 → nx s c ≤ 12) (hsv : Sv nx M) (hf : ∀ s, s ≤ 12 → f s ≤ 12 ∨ f s = 1000000) (m3 : ∀ s, s ≤ 12 → M 69 s = if f s = 1000000 then 1000 else (f s : Int)) {s d : Nat} (hs : s ≤ 12) (hd : f s = d + 1) (hd2 : d < 12) (h : ∃ c, c < 4 ∧ f (nx s c) = d) : m_X0_nearerCue s M = some (ncF nx f s : Int) := by
  obtain ⟨n1, n2, n3⟩ := ncF_spec hd h
  have k1 : Ok (m_X0_nearerCue_L2 s M g_fuel 0) (fun q => q = (ncF nx f s : Int)) := by
    refine Ok_for 4 (fun f i (_ : Unit) => m_X0_nearerCue_L2 s M f i) (fun i _ => i ≤ ncF nx f s) (fun f' u h => ?_) (fun i f' u hi h kk => ?_) 0 g_fuel () (by omega) (by unfold g_fuel; omega) (by omega)
    · omega
    · show Ok (m_X0_nearerCue_L2 s M (f' + 1) _) _
      rw [m_X0_nearerCue_L2]
      have hu := hn s i hs hi
      have e3 := m3 _ hu
      have e4 := hf _ hu
      have e5 := hsv s i hs hi
      have e6 := m3 s hs
      rw [if_neg (by omega)] at e6
      by_cases e : i = ncF nx f s
      · rw [← e] at n2
        rw [if_neg (by omega)] at e3
        simp (disch := omega) only [↓reduceIte, ↓nm_eq, ↓jn_eq, ↓c_within, ↓c_isIn, ↓c_isScene, ↓c_isPlace, ↓c_isCue, ↓c_isDigit, ↓d_isScene, ↓d_isAny, ↓ta_pb1, ↓ta_pb0, ↓ta_pb1', ↓ta_pb0', ta_lt, ta_nlt, ta_le, ta_nle, ta_eq, ta_neq, ta_nne, ta_ne, gs_id, a_gd01, a_gdT, or_true, true_or, bd_some, bW_sm, a_gd, a_ne, a_rd, Int.toNat_natCast, Int.toNat_add, Int.toNat_mul, Int.reduceToNat, a_gdp, a_cell, and_self, and_true, true_and, e5, e3, e6]
        exact Ok_some (by rw [e])
      · have := n3 i (by omega)
        by_cases d2 : f (nx s i) = 1000000
        · rw [if_pos d2] at e3
          simp (disch := omega) only [↓reduceIte, ↓nm_eq, ↓jn_eq, ↓c_within, ↓c_isIn, ↓c_isScene, ↓c_isPlace, ↓c_isCue, ↓c_isDigit, ↓d_isScene, ↓d_isAny, ↓ta_pb1, ↓ta_pb0, ↓ta_pb1', ↓ta_pb0', ta_lt, ta_nlt, ta_le, ta_nle, ta_eq, ta_neq, ta_nne, ta_ne, gs_id, a_gd01, a_gdT, or_true, true_or, bd_some, bW_sm, a_gd, a_ne, a_rd, Int.toNat_natCast, Int.toNat_add, Int.toNat_mul, Int.reduceToNat, a_gdp, a_cell, and_self, and_true, true_and, e5, e3, e6]
          exact kk () (by omega)
        · rw [if_neg d2] at e3
          simp (disch := omega) only [↓reduceIte, ↓nm_eq, ↓jn_eq, ↓c_within, ↓c_isIn, ↓c_isScene, ↓c_isPlace, ↓c_isCue, ↓c_isDigit, ↓d_isScene, ↓d_isAny, ↓ta_pb1, ↓ta_pb0, ↓ta_pb1', ↓ta_pb0', ta_lt, ta_nlt, ta_le, ta_nle, ta_eq, ta_neq, ta_nne, ta_ne, gs_id, a_gd01, a_gdT, or_true, true_or, bd_some, bW_sm, a_gd, a_ne, a_rd, Int.toNat_natCast, Int.toNat_add, Int.toNat_mul, Int.reduceToNat, a_gdp, a_cell, and_self, and_true, true_and, e5, e3, e6]
          exact kk () (by omega)
  obtain ⟨_, k1, rfl⟩ := k1
  unfold m_X0_nearerCue
  rw [nm_eq]
  exact k1
theorem q_near {W V : g_M} {nx : Nat → Nat → Nat} {f : Nat → Nat} (hn : ∀ s c, s ≤ 12 → c < 4 → nx s c ≤ 12) (hx : Nx nx W) (hV : V 1 = W 1) (hf : ∀ s, s ≤ 12 → f s ≤ 12 ∨ f s = 1000000) (w3 : ∀ s, s ≤ 12 → V 10 s = (f s : Int)) {s d : Nat} (hs : s ≤ 12) (hd : f s = d + 1) (hd2 : d < 12) (h : ∃ c, c < 4 ∧ f (nx s c) = d) (x24 x27 : Int) (k : Int → Option (Int × g_M)) : m_X9_shortest_L83 x24 s x27 V k g_fuel 0 = k (ncF nx f s : Int) := by
  obtain ⟨n1, n2, n3⟩ := ncF_spec hd h
  have key : ∀ n i F : Nat, i + n = ncF nx f s → n < F → m_X9_shortest_L83 x24 s x27 V k F i = k (ncF nx f s : Int) := by
    intro n
    induction n with
    | zero =>
      intro i F h1 h2
      obtain ⟨F, rfl⟩ : ∃ u, F = u + 1 := ⟨F - 1, by omega⟩
      obtain rfl : i = ncF nx f s := by omega
      have hu := hn s _ hs n1
      have e3 := w3 _ hu
      have e6 := w3 s hs
      rw [m_X9_shortest_L83]
      simp (disch := omega) only [↓reduceIte, ↓nm_eq, ↓jn_eq, ↓c_within, ↓c_isIn, ↓c_isScene, ↓c_isPlace, ↓c_isCue, ↓c_isDigit, ↓d_isScene, ↓d_isAny, ↓ta_pb1, ↓ta_pb0, ↓ta_pb1', ↓ta_pb0', ta_lt, ta_nlt, ta_le, ta_nle, ta_eq, ta_neq, ta_nne, ta_ne, gs_id, a_gd01, a_gdT, or_true, true_or, bd_some, bW_sm, a_gd, a_ne, a_rd, Int.toNat_natCast, Int.toNat_add, Int.toNat_mul, Int.reduceToNat, a_gdp, a_cell, and_self, and_true, true_and, hx V hV s _ hs n1, e3, e6]
    | succ n ih =>
      intro i F h1 h2
      obtain ⟨F, rfl⟩ : ∃ u, F = u + 1 := ⟨F - 1, by omega⟩
      have hu := hn s i hs (by omega)
      have e3 := w3 _ hu
      have e4 := hf _ hu
      have e6 := w3 s hs
      have := n3 i (by omega)
      rw [m_X9_shortest_L83]
      simp (disch := omega) only [↓reduceIte, ↓nm_eq, ↓jn_eq, ↓c_within, ↓c_isIn, ↓c_isScene, ↓c_isPlace, ↓c_isCue, ↓c_isDigit, ↓d_isScene, ↓d_isAny, ↓ta_pb1, ↓ta_pb0, ↓ta_pb1', ↓ta_pb0', ta_lt, ta_nlt, ta_le, ta_nle, ta_eq, ta_neq, ta_nne, ta_ne, gs_id, a_gd01, a_gdT, or_true, true_or, bd_some, bW_sm, a_gd, a_ne, a_rd, Int.toNat_natCast, Int.toNat_add, Int.toNat_mul, Int.reduceToNat, a_gdp, a_cell, and_self, and_true, true_and, hx V hV s i hs (by omega), e3, e6]
      exact ih (i + 1) F (by omega) (by omega)
  exact key (ncF nx f s) 0 g_fuel (by omega) (by unfold g_fuel; omega)
theorem st_22 : x_step_22 Rel := by
  intro n Mx Mm hr hn a1 a2 a3 h1 h2 h3
  obtain ⟨i1, j1⟩ := h1
  obtain ⟨i2, j2⟩ := h2
  obtain ⟨i3, j3⟩ := h3
  have no : (∃ r, m_X8_shortest a1 a2 a3 Mx = some (r, Mx) ∧ m_X9_shortest a1 a2 a3 Mm = some (r, Mm)) → ∃ (r r' : Int) (Mx' Mm' : g_M), (m_X8_shortest a1 a2 a3 Mx = some (r, Mx')) ∧ (m_X9_shortest a1 a2 a3 Mm = some (r', Mm')) ∧ gs r = gs r' ∧ Rel (n + 1) Mx' Mm' := fun ⟨r, e1, e2⟩ => ⟨r, r, Mx, Mm, e1, e2, rfl, st_same hr⟩
  by_cases c1 : 0 ≤ a1 ∧ a1 ≤ 12
  rotate_left
  · refine no ⟨-2, ?_, ?_⟩
    · unfold m_X8_shortest; simp (disch := omega) only [↓reduceIte, ↓nm_eq, ↓jn_eq, ↓c_within, ↓c_isIn, ↓c_isScene, ↓c_isPlace, ↓c_isCue, ↓c_isDigit, ↓d_isScene, ↓d_isAny, ↓ta_pb1, ↓ta_pb0, ↓ta_pb1', ↓ta_pb0', ta_lt, ta_nlt, ta_le, ta_nle, ta_eq, ta_neq, ta_nne, ta_ne, gs_id, a_gd01, a_gdT, or_true, true_or, bd_some, bW_sm, a_gd, a_ne, a_rd, Int.toNat_natCast, Int.toNat_add, Int.toNat_mul, Int.reduceToNat, a_gdp, a_cell, and_self, and_true, true_and]
    · unfold m_X9_shortest; simp (disch := omega) only [↓reduceIte, ↓nm_eq, ↓jn_eq, ↓c_within, ↓c_isIn, ↓c_isScene, ↓c_isPlace, ↓c_isCue, ↓c_isDigit, ↓d_isScene, ↓d_isAny, ↓ta_pb1, ↓ta_pb0, ↓ta_pb1', ↓ta_pb0', ta_lt, ta_nlt, ta_le, ta_nle, ta_eq, ta_neq, ta_nne, ta_ne, gs_id, a_gd01, a_gdT, or_true, true_or, bd_some, bW_sm, a_gd, a_ne, a_rd, Int.toNat_natCast, Int.toNat_add, Int.toNat_mul, Int.reduceToNat, a_gdp, a_cell, and_self, and_true, true_and]
  by_cases c2 : 0 ≤ a2 ∧ a2 ≤ 12
  rotate_left
  · refine no ⟨-2, ?_, ?_⟩
    · unfold m_X8_shortest; simp (disch := omega) only [↓reduceIte, ↓nm_eq, ↓jn_eq, ↓c_within, ↓c_isIn, ↓c_isScene, ↓c_isPlace, ↓c_isCue, ↓c_isDigit, ↓d_isScene, ↓d_isAny, ↓ta_pb1, ↓ta_pb0, ↓ta_pb1', ↓ta_pb0', ta_lt, ta_nlt, ta_le, ta_nle, ta_eq, ta_neq, ta_nne, ta_ne, gs_id, a_gd01, a_gdT, or_true, true_or, bd_some, bW_sm, a_gd, a_ne, a_rd, Int.toNat_natCast, Int.toNat_add, Int.toNat_mul, Int.reduceToNat, a_gdp, a_cell, and_self, and_true, true_and]
    · unfold m_X9_shortest; simp (disch := omega) only [↓reduceIte, ↓nm_eq, ↓jn_eq, ↓c_within, ↓c_isIn, ↓c_isScene, ↓c_isPlace, ↓c_isCue, ↓c_isDigit, ↓d_isScene, ↓d_isAny, ↓ta_pb1, ↓ta_pb0, ↓ta_pb1', ↓ta_pb0', ta_lt, ta_nlt, ta_le, ta_nle, ta_eq, ta_neq, ta_nne, ta_ne, gs_id, a_gd01, a_gdT, or_true, true_or, bd_some, bW_sm, a_gd, a_ne, a_rd, Int.toNat_natCast, Int.toNat_add, Int.toNat_mul, Int.reduceToNat, a_gdp, a_cell, and_self, and_true, true_and]
  clear no
  obtain ⟨s, rfl⟩ : ∃ s : Nat, a1 = s := ⟨a1.toNat, by omega⟩
  obtain ⟨t, rfl⟩ : ∃ t : Nat, a2 = t := ⟨a2.toNat, by omega⟩
  have hs : s ≤ 12 := by omega
  obtain ⟨M', W', nx, f, e1, e2, m1, w1, hn, hsv, hx, hf, m3, w3, st⟩ := both_dst (Rel_RF hr) (to := t) (by omega)
  have yes : (∃ r, m_X8_shortest s t a3 Mx = some (r, M') ∧ m_X9_shortest s t a3 Mm = some (r, W')) → ∃ (r r' : Int) (Mx' Mm' : g_M), (m_X8_shortest s t a3 Mx = some (r, Mx')) ∧ (m_X9_shortest s t a3 Mm = some (r', Mm')) ∧ gs r = gs r' ∧ Rel (n + 1) Mx' Mm' := fun ⟨r, e1, e2⟩ => ⟨r, r, M', W', e1, e2, rfl, scr_of hr m1 w1⟩
  have e3 := m3 s hs
  have e4 := w3 s hs
  have e5 := hf s hs
  by_cases d : f s = 1000000
  · rw [if_pos d] at e3
    refine yes ⟨-2, ?_, ?_⟩
    · unfold m_X8_shortest m_X0_shortestWay; simp (disch := omega) only [↓reduceIte, ↓nm_eq, ↓jn_eq, ↓c_within, ↓c_isIn, ↓c_isScene, ↓c_isPlace, ↓c_isCue, ↓c_isDigit, ↓d_isScene, ↓d_isAny, ↓ta_pb1, ↓ta_pb0, ↓ta_pb1', ↓ta_pb0', ta_lt, ta_nlt, ta_le, ta_nle, ta_eq, ta_neq, ta_nne, ta_ne, gs_id, a_gd01, a_gdT, or_true, true_or, bd_some, bW_sm, a_gd, a_ne, a_rd, Int.toNat_natCast, Int.toNat_add, Int.toNat_mul, Int.reduceToNat, a_gdp, a_cell, and_self, and_true, true_and, e1, e3]
    · unfold m_X9_shortest; simp (disch := omega) only [↓reduceIte, ↓nm_eq, ↓jn_eq, ↓c_within, ↓c_isIn, ↓c_isScene, ↓c_isPlace, ↓c_isCue, ↓c_isDigit, ↓d_isScene, ↓d_isAny, ↓ta_pb1, ↓ta_pb0, ↓ta_pb1', ↓ta_pb0', ta_lt, ta_nlt, ta_le, ta_nle, ta_eq, ta_neq, ta_nne, ta_ne, gs_id, a_gd01, a_gdT, or_true, true_or, bd_some, bW_sm, a_gd, a_ne, a_rd, Int.toNat_natCast, Int.toNat_add, Int.toNat_mul, Int.reduceToNat, a_gdp, a_cell, and_self, and_true, true_and, e2, e4]
  rw [if_neg d] at e3
  by_cases z : a3 = -1
  · refine yes ⟨f s, ?_, ?_⟩
    · unfold m_X8_shortest m_X0_shortestWay; simp (disch := omega) only [↓reduceIte, ↓nm_eq, ↓jn_eq, ↓c_within, ↓c_isIn, ↓c_isScene, ↓c_isPlace, ↓c_isCue, ↓c_isDigit, ↓d_isScene, ↓d_isAny, ↓ta_pb1, ↓ta_pb0, ↓ta_pb1', ↓ta_pb0', ta_lt, ta_nlt, ta_le, ta_nle, ta_eq, ta_neq, ta_nne, ta_ne, gs_id, a_gd01, a_gdT, or_true, true_or, bd_some, bW_sm, a_gd, a_ne, a_rd, Int.toNat_natCast, Int.toNat_add, Int.toNat_mul, Int.reduceToNat, a_gdp, a_cell, and_self, and_true, true_and, e1, e3]
    · unfold m_X9_shortest; simp (disch := omega) only [↓reduceIte, ↓nm_eq, ↓jn_eq, ↓c_within, ↓c_isIn, ↓c_isScene, ↓c_isPlace, ↓c_isCue, ↓c_isDigit, ↓d_isScene, ↓d_isAny, ↓ta_pb1, ↓ta_pb0, ↓ta_pb1', ↓ta_pb0', ta_lt, ta_nlt, ta_le, ta_nle, ta_eq, ta_neq, ta_nne, ta_ne, gs_id, a_gd01, a_gdT, or_true, true_or, bd_some, bW_sm, a_gd, a_ne, a_rd, Int.toNat_natCast, Int.toNat_add, Int.toNat_mul, Int.reduceToNat, a_gdp, a_cell, and_self, and_true, true_and, e2, e4]
  by_cases y : 0 ≤ a3 ∧ a3 ≤ (f s : Int) - 1
  rotate_left
  · refine yes ⟨-2, ?_, ?_⟩
    · unfold m_X8_shortest m_X0_shortestWay; simp (disch := omega) only [↓reduceIte, ↓nm_eq, ↓jn_eq, ↓c_within, ↓c_isIn, ↓c_isScene, ↓c_isPlace, ↓c_isCue, ↓c_isDigit, ↓d_isScene, ↓d_isAny, ↓ta_pb1, ↓ta_pb0, ↓ta_pb1', ↓ta_pb0', ta_lt, ta_nlt, ta_le, ta_nle, ta_eq, ta_neq, ta_nne, ta_ne, gs_id, a_gd01, a_gdT, or_true, true_or, bd_some, bW_sm, a_gd, a_ne, a_rd, Int.toNat_natCast, Int.toNat_add, Int.toNat_mul, Int.reduceToNat, a_gdp, a_cell, and_self, and_true, true_and, e1, e3]
    · unfold m_X9_shortest; simp (disch := omega) only [↓reduceIte, ↓nm_eq, ↓jn_eq, ↓c_within, ↓c_isIn, ↓c_isScene, ↓c_isPlace, ↓c_isCue, ↓c_isDigit, ↓d_isScene, ↓d_isAny, ↓ta_pb1, ↓ta_pb0, ↓ta_pb1', ↓ta_pb0', ta_lt, ta_nlt, ta_le, ta_nle, ta_eq, ta_neq, ta_nne, ta_ne, gs_id, a_gd01, a_gdT, or_true, true_or, bd_some, bW_sm, a_gd, a_ne, a_rd, Int.toNat_natCast, Int.toNat_add, Int.toNat_mul, Int.reduceToNat, a_gdp, a_cell, and_self, and_true, true_and, e2, e4]
  obtain ⟨k, rfl⟩ : ∃ k : Nat, a3 = k := ⟨a3.toNat, by omega⟩
  have wk := wkF_spec hn hs (by omega) st
  have nn : ∀ i, i ≤ k → ∃ d, f (wkF nx f s i) = d + 1 ∧ d < 12 ∧ ∃ c, c < 4 ∧ f (nx (wkF nx f s i) c) = d := by
    intro i hi
    obtain ⟨a, b⟩ := wk i (by omega)
    exact ⟨f (wkF nx f s i) - 1, by omega, by omega, st _ _ a (by omega) (by omega)⟩
  refine yes ⟨(ncF nx f (wkF nx f s k) : Int), ?_, ?_⟩
  · unfold m_X8_shortest m_X0_shortestWay
    simp (disch := omega) only [↓reduceIte, ↓nm_eq, ↓jn_eq, ↓c_within, ↓c_isIn, ↓c_isScene, ↓c_isPlace, ↓c_isCue, ↓c_isDigit, ↓d_isScene, ↓d_isAny, ↓ta_pb1, ↓ta_pb0, ↓ta_pb1', ↓ta_pb0', ta_lt, ta_nlt, ta_le, ta_nle, ta_eq, ta_neq, ta_nne, ta_ne, gs_id, a_gd01, a_gdT, or_true, true_or, bd_some, bW_sm, a_gd, a_ne, a_rd, Int.toNat_natCast, Int.toNat_add, Int.toNat_mul, Int.reduceToNat, a_gdp, a_cell, and_self, and_true, true_and, e1, e3]
    have lp := loop_F (fun F i (a : Int) => m_X0_shortestWay_L53 k M' (fun x25 => (m_X0_nearerCue x25 M').bind (fun x26 => some (x26, M'))) F a i) k (fun i => (wkF nx f s i : Int)) (some ((ncF nx f (wkF nx f s k) : Int), M')) (fun F => ?_) (fun i F hi => ?_) k 0 g_fuel (by omega) (by unfold g_fuel; omega)
    · rw [show m_X0_shortestWay_L53 k M' (fun x25 => (m_X0_nearerCue x25 M').bind (fun x26 => some (x26, M'))) g_fuel (s : Int) 0 = _ from lp, bW_sm]
    · show m_X0_shortestWay_L53 k M' _ (F + 1) _ _ = _
      rw [m_X0_shortestWay_L53]
      obtain ⟨d, h1, h2, h3⟩ := nn k (Nat.le_refl _)
      simp (disch := omega) only [↓reduceIte, ↓nm_eq, ↓jn_eq, ↓c_within, ↓c_isIn, ↓c_isScene, ↓c_isPlace, ↓c_isCue, ↓c_isDigit, ↓d_isScene, ↓d_isAny, ↓ta_pb1, ↓ta_pb0, ↓ta_pb1', ↓ta_pb0', ta_lt, ta_nlt, ta_le, ta_nle, ta_eq, ta_neq, ta_nne, ta_ne, gs_id, a_gd01, a_gdT, or_true, true_or, bd_some, bW_sm, a_gd, a_ne, a_rd, Int.toNat_natCast, Int.toNat_add, Int.toNat_mul, Int.reduceToNat, a_gdp, a_cell, and_self, and_true, true_and, p_near hn hsv hf m3 (wk k (by omega)).1 h1 h2 h3]
    · show m_X0_shortestWay_L53 k M' _ (F + 1) _ _ = m_X0_shortestWay_L53 k M' _ F ((nx (wkF nx f s i) (ncF nx f (wkF nx f s i)) : Nat) : Int) _
      rw [m_X0_shortestWay_L53]
      obtain ⟨d, h1, h2, h3⟩ := nn i (by omega)
      have h4 := (wk i (by omega)).1
      have h5 := (ncF_spec h1 h3).1
      have h6 := hsv _ _ h4 h5
      simp (disch := omega) only [↓reduceIte, ↓nm_eq, ↓jn_eq, ↓c_within, ↓c_isIn, ↓c_isScene, ↓c_isPlace, ↓c_isCue, ↓c_isDigit, ↓d_isScene, ↓d_isAny, ↓ta_pb1, ↓ta_pb0, ↓ta_pb1', ↓ta_pb0', ta_lt, ta_nlt, ta_le, ta_nle, ta_eq, ta_neq, ta_nne, ta_ne, gs_id, a_gd01, a_gdT, or_true, true_or, bd_some, bW_sm, a_gd, a_ne, a_rd, Int.toNat_natCast, Int.toNat_add, Int.toNat_mul, Int.reduceToNat, a_gdp, a_cell, and_self, and_true, true_and, p_near hn hsv hf m3 h4 h1 h2 h3, h6, Int.natCast_add, Int.natCast_one]
  · unfold m_X9_shortest
    simp (disch := omega) only [↓reduceIte, ↓nm_eq, ↓jn_eq, ↓c_within, ↓c_isIn, ↓c_isScene, ↓c_isPlace, ↓c_isCue, ↓c_isDigit, ↓d_isScene, ↓d_isAny, ↓ta_pb1, ↓ta_pb0, ↓ta_pb1', ↓ta_pb0', ta_lt, ta_nlt, ta_le, ta_nle, ta_eq, ta_neq, ta_nne, ta_ne, gs_id, a_gd01, a_gdT, or_true, true_or, bd_some, bW_sm, a_gd, a_ne, a_rd, Int.toNat_natCast, Int.toNat_add, Int.toNat_mul, Int.reduceToNat, a_gdp, a_cell, and_self, and_true, true_and, e2, e4]
    have lp := loop_F (fun F i (a : Int × Int) => m_X9_shortest_L74 k W' F a.1 a.2 i) (k + 1) (fun i => ((wkF nx f s i : Int), match i with | 0 => (0 : Int) | i + 1 => (ncF nx f (wkF nx f s i) : Int))) (some ((ncF nx f (wkF nx f s k) : Int), W')) (fun F => ?_) (fun i F hi => ?_) (k + 1) 0 g_fuel (by omega) (by unfold g_fuel; omega)
    · exact lp
    · show m_X9_shortest_L74 k W' (F + 1) _ _ _ = _
      rw [m_X9_shortest_L74]
      simp (disch := omega) only [↓reduceIte, ↓nm_eq, ↓jn_eq, ↓c_within, ↓c_isIn, ↓c_isScene, ↓c_isPlace, ↓c_isCue, ↓c_isDigit, ↓d_isScene, ↓d_isAny, ↓ta_pb1, ↓ta_pb0, ↓ta_pb1', ↓ta_pb0', ta_lt, ta_nlt, ta_le, ta_nle, ta_eq, ta_neq, ta_nne, ta_ne, gs_id, a_gd01, a_gdT, or_true, true_or, bd_some, bW_sm, a_gd, a_ne, a_rd, Int.toNat_natCast, Int.toNat_add, Int.toNat_mul, Int.reduceToNat, a_gdp, a_cell, and_self, and_true, true_and]
    · show m_X9_shortest_L74 k W' (F + 1) _ _ _ = m_X9_shortest_L74 k W' F ((nx (wkF nx f s i) (ncF nx f (wkF nx f s i)) : Nat) : Int) (ncF nx f (wkF nx f s i) : Int) _
      rw [m_X9_shortest_L74]
      obtain ⟨d, h1, h2, h3⟩ := nn i (by omega)
      have h4 := (wk i (by omega)).1
      have h5 := (ncF_spec h1 h3).1
      simp (disch := omega) only [↓reduceIte, ↓nm_eq, ↓jn_eq, ↓c_within, ↓c_isIn, ↓c_isScene, ↓c_isPlace, ↓c_isCue, ↓c_isDigit, ↓d_isScene, ↓d_isAny, ↓ta_pb1, ↓ta_pb0, ↓ta_pb1', ↓ta_pb0', ta_lt, ta_nlt, ta_le, ta_nle, ta_eq, ta_neq, ta_nne, ta_ne, gs_id, a_gd01, a_gdT, or_true, true_or, bd_some, bW_sm, a_gd, a_ne, a_rd, Int.toNat_natCast, Int.toNat_add, Int.toNat_mul, Int.reduceToNat, a_gdp, a_cell, and_self, and_true, true_and, q_near hn hx (w1 1 (by omega)) hf w3 h4 h1 h2 h3, hx W' (w1 1 (by omega)) _ _ h4 h5, Int.natCast_add, Int.natCast_one]
