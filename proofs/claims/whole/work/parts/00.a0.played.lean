/-! played: both -/
theorem do_clause {m : Nat} {M W : g_M} (hr : Rel m M W) {hd : Int} {nu rb : Nat → Int} (h : R_clause hd nu rb) {Y : Nat} (hY : Y + 4 ≤ 2820) (w : ∀ j, j < 4 → W 3 (Y + j) = rb j) : ∃ (r m' : Nat) (M' W' : g_M), r ≤ 1 ∧ m_X2_perform hd (nu 0) (nu 1) (nu 2) M = some ((r : Int), M') ∧ m_X9_isPlayed Y W = some ((r : Int), W') ∧ Rel m' M' W' ∧ Fx M M' ∧ Fm W W' ∧ (W' 0 24 = W 0 24 ∨ W' 0 24 ≤ 40) ∧ W' 0 25 ≤ W 0 25 + 1200 := by
  obtain ⟨h', r', e1, e2, hc⟩ := h
  have w0 : W 3 Y = r' := by rw [← e2]; exact w 0 (by omega)
  have w1 : W 3 (Y + 1) = rb 1 := w 1 (by omega)
  have w2 : W 3 (Y + 2) = rb 2 := w 2 (by omega)
  have w3 : W 3 (Y + 3) = rb 3 := w 3 (by omega)
  rw [e1]
  rcases hc with ⟨a1, a2⟩ | ⟨a1, a2, ⟨a3, a4, a5⟩, ⟨a6, a7, a8⟩, a9, a10, a11⟩ | ⟨a1, a2, ⟨a3, a4, a5⟩, a6, a7, a8⟩ | ⟨a1, a2, ⟨a3, a4, a5⟩, a6, a7, a8⟩ | ⟨a1, a2, ⟨a3, a4, a5⟩, a6, a7, a8⟩ | ⟨a1, a2, ⟨a3, a4, a5⟩, a6, a7, a8⟩ | ⟨a1, a2, a3, a4, a5⟩ | ⟨a1, a2, a3, a4, a5⟩
  · subst a2
    refine ⟨1, m, M, W, by omega, ?_, ?_, hr, Fx_refl _, Fm_refl _, Or.inl rfl, by omega⟩
    · unfold m_X2_perform; simp (disch := omega) only [↓reduceIte, ↓nm_eq, ↓jn_eq, ↓c_within, ↓c_isIn, ↓c_isScene, ↓c_isPlace, ↓c_isCue, ↓c_isDigit, ↓d_isScene, ↓d_isAny, ↓ta_pb1, ↓ta_pb0, ↓ta_pb1', ↓ta_pb0', ta_lt, ta_nlt, ta_le, ta_nle, ta_eq, ta_neq, ta_nne, ta_ne, gs_id, a_gd01, a_gdT, or_true, true_or, bd_some, bW_sm, a_gd, a_ne, a_rd, Int.toNat_natCast, Int.toNat_add, Int.toNat_mul, Int.reduceToNat, a_gdp, a_cell, and_self, and_true, true_and]; rfl
    · unfold m_X9_isPlayed; simp (disch := omega) only [↓reduceIte, ↓nm_eq, ↓jn_eq, ↓c_within, ↓c_isIn, ↓c_isScene, ↓c_isPlace, ↓c_isCue, ↓c_isDigit, ↓d_isScene, ↓d_isAny, ↓ta_pb1, ↓ta_pb0, ↓ta_pb1', ↓ta_pb0', ta_lt, ta_nlt, ta_le, ta_nle, ta_eq, ta_neq, ta_nne, ta_ne, gs_id, a_gd01, a_gdT, or_true, true_or, bd_some, bW_sm, a_gd, a_ne, a_rd, Int.toNat_natCast, Int.toNat_add, Int.toNat_mul, Int.reduceToNat, a_gdp, a_cell, and_self, and_true, true_and, w0]; rfl
  · subst a1 a2
    rw [a5] at w1
    rw [a8] at w2
    rw [a11] at w3
    obtain ⟨s, hs⟩ : ∃ s : Nat, nu 0 = s := ⟨(nu 0).toNat, by omega⟩
    obtain ⟨c, hc⟩ : ∃ s : Nat, nu 1 = s := ⟨(nu 1).toNat, by omega⟩
    rw [hs] at w1
    rw [hc] at w2
    rw [hs, hc]
    obtain ⟨M', W', b1, b2, b3, b4, b5, b6⟩ := do_scene hr (s := s) (c := c) (v := nu 2) (by omega) (by omega) ⟨a9, a10⟩
    refine ⟨1, m + 1, M', W', by omega, ?_, ?_, b3, b4, b5, Or.inl (by rw [b6]), by rw [b6]; omega⟩
    · unfold m_X2_perform; simp (disch := omega) only [↓reduceIte, ↓nm_eq, ↓jn_eq, ↓c_within, ↓c_isIn, ↓c_isScene, ↓c_isPlace, ↓c_isCue, ↓c_isDigit, ↓d_isScene, ↓d_isAny, ↓ta_pb1, ↓ta_pb0, ↓ta_pb1', ↓ta_pb0', ta_lt, ta_nlt, ta_le, ta_nle, ta_eq, ta_neq, ta_nne, ta_ne, gs_id, a_gd01, a_gdT, or_true, true_or, bd_some, bW_sm, a_gd, a_ne, a_rd, Int.toNat_natCast, Int.toNat_add, Int.toNat_mul, Int.reduceToNat, a_gdp, a_cell, and_self, and_true, true_and, b1]; rfl
    · unfold m_X9_isPlayed; simp (disch := omega) only [↓reduceIte, ↓nm_eq, ↓jn_eq, ↓c_within, ↓c_isIn, ↓c_isScene, ↓c_isPlace, ↓c_isCue, ↓c_isDigit, ↓d_isScene, ↓d_isAny, ↓ta_pb1, ↓ta_pb0, ↓ta_pb1', ↓ta_pb0', ta_lt, ta_nlt, ta_le, ta_nle, ta_eq, ta_neq, ta_nne, ta_ne, gs_id, a_gd01, a_gdT, or_true, true_or, bd_some, bW_sm, a_gd, a_ne, a_rd, Int.toNat_natCast, Int.toNat_add, Int.toNat_mul, Int.reduceToNat, a_gdp, a_cell, and_self, and_true, true_and, w0, w1, w2, w3, b2]; rfl
  · subst a1 a2
    rw [a5] at w1
    rw [a8] at w2
    obtain ⟨s, hs⟩ : ∃ s : Nat, nu 1 = s := ⟨(nu 1).toNat, by omega⟩
    rw [hs] at w2
    rw [hs]
    obtain ⟨W', b2, b3, b5, b6⟩ := do_kind hr (s := s) (v := nu 0) (by omega) ⟨a3, a4⟩
    refine ⟨1, m + 1, g_wr M 5 s (nu 0), W', by omega, ?_, ?_, b3, ⟨fun k hk => a_cell _ (by omega), fun j hj => by rw [a_cell _ (by omega)], by rw [a_cell _ (by omega)]⟩, b5, Or.inl (by rw [b6]), by rw [b6]; omega⟩
    · unfold m_X2_perform; simp (disch := omega) only [↓reduceIte, ↓nm_eq, ↓jn_eq, ↓c_within, ↓c_isIn, ↓c_isScene, ↓c_isPlace, ↓c_isCue, ↓c_isDigit, ↓d_isScene, ↓d_isAny, ↓ta_pb1, ↓ta_pb0, ↓ta_pb1', ↓ta_pb0', ta_lt, ta_nlt, ta_le, ta_nle, ta_eq, ta_neq, ta_nne, ta_ne, gs_id, a_gd01, a_gdT, or_true, true_or, bd_some, bW_sm, a_gd, a_ne, a_rd, Int.toNat_natCast, Int.toNat_add, Int.toNat_mul, Int.reduceToNat, a_gdp, a_cell, and_self, and_true, true_and]; rfl
    · unfold m_X9_isPlayed; simp (disch := omega) only [↓reduceIte, ↓nm_eq, ↓jn_eq, ↓c_within, ↓c_isIn, ↓c_isScene, ↓c_isPlace, ↓c_isCue, ↓c_isDigit, ↓d_isScene, ↓d_isAny, ↓ta_pb1, ↓ta_pb0, ↓ta_pb1', ↓ta_pb0', ta_lt, ta_nlt, ta_le, ta_nle, ta_eq, ta_neq, ta_nne, ta_ne, gs_id, a_gd01, a_gdT, or_true, true_or, bd_some, bW_sm, a_gd, a_ne, a_rd, Int.toNat_natCast, Int.toNat_add, Int.toNat_mul, Int.reduceToNat, a_gdp, a_cell, and_self, and_true, true_and, w0, w1, w2, b2]; rfl
  · subst a1 a2
    rw [a5] at w1
    rw [a8] at w2
    obtain ⟨r, M', W', r1, r2, b1, b2, b3, b4, b5, b6⟩ := do_person hr (a := nu 0) (b := nu 1) ⟨a3, a4⟩ ⟨a6, a7⟩
    by_cases c : r = -1
    · refine ⟨0, m + 1, M', W', by omega, ?_, ?_, b3, b4, b5, Or.inl (by rw [b6]), by rw [b6]; omega⟩
      · unfold m_X2_perform; simp (disch := omega) only [↓reduceIte, ↓nm_eq, ↓jn_eq, ↓c_within, ↓c_isIn, ↓c_isScene, ↓c_isPlace, ↓c_isCue, ↓c_isDigit, ↓d_isScene, ↓d_isAny, ↓ta_pb1, ↓ta_pb0, ↓ta_pb1', ↓ta_pb0', ta_lt, ta_nlt, ta_le, ta_nle, ta_eq, ta_neq, ta_nne, ta_ne, gs_id, a_gd01, a_gdT, or_true, true_or, bd_some, bW_sm, a_gd, a_ne, a_rd, Int.toNat_natCast, Int.toNat_add, Int.toNat_mul, Int.reduceToNat, a_gdp, a_cell, and_self, and_true, true_and, b1]; rfl
      · unfold m_X9_isPlayed; simp (disch := omega) only [↓reduceIte, ↓nm_eq, ↓jn_eq, ↓c_within, ↓c_isIn, ↓c_isScene, ↓c_isPlace, ↓c_isCue, ↓c_isDigit, ↓d_isScene, ↓d_isAny, ↓ta_pb1, ↓ta_pb0, ↓ta_pb1', ↓ta_pb0', ta_lt, ta_nlt, ta_le, ta_nle, ta_eq, ta_neq, ta_nne, ta_ne, gs_id, a_gd01, a_gdT, or_true, true_or, bd_some, bW_sm, a_gd, a_ne, a_rd, Int.toNat_natCast, Int.toNat_add, Int.toNat_mul, Int.reduceToNat, a_gdp, a_cell, and_self, and_true, true_and, w0, w1, w2, b2]; rfl
    · refine ⟨1, m + 1, M', W', by omega, ?_, ?_, b3, b4, b5, Or.inl (by rw [b6]), by rw [b6]; omega⟩
      · unfold m_X2_perform; simp (disch := omega) only [↓reduceIte, ↓nm_eq, ↓jn_eq, ↓c_within, ↓c_isIn, ↓c_isScene, ↓c_isPlace, ↓c_isCue, ↓c_isDigit, ↓d_isScene, ↓d_isAny, ↓ta_pb1, ↓ta_pb0, ↓ta_pb1', ↓ta_pb0', ta_lt, ta_nlt, ta_le, ta_nle, ta_eq, ta_neq, ta_nne, ta_ne, gs_id, a_gd01, a_gdT, or_true, true_or, bd_some, bW_sm, a_gd, a_ne, a_rd, Int.toNat_natCast, Int.toNat_add, Int.toNat_mul, Int.reduceToNat, a_gdp, a_cell, and_self, and_true, true_and, b1]; rfl
      · unfold m_X9_isPlayed; simp (disch := omega) only [↓reduceIte, ↓nm_eq, ↓jn_eq, ↓c_within, ↓c_isIn, ↓c_isScene, ↓c_isPlace, ↓c_isCue, ↓c_isDigit, ↓d_isScene, ↓d_isAny, ↓ta_pb1, ↓ta_pb0, ↓ta_pb1', ↓ta_pb0', ta_lt, ta_nlt, ta_le, ta_nle, ta_eq, ta_neq, ta_nne, ta_ne, gs_id, a_gd01, a_gdT, or_true, true_or, bd_some, bW_sm, a_gd, a_ne, a_rd, Int.toNat_natCast, Int.toNat_add, Int.toNat_mul, Int.reduceToNat, a_gdp, a_cell, and_self, and_true, true_and, w0, w1, w2, b2]; rfl
  · subst a1 a2
    rw [a5] at w1
    rw [a8] at w2
    obtain ⟨P, hP1, hP2, hP3, hq⟩ := RF_rows (Rel_RF hr)
    obtain ⟨q, hq0⟩ : ∃ s : Nat, nu 0 = s := ⟨(nu 0).toNat, by omega⟩
    rw [hq0] at w1
    rw [hq0]
    have no : m_X2_perform (5 : Nat) q (nu 1) (nu 2) M = some (((0 : Nat) : Int), M) → m_X9_isPlayed Y W = some (((0 : Nat) : Int), W) → ∃ (r m' : Nat) (M' W' : g_M), r ≤ 1 ∧ m_X2_perform (5 : Nat) q (nu 1) (nu 2) M = some ((r : Int), M') ∧ m_X9_isPlayed Y W = some ((r : Int), W') ∧ Rel m' M' W' ∧ Fx M M' ∧ Fm W W' ∧ (W' 0 24 = W 0 24 ∨ W' 0 24 ≤ 40) ∧ W' 0 25 ≤ W 0 25 + 1200 := fun e1 e2 => ⟨0, m, M, W, by omega, e1, e2, hr, Fx_refl _, Fm_refl _, Or.inl rfl, by omega⟩
    by_cases c1 : q < P
    rotate_left
    · refine no ?_ ?_
      · unfold m_X2_perform; simp (disch := omega) only [↓reduceIte, ↓nm_eq, ↓jn_eq, ↓c_within, ↓c_isIn, ↓c_isScene, ↓c_isPlace, ↓c_isCue, ↓c_isDigit, ↓d_isScene, ↓d_isAny, ↓ta_pb1, ↓ta_pb0, ↓ta_pb1', ↓ta_pb0', ta_lt, ta_nlt, ta_le, ta_nle, ta_eq, ta_neq, ta_nne, ta_ne, gs_id, a_gd01, a_gdT, or_true, true_or, bd_some, bW_sm, a_gd, a_ne, a_rd, Int.toNat_natCast, Int.toNat_add, Int.toNat_mul, Int.reduceToNat, a_gdp, a_cell, and_self, and_true, true_and, ↓bd_eq (a_isPerson (a := q) hP2 (by omega) hP1)]; rfl
      · unfold m_X9_isPlayed m_X9_seat m_X9_canSeat; simp (disch := omega) only [↓reduceIte, ↓nm_eq, ↓jn_eq, ↓c_within, ↓c_isIn, ↓c_isScene, ↓c_isPlace, ↓c_isCue, ↓c_isDigit, ↓d_isScene, ↓d_isAny, ↓ta_pb1, ↓ta_pb0, ↓ta_pb1', ↓ta_pb0', ta_lt, ta_nlt, ta_le, ta_nle, ta_eq, ta_neq, ta_nne, ta_ne, gs_id, a_gd01, a_gdT, or_true, true_or, bd_some, bW_sm, a_gd, a_ne, a_rd, Int.toNat_natCast, Int.toNat_add, Int.toNat_mul, Int.reduceToNat, a_gdp, a_cell, and_self, and_true, true_and, w0, w1, w2, ↓bd_eq (b_isPerson (a := q) hP3 (by omega) hP1)]; rfl
    obtain ⟨⟨b1, b2, b3⟩, -⟩ := hq q c1
    by_cases c3 : M 2 q = nu 1
    · refine no ?_ ?_
      · unfold m_X2_perform m_X2_canSeat; simp (disch := omega) only [↓reduceIte, ↓nm_eq, ↓jn_eq, ↓c_within, ↓c_isIn, ↓c_isScene, ↓c_isPlace, ↓c_isCue, ↓c_isDigit, ↓d_isScene, ↓d_isAny, ↓ta_pb1, ↓ta_pb0, ↓ta_pb1', ↓ta_pb0', ta_lt, ta_nlt, ta_le, ta_nle, ta_eq, ta_neq, ta_nne, ta_ne, gs_id, a_gd01, a_gdT, or_true, true_or, bd_some, bW_sm, a_gd, a_ne, a_rd, Int.toNat_natCast, Int.toNat_add, Int.toNat_mul, Int.reduceToNat, a_gdp, a_cell, and_self, and_true, true_and, ↓bd_eq (a_isPerson (a := q) hP2 (by omega) hP1), Nat.zero_add, c3]; rfl
      · unfold m_X9_isPlayed m_X9_seat m_X9_canSeat; simp (disch := omega) only [↓reduceIte, ↓nm_eq, ↓jn_eq, ↓c_within, ↓c_isIn, ↓c_isScene, ↓c_isPlace, ↓c_isCue, ↓c_isDigit, ↓d_isScene, ↓d_isAny, ↓ta_pb1, ↓ta_pb0, ↓ta_pb1', ↓ta_pb0', ta_lt, ta_nlt, ta_le, ta_nle, ta_eq, ta_neq, ta_nne, ta_ne, gs_id, a_gd01, a_gdT, or_true, true_or, bd_some, bW_sm, a_gd, a_ne, a_rd, Int.toNat_natCast, Int.toNat_add, Int.toNat_mul, Int.reduceToNat, a_gdp, a_cell, and_self, and_true, true_and, w0, w1, w2, ↓bd_eq (b_isPerson (a := q) hP3 (by omega) hP1), ↓bd_eq (p_get q 0 W (34 + 4 * q) (by omega) (by omega)), b3, c3]; rfl
    · obtain ⟨M', W', e1, ⟨W1, e2, e3⟩, e4, e5, e6, e7⟩ := do_seat (Rel_RF hr) hP2 hP1 (a1 := q) (a2 := nu 1) (by omega) (by omega)
      refine ⟨1, m + 1, M', W', by omega, ?_, ?_, Rel_mk hr e5 e6 (Rel_c hr e7).1 (Rel_c hr e7).2 e4, e5, e6, Or.inl (by rw [e7]), by rw [e7]; omega⟩
      · unfold m_X2_perform m_X2_canSeat; simp (disch := omega) only [↓reduceIte, ↓nm_eq, ↓jn_eq, ↓c_within, ↓c_isIn, ↓c_isScene, ↓c_isPlace, ↓c_isCue, ↓c_isDigit, ↓d_isScene, ↓d_isAny, ↓ta_pb1, ↓ta_pb0, ↓ta_pb1', ↓ta_pb0', ta_lt, ta_nlt, ta_le, ta_nle, ta_eq, ta_neq, ta_nne, ta_ne, gs_id, a_gd01, a_gdT, or_true, true_or, bd_some, bW_sm, a_gd, a_ne, a_rd, Int.toNat_natCast, Int.toNat_add, Int.toNat_mul, Int.reduceToNat, a_gdp, a_cell, and_self, and_true, true_and, ↓bd_eq (a_isPerson (a := q) hP2 (by omega) hP1), Nat.zero_add, e1]; rfl
      · unfold m_X9_isPlayed m_X9_seat m_X9_canSeat; simp (disch := omega) only [↓reduceIte, ↓nm_eq, ↓jn_eq, ↓c_within, ↓c_isIn, ↓c_isScene, ↓c_isPlace, ↓c_isCue, ↓c_isDigit, ↓d_isScene, ↓d_isAny, ↓ta_pb1, ↓ta_pb0, ↓ta_pb1', ↓ta_pb0', ta_lt, ta_nlt, ta_le, ta_nle, ta_eq, ta_neq, ta_nne, ta_ne, gs_id, a_gd01, a_gdT, or_true, true_or, bd_some, bW_sm, a_gd, a_ne, a_rd, Int.toNat_natCast, Int.toNat_add, Int.toNat_mul, Int.reduceToNat, a_gdp, a_cell, and_self, and_true, true_and, w0, w1, w2, ↓bd_eq (b_isPerson (a := q) hP3 (by omega) hP1), ↓bd_eq (p_get q 0 W (34 + 4 * q) (by omega) (by omega)), b3, e2, e3]; rfl
  · subst a1 a2
    rw [a5] at w1
    rw [a8] at w2
    obtain ⟨g1, g2⟩ := RF_lead (Rel_RF hr)
    obtain ⟨s, hs0⟩ : ∃ s : Nat, nu 0 = s := ⟨(nu 0).toNat, by omega⟩
    obtain ⟨c, hc⟩ : ∃ s : Nat, nu 1 = s := ⟨(nu 1).toNat, by omega⟩
    rw [hs0] at w1
    rw [hc] at w2
    rw [hs0, hc]
    have hs : s < 12 := by omega
    obtain ⟨b1, b2, b3⟩ := g1 s hs
    have k1 := p_after (M := M) (s := s) (c := c) (by omega) (by omega)
    have k2 := q_nextOf (W := W) (nw := M 2) (td := M 4) (fun s hs => (g1 s hs).2.2) (fun i hi => (g2 i hi).2.2) (s := s) (c := c) (by omega) (by omega)
    obtain ⟨k3, k4⟩ := nxF_lt (nw := M 2) (td := M 4) (fun s hs => ⟨(g1 s hs).1, (g1 s hs).2.1⟩) (fun i hi => ⟨(g2 i hi).1, (g2 i hi).2.1⟩) (s := s) (c := c) (by omega) (by omega)
    by_cases c3 : nxF (M 2) (M 4) s c = M 2 (16 + s)
    · refine ⟨0, m, M, W, by omega, ?_, ?_, hr, Fx_refl _, Fm_refl _, Or.inl rfl, by omega⟩
      · unfold m_X2_perform m_X2_canCall; simp (disch := omega) only [↓reduceIte, ↓nm_eq, ↓jn_eq, ↓c_within, ↓c_isIn, ↓c_isScene, ↓c_isPlace, ↓c_isCue, ↓c_isDigit, ↓d_isScene, ↓d_isAny, ↓ta_pb1, ↓ta_pb0, ↓ta_pb1', ↓ta_pb0', ta_lt, ta_nlt, ta_le, ta_nle, ta_eq, ta_neq, ta_nne, ta_ne, gs_id, a_gd01, a_gdT, or_true, true_or, bd_some, bW_sm, a_gd, a_ne, a_rd, Int.toNat_natCast, Int.toNat_add, Int.toNat_mul, Int.reduceToNat, a_gdp, a_cell, and_self, and_true, true_and, ↓bd_eq k1, c3]; rfl
      · unfold m_X9_isPlayed m_X9_call m_X9_canCall; simp (disch := omega) only [↓reduceIte, ↓nm_eq, ↓jn_eq, ↓c_within, ↓c_isIn, ↓c_isScene, ↓c_isPlace, ↓c_isCue, ↓c_isDigit, ↓d_isScene, ↓d_isAny, ↓ta_pb1, ↓ta_pb0, ↓ta_pb1', ↓ta_pb0', ta_lt, ta_nlt, ta_le, ta_nle, ta_eq, ta_neq, ta_nne, ta_ne, gs_id, a_gd01, a_gdT, or_true, true_or, bd_some, bW_sm, a_gd, a_ne, a_rd, Int.toNat_natCast, Int.toNat_add, Int.toNat_mul, Int.reduceToNat, a_gdp, a_cell, and_self, and_true, true_and, w0, w1, w2, ↓bd_eq k2, b3, c3]; rfl
    · obtain ⟨M', W', e1, ⟨W1, e2, e3, e8⟩, e4, e5, e6, e7⟩ := do_call (Rel_RF hr) hs (c := c) (by omega)
      refine ⟨1, m + 1, M', W', by omega, ?_, ?_, Rel_mk hr e5 e6 (Rel_c hr e7).1 (Rel_c hr e7).2 e4, e5, e6, Or.inl (by rw [e7]), by rw [e7]; omega⟩
      · unfold m_X2_perform m_X2_canCall; simp (disch := omega) only [↓reduceIte, ↓nm_eq, ↓jn_eq, ↓c_within, ↓c_isIn, ↓c_isScene, ↓c_isPlace, ↓c_isCue, ↓c_isDigit, ↓d_isScene, ↓d_isAny, ↓ta_pb1, ↓ta_pb0, ↓ta_pb1', ↓ta_pb0', ta_lt, ta_nlt, ta_le, ta_nle, ta_eq, ta_neq, ta_nne, ta_ne, gs_id, a_gd01, a_gdT, or_true, true_or, bd_some, bW_sm, a_gd, a_ne, a_rd, Int.toNat_natCast, Int.toNat_add, Int.toNat_mul, Int.reduceToNat, a_gdp, a_cell, and_self, and_true, true_and, ↓bd_eq k1, fun z => c3 (Eq.symm z), e1]; rfl
      · unfold m_X9_isPlayed m_X9_call m_X9_canCall; simp (disch := omega) only [↓reduceIte, ↓nm_eq, ↓jn_eq, ↓c_within, ↓c_isIn, ↓c_isScene, ↓c_isPlace, ↓c_isCue, ↓c_isDigit, ↓d_isScene, ↓d_isAny, ↓ta_pb1, ↓ta_pb0, ↓ta_pb1', ↓ta_pb0', ta_lt, ta_nlt, ta_le, ta_nle, ta_eq, ta_neq, ta_nne, ta_ne, gs_id, a_gd01, a_gdT, or_true, true_or, bd_some, bW_sm, a_gd, a_ne, a_rd, Int.toNat_natCast, Int.toNat_add, Int.toNat_mul, Int.reduceToNat, a_gdp, a_cell, and_self, and_true, true_and, w0, w1, w2, ↓bd_eq k2, b3, c3, e2, e3, e8]; rfl
  · subst a1 a2
    rw [a5] at w1
    obtain ⟨g1, g2⟩ := RF_lead (Rel_RF hr)
    obtain ⟨s, hs0⟩ : ∃ s : Nat, nu 0 = s := ⟨(nu 0).toNat, by omega⟩
    rw [hs0] at w1
    rw [hs0]
    have hs : s < 12 := by omega
    obtain ⟨b1, b2, b3⟩ := g1 s hs
    obtain ⟨b4, b5, b6⟩ := g2 (s * 4) (by omega)
    have k1 := p_canMend (M := M) hs ⟨b1, b2⟩ ⟨b4, b5⟩
    have k2 := q_canMend (W := W) hs ⟨b1, b2, b3⟩ ⟨b4, b5, b6⟩
    by_cases c3 : M 2 (16 + s) = M 4 (s * 4)
    · refine ⟨0, m, M, W, by omega, ?_, ?_, hr, Fx_refl _, Fm_refl _, Or.inl rfl, by omega⟩
      · unfold m_X2_perform; simp (disch := omega) only [↓reduceIte, ↓nm_eq, ↓jn_eq, ↓c_within, ↓c_isIn, ↓c_isScene, ↓c_isPlace, ↓c_isCue, ↓c_isDigit, ↓d_isScene, ↓d_isAny, ↓ta_pb1, ↓ta_pb0, ↓ta_pb1', ↓ta_pb0', ta_lt, ta_nlt, ta_le, ta_nle, ta_eq, ta_neq, ta_nne, ta_ne, gs_id, a_gd01, a_gdT, or_true, true_or, bd_some, bW_sm, a_gd, a_ne, a_rd, Int.toNat_natCast, Int.toNat_add, Int.toNat_mul, Int.reduceToNat, a_gdp, a_cell, and_self, and_true, true_and, ↓bd_eq k1]; rfl
      · unfold m_X9_isPlayed m_X9_mend; simp (disch := omega) only [↓reduceIte, ↓nm_eq, ↓jn_eq, ↓c_within, ↓c_isIn, ↓c_isScene, ↓c_isPlace, ↓c_isCue, ↓c_isDigit, ↓d_isScene, ↓d_isAny, ↓ta_pb1, ↓ta_pb0, ↓ta_pb1', ↓ta_pb0', ta_lt, ta_nlt, ta_le, ta_nle, ta_eq, ta_neq, ta_nne, ta_ne, gs_id, a_gd01, a_gdT, or_true, true_or, bd_some, bW_sm, a_gd, a_ne, a_rd, Int.toNat_natCast, Int.toNat_add, Int.toNat_mul, Int.reduceToNat, a_gdp, a_cell, and_self, and_true, true_and, w0, w1, ↓bd_eq k2]; rfl
    · obtain ⟨M', W', e1, ⟨W1, e2, e3, e8⟩, e4, e5, e6, e7⟩ := do_mend (Rel_RF hr) hs
      refine ⟨1, m + 1, M', W', by omega, ?_, ?_, Rel_mk hr e5 e6 (Rel_c hr e7).1 (Rel_c hr e7).2 e4, e5, e6, Or.inl (by rw [e7]), by rw [e7]; omega⟩
      · unfold m_X2_perform; simp (disch := omega) only [↓reduceIte, ↓nm_eq, ↓jn_eq, ↓c_within, ↓c_isIn, ↓c_isScene, ↓c_isPlace, ↓c_isCue, ↓c_isDigit, ↓d_isScene, ↓d_isAny, ↓ta_pb1, ↓ta_pb0, ↓ta_pb1', ↓ta_pb0', ta_lt, ta_nlt, ta_le, ta_nle, ta_eq, ta_neq, ta_nne, ta_ne, gs_id, a_gd01, a_gdT, or_true, true_or, bd_some, bW_sm, a_gd, a_ne, a_rd, Int.toNat_natCast, Int.toNat_add, Int.toNat_mul, Int.reduceToNat, a_gdp, a_cell, and_self, and_true, true_and, ↓bd_eq k1, e1]; rfl
      · unfold m_X9_isPlayed m_X9_mend; simp (disch := omega) only [↓reduceIte, ↓nm_eq, ↓jn_eq, ↓c_within, ↓c_isIn, ↓c_isScene, ↓c_isPlace, ↓c_isCue, ↓c_isDigit, ↓d_isScene, ↓d_isAny, ↓ta_pb1, ↓ta_pb0, ↓ta_pb1', ↓ta_pb0', ta_lt, ta_nlt, ta_le, ta_nle, ta_eq, ta_neq, ta_nne, ta_ne, gs_id, a_gd01, a_gdT, or_true, true_or, bd_some, bW_sm, a_gd, a_ne, a_rd, Int.toNat_natCast, Int.toNat_add, Int.toNat_mul, Int.reduceToNat, a_gdp, a_cell, and_self, and_true, true_and, w0, w1, ↓bd_eq k2, e2, Nat.mul_comm 4 s, e3, e8]; rfl
  · subst a1 a2
    rw [a5] at w1
    obtain ⟨N, hN⟩ : ∃ s : Nat, nu 0 = s := ⟨(nu 0).toNat, by omega⟩
    rw [hN] at w1
    rw [hN]
    obtain ⟨D, q1, q2, q3⟩ := RF_day (Rel_RF hr)
    obtain ⟨c, hc⟩ : ∃ c, c = min N (9999 - D) := ⟨_, rfl⟩
    have pp := p_possible (M := M) (N := N) (D := D) (by omega) q1 q2
    rw [← hc] at pp
    obtain ⟨e, y, m', M', W', c3, c4, c5, c6, c7, c8, c9, c10, c11⟩ := do_hold hr (N := N) (c := c) (D := D) (by omega) hc q2
    by_cases z : c = N
    · rw [if_pos z] at c6
      refine ⟨1, m', M', W', by omega, ?_, ?_, c7, c8, c9, Or.inr (by omega), by omega⟩
      · unfold m_X2_perform; simp (disch := omega) only [↓reduceIte, ↓nm_eq, ↓jn_eq, ↓c_within, ↓c_isIn, ↓c_isScene, ↓c_isPlace, ↓c_isCue, ↓c_isDigit, ↓d_isScene, ↓d_isAny, ↓ta_pb1, ↓ta_pb0, ↓ta_pb1', ↓ta_pb0', ta_lt, ta_nlt, ta_le, ta_nle, ta_eq, ta_neq, ta_nne, ta_ne, gs_id, a_gd01, a_gdT, or_true, true_or, bd_some, bW_sm, a_gd, a_ne, a_rd, Int.toNat_natCast, Int.toNat_add, Int.toNat_mul, Int.reduceToNat, a_gdp, a_cell, and_self, and_true, true_and, pp, c5]; rfl
      · unfold m_X9_isPlayed; simp (disch := omega) only [↓reduceIte, ↓nm_eq, ↓jn_eq, ↓c_within, ↓c_isIn, ↓c_isScene, ↓c_isPlace, ↓c_isCue, ↓c_isDigit, ↓d_isScene, ↓d_isAny, ↓ta_pb1, ↓ta_pb0, ↓ta_pb1', ↓ta_pb0', ta_lt, ta_nlt, ta_le, ta_nle, ta_eq, ta_neq, ta_nne, ta_ne, gs_id, a_gd01, a_gdT, or_true, true_or, bd_some, bW_sm, a_gd, a_ne, a_rd, Int.toNat_natCast, Int.toNat_add, Int.toNat_mul, Int.reduceToNat, a_gdp, a_cell, and_self, and_true, true_and, w0, w1, c6]; rfl
    · rw [if_neg z] at c6
      refine ⟨0, m', M', W', by omega, ?_, ?_, c7, c8, c9, Or.inr (by omega), by omega⟩
      · unfold m_X2_perform; simp (disch := omega) only [↓reduceIte, ↓nm_eq, ↓jn_eq, ↓c_within, ↓c_isIn, ↓c_isScene, ↓c_isPlace, ↓c_isCue, ↓c_isDigit, ↓d_isScene, ↓d_isAny, ↓ta_pb1, ↓ta_pb0, ↓ta_pb1', ↓ta_pb0', ta_lt, ta_nlt, ta_le, ta_nle, ta_eq, ta_neq, ta_nne, ta_ne, gs_id, a_gd01, a_gdT, or_true, true_or, bd_some, bW_sm, a_gd, a_ne, a_rd, Int.toNat_natCast, Int.toNat_add, Int.toNat_mul, Int.reduceToNat, a_gdp, a_cell, and_self, and_true, true_and, pp, c5]; rfl
      · unfold m_X9_isPlayed; simp (disch := omega) only [↓reduceIte, ↓nm_eq, ↓jn_eq, ↓c_within, ↓c_isIn, ↓c_isScene, ↓c_isPlace, ↓c_isCue, ↓c_isDigit, ↓d_isScene, ↓d_isAny, ↓ta_pb1, ↓ta_pb0, ↓ta_pb1', ↓ta_pb0', ta_lt, ta_nlt, ta_le, ta_nle, ta_eq, ta_neq, ta_nne, ta_ne, gs_id, a_gd01, a_gdT, or_true, true_or, bd_some, bW_sm, a_gd, a_ne, a_rd, Int.toNat_natCast, Int.toNat_add, Int.toNat_mul, Int.reduceToNat, a_gdp, a_cell, and_self, and_true, true_and, w0, w1, c6]; rfl
