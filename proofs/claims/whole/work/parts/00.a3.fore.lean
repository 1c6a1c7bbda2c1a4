/-! foretold: both -/
theorem fore_skip {N : Nat} {w : Int} {W : g_M} (h : W 1 6 = 9999) : ∀ (r i g : Nat) (k : g_M → Option (Int × g_M)), i + r = N → N ≤ 40 → r < g → m_X9_foretold_L70 N w k g i W = k W := by
  intro r
  induction r with
  | zero =>
    intro i g k h1 h2 h3
    obtain ⟨g, rfl⟩ : ∃ f', g = f' + 1 := ⟨g - 1, by omega⟩
    rw [m_X9_foretold_L70]; simp (disch := omega) only [↓reduceIte, ↓nm_eq, ↓jn_eq, ↓c_within, ↓c_isIn, ↓c_isScene, ↓c_isPlace, ↓c_isCue, ↓c_isDigit, ↓d_isScene, ↓d_isAny, ↓ta_pb1, ↓ta_pb0, ↓ta_pb1', ↓ta_pb0', ta_lt, ta_nlt, ta_le, ta_nle, ta_eq, ta_neq, ta_nne, ta_ne, gs_id, a_gd01, a_gdT, or_true, true_or, bd_some, bW_sm, a_gd, a_ne, a_rd, Int.toNat_natCast, Int.toNat_add, Int.toNat_mul, Int.reduceToNat, a_gdp, a_cell, and_self, and_true, true_and]
  | succ r ih =>
    intro i g k h1 h2 h3
    obtain ⟨g, rfl⟩ : ∃ f', g = f' + 1 := ⟨g - 1, by omega⟩
    have a := ih (i + 1) g k (by omega) h2 (by omega)
    rw [Int.natCast_add, Int.natCast_one] at a
    rw [m_X9_foretold_L70]; simp (disch := omega) only [↓reduceIte, ↓nm_eq, ↓jn_eq, ↓c_within, ↓c_isIn, ↓c_isScene, ↓c_isPlace, ↓c_isCue, ↓c_isDigit, ↓d_isScene, ↓d_isAny, ↓ta_pb1, ↓ta_pb0, ↓ta_pb1', ↓ta_pb0', ta_lt, ta_nlt, ta_le, ta_nle, ta_eq, ta_neq, ta_nne, ta_ne, gs_id, a_gd01, a_gdT, or_true, true_or, bd_some, bW_sm, a_gd, a_ne, a_rd, Int.toNat_natCast, Int.toNat_add, Int.toNat_mul, Int.reduceToNat, a_gdp, a_cell, and_self, and_true, true_and, h, a]
theorem both_fore {D N c : Nat} {w w' : Int} (hN : N ≤ 40) (hc : c = min N (9999 - D)) (hD : D ≤ 9999) : ∀ (d i f g e y m : Nat) (M Wv W : g_M), i + d = c → d < f → N - i < g → e ≤ i → y ≤ 30 * i → Rel m M Wv → Wk Wv W → W 0 23 = 0 → M 2 41 = ((D + i : Nat) : Int) → W 1 6 = ((D + i : Nat) : Int) → W 0 24 = e → W 0 25 = y → W 0 26 = M 65 3 → ∃ (e' y' : Nat) (M' W' : g_M), e' ≤ 40 ∧ y' ≤ 1200 ∧ (∀ k, m_X2_foretell_L39 w' c k f e y i M = k e' y' M') ∧ (∀ k, m_X9_foretold_L70 N w k g i W = k W') ∧ W' 0 24 = e' ∧ W' 0 25 = y' ∧ W' 0 26 = M' 65 3 ∧ (∀ a, a ≠ 2 → a ≠ 33 → a ≠ 34 → a ≠ 65 → M' a = M a) ∧ (∀ a, a ≠ 0 → a ≠ 1 → a ≠ 6 → a ≠ 7 → a ≠ 8 → W' a = W a) ∧ (∀ i, i ≠ 24 → i ≠ 25 → i ≠ 26 → W' 0 i = W 0 i) ∧ ∀ i, (i < 6 ∨ 66 ≤ i) → W' 1 i = W 1 i := by
  intro d
  induction d with
  | zero =>
    intro i f g e y m M Wv W h1 h2 h3 h4 h5 h6 h7 h8 h9 h10 h11 h12 h13
    obtain ⟨f, rfl⟩ : ∃ f', f = f' + 1 := ⟨f - 1, by omega⟩
    refine ⟨e, y, M, W, by omega, by omega, fun k => ?_, fun k => ?_, h11, h12, h13, fun a _ _ _ _ => rfl, fun a _ _ _ _ _ => rfl, fun i _ _ _ => rfl, fun i _ => rfl⟩
    · rw [m_X2_foretell_L39]; simp (disch := omega) only [↓reduceIte, ↓nm_eq, ↓jn_eq, ↓c_within, ↓c_isIn, ↓c_isScene, ↓c_isPlace, ↓c_isCue, ↓c_isDigit, ↓d_isScene, ↓d_isAny, ↓ta_pb1, ↓ta_pb0, ↓ta_pb1', ↓ta_pb0', ta_lt, ta_nlt, ta_le, ta_nle, ta_eq, ta_neq, ta_nne, ta_ne, gs_id, a_gd01, a_gdT, or_true, true_or, bd_some, bW_sm, a_gd, a_ne, a_rd, Int.toNat_natCast, Int.toNat_add, Int.toNat_mul, Int.reduceToNat, a_gdp, a_cell, and_self, and_true, true_and]
    · by_cases z : c = N
      · obtain ⟨g, rfl⟩ : ∃ f', g = f' + 1 := ⟨g - 1, by omega⟩
        rw [m_X9_foretold_L70]; simp (disch := omega) only [↓reduceIte, ↓nm_eq, ↓jn_eq, ↓c_within, ↓c_isIn, ↓c_isScene, ↓c_isPlace, ↓c_isCue, ↓c_isDigit, ↓d_isScene, ↓d_isAny, ↓ta_pb1, ↓ta_pb0, ↓ta_pb1', ↓ta_pb0', ta_lt, ta_nlt, ta_le, ta_nle, ta_eq, ta_neq, ta_nne, ta_ne, gs_id, a_gd01, a_gdT, or_true, true_or, bd_some, bW_sm, a_gd, a_ne, a_rd, Int.toNat_natCast, Int.toNat_add, Int.toNat_mul, Int.reduceToNat, a_gdp, a_cell, and_self, and_true, true_and]
      · exact fore_skip (by omega) (N - i) i g k (by omega) hN h3
  | succ d ih =>
    intro i f g e y m M Wv W h1 h2 h3 h4 h5 h6 h7 h8 h9 h10 h11 h12 h13
    obtain ⟨f, rfl⟩ : ∃ f', f = f' + 1 := ⟨f - 1, by omega⟩
    obtain ⟨g, rfl⟩ : ∃ f', g = f' + 1 := ⟨g - 1, by omega⟩
    obtain ⟨r, j, z, M2, W2, B, b1, b2, b3, b4, b5, b6, b7, b8, b9, b10, b11, b12, b13, b14, b15, b16, b17, b18, b19, b20⟩ := both_evening h6 h7 (by omega)
    obtain ⟨V, hV⟩ : ∃ V : g_M, V = fun a => if a = 1 then B else Wv a := ⟨_, rfl⟩
    have v1 : V 1 = B := by rw [hV]; exact if_pos rfl
    have v2 : ∀ a, a ≠ 1 → V a = Wv a := fun a ha => by rw [hV]; exact if_neg ha
    have g1 : Fx M M2 := ⟨fun k hk => b9 k (by omega) (by omega) (by omega) (by omega), fun i hi => by rw [b9 23 (by omega) (by omega) (by omega) (by omega)], by rw [b9 1 (by omega) (by omega) (by omega) (by omega)]⟩
    have g2 : Fm Wv V := ⟨fun k hk => v2 k (by omega), fun i hi => by rw [v2 0 (by omega)]⟩
    have hr2 : Rel (m + 1) M2 V := Rel_mk h6 g1 g2 (Rel_c h6 (v2 0 (by omega))).1 (Rel_c h6 (v2 0 (by omega))).2 (b6 V v1)
    have wk2 : Wk V W2 := ⟨by rw [b10 3 (by omega) (by omega) (by omega) (by omega) (by omega), v2 3 (by omega)]; exact h7.1, fun i h1 h2 => by rw [b7 i h1 h2, v1], Or.inl (by rw [b11 23 (by omega) (by omega) (by omega)]; exact h8)⟩
    obtain ⟨e', y', M', W', c1, c2, c3, c4, c5, c6, c7, c8, c9, c10, c11⟩ := ih (i + 1) f g (e + r) (y + z) (m + 1) M2 V W2 (by omega) (by omega) (by omega) (by omega) (by omega) hr2 wk2 (by rw [b11 23 (by omega) (by omega) (by omega)]; exact h8) (by rw [b19, h9]; omega) (by rw [b20, h9]; omega) (by rw [b12, h11]; omega) (by rw [b13, h12]; omega) (by rw [b14, b15])
    refine ⟨e', y', M', W', c1, c2, fun k => ?_, fun k => ?_, c5, c6, c7, fun a d1 d2 d3 d4 => by rw [c8 a d1 d2 d3 d4, b9 a d1 d2 d3 d4], fun a d1 d2 d3 d4 d5 => by rw [c9 a d1 d2 d3 d4 d5, b10 a d1 d2 d3 d4 d5], fun i d1 d2 d3 => by rw [c10 i d1 d2 d3, b11 i d1 d2 d3], fun i hi => ?_⟩
    · have c3 := c3 k
      rw [Int.natCast_add, Int.natCast_add, Int.natCast_add, Int.natCast_one] at c3
      rw [m_X2_foretell_L39]; simp (disch := omega) only [↓reduceIte, ↓nm_eq, ↓jn_eq, ↓c_within, ↓c_isIn, ↓c_isScene, ↓c_isPlace, ↓c_isCue, ↓c_isDigit, ↓d_isScene, ↓d_isAny, ↓ta_pb1, ↓ta_pb0, ↓ta_pb1', ↓ta_pb0', ta_lt, ta_nlt, ta_le, ta_nle, ta_eq, ta_neq, ta_nne, ta_ne, gs_id, a_gd01, a_gdT, or_true, true_or, bd_some, bW_sm, a_gd, a_ne, a_rd, Int.toNat_natCast, Int.toNat_add, Int.toNat_mul, Int.reduceToNat, a_gdp, a_cell, and_self, and_true, true_and, b4, b16, c3]
    · have c4 := c4 k
      rw [Int.natCast_add, Int.natCast_one] at c4
      rw [m_X9_foretold_L70]; simp (disch := omega) only [↓reduceIte, ↓nm_eq, ↓jn_eq, ↓c_within, ↓c_isIn, ↓c_isScene, ↓c_isPlace, ↓c_isCue, ↓c_isDigit, ↓d_isScene, ↓d_isAny, ↓ta_pb1, ↓ta_pb0, ↓ta_pb1', ↓ta_pb0', ta_lt, ta_nlt, ta_le, ta_nle, ta_eq, ta_neq, ta_nne, ta_ne, gs_id, a_gd01, a_gdT, or_true, true_or, bd_some, bW_sm, a_gd, a_ne, a_rd, Int.toNat_natCast, Int.toNat_add, Int.toNat_mul, Int.reduceToNat, a_gdp, a_cell, and_self, and_true, true_and, h10, b5, c4]
    · rw [c11 i hi]
      by_cases q : i < 3349
      · exact b17 i (by omega)
      · exact b18 h8 i (by omega)
theorem fore_cp1 (a b : Int) (k : g_M → Option (Int × g_M)) (W : g_M) : m_X9_foretold_L24 a b k g_fuel 6 W = k (cpF W 9 6 (fun j => W 1 (6 + j)) 60) := by
  refine cp_loop (fun f i M => m_X9_foretold_L24 a b k f (6 + i) M) 9 6 60 (fun j => W 1 (6 + j)) W _ (fun f => ?_) (fun i f hi => ?_) g_fuel (by unfold g_fuel; omega)
  · show m_X9_foretold_L24 a b k (f + 1) (6 + ((60 : Nat) : Int)) _ = _
    rw [m_X9_foretold_L24]; simp (disch := omega) only [↓reduceIte, ↓nm_eq, ↓jn_eq, ↓c_within, ↓c_isIn, ↓c_isScene, ↓c_isPlace, ↓c_isCue, ↓c_isDigit, ↓d_isScene, ↓d_isAny, ↓ta_pb1, ↓ta_pb0, ↓ta_pb1', ↓ta_pb0', ta_lt, ta_nlt, ta_le, ta_nle, ta_eq, ta_neq, ta_nne, ta_ne, gs_id, a_gd01, a_gdT, or_true, true_or, bd_some, bW_sm, a_gd, a_ne, a_rd, Int.toNat_natCast, Int.toNat_add, Int.toNat_mul, Int.reduceToNat, a_gdp, a_cell, and_self, and_true, true_and]
  · show m_X9_foretold_L24 a b k (f + 1) (6 + (i : Int)) _ = m_X9_foretold_L24 a b k f (6 + ((i : Int) + 1)) _
    rw [m_X9_foretold_L24, show (6 : Int) + ((i : Int) + 1) = 6 + (i : Int) + 1 by omega]; simp (disch := omega) only [↓reduceIte, ↓nm_eq, ↓jn_eq, ↓c_within, ↓c_isIn, ↓c_isScene, ↓c_isPlace, ↓c_isCue, ↓c_isDigit, ↓d_isScene, ↓d_isAny, ↓ta_pb1, ↓ta_pb0, ↓ta_pb1', ↓ta_pb0', ta_lt, ta_nlt, ta_le, ta_nle, ta_eq, ta_neq, ta_nne, ta_ne, gs_id, a_gd01, a_gdT, or_true, true_or, bd_some, bW_sm, a_gd, a_ne, a_rd, Int.toNat_natCast, Int.toNat_add, Int.toNat_mul, Int.reduceToNat, a_gdp, a_cell, and_self, and_true, true_and, cpF_ne]
theorem fore_cp2 (a : Int) (k : g_M → Option (Int × g_M)) (W : g_M) : m_X9_foretold_L101 a k g_fuel 6 W = k (cpF W 1 6 (fun j => W 9 (6 + j)) 60) := by
  refine cp_loop (fun f i M => m_X9_foretold_L101 a k f (6 + i) M) 1 6 60 (fun j => W 9 (6 + j)) W _ (fun f => ?_) (fun i f hi => ?_) g_fuel (by unfold g_fuel; omega)
  · show m_X9_foretold_L101 a k (f + 1) (6 + ((60 : Nat) : Int)) _ = _
    rw [m_X9_foretold_L101]; simp (disch := omega) only [↓reduceIte, ↓nm_eq, ↓jn_eq, ↓c_within, ↓c_isIn, ↓c_isScene, ↓c_isPlace, ↓c_isCue, ↓c_isDigit, ↓d_isScene, ↓d_isAny, ↓ta_pb1, ↓ta_pb0, ↓ta_pb1', ↓ta_pb0', ta_lt, ta_nlt, ta_le, ta_nle, ta_eq, ta_neq, ta_nne, ta_ne, gs_id, a_gd01, a_gdT, or_true, true_or, bd_some, bW_sm, a_gd, a_ne, a_rd, Int.toNat_natCast, Int.toNat_add, Int.toNat_mul, Int.reduceToNat, a_gdp, a_cell, and_self, and_true, true_and]
  · show m_X9_foretold_L101 a k (f + 1) (6 + (i : Int)) _ = m_X9_foretold_L101 a k f (6 + ((i : Int) + 1)) _
    rw [m_X9_foretold_L101, show (6 : Int) + ((i : Int) + 1) = 6 + (i : Int) + 1 by omega]; simp (disch := omega) only [↓reduceIte, ↓nm_eq, ↓jn_eq, ↓c_within, ↓c_isIn, ↓c_isScene, ↓c_isPlace, ↓c_isCue, ↓c_isDigit, ↓d_isScene, ↓d_isAny, ↓ta_pb1, ↓ta_pb0, ↓ta_pb1', ↓ta_pb0', ta_lt, ta_nlt, ta_le, ta_nle, ta_eq, ta_neq, ta_nne, ta_ne, gs_id, a_gd01, a_gdT, or_true, true_or, bd_some, bW_sm, a_gd, a_ne, a_rd, Int.toNat_natCast, Int.toNat_add, Int.toNat_mul, Int.reduceToNat, a_gdp, a_cell, and_self, and_true, true_and, cpF_ne]
theorem st_19 : x_step_19 Rel := by
  intro n Mx Mm hr hn a1 a2 h1 h2
  obtain ⟨i1, j1⟩ := h1
  obtain ⟨i2, j2⟩ := h2
  by_cases c1 : 1 ≤ a1 ∧ a1 ≤ 40
  rotate_left
  · refine ⟨-1, -1, Mx, Mm, ?_, ?_, rfl, st_same hr⟩
    · unfold m_X8_foretold; simp (disch := omega) only [↓reduceIte, ↓nm_eq, ↓jn_eq, ↓c_within, ↓c_isIn, ↓c_isScene, ↓c_isPlace, ↓c_isCue, ↓c_isDigit, ↓d_isScene, ↓d_isAny, ↓ta_pb1, ↓ta_pb0, ↓ta_pb1', ↓ta_pb0', ta_lt, ta_nlt, ta_le, ta_nle, ta_eq, ta_neq, ta_nne, ta_ne, gs_id, a_gd01, a_gdT, or_true, true_or, bd_some, bW_sm, a_gd, a_ne, a_rd, Int.toNat_natCast, Int.toNat_add, Int.toNat_mul, Int.reduceToNat, a_gdp, a_cell, and_self, and_true, true_and]
    · unfold m_X9_foretold; simp (disch := omega) only [↓reduceIte, ↓nm_eq, ↓jn_eq, ↓c_within, ↓c_isIn, ↓c_isScene, ↓c_isPlace, ↓c_isCue, ↓c_isDigit, ↓d_isScene, ↓d_isAny, ↓ta_pb1, ↓ta_pb0, ↓ta_pb1', ↓ta_pb0', ta_lt, ta_nlt, ta_le, ta_nle, ta_eq, ta_neq, ta_nne, ta_ne, gs_id, a_gd01, a_gdT, or_true, true_or, bd_some, bW_sm, a_gd, a_ne, a_rd, Int.toNat_natCast, Int.toNat_add, Int.toNat_mul, Int.reduceToNat, a_gdp, a_cell, and_self, and_true, true_and]
  by_cases c2 : 0 ≤ a2 ∧ a2 ≤ 2
  rotate_left
  · refine ⟨-1, -1, Mx, Mm, ?_, ?_, rfl, st_same hr⟩
    · unfold m_X8_foretold; simp (disch := omega) only [↓reduceIte, ↓nm_eq, ↓jn_eq, ↓c_within, ↓c_isIn, ↓c_isScene, ↓c_isPlace, ↓c_isCue, ↓c_isDigit, ↓d_isScene, ↓d_isAny, ↓ta_pb1, ↓ta_pb0, ↓ta_pb1', ↓ta_pb0', ta_lt, ta_nlt, ta_le, ta_nle, ta_eq, ta_neq, ta_nne, ta_ne, gs_id, a_gd01, a_gdT, or_true, true_or, bd_some, bW_sm, a_gd, a_ne, a_rd, Int.toNat_natCast, Int.toNat_add, Int.toNat_mul, Int.reduceToNat, a_gdp, a_cell, and_self, and_true, true_and]
    · unfold m_X9_foretold; simp (disch := omega) only [↓reduceIte, ↓nm_eq, ↓jn_eq, ↓c_within, ↓c_isIn, ↓c_isScene, ↓c_isPlace, ↓c_isCue, ↓c_isDigit, ↓d_isScene, ↓d_isAny, ↓ta_pb1, ↓ta_pb0, ↓ta_pb1', ↓ta_pb0', ta_lt, ta_nlt, ta_le, ta_nle, ta_eq, ta_neq, ta_nne, ta_ne, gs_id, a_gd01, a_gdT, or_true, true_or, bd_some, bW_sm, a_gd, a_ne, a_rd, Int.toNat_natCast, Int.toNat_add, Int.toNat_mul, Int.reduceToNat, a_gdp, a_cell, and_self, and_true, true_and]
  obtain ⟨N, rfl⟩ : ∃ s : Nat, a1 = s := ⟨a1.toNat, by omega⟩
  obtain ⟨D, q1, q2, q3⟩ := RF_day (Rel_RF hr)
  obtain ⟨c, hc⟩ : ∃ c, c = min N (9999 - D) := ⟨_, rfl⟩
  obtain ⟨M0, hM0⟩ : ∃ M0, M0 = g_cp Mx 2 0 66 0 133 := ⟨_, rfl⟩
  have m0 : ∀ a, a ≠ 66 → M0 a = Mx a := fun a ha => by rw [hM0]; exact g_cp_cell _ ha
  have m66 : ∀ j, j < 133 → M0 66 j = Mx 2 j := fun j hj => by rw [hM0]; simp (disch := omega) only [↓reduceIte, ↓nm_eq, ↓jn_eq, ↓c_within, ↓c_isIn, ↓c_isScene, ↓c_isPlace, ↓c_isCue, ↓c_isDigit, ↓d_isScene, ↓d_isAny, ↓ta_pb1, ↓ta_pb0, ↓ta_pb1', ↓ta_pb0', ta_lt, ta_nlt, ta_le, ta_nle, ta_eq, ta_neq, ta_nne, ta_ne, gs_id, a_gd01, a_gdT, or_true, true_or, bd_some, bW_sm, a_gd, a_ne, a_rd, Int.toNat_natCast, Int.toNat_add, Int.toNat_mul, Int.reduceToNat, a_gdp, a_cell, and_self, and_true, true_and, g_cp_in, Nat.zero_add, Nat.sub_zero]
  have pp := p_possible (M := M0) (N := N) (D := D) (by omega) q1 (by rw [m0 2 (by omega)]; exact q2)
  rw [← hc] at pp
  obtain ⟨W1, hW1⟩ : ∃ W1, W1 = cpF Mm 9 6 (fun j => Mm 1 (6 + j)) 60 := ⟨_, rfl⟩
  obtain ⟨W2, hW2⟩ : ∃ W2, W2 = g_wr (g_wr (g_wr (g_wr W1 0 23 0) 0 24 0) 0 25 0) 0 26 0 := ⟨_, rfl⟩
  have w2 : ∀ a, a ≠ 0 → a ≠ 9 → W2 a = Mm a := fun a h1 h2 => by rw [hW2, a_cell _ h1, a_cell _ h1, a_cell _ h1, a_cell _ h1, hW1, cpF_cell _ _ h2]
  have w29 : ∀ j, j < 60 → W2 9 (6 + j) = Mm 1 (6 + j) := fun j hj => by rw [hW2, a_cell _ (by omega), a_cell _ (by omega), a_cell _ (by omega), a_cell _ (by omega), hW1, cpF_at _ _ hj]
  have w20 : ∀ j, j ≠ 23 → j ≠ 24 → j ≠ 25 → j ≠ 26 → W2 0 j = Mm 0 j := fun j h1 h2 h3 h4 => by rw [hW2, a_ne _ (by omega), a_ne _ (by omega), a_ne _ (by omega), a_ne _ (by omega), hW1, cpF_cell _ _ (by omega)]
  have w23 : W2 0 23 = 0 := by rw [hW2, a_ne _ (by omega), a_ne _ (by omega), a_ne _ (by omega)]; exact wr_at _ _ _ _
  have w24 : W2 0 24 = 0 := by rw [hW2, a_ne _ (by omega), a_ne _ (by omega)]; exact wr_at _ _ _ _
  have w25 : W2 0 25 = 0 := by rw [hW2, a_ne _ (by omega)]; exact wr_at _ _ _ _
  have w26 : W2 0 26 = 0 := by rw [hW2]; exact wr_at _ _ _ _
  obtain ⟨M1, hM1⟩ : ∃ M1, M1 = g_wr M0 65 3 0 := ⟨_, rfl⟩
  have m1 : ∀ a, a ≠ 65 → a ≠ 66 → M1 a = Mx a := fun a h1 h2 => by rw [hM1, a_cell _ h1, m0 a h2]
  have hr1 : Rel (n + 1) M1 Mm := Rel_keep hr (fun k hk => by unfold R_kx at hk; exact m1 k (by omega) (by omega)) (by rw [m1 23 (by omega) (by omega)]) (by rw [m1 23 (by omega) (by omega)]) (by rw [m1 23 (by omega) (by omega)]) (fun k _ _ => rfl) (fun j _ => rfl)
  have w21 := w2 1 (by omega) (by omega)
  obtain ⟨e, y, M2, W3, b1, b2, b3, b4, b5, b6, b7, b8, b9, b10, b11⟩ := both_fore (D := D) (N := N) (c := c) (w := a2) (w' := a2) (by omega) hc q1 c 0 g_fuel g_fuel 0 0 (n + 1) M1 Mm W2 (by omega) (by unfold g_fuel; omega) (by unfold g_fuel; omega) (by omega) (by omega) hr1 ⟨w2 3 (by omega) (by omega), fun j _ _ => by rw [w21], Or.inl w23⟩ w23 (by rw [m1 2 (by omega) (by omega), q2]; omega) (by rw [w21, q3]; omega) w24 w25 (by rw [w26, hM1, wr_at])
  rw [Int.natCast_zero] at b3 b4
  obtain ⟨M3, hM3⟩ : ∃ M3, M3 = g_cp M2 66 0 2 0 133 := ⟨_, rfl⟩
  have m3 : ∀ a, a ≠ 2 → M3 a = M2 a := fun a ha => by rw [hM3]; exact g_cp_cell _ ha
  have m32 : ∀ j, j < 133 → M3 2 j = Mx 2 j := fun j hj => by
    have e1 : M3 2 j = M2 66 j := by rw [hM3]; simp (disch := omega) only [↓reduceIte, ↓nm_eq, ↓jn_eq, ↓c_within, ↓c_isIn, ↓c_isScene, ↓c_isPlace, ↓c_isCue, ↓c_isDigit, ↓d_isScene, ↓d_isAny, ↓ta_pb1, ↓ta_pb0, ↓ta_pb1', ↓ta_pb0', ta_lt, ta_nlt, ta_le, ta_nle, ta_eq, ta_neq, ta_nne, ta_ne, gs_id, a_gd01, a_gdT, or_true, true_or, bd_some, bW_sm, a_gd, a_ne, a_rd, Int.toNat_natCast, Int.toNat_add, Int.toNat_mul, Int.reduceToNat, a_gdp, a_cell, and_self, and_true, true_and, g_cp_in, Nat.zero_add, Nat.sub_zero]
    rw [e1, b8 66 (by omega) (by omega) (by omega) (by omega), hM1, a_cell _ (by omega), m66 j hj]
  obtain ⟨W4, hW4⟩ : ∃ W4, W4 = g_wr (cpF W3 1 6 (fun j => W3 9 (6 + j)) 60) 0 23 1 := ⟨_, rfl⟩
  have w4 : ∀ a, a ≠ 0 → a ≠ 1 → W4 a = W3 a := fun a h1 h2 => by rw [hW4, a_cell _ h1, cpF_cell _ _ h2]
  have w40 : ∀ j, j ≠ 23 → W4 0 j = W3 0 j := fun j hj => by rw [hW4, a_ne _ (by omega), cpF_cell _ _ (by omega)]
  have w41 : ∀ j, W4 1 j = Mm 1 j := fun j => by
    rw [hW4, a_cell _ (by omega)]
    by_cases z : 6 ≤ j ∧ j < 66
    · rw [cpF_in _ _ (by omega), show 6 + (j - 6) = j by omega, b9 9 (by omega) (by omega) (by omega) (by omega) (by omega)]
      have := w29 (j - 6) (by omega)
      rw [show 6 + (j - 6) = j by omega] at this
      exact this
    · rw [cpF_ne _ _ (by omega), b11 j (by omega), w21]
  have w423 : W4 0 23 = 1 := by rw [hW4]; exact wr_at _ _ _ _
  have mm : ∀ a, a ≠ 2 → a ≠ 33 → a ≠ 34 → a ≠ 65 → a ≠ 66 → M3 a = Mx a := fun a d1 d2 d3 d4 d5 => by rw [m3 a d1, b8 a d1 d2 d3 d4, m1 a d4 d5]
  have gx : Fx Mx M3 := ⟨fun k hk => mm k (by omega) (by omega) (by omega) (by omega) (by omega), fun j hj => by rw [mm 23 (by omega) (by omega) (by omega) (by omega) (by omega)], by rw [mm 1 (by omega) (by omega) (by omega) (by omega) (by omega)]⟩
  have gm : Fm Mm W4 := ⟨fun k hk => by rw [w4 k (by omega) (by omega), b9 k (by omega) (by omega) (by omega) (by omega) (by omega), w2 k (by omega) (by omega)], fun j hj => by
    by_cases z : j = 23
    · rw [z, w423]; exact (Rel_23 hr).symm
    · rw [w40 j z, b10 j (by omega) (by omega) (by omega), w20 j (by omega) (by omega) (by omega) (by omega)]⟩
  have hf : RF M3 W4 := by
    have H := Rel_RF hr
    unfold RF at H ⊢
    rw [mm 1 (by omega) (by omega) (by omega) (by omega) (by omega), mm 3 (by omega) (by omega) (by omega) (by omega) (by omega), mm 4 (by omega) (by omega) (by omega) (by omega) (by omega), mm 5 (by omega) (by omega) (by omega) (by omega) (by omega), mm 6 (by omega) (by omega) (by omega) (by omega) (by omega), mm 7 (by omega) (by omega) (by omega) (by omega) (by omega), mm 8 (by omega) (by omega) (by omega) (by omega) (by omega), mm 9 (by omega) (by omega) (by omega) (by omega) (by omega), mm 10 (by omega) (by omega) (by omega) (by omega) (by omega), mm 11 (by omega) (by omega) (by omega) (by omega) (by omega)]
    exact R_film_cg H (fun _ _ => rfl) m32 (fun _ _ => rfl) (fun _ _ => rfl) (fun _ _ => rfl) (fun _ _ => rfl) (fun _ _ => rfl) (fun _ _ => rfl) (fun _ _ => rfl) (fun _ _ => rfl) (fun _ _ => rfl) (fun j _ => w41 j)
  have c0 := Rel_c0 hr
  have f3 := b7
  have hx : m_X8_foretold N a2 Mx = some (if a2 = 0 then (e : Int) else if a2 = 1 then M2 65 3 else (y : Int), M3) := by
    unfold m_X8_foretold m_X2_foretell
    simp (disch := omega) only [↓reduceIte, ↓nm_eq, ↓jn_eq, ↓c_within, ↓c_isIn, ↓c_isScene, ↓c_isPlace, ↓c_isCue, ↓c_isDigit, ↓d_isScene, ↓d_isAny, ↓ta_pb1, ↓ta_pb0, ↓ta_pb1', ↓ta_pb0', ta_lt, ta_nlt, ta_le, ta_nle, ta_eq, ta_neq, ta_nne, ta_ne, gs_id, a_gd01, a_gdT, or_true, true_or, bd_some, bW_sm, a_gd, a_ne, a_rd, Int.toNat_natCast, Int.toNat_add, Int.toNat_mul, Int.reduceToNat, a_gdp, a_cell, and_self, and_true, true_and]
    rw [← hM0]
    simp (disch := omega) only [↓reduceIte, ↓nm_eq, ↓jn_eq, ↓c_within, ↓c_isIn, ↓c_isScene, ↓c_isPlace, ↓c_isCue, ↓c_isDigit, ↓d_isScene, ↓d_isAny, ↓ta_pb1, ↓ta_pb0, ↓ta_pb1', ↓ta_pb0', ta_lt, ta_nlt, ta_le, ta_nle, ta_eq, ta_neq, ta_nne, ta_ne, gs_id, a_gd01, a_gdT, or_true, true_or, bd_some, bW_sm, a_gd, a_ne, a_rd, Int.toNat_natCast, Int.toNat_add, Int.toNat_mul, Int.reduceToNat, a_gdp, a_cell, and_self, and_true, true_and, pp]
    rw [← hM1]
    simp (disch := omega) only [↓reduceIte, ↓nm_eq, ↓jn_eq, ↓c_within, ↓c_isIn, ↓c_isScene, ↓c_isPlace, ↓c_isCue, ↓c_isDigit, ↓d_isScene, ↓d_isAny, ↓ta_pb1, ↓ta_pb0, ↓ta_pb1', ↓ta_pb0', ta_lt, ta_nlt, ta_le, ta_nle, ta_eq, ta_neq, ta_nne, ta_ne, gs_id, a_gd01, a_gdT, or_true, true_or, bd_some, bW_sm, a_gd, a_ne, a_rd, Int.toNat_natCast, Int.toNat_add, Int.toNat_mul, Int.reduceToNat, a_gdp, a_cell, and_self, and_true, true_and, b3]
    rw [← hM3]
    by_cases z : a2 = 0
    · simp (disch := omega) only [↓reduceIte, ↓nm_eq, ↓jn_eq, ↓c_within, ↓c_isIn, ↓c_isScene, ↓c_isPlace, ↓c_isCue, ↓c_isDigit, ↓d_isScene, ↓d_isAny, ↓ta_pb1, ↓ta_pb0, ↓ta_pb1', ↓ta_pb0', ta_lt, ta_nlt, ta_le, ta_nle, ta_eq, ta_neq, ta_nne, ta_ne, gs_id, a_gd01, a_gdT, or_true, true_or, bd_some, bW_sm, a_gd, a_ne, a_rd, Int.toNat_natCast, Int.toNat_add, Int.toNat_mul, Int.reduceToNat, a_gdp, a_cell, and_self, and_true, true_and]
    · by_cases z2 : a2 = 1
      · simp (disch := omega) only [↓reduceIte, ↓nm_eq, ↓jn_eq, ↓c_within, ↓c_isIn, ↓c_isScene, ↓c_isPlace, ↓c_isCue, ↓c_isDigit, ↓d_isScene, ↓d_isAny, ↓ta_pb1, ↓ta_pb0, ↓ta_pb1', ↓ta_pb0', ta_lt, ta_nlt, ta_le, ta_nle, ta_eq, ta_neq, ta_nne, ta_ne, gs_id, a_gd01, a_gdT, or_true, true_or, bd_some, bW_sm, a_gd, a_ne, a_rd, Int.toNat_natCast, Int.toNat_add, Int.toNat_mul, Int.reduceToNat, a_gdp, a_cell, and_self, and_true, true_and, m3]
      · simp (disch := omega) only [↓reduceIte, ↓nm_eq, ↓jn_eq, ↓c_within, ↓c_isIn, ↓c_isScene, ↓c_isPlace, ↓c_isCue, ↓c_isDigit, ↓d_isScene, ↓d_isAny, ↓ta_pb1, ↓ta_pb0, ↓ta_pb1', ↓ta_pb0', ta_lt, ta_nlt, ta_le, ta_nle, ta_eq, ta_neq, ta_nne, ta_ne, gs_id, a_gd01, a_gdT, or_true, true_or, bd_some, bW_sm, a_gd, a_ne, a_rd, Int.toNat_natCast, Int.toNat_add, Int.toNat_mul, Int.reduceToNat, a_gdp, a_cell, and_self, and_true, true_and]
  have hm : m_X9_foretold N a2 Mm = some (if a2 = 0 then (e : Int) else if a2 = 1 then M2 65 3 else (y : Int), W4) := by
    unfold m_X9_foretold
    simp (disch := omega) only [↓reduceIte, ↓nm_eq, ↓jn_eq, ↓c_within, ↓c_isIn, ↓c_isScene, ↓c_isPlace, ↓c_isCue, ↓c_isDigit, ↓d_isScene, ↓d_isAny, ↓ta_pb1, ↓ta_pb0, ↓ta_pb1', ↓ta_pb0', ta_lt, ta_nlt, ta_le, ta_nle, ta_eq, ta_neq, ta_nne, ta_ne, gs_id, a_gd01, a_gdT, or_true, true_or, bd_some, bW_sm, a_gd, a_ne, a_rd, Int.toNat_natCast, Int.toNat_add, Int.toNat_mul, Int.reduceToNat, a_gdp, a_cell, and_self, and_true, true_and, fore_cp1]
    rw [← hW1, ← hW2]
    simp (disch := omega) only [↓reduceIte, ↓nm_eq, ↓jn_eq, ↓c_within, ↓c_isIn, ↓c_isScene, ↓c_isPlace, ↓c_isCue, ↓c_isDigit, ↓d_isScene, ↓d_isAny, ↓ta_pb1, ↓ta_pb0, ↓ta_pb1', ↓ta_pb0', ta_lt, ta_nlt, ta_le, ta_nle, ta_eq, ta_neq, ta_nne, ta_ne, gs_id, a_gd01, a_gdT, or_true, true_or, bd_some, bW_sm, a_gd, a_ne, a_rd, Int.toNat_natCast, Int.toNat_add, Int.toNat_mul, Int.reduceToNat, a_gdp, a_cell, and_self, and_true, true_and, b4, fore_cp2]
    rw [← hW4]
    by_cases z : a2 = 0
    · simp (disch := omega) only [↓reduceIte, ↓nm_eq, ↓jn_eq, ↓c_within, ↓c_isIn, ↓c_isScene, ↓c_isPlace, ↓c_isCue, ↓c_isDigit, ↓d_isScene, ↓d_isAny, ↓ta_pb1, ↓ta_pb0, ↓ta_pb1', ↓ta_pb0', ta_lt, ta_nlt, ta_le, ta_nle, ta_eq, ta_neq, ta_nne, ta_ne, gs_id, a_gd01, a_gdT, or_true, true_or, bd_some, bW_sm, a_gd, a_ne, a_rd, Int.toNat_natCast, Int.toNat_add, Int.toNat_mul, Int.reduceToNat, a_gdp, a_cell, and_self, and_true, true_and, cpF_cell, b5]
    · by_cases z2 : a2 = 1
      · simp (disch := omega) only [↓reduceIte, ↓nm_eq, ↓jn_eq, ↓c_within, ↓c_isIn, ↓c_isScene, ↓c_isPlace, ↓c_isCue, ↓c_isDigit, ↓d_isScene, ↓d_isAny, ↓ta_pb1, ↓ta_pb0, ↓ta_pb1', ↓ta_pb0', ta_lt, ta_nlt, ta_le, ta_nle, ta_eq, ta_neq, ta_nne, ta_ne, gs_id, a_gd01, a_gdT, or_true, true_or, bd_some, bW_sm, a_gd, a_ne, a_rd, Int.toNat_natCast, Int.toNat_add, Int.toNat_mul, Int.reduceToNat, a_gdp, a_cell, and_self, and_true, true_and, cpF_cell, b7]
      · simp (disch := omega) only [↓reduceIte, ↓nm_eq, ↓jn_eq, ↓c_within, ↓c_isIn, ↓c_isScene, ↓c_isPlace, ↓c_isCue, ↓c_isDigit, ↓d_isScene, ↓d_isAny, ↓ta_pb1, ↓ta_pb0, ↓ta_pb1', ↓ta_pb0', ta_lt, ta_nlt, ta_le, ta_nle, ta_eq, ta_neq, ta_nne, ta_ne, gs_id, a_gd01, a_gdT, or_true, true_or, bd_some, bW_sm, a_gd, a_ne, a_rd, Int.toNat_natCast, Int.toNat_add, Int.toNat_mul, Int.reduceToNat, a_gdp, a_cell, and_self, and_true, true_and, cpF_cell, b6]
  exact ⟨_, _, M3, W4, hx, hm, rfl, Rel_mk hr gx gm (by rw [w40 24 (by omega)]; omega) (by rw [w40 25 (by omega)]; omega) hf⟩
