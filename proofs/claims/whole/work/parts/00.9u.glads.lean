/-! the scenes of an evening, then whom it gladdens: both -/
theorem RF_rows {M W : g_M} (H : RF M W) : ∃ P : Nat, P ≤ 8 ∧ M 1 7 = P ∧ W 1 0 = P ∧ ∀ q : Nat, q < P → (0 ≤ M 2 q ∧ M 2 q ≤ 9 ∧ W 1 (34 + 4 * q) = M 2 q) ∧ (0 ≤ M 2 (8 + q) ∧ M 2 (8 + q) ≤ 99 ∧ W 1 (34 + 4 * q + 1) = M 2 (8 + q)) ∧ 0 ≤ M 6 q ∧ M 6 q ≤ 9 ∧ W 1 (34 + 4 * q + 2) = M 6 q := by
  obtain ⟨P, T, S, E, C, F, hP, hT, hU, hS, hE, hC, hF, hsn, htd, hkd, hpl, -⟩ := H
  obtain ⟨D, d1, d2, d3, d4, d5, d6, d7, d8, d9, d10⟩ := hsn
  refine ⟨P, hP.1, hP.2.1, hP.2.2, fun q hq => ?_⟩
  obtain ⟨b1, b2, b3, b4, b5, b6⟩ := d9 q hq
  have := hpl q hq
  exact ⟨⟨b1, b2, b3⟩, ⟨b4, b5, b6⟩, this.1, this.2.1, this.2.2.1⟩
theorem both_scenes {n : Nat} {Mx Mm Ws M1 : g_M} {P : Nat} {e0 c0 d b p : Int} (hP : P ≤ 8) (hr : Rel n Mx Mm) (l3 : LK Mx Mm M1 d b p) : ∀ (r i f g x s : Nat) (M W : g_M), i + r = 30 → r < f → r < g → s ≤ 12 → x ≤ i → M 65 3 = i → EI Mx Mm Ws M1 P x e0 c0 M W → ∃ (t j z : Nat) (M' W' : g_M), t ≤ 12 ∧ j ≤ 30 ∧ z ≤ j ∧ M' 65 3 = j ∧ EI Mx Mm Ws M1 P z e0 c0 M' W' ∧ (∀ k, m_X2_holdEvening_L19 k f s M = k t M') ∧ ∀ y k, m_X9_pass_L9 y k g s i W = k t j W' := by
  intro r
  induction r with
  | zero =>
    intro i f g x s M W h1 h2 h3 h4 h5 h6 h7
    obtain ⟨f, rfl⟩ : ∃ f', f = f' + 1 := ⟨f - 1, by omega⟩
    obtain ⟨g, rfl⟩ : ∃ f', g = f' + 1 := ⟨g - 1, by omega⟩
    refine ⟨s, i, x, M, W, h4, by omega, h5, h6, h7, fun k => ?_, fun y k => ?_⟩
    · rw [m_X2_holdEvening_L19]
      by_cases c : s = 12
      · simp (disch := omega) only [↓reduceIte, ↓nm_eq, ↓jn_eq, ↓c_within, ↓c_isIn, ↓c_isScene, ↓c_isPlace, ↓c_isCue, ↓c_isDigit, ↓d_isScene, ↓d_isAny, ↓ta_pb1, ↓ta_pb0, ↓ta_pb1', ↓ta_pb0', ta_lt, ta_nlt, ta_le, ta_nle, ta_eq, ta_neq, ta_nne, ta_ne, gs_id, a_gd01, a_gdT, or_true, true_or, bd_some, bW_sm, a_gd, a_ne, a_rd, Int.toNat_natCast, Int.toNat_add, Int.toNat_mul, Int.reduceToNat, a_gdp, a_cell, and_self, and_true, true_and]
      · simp (disch := omega) only [↓reduceIte, ↓nm_eq, ↓jn_eq, ↓c_within, ↓c_isIn, ↓c_isScene, ↓c_isPlace, ↓c_isCue, ↓c_isDigit, ↓d_isScene, ↓d_isAny, ↓ta_pb1, ↓ta_pb0, ↓ta_pb1', ↓ta_pb0', ta_lt, ta_nlt, ta_le, ta_nle, ta_eq, ta_neq, ta_nne, ta_ne, gs_id, a_gd01, a_gdT, or_true, true_or, bd_some, bW_sm, a_gd, a_ne, a_rd, Int.toNat_natCast, Int.toNat_add, Int.toNat_mul, Int.reduceToNat, a_gdp, a_cell, and_self, and_true, true_and, h6]
    · rw [m_X9_pass_L9]
      by_cases c : s = 12
      · simp (disch := omega) only [↓reduceIte, ↓nm_eq, ↓jn_eq, ↓c_within, ↓c_isIn, ↓c_isScene, ↓c_isPlace, ↓c_isCue, ↓c_isDigit, ↓d_isScene, ↓d_isAny, ↓ta_pb1, ↓ta_pb0, ↓ta_pb1', ↓ta_pb0', ta_lt, ta_nlt, ta_le, ta_nle, ta_eq, ta_neq, ta_nne, ta_ne, gs_id, a_gd01, a_gdT, or_true, true_or, bd_some, bW_sm, a_gd, a_ne, a_rd, Int.toNat_natCast, Int.toNat_add, Int.toNat_mul, Int.reduceToNat, a_gdp, a_cell, and_self, and_true, true_and]
      · simp (disch := omega) only [↓reduceIte, ↓nm_eq, ↓jn_eq, ↓c_within, ↓c_isIn, ↓c_isScene, ↓c_isPlace, ↓c_isCue, ↓c_isDigit, ↓d_isScene, ↓d_isAny, ↓ta_pb1, ↓ta_pb0, ↓ta_pb1', ↓ta_pb0', ta_lt, ta_nlt, ta_le, ta_nle, ta_eq, ta_neq, ta_nne, ta_ne, gs_id, a_gd01, a_gdT, or_true, true_or, bd_some, bW_sm, a_gd, a_ne, a_rd, Int.toNat_natCast, Int.toNat_add, Int.toNat_mul, Int.reduceToNat, a_gdp, a_cell, and_self, and_true, true_and]
  | succ r ih =>
    intro i f g x s M W h1 h2 h3 h4 h5 h6 h7
    obtain ⟨f, rfl⟩ : ∃ f', f = f' + 1 := ⟨f - 1, by omega⟩
    obtain ⟨g, rfl⟩ : ∃ f', g = f' + 1 := ⟨g - 1, by omega⟩
    by_cases c : s = 12
    · refine ⟨s, i, x, M, W, h4, by omega, h5, h6, h7, fun k => ?_, fun y k => ?_⟩
      · rw [m_X2_holdEvening_L19]; simp (disch := omega) only [↓reduceIte, ↓nm_eq, ↓jn_eq, ↓c_within, ↓c_isIn, ↓c_isScene, ↓c_isPlace, ↓c_isCue, ↓c_isDigit, ↓d_isScene, ↓d_isAny, ↓ta_pb1, ↓ta_pb0, ↓ta_pb1', ↓ta_pb0', ta_lt, ta_nlt, ta_le, ta_nle, ta_eq, ta_neq, ta_nne, ta_ne, gs_id, a_gd01, a_gdT, or_true, true_or, bd_some, bW_sm, a_gd, a_ne, a_rd, Int.toNat_natCast, Int.toNat_add, Int.toNat_mul, Int.reduceToNat, a_gdp, a_cell, and_self, and_true, true_and]
      · rw [m_X9_pass_L9]; simp (disch := omega) only [↓reduceIte, ↓nm_eq, ↓jn_eq, ↓c_within, ↓c_isIn, ↓c_isScene, ↓c_isPlace, ↓c_isCue, ↓c_isDigit, ↓d_isScene, ↓d_isAny, ↓ta_pb1, ↓ta_pb0, ↓ta_pb1', ↓ta_pb0', ta_lt, ta_nlt, ta_le, ta_nle, ta_eq, ta_neq, ta_nne, ta_ne, gs_id, a_gd01, a_gdT, or_true, true_or, bd_some, bW_sm, a_gd, a_ne, a_rd, Int.toNat_natCast, Int.toNat_add, Int.toNat_mul, Int.reduceToNat, a_gdp, a_cell, and_self, and_true, true_and]
    · obtain ⟨t, y, M2, W2, t1, t2, t3, t4, t5, t6, t7⟩ := both_show hP hr l3 h7 (s := s) (by omega)
      obtain ⟨t', j, z, M3, W3, q1, q2, q3, q4, q5, q6, q7⟩ := ih (i + 1) f g y t (g_wr M2 65 3 (M2 65 3 + 1)) W2 (by omega) (by omega) (by omega) t1 (by omega) (by rw [wr_at, t7, h6]; omega) (EI_65 t6)
      refine ⟨t', j, z, M3, W3, q1, q2, q3, q4, q5, fun k => ?_, fun y k => ?_⟩
      · rw [m_X2_holdEvening_L19]; simp (disch := omega) only [↓reduceIte, ↓nm_eq, ↓jn_eq, ↓c_within, ↓c_isIn, ↓c_isScene, ↓c_isPlace, ↓c_isCue, ↓c_isDigit, ↓d_isScene, ↓d_isAny, ↓ta_pb1, ↓ta_pb0, ↓ta_pb1', ↓ta_pb0', ta_lt, ta_nlt, ta_le, ta_nle, ta_eq, ta_neq, ta_nne, ta_ne, gs_id, a_gd01, a_gdT, or_true, true_or, bd_some, bW_sm, a_gd, a_ne, a_rd, Int.toNat_natCast, Int.toNat_add, Int.toNat_mul, Int.reduceToNat, a_gdp, a_cell, and_self, and_true, true_and, h6, t4, q6]
      · have q8 := q7 y k
        rw [Int.natCast_add, Int.natCast_one] at q8
        rw [m_X9_pass_L9]; simp (disch := omega) only [↓reduceIte, ↓nm_eq, ↓jn_eq, ↓c_within, ↓c_isIn, ↓c_isScene, ↓c_isPlace, ↓c_isCue, ↓c_isDigit, ↓d_isScene, ↓d_isAny, ↓ta_pb1, ↓ta_pb0, ↓ta_pb1', ↓ta_pb0', ta_lt, ta_nlt, ta_le, ta_nle, ta_eq, ta_neq, ta_nne, ta_ne, gs_id, a_gd01, a_gdT, or_true, true_or, bd_some, bW_sm, a_gd, a_ne, a_rd, Int.toNat_natCast, Int.toNat_add, Int.toNat_mul, Int.reduceToNat, a_gdp, a_cell, and_self, and_true, true_and, t5, q8]
theorem EI_glad {Mx Mm Ws M1 : g_M} {P x : Nat} {e c : Int} {M W : g_M} (hP : P ≤ 8) (h : EI Mx Mm Ws M1 P x e c M W) {q : Nat} (hq : q < P) {v : Int} (hv : 0 ≤ v ∧ v ≤ 99) : EI Mx Mm Ws M1 P x e c (g_wr M 2 (8 + q) v) (g_wr W 1 (34 + 4 * q + 1) v) := by
  obtain ⟨hA, hB, hC, hD, hE, hF, hG, hH, hI, hJ, hK, hL⟩ := h
  obtain ⟨M', hM⟩ : ∃ M', M' = g_wr M 2 (8 + q) v := ⟨_, rfl⟩
  obtain ⟨W', hW⟩ : ∃ W', W' = g_wr W 1 (34 + 4 * q + 1) v := ⟨_, rfl⟩
  rw [← hM, ← hW]
  have m0 : ∀ a, a ≠ 2 → M' a = M a := fun a b1 => by rw [hM, a_cell _ b1]
  have m2 : ∀ j, j ≠ 8 + q → M' 2 j = M 2 j := fun j hj => by rw [hM, a_ne _ (by omega)]
  have m3 : M' 2 (8 + q) = v := by rw [hM]; exact wr_at _ _ _ _
  have w0 : ∀ a, a ≠ 1 → W' a = W a := fun a b1 => by rw [hW, a_cell _ b1]
  have w1 : ∀ j, j ≠ 34 + 4 * q + 1 → W' 1 j = W 1 j := fun j hj => by rw [hW, a_ne _ (by omega)]
  have w2 : W' 1 (34 + 4 * q + 1) = v := by rw [hW]; exact wr_at _ _ _ _
  refine ⟨fun a b1 b2 b3 b4 => by rw [m0 a b1]; exact hA a b1 b2 b3 b4, fun j hj => by rw [m0 33 (by omega)]; exact hB j hj, ⟨by rw [w0 3 (by omega)]; exact hC.1, fun a b1 b2 b3 b4 b5 => by rw [w0 a b2]; exact hC.2 a b1 b2 b3 b4 b5⟩, fun j hj => by rw [m2 j (by omega)]; exact hD j hj, fun j hj => by rw [w1 j (by omega)]; exact hE j hj, fun p i hp hi h1 => by rw [w1 _ (by omega)]; exact hF p i hp hi h1, fun t ht => by rw [m2 _ (by omega), m2 _ (by omega), w1 _ (by omega), w1 _ (by omega)]; exact hG t ht, by rw [m2 42 (by omega), w1 7 (by omega)]; exact hH, fun p hp => ?_, ⟨by rw [m0 65 (by omega)]; exact hJ.1, by rw [w0 0 (by omega)]; exact hJ.2⟩, ⟨fun j b1 b2 b3 => by rw [w0 0 (by omega)]; exact hK.1 j b1 b2 b3, fun j hj => by rw [w1 j (by omega)]; exact hK.2 j hj⟩, by rw [w0 0 (by omega)]; exact hL.1, by rw [w1 8 (by omega)]; exact hL.2⟩
  by_cases c : p = q
  · subst c
    rw [m3, w2]
    exact ⟨hv.1, hv.2, rfl⟩
  · rw [m2 _ (by omega), w1 _ (by omega)]
    exact hI p hp
theorem ct99 {v : Int} (h : 0 ≤ v) : ctN v 99 = if 99 < v then 99 else v := by
  unfold ctN
  rw [if_neg (by omega), show ((99 : Nat) : Int) = 99 from rfl]
theorem both_gladden {n : Nat} {Mx Mm Ws M1 : g_M} {P x j : Nat} {e0 c0 d b p : Int} (hP : P ≤ 8) (p7 : Mx 1 7 = P) (p0 : Mm 1 0 = P) (hq : ∀ q : Nat, q < P → (0 ≤ Mx 2 q ∧ Mx 2 q ≤ 9 ∧ Mm 1 (34 + 4 * q) = Mx 2 q) ∧ 0 ≤ Mx 6 q ∧ Mx 6 q ≤ 9 ∧ Mm 1 (34 + 4 * q + 2) = Mx 6 q) (hr : Rel n Mx Mm) (l3 : LK Mx Mm M1 d b p) (hj : j ≤ 30) : ∀ (r i f g : Nat) (M W : g_M), i + r = P → r < f → r < g → M 65 3 = j → EI Mx Mm Ws M1 P x e0 c0 M W → ∃ (M' W' : g_M), M' 65 3 = j ∧ EI Mx Mm Ws M1 P x e0 c0 M' W' ∧ m_X2_gladdenSeen_L2 f i M = some M' ∧ ∀ k, m_X9_gladden_L26 j k g i W = k W' := by
  obtain ⟨u1, u2, u3⟩ := Rel_u hr
  intro r
  induction r with
  | zero =>
    intro i f g M W h1 h2 h3 h6 h7
    obtain ⟨hA, hB, hC, hD, hE, hF, hG, hH, hI, hJ, hK, hL⟩ := id h7
    obtain ⟨f, rfl⟩ : ∃ f', f = f' + 1 := ⟨f - 1, by omega⟩
    obtain ⟨g, rfl⟩ : ∃ f', g = f' + 1 := ⟨g - 1, by omega⟩
    have g1 : M 1 7 = P := by rw [hA 1 (by omega) (by omega) (by omega) (by omega)]; exact p7
    have g2 : W 1 0 = P := by rw [hE 0 (by omega)]; exact p0
    refine ⟨M, W, h6, h7, ?_, fun k => ?_⟩
    · rw [m_X2_gladdenSeen_L2]; simp (disch := omega) only [↓reduceIte, ↓nm_eq, ↓jn_eq, ↓c_within, ↓c_isIn, ↓c_isScene, ↓c_isPlace, ↓c_isCue, ↓c_isDigit, ↓d_isScene, ↓d_isAny, ↓ta_pb1, ↓ta_pb0, ↓ta_pb1', ↓ta_pb0', ta_lt, ta_nlt, ta_le, ta_nle, ta_eq, ta_neq, ta_nne, ta_ne, gs_id, a_gd01, a_gdT, or_true, true_or, bd_some, bW_sm, a_gd, a_ne, a_rd, Int.toNat_natCast, Int.toNat_add, Int.toNat_mul, Int.reduceToNat, a_gdp, a_cell, and_self, and_true, true_and, g1]
    · rw [m_X9_gladden_L26]; simp (disch := omega) only [↓reduceIte, ↓nm_eq, ↓jn_eq, ↓c_within, ↓c_isIn, ↓c_isScene, ↓c_isPlace, ↓c_isCue, ↓c_isDigit, ↓d_isScene, ↓d_isAny, ↓ta_pb1, ↓ta_pb0, ↓ta_pb1', ↓ta_pb0', ta_lt, ta_nlt, ta_le, ta_nle, ta_eq, ta_neq, ta_nne, ta_ne, gs_id, a_gd01, a_gdT, or_true, true_or, bd_some, bW_sm, a_gd, a_ne, a_rd, Int.toNat_natCast, Int.toNat_add, Int.toNat_mul, Int.reduceToNat, a_gdp, a_cell, and_self, and_true, true_and, g2]
  | succ r ih =>
    intro i f g M W h1 h2 h3 h6 h7
    obtain ⟨hA, hB, hC, hD, hE, hF, hG, hH, hI, hJ, hK, hL⟩ := id h7
    obtain ⟨f, rfl⟩ : ∃ f', f = f' + 1 := ⟨f - 1, by omega⟩
    obtain ⟨g, rfl⟩ : ∃ f', g = f' + 1 := ⟨g - 1, by omega⟩
    have g1 : M 1 7 = P := by rw [hA 1 (by omega) (by omega) (by omega) (by omega)]; exact p7
    have g2 : W 1 0 = P := by rw [hE 0 (by omega)]; exact p0
    have hi : i < P := by omega
    obtain ⟨⟨r1, r2, r3⟩, r4, r5, r6⟩ := hq i hi
    have m6 : M 6 = Mx 6 := hA 6 (by omega) (by omega) (by omega) (by omega)
    have m2 : M 2 i = Mx 2 i := hD i (by omega)
    have w0 : W 1 (34 + 4 * i) = Mx 2 i := by rw [← r3]; exact hF i 0 (by omega) (by omega) (by omega)
    have w2 : W 1 (34 + 4 * i + 2) = Mx 6 i := by rw [← r6]; exact hF i 2 (by omega) (by omega) (by omega)
    have s1 := p_seenx (M := M) hP hi (by rw [m2]; exact ⟨r1, r2⟩)
    have s2 := q_seenx (M := W) hP hi (by rw [w0]; exact ⟨r1, r2⟩)
    rw [m2] at s1
    rw [w0] at s2
    obtain ⟨l1, l2, l4⟩ := hI i hi
    by_cases c : 1 ≤ Mx 2 i ∧ Mx 2 i ≤ 6
    · rw [pb_t c] at s1 s2
      have hu : W 1 2 = Mx 1 9 := by rw [hE 2 (by omega)]; exact u3
      have hu1 : M 1 9 = Mx 1 9 := by rw [hA 1 (by omega) (by omega) (by omega) (by omega)]
      obtain ⟨v, M2, W2, v0, v1, v2, v3, v4, v5⟩ := both_glad hr ⟨u1, u2⟩ (EI_Ev l3 h7 (fun _ _ => rfl)) (q := i) (by omega) (x := j) (by omega) ⟨by omega, by omega, by rw [w0, m2]⟩ ⟨l1, l2, l4⟩ ⟨by rw [m6]; exact r4, by rw [m6]; exact r5, by rw [m6]; exact w2⟩
      obtain ⟨z, hz⟩ : ∃ z, z = ctN (M 2 (8 + i) + v) 99 := ⟨_, rfl⟩
      have zb : 0 ≤ z ∧ z ≤ 99 := by
        rw [hz, ct99 (by omega)]
        by_cases g3 : 99 < M 2 (8 + i) + v
        · rw [if_pos g3]; omega
        · rw [if_neg g3]; omega
      have q1 : m_X9_cut (M 2 (8 + i) + v) 0 99 = some z := by
        rw [hz]
        have := q_cut (v := M 2 (8 + i) + v) (t := 99) (by unfold V6; omega) (by omega)
        exact this
      have q2 : g_min 99 (M 2 (8 + i) + v) = z := by
        rw [g_min_of (by omega) (by omega), hz, ct99 (by omega)]
        by_cases g3 : 99 < M 2 (8 + i) + v
        · rw [if_pos g3, if_neg (by omega)]
        · rw [if_neg g3]
          by_cases g4 : M 2 (8 + i) + v < 99
          · rw [if_pos g4]
          · rw [if_neg g4]; omega
      have e2 := EI_glad hP (EI_law h7 v3 v4 v5) hi (v := z) ⟨by omega, by omega⟩
      have pt := p_put (i : Int) 1 z W2 (34 + 4 * i + 1) (by omega) (by omega)
      have gt := p_get (i : Int) 1 W (34 + 4 * i + 1) (by omega) (by omega)
      rw [l4] at gt
      obtain ⟨M3, W3, a1, a2, a3, a4⟩ := ih (i + 1) f g _ _ (by omega) (by omega) (by omega) (by rw [a_cell _ (by omega), v3 65 (by omega) (by omega)]; exact h6) e2
      rw [Int.natCast_add, Int.natCast_one] at a3
      refine ⟨M3, W3, a1, a2, ?_, fun k => ?_⟩
      · rw [m_X2_gladdenSeen_L2]; simp (disch := omega) only [↓reduceIte, ↓nm_eq, ↓jn_eq, ↓c_within, ↓c_isIn, ↓c_isScene, ↓c_isPlace, ↓c_isCue, ↓c_isDigit, ↓d_isScene, ↓d_isAny, ↓ta_pb1, ↓ta_pb0, ↓ta_pb1', ↓ta_pb0', ta_lt, ta_nlt, ta_le, ta_nle, ta_eq, ta_neq, ta_nne, ta_ne, gs_id, a_gd01, a_gdT, or_true, true_or, bd_some, bW_sm, a_gd, a_ne, a_rd, Int.toNat_natCast, Int.toNat_add, Int.toNat_mul, Int.reduceToNat, a_gdp, a_cell, and_self, and_true, true_and, g1, s1, hu1, h6, v1, q2, a3]
      · have a5 := a4 k
        rw [Int.natCast_add, Int.natCast_one] at a5
        rw [m_X9_gladden_L26]; simp (disch := omega) only [↓reduceIte, ↓nm_eq, ↓jn_eq, ↓c_within, ↓c_isIn, ↓c_isScene, ↓c_isPlace, ↓c_isCue, ↓c_isDigit, ↓d_isScene, ↓d_isAny, ↓ta_pb1, ↓ta_pb0, ↓ta_pb1', ↓ta_pb0', ta_lt, ta_nlt, ta_le, ta_nle, ta_eq, ta_neq, ta_nne, ta_ne, gs_id, a_gd01, a_gdT, or_true, true_or, bd_some, bW_sm, a_gd, a_ne, a_rd, Int.toNat_natCast, Int.toNat_add, Int.toNat_mul, Int.reduceToNat, a_gdp, a_cell, and_self, and_true, true_and, g2, s2, gt, hu, v2, q1, pt, a5]
    · obtain ⟨M3, W3, a1, a2, a3, a4⟩ := ih (i + 1) f g M W (by omega) (by omega) (by omega) h6 h7
      rw [Int.natCast_add, Int.natCast_one] at a3
      refine ⟨M3, W3, a1, a2, ?_, fun k => ?_⟩
      · rw [m_X2_gladdenSeen_L2]; simp (disch := omega) only [↓reduceIte, ↓nm_eq, ↓jn_eq, ↓c_within, ↓c_isIn, ↓c_isScene, ↓c_isPlace, ↓c_isCue, ↓c_isDigit, ↓d_isScene, ↓d_isAny, ↓ta_pb1, ↓ta_pb0, ↓ta_pb1', ↓ta_pb0', ta_lt, ta_nlt, ta_le, ta_nle, ta_eq, ta_neq, ta_nne, ta_ne, gs_id, a_gd01, a_gdT, or_true, true_or, bd_some, bW_sm, a_gd, a_ne, a_rd, Int.toNat_natCast, Int.toNat_add, Int.toNat_mul, Int.reduceToNat, a_gdp, a_cell, and_self, and_true, true_and, g1, s1, a3]
      · have a5 := a4 k
        rw [Int.natCast_add, Int.natCast_one] at a5
        rw [m_X9_gladden_L26]; simp (disch := omega) only [↓reduceIte, ↓nm_eq, ↓jn_eq, ↓c_within, ↓c_isIn, ↓c_isScene, ↓c_isPlace, ↓c_isCue, ↓c_isDigit, ↓d_isScene, ↓d_isAny, ↓ta_pb1, ↓ta_pb0, ↓ta_pb1', ↓ta_pb0', ta_lt, ta_nlt, ta_le, ta_nle, ta_eq, ta_neq, ta_nne, ta_ne, gs_id, a_gd01, a_gdT, or_true, true_or, bd_some, bW_sm, a_gd, a_ne, a_rd, Int.toNat_natCast, Int.toNat_add, Int.toNat_mul, Int.reduceToNat, a_gdp, a_cell, and_self, and_true, true_and, g2, s2, a5]
