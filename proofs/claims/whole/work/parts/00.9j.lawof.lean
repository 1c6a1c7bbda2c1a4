/-! every law of every text, and of none -/
theorem law_txt {M W : g_M} {T l : Nat} (hT : T < 4) (hl : l < 3) (h : R_text (fun i => M (41 + 6 * T + i)) (fun j => W 3 (705 * T + j))) : LawNo T (41 + 6 * T) l M W ∨ LawYes T (41 + 6 * T) l M W := by
  obtain ⟨n, n1, n2, n3, n4, n5⟩ := h
  have hb := R_heads (C := fun i => M (41 + 6 * T + i)) (B := fun j => W 3 (705 * T + j)) n4
  rcases n5 l hl with ⟨z1, z2, z3⟩ | ⟨k, i, j, i', j', k1, k2, k3, k4, k5, k6, k7, k8, k9, r1, r2, r3⟩
  · refine Or.inl fun M' W' ⟨s1, s2⟩ => ⟨?_, fun w top hw ht => ?_⟩
    · have y1 : M' (41 + 6 * T + 2) l = 0 := by rw [s1 _ (by omega) (by omega)]; exact z1
      have y2 : M' (41 + 6 * T + 3) l = 0 := by rw [s1 _ (by omega) (by omega)]; exact z2
      unfold m_X7_has
      simp (disch := omega) only [↓reduceIte, ↓nm_eq, ↓jn_eq, ↓c_within, ↓c_isIn, ↓c_isScene, ↓c_isPlace, ↓c_isCue, ↓c_isDigit, ↓d_isScene, ↓d_isAny, ↓ta_pb1, ↓ta_pb0, ↓ta_pb1', ↓ta_pb0', ta_lt, ta_nlt, ta_le, ta_nle, ta_eq, ta_neq, ta_nne, ta_ne, gs_id, a_gd01, a_gdT, or_true, true_or, bd_some, bW_sm, a_gd, a_ne, a_rd, Int.toNat_natCast, Int.toNat_add, Int.toNat_mul, Int.reduceToNat, a_gdp, a_cell, and_self, and_true, true_and, y1, y2]
    · refine q_says_none hT n1 hl ht (by rw [s2]; exact n3) (fun y hy => ?_) (fun y hy => ?_) hw
      · rw [s2]; exact hb y hy
      · rw [s2]; exact z3 y hy
  · refine Or.inr fun M' W' ⟨s1, s2⟩ => ⟨?_, fun en kd he => ?_⟩
    · have y1 : M' (41 + 6 * T + 2) l = i := by rw [s1 _ (by omega) (by omega)]; exact k4
      have y2 : M' (41 + 6 * T + 3) l = j := by rw [s1 _ (by omega) (by omega)]; exact k5
      unfold m_X7_has
      simp (disch := omega) only [↓reduceIte, ↓nm_eq, ↓jn_eq, ↓c_within, ↓c_isIn, ↓c_isScene, ↓c_isPlace, ↓c_isCue, ↓c_isDigit, ↓d_isScene, ↓d_isAny, ↓ta_pb1, ↓ta_pb0, ↓ta_pb1', ↓ta_pb0', ta_lt, ta_nlt, ta_le, ta_nle, ta_eq, ta_neq, ta_nne, ta_ne, gs_id, a_gd01, a_gdT, or_true, true_or, bd_some, bW_sm, a_gd, a_ne, a_rd, Int.toNat_natCast, Int.toNat_add, Int.toNat_mul, Int.reduceToNat, a_gdp, a_cell, and_self, and_true, true_and, y1, y2]
    · obtain ⟨v, v1, v2, v3⟩ := r3 en kd he
      refine ⟨v, v1, fun M2 W2 ⟨t1, t2⟩ c1 c2 => ?_⟩
      obtain ⟨M3, p1, p2⟩ := p_value (t := 41 + 6 * T) hl (by omega) (by rw [t1 _ (by omega) (by omega)]; exact k4) (by rw [t1 _ (by omega) (by omega)]; exact k5) k6 r1 v2 (fun y _ _ => by rw [t1 _ (by omega) (by omega)]) c1
      have e1 : W2 3 (705 * T + (1 + 4 * k + 1)) = i' := by rw [t2]; exact k7
      have e2 : W2 3 (705 * T + (1 + 4 * k + 2)) = j' := by rw [t2]; exact k8
      obtain ⟨W4, w1, w2⟩ := q_summed (W := W2) hT (show k < 24 by omega) e1 e2 k9 r2 v3 (fun y => by rw [t2]) c2
      refine ⟨M3, W4, p1, p2, w2, fun w top ht => ?_⟩
      exact q_says_val hT n1 hl ht (by rw [t2]; exact n3) (fun y hy => by rw [t2]; exact hb y hy) k1 (by rw [t2]; exact k2) (fun y hy => by rw [t2]; exact k3 y hy) v1 w1
theorem law_none {M W : g_M} {l : Nat} (hl : l < 3) (h : M 37 l = 0 ∧ M 38 l = 0) : LawNo (-1) 35 l M W := by
  refine fun M' W' ⟨s1, s2⟩ => ⟨?_, fun w top hw ht => ?_⟩
  · have y1 : M' (35 + 2) l = 0 := by rw [s1 _ (by omega) (by omega)]; exact h.1
    have y2 : M' (35 + 3) l = 0 := by rw [s1 _ (by omega) (by omega)]; exact h.2
    unfold m_X7_has
    simp (disch := omega) only [↓reduceIte, ↓nm_eq, ↓jn_eq, ↓c_within, ↓c_isIn, ↓c_isScene, ↓c_isPlace, ↓c_isCue, ↓c_isDigit, ↓d_isScene, ↓d_isAny, ↓ta_pb1, ↓ta_pb0, ↓ta_pb1', ↓ta_pb0', ta_lt, ta_nlt, ta_le, ta_nle, ta_eq, ta_neq, ta_nne, ta_ne, gs_id, a_gd01, a_gdT, or_true, true_or, bd_some, bW_sm, a_gd, a_ne, a_rd, Int.toNat_natCast, Int.toNat_add, Int.toNat_mul, Int.reduceToNat, a_gdp, a_cell, and_self, and_true, true_and, y1, y2]
  · have eg : gs w = w := by unfold V6 at hw; exact gs_id (by omega) (by omega)
    unfold m_X9_says
    rw [nm_eq]
    obtain ⟨f, hf⟩ : ∃ f, g_fuel = f + 1 := ⟨g_fuel - 1, by unfold g_fuel; omega⟩
    rw [hf, m_X9_says_L3]
    simp (disch := omega) only [↓reduceIte, ↓nm_eq, ↓jn_eq, ↓c_within, ↓c_isIn, ↓c_isScene, ↓c_isPlace, ↓c_isCue, ↓c_isDigit, ↓d_isScene, ↓d_isAny, ↓ta_pb1, ↓ta_pb0, ↓ta_pb1', ↓ta_pb0', ta_lt, ta_nlt, ta_le, ta_nle, ta_eq, ta_neq, ta_nne, ta_ne, gs_id, a_gd01, a_gdT, or_true, true_or, bd_some, bW_sm, a_gd, a_ne, a_rd, Int.toNat_natCast, Int.toNat_add, Int.toNat_mul, Int.reduceToNat, a_gdp, a_cell, and_self, and_true, true_and]
    rw [eg, q_cut hw ht]
    rfl
theorem law_of {n : Nat} {M W : g_M} (hr : Rel n M W) {u : Int} (hu : -1 ≤ u ∧ u < M 1 8) : ∃ t : Nat, (35 ≤ t ∧ t ≤ 59) ∧ xT t ∧ (∀ V : g_M, m_X3_textOf u V = some t) ∧ ∀ l : Nat, l < 3 → LawNo u t l M W ∨ LawYes u t l M W := by
  obtain ⟨hf, hi, hle, htp, hc, htx, hb⟩ := hr
  have ht4 : M 1 8 ≤ 4 := by
    obtain ⟨P, T, S, E, C, F, -, ⟨t1, t2, -⟩, -⟩ := hf
    omega
  by_cases c : u < 0
  · obtain rfl : u = -1 := by omega
    refine ⟨35, by omega, Or.inr (Or.inl rfl), fun V => ?_, fun l hl => Or.inl (law_none hl (hb l hl))⟩
    unfold m_X3_textOf
    simp (disch := omega) only [↓reduceIte, ↓nm_eq, ↓jn_eq, ↓c_within, ↓c_isIn, ↓c_isScene, ↓c_isPlace, ↓c_isCue, ↓c_isDigit, ↓d_isScene, ↓d_isAny, ↓ta_pb1, ↓ta_pb0, ↓ta_pb1', ↓ta_pb0', ta_lt, ta_nlt, ta_le, ta_nle, ta_eq, ta_neq, ta_nne, ta_ne, gs_id, a_gd01, a_gdT, or_true, true_or, bd_some, bW_sm, a_gd, a_ne, a_rd, Int.toNat_natCast, Int.toNat_add, Int.toNat_mul, Int.reduceToNat, a_gdp, a_cell, and_self, and_true, true_and]
  · obtain ⟨T, rfl⟩ : ∃ T : Nat, u = T := ⟨u.toNat, by omega⟩
    refine ⟨41 + 6 * T, by omega, ?_, fun V => ?_, fun l hl => law_txt (by omega) hl (htx T hu.2)⟩
    · unfold xT; omega
    · unfold m_X3_textOf x_txt
      simp (disch := omega) only [↓reduceIte, ↓nm_eq, ↓jn_eq, ↓c_within, ↓c_isIn, ↓c_isScene, ↓c_isPlace, ↓c_isCue, ↓c_isDigit, ↓d_isScene, ↓d_isAny, ↓ta_pb1, ↓ta_pb0, ↓ta_pb1', ↓ta_pb0', ta_lt, ta_nlt, ta_le, ta_nle, ta_eq, ta_neq, ta_nne, ta_ne, gs_id, a_gd01, a_gdT, or_true, true_or, bd_some, bW_sm, a_gd, a_ne, a_rd, Int.toNat_natCast, Int.toNat_add, Int.toNat_mul, Int.reduceToNat, a_gdp, a_cell, and_self, and_true, true_and]
