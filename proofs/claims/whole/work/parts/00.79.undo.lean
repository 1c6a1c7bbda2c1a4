/-! undo -/
theorem q_undo37 (k : g_M → Option (Int × g_M)) (W : g_M) {x : Int} (hx : 199 ≤ x ∧ x ≤ 3244) : m_X9_undo_L37 x k g_fuel 0 W = k (cpF W 1 6 (fun j => W 1 (x.toNat + 1 + j)) 28) := by
  obtain ⟨X, rfl⟩ : ∃ X : Nat, x = X := ⟨x.toNat, by omega⟩
  rw [Int.toNat_natCast]
  refine cp_loop (fun f i M => m_X9_undo_L37 X k f i M) 1 6 28 (fun j => W 1 (X + 1 + j)) W _ (fun f => ?_) (fun i f hi => ?_) g_fuel (by unfold g_fuel; omega)
  · show m_X9_undo_L37 X k (f + 1) _ _ = _
    rw [m_X9_undo_L37]
    simp (disch := omega) only [↓reduceIte, ↓nm_eq, ↓jn_eq, ↓c_within, ↓c_isIn, ↓c_isScene, ↓c_isPlace, ↓c_isCue, ↓c_isDigit, ↓d_isScene, ↓d_isAny, ↓ta_pb1, ↓ta_pb0, ↓ta_pb1', ↓ta_pb0', ta_lt, ta_nlt, ta_le, ta_nle, ta_eq, ta_neq, ta_nne, ta_ne, gs_id, a_gd01, a_gdT, or_true, true_or, bd_some, bW_sm, a_gd, a_ne, a_rd, Int.toNat_natCast, Int.toNat_add, Int.toNat_mul, Int.reduceToNat, a_gdp, a_cell, and_self, and_true, true_and]
  · show m_X9_undo_L37 X k (f + 1) _ _ = m_X9_undo_L37 X k f _ _
    rw [m_X9_undo_L37]
    simp (disch := omega) only [↓reduceIte, ↓nm_eq, ↓jn_eq, ↓c_within, ↓c_isIn, ↓c_isScene, ↓c_isPlace, ↓c_isCue, ↓c_isDigit, ↓d_isScene, ↓d_isAny, ↓ta_pb1, ↓ta_pb0, ↓ta_pb1', ↓ta_pb0', ta_lt, ta_nlt, ta_le, ta_nle, ta_eq, ta_neq, ta_nne, ta_ne, gs_id, a_gd01, a_gdT, or_true, true_or, bd_some, bW_sm, a_gd, a_ne, a_rd, Int.toNat_natCast, Int.toNat_add, Int.toNat_mul, Int.reduceToNat, a_gdp, a_cell, and_self, and_true, true_and, cpF_ne]
theorem q_undo147 (k : g_M → Option (Int × g_M)) (W : g_M) {x : Int} (hx : 199 ≤ x ∧ x ≤ 3244) : m_X9_undo_L147 x k g_fuel 0 W = k (cpF W 1 3349 (fun j => W 1 (x.toNat + 45 + j)) 60) := by
  obtain ⟨X, rfl⟩ : ∃ X : Nat, x = X := ⟨x.toNat, by omega⟩
  rw [Int.toNat_natCast]
  refine cp_loop (fun f i M => m_X9_undo_L147 X k f i M) 1 3349 60 (fun j => W 1 (X + 45 + j)) W _ (fun f => ?_) (fun i f hi => ?_) g_fuel (by unfold g_fuel; omega)
  · show m_X9_undo_L147 X k (f + 1) _ _ = _
    rw [m_X9_undo_L147]
    simp (disch := omega) only [↓reduceIte, ↓nm_eq, ↓jn_eq, ↓c_within, ↓c_isIn, ↓c_isScene, ↓c_isPlace, ↓c_isCue, ↓c_isDigit, ↓d_isScene, ↓d_isAny, ↓ta_pb1, ↓ta_pb0, ↓ta_pb1', ↓ta_pb0', ta_lt, ta_nlt, ta_le, ta_nle, ta_eq, ta_neq, ta_nne, ta_ne, gs_id, a_gd01, a_gdT, or_true, true_or, bd_some, bW_sm, a_gd, a_ne, a_rd, Int.toNat_natCast, Int.toNat_add, Int.toNat_mul, Int.reduceToNat, a_gdp, a_cell, and_self, and_true, true_and]
  · show m_X9_undo_L147 X k (f + 1) _ _ = m_X9_undo_L147 X k f _ _
    rw [m_X9_undo_L147]
    simp (disch := omega) only [↓reduceIte, ↓nm_eq, ↓jn_eq, ↓c_within, ↓c_isIn, ↓c_isScene, ↓c_isPlace, ↓c_isCue, ↓c_isDigit, ↓d_isScene, ↓d_isAny, ↓ta_pb1, ↓ta_pb0, ↓ta_pb1', ↓ta_pb0', ta_lt, ta_nlt, ta_le, ta_nle, ta_eq, ta_neq, ta_nne, ta_ne, gs_id, a_gd01, a_gdT, or_true, true_or, bd_some, bW_sm, a_gd, a_ne, a_rd, Int.toNat_natCast, Int.toNat_add, Int.toNat_mul, Int.reduceToNat, a_gdp, a_cell, and_self, and_true, true_and, cpF_ne]
theorem q_undo97 (k : g_M → Option (Int × g_M)) (W : g_M) (X p : Nat) {pk : Nat} (hx : 199 ≤ X ∧ X ≤ 3244) (hp : p < 8) (hk : W 1 X = pk) (hk8 : pk ≤ 8) : m_X9_undo_L97 X p k g_fuel 0 W = if pk ≤ p then k W else k (g_wr (g_wr W 1 (34 + 4 * p) (W 1 (X + 29 + 2 * p))) 1 (34 + 4 * p + 1) (W 1 (X + 29 + 2 * p + 1))) := by
  obtain ⟨f, hf⟩ : ∃ f, g_fuel = f + 1 + 1 + 1 := ⟨999997, rfl⟩
  by_cases c : pk ≤ p
  · rw [if_pos c, hf, m_X9_undo_L97]
    simp (disch := omega) only [↓reduceIte, ↓nm_eq, ↓jn_eq, ↓c_within, ↓c_isIn, ↓c_isScene, ↓c_isPlace, ↓c_isCue, ↓c_isDigit, ↓d_isScene, ↓d_isAny, ↓ta_pb1, ↓ta_pb0, ↓ta_pb1', ↓ta_pb0', ta_lt, ta_nlt, ta_le, ta_nle, ta_eq, ta_neq, ta_nne, ta_ne, gs_id, a_gd01, a_gdT, or_true, true_or, bd_some, bW_sm, a_gd, a_ne, a_rd, Int.toNat_natCast, Int.toNat_add, Int.toNat_mul, Int.reduceToNat, a_gdp, a_cell, and_self, and_true, true_and, hk]
  · rw [if_neg c, hf, m_X9_undo_L97]
    simp (disch := omega) only [↓reduceIte, ↓nm_eq, ↓jn_eq, ↓c_within, ↓c_isIn, ↓c_isScene, ↓c_isPlace, ↓c_isCue, ↓c_isDigit, ↓d_isScene, ↓d_isAny, ↓ta_pb1, ↓ta_pb0, ↓ta_pb1', ↓ta_pb0', ta_lt, ta_nlt, ta_le, ta_nle, ta_eq, ta_neq, ta_nne, ta_ne, gs_id, a_gd01, a_gdT, or_true, true_or, bd_some, bW_sm, a_gd, a_ne, a_rd, Int.toNat_natCast, Int.toNat_add, Int.toNat_mul, Int.reduceToNat, a_gdp, a_cell, and_self, and_true, true_and, hk, p_put p 0 _ W (34 + 4 * p) (by omega) (by omega)]
    rw [m_X9_undo_L97]
    simp (disch := omega) only [↓reduceIte, ↓nm_eq, ↓jn_eq, ↓c_within, ↓c_isIn, ↓c_isScene, ↓c_isPlace, ↓c_isCue, ↓c_isDigit, ↓d_isScene, ↓d_isAny, ↓ta_pb1, ↓ta_pb0, ↓ta_pb1', ↓ta_pb0', ta_lt, ta_nlt, ta_le, ta_nle, ta_eq, ta_neq, ta_nne, ta_ne, gs_id, a_gd01, a_gdT, or_true, true_or, bd_some, bW_sm, a_gd, a_ne, a_rd, Int.toNat_natCast, Int.toNat_add, Int.toNat_mul, Int.reduceToNat, a_gdp, a_cell, and_self, and_true, true_and, hk, p_put p (0 + 1) _ (g_wr W 1 (34 + 4 * p) (W 1 (X + 29 + 2 * p + 0))) (34 + 4 * p + 1) (by omega) (by omega)]
    rw [m_X9_undo_L97]
    simp (disch := omega) only [↓reduceIte, ↓nm_eq, ↓jn_eq, ↓c_within, ↓c_isIn, ↓c_isScene, ↓c_isPlace, ↓c_isCue, ↓c_isDigit, ↓d_isScene, ↓d_isAny, ↓ta_pb1, ↓ta_pb0, ↓ta_pb1', ↓ta_pb0', ta_lt, ta_nlt, ta_le, ta_nle, ta_eq, ta_neq, ta_nne, ta_ne, gs_id, a_gd01, a_gdT, or_true, true_or, bd_some, bW_sm, a_gd, a_ne, a_rd, Int.toNat_natCast, Int.toNat_add, Int.toNat_mul, Int.reduceToNat, a_gdp, a_cell, and_self, and_true, true_and, Nat.add_zero]
