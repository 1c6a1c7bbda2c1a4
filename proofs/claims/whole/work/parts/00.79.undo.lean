/-! undo -/
theorem q_undo37 (k : g_M → Option (Int × g_M)) (W : g_M) {x : Int} (hx : 199 ≤ x ∧ x ≤ 3244) : m_X9_undo_L37 x k g_fuel 0 W = k (cpF W 1 6 (fun j => W 1 (x.toNat + 1 + j)) 28) := by
  obtain ⟨X, rfl⟩ : ∃ X : Nat, x = X := ⟨x.toNat, by omega⟩
  rw [Int.toNat_natCast]
  refine cp_loop (fun f i M => m_X9_undo_L37 X k f i M) 1 6 28 (fun j => W 1 (X + 1 + j)) W _ (fun f => ?_) (fun i f hi => ?_) g_fuel (by unfold g_fuel; omega)
  · show m_X9_undo_L37 X k (f + 1) _ _ = _
    rw [m_X9_undo_L37]
    simp (disch := omega) only [↓reduceIte, ↓nm_eq, ↓jn_eq, ↓c_within, ↓c_isIn, ↓c_isScene, ↓c_isPlace, ↓c_isCue, ↓c_isDigit, ↓d_isScene, ↓d_isAny, ↓ta_pb1, ↓ta_pb0, ↓ta_pb1', ↓ta_pb0', ta_lt, ta_nlt, ta_le, ta_nle, ta_eq, ta_neq, ta_nne, ta_ne, gs_id, a_gd01, a_gdT, or_true, true_or, bd_some, bW_sm, a_gd, a_ne, a_rd, Int.toNat_natCast, Int.toNat_add, Int.toNat_mul, Int.reduceToNat, a_gdp, a_cell, and_self, and_true, true_and]
  · show m_X9_undo_L37 X k (f + 1) _ _ = m_X9_undo_L37 X k f _ _
    rw [m_X9_undo_L37]
    simp (disch := omega) only [↓reduceIte, ↓nm_eq, ↓jn_eq, ↓c_within, ↓c_isIn, ↓c_isScene, ↓c_isPlace, ↓c_isCue, ↓c_isDigit, ↓d_isScene, ↓d_isAny, ↓ta_pb1, ↓ta_pb0, ↓ta_pb1', ↓ta_pb0', ta_lt, ta_nlt, ta_le, ta_nle, ta_eq, ta_neq, ta_nne, ta_ne, gs_id, a_gd01, a_gdT, or_true, true_or, bd_some, bW_sm, a_gd, a_ne, a_rd, Int.toNat_natCast, Int.toNat_add, Int.toNat_mul, Int.reduceToNat, a_gdp, a_cell, and_self, and_true, true_and, cpF_ne]
theorem q_undo147 (k : g_M → Option (Int × g_M)) (W : g_M) {x : Int} (hx : 199 ≤ x ∧ x ≤ 3244) : m_X9_undo_L147 x k g_fuel 0 W = k (cpF W 1 3349 (fun j => W 1 (x.toNat + 45 + j)) 60) := by
  obtain ⟨X, rfl⟩ : ∃ X : Nat, x = X := ⟨x.toNat, by omega⟩
  rw [Int.toNat_natCast]
  refine cp_loop (fun f i M => m_X9_undo_L147 X k f i M) 1 3349 60 (fun j => W 1 (X + 45 + j)) W _ (fun f => ?_) (fun i f hi => ?_) g_fuel (by unfold g_fuel; omega)
  · show m_X9_undo_L147 X k (f + 1) _ _ = _
    rw [m_X9_undo_L147]
    simp (disch := omega) only [↓reduceIte, ↓nm_eq, ↓jn_eq, ↓c_within, ↓c_isIn, ↓c_isScene, ↓c_isPlace, ↓c_isCue, ↓c_isDigit, ↓d_isScene, ↓d_isAny, ↓ta_pb1, ↓ta_pb0, ↓ta_pb1', ↓ta_pb0', ta_lt, ta_nlt, ta_le, ta_nle, ta_eq, ta_neq, ta_nne, ta_ne, gs_id, a_gd01, a_gdT, or_true, true_or, bd_some, bW_sm, a_gd, a_ne, a_rd, Int.toNat_natCast, Int.toNat_add, Int.toNat_mul, Int.reduceToNat, a_gdp, a_cell, and_self, and_true, true_and]
  · show m_X9_undo_L147 X k (f + 1) _ _ = m_X9_undo_L147 X k f _ _
    rw [m_X9_undo_L147]
    simp (disch := omega) only [↓reduceIte, ↓nm_eq, ↓jn_eq, ↓c_within, ↓c_isIn, ↓c_isScene, ↓c_isPlace, ↓c_isCue, ↓c_isDigit, ↓d_isScene, ↓d_isAny, ↓ta_pb1, ↓ta_pb0, ↓ta_pb1', ↓ta_pb0', ta_lt, ta_nlt, ta_le, ta_nle, ta_eq, ta_neq, ta_nne, ta_ne, gs_id, a_gd01, a_gdT, or_true, true_or, bd_some, bW_sm, a_gd, a_ne, a_rd, Int.toNat_natCast, Int.toNat_add, Int.toNat_mul, Int.reduceToNat, a_gdp, a_cell, and_self, and_true, true_and, cpF_ne]
theorem q_undo97 (k : g_M → Option (Int × g_M)) (W : g_M) (X p : Nat) {pk : Nat} (hx : 199 ≤ X ∧ X ≤ 3244) (hp : p < 8) (hk : W 1 X = pk) (hk8 : pk ≤ 8) : m_X9_undo_L97 X p k g_fuel 0 W = if pk ≤ p then k W else k (g_wr (g_wr W 1 (34 + 4 * p) (W 1 (X + 29 + 2 * p))) 1 (34 + 4 * p + 1) (W 1 (X + 29 + 2 * p + 1))) := by
  obtain ⟨f, hf⟩ : ∃ f, g_fuel = f + 1 + 1 + 1 := ⟨999997, rfl⟩
  by_cases c : pk ≤ p
  · rw [if_pos c, hf, m_X9_undo_L97]
    simp (disch := omega) only [↓reduceIte, ↓nm_eq, ↓jn_eq, ↓c_within, ↓c_isIn, ↓c_isScene, ↓c_isPlace, ↓c_isCue, ↓c_isDigit, ↓d_isScene, ↓d_isAny, ↓ta_pb1, ↓ta_pb0, ↓ta_pb1', ↓ta_pb0', ta_lt, ta_nlt, ta_le, ta_nle, ta_eq, ta_neq, ta_nne, ta_ne, gs_id, a_gd01, a_gdT, or_true, true_or, bd_some, bW_sm, a_gd, a_ne, a_rd, Int.toNat_natCast, Int.toNat_add, Int.toNat_mul, Int.reduceToNat, a_gdp, a_cell, and_self, and_true, true_and, hk]
  · rw [if_neg c, hf, m_X9_undo_L97]
    simp (disch := omega) only [↓reduceIte, ↓nm_eq, ↓jn_eq, ↓c_within, ↓c_isIn, ↓c_isScene, ↓c_isPlace, ↓c_isCue, ↓c_isDigit, ↓d_isScene, ↓d_isAny, ↓ta_pb1, ↓ta_pb0, ↓ta_pb1', ↓ta_pb0', ta_lt, ta_nlt, ta_le, ta_nle, ta_eq, ta_neq, ta_nne, ta_ne, gs_id, a_gd01, a_gdT, or_true, true_or, bd_some, bW_sm, a_gd, a_ne, a_rd, Int.toNat_natCast, Int.toNat_add, Int.toNat_mul, Int.reduceToNat, a_gdp, a_cell, and_self, and_true, true_and, hk, p_put p 0 _ W (34 + 4 * p) (by omega) (by omega)]
    rw [m_X9_undo_L97]
    simp (disch := omega) only [↓reduceIte, ↓nm_eq, ↓jn_eq, ↓c_within, ↓c_isIn, ↓c_isScene, ↓c_isPlace, ↓c_isCue, ↓c_isDigit, ↓d_isScene, ↓d_isAny, ↓ta_pb1, ↓ta_pb0, ↓ta_pb1', ↓ta_pb0', ta_lt, ta_nlt, ta_le, ta_nle, ta_eq, ta_neq, ta_nne, ta_ne, gs_id, a_gd01, a_gdT, or_true, true_or, bd_some, bW_sm, a_gd, a_ne, a_rd, Int.toNat_natCast, Int.toNat_add, Int.toNat_mul, Int.reduceToNat, a_gdp, a_cell, and_self, and_true, true_and, hk, p_put p (0 + 1) _ (g_wr W 1 (34 + 4 * p) (W 1 (X + 29 + 2 * p + 0))) (34 + 4 * p + 1) (by omega) (by omega)]
    rw [m_X9_undo_L97]
    simp (disch := omega) only [↓reduceIte, ↓nm_eq, ↓jn_eq, ↓c_within, ↓c_isIn, ↓c_isScene, ↓c_isPlace, ↓c_isCue, ↓c_isDigit, ↓d_isScene, ↓d_isAny, ↓ta_pb1, ↓ta_pb0, ↓ta_pb1', ↓ta_pb0', ta_lt, ta_nlt, ta_le, ta_nle, ta_eq, ta_neq, ta_nne, ta_ne, gs_id, a_gd01, a_gdT, or_true, true_or, bd_some, bW_sm, a_gd, a_ne, a_rd, Int.toNat_natCast, Int.toNat_add, Int.toNat_mul, Int.reduceToNat, a_gdp, a_cell, and_self, and_true, true_and, Nat.add_zero]
theorem q_undo70 {Q : Int × g_M → Prop} (k : g_M → Option (Int × g_M)) (W : g_M) (X : Nat) {P pk : Nat} (hx : 199 ≤ X ∧ X ≤ 3244) (hP : P ≤ 8) (hpk : pk ≤ P) (h0 : W 1 0 = P) (hk : W 1 X = pk) (hQ : ∀ W', (∀ a, a ≠ 1 → W' a = W a) → (∀ b, (b < 34 ∨ 34 + 4 * P ≤ b ∨ 2 ≤ (b - 34) % 4) → W' 1 b = W 1 b) → (∀ q, q < P → W' 1 (34 + 4 * q) = (if pk ≤ q then W 1 (34 + 4 * q + 3) else W 1 (X + 29 + 2 * q)) ∧ W' 1 (34 + 4 * q + 1) = (if pk ≤ q then 0 else W 1 (X + 29 + 2 * q + 1))) → Ok (k W') Q) : Ok (m_X9_undo_L70 X k g_fuel 0 W) Q := by
  refine Ok_for P (fun f i M => m_X9_undo_L70 X k f i M) (fun i W' => (∀ a, a ≠ 1 → W' a = W a) ∧ (∀ b, (b < 34 ∨ 34 + 4 * i ≤ b ∨ 2 ≤ (b - 34) % 4) → W' 1 b = W 1 b) ∧ (∀ q, q < i → W' 1 (34 + 4 * q) = (if pk ≤ q then W 1 (34 + 4 * q + 3) else W 1 (X + 29 + 2 * q)) ∧ W' 1 (34 + 4 * q + 1) = (if pk ≤ q then 0 else W 1 (X + 29 + 2 * q + 1)))) (fun f V h => ?_) (fun i f V hi h kk => ?_) 0 g_fuel W (by omega) (by unfold g_fuel; omega) ⟨fun a ha => rfl, fun b hb => rfl, fun q hq => by omega⟩
  · obtain ⟨v1, v2, v3⟩ := h
    show Ok (m_X9_undo_L70 X k (f + 1) (P : Int) V) Q
    rw [m_X9_undo_L70]
    simp (disch := omega) only [↓reduceIte, ↓nm_eq, ↓jn_eq, ↓c_within, ↓c_isIn, ↓c_isScene, ↓c_isPlace, ↓c_isCue, ↓c_isDigit, ↓d_isScene, ↓d_isAny, ↓ta_pb1, ↓ta_pb0, ↓ta_pb1', ↓ta_pb0', ta_lt, ta_nlt, ta_le, ta_nle, ta_eq, ta_neq, ta_nne, ta_ne, gs_id, a_gd01, a_gdT, or_true, true_or, bd_some, bW_sm, a_gd, a_ne, a_rd, Int.toNat_natCast, Int.toNat_add, Int.toNat_mul, Int.reduceToNat, a_gdp, a_cell, and_self, and_true, true_and, v2, h0]
    exact hQ V v1 v2 v3
  · obtain ⟨v1, v2, v3⟩ := h
    show Ok (m_X9_undo_L70 X k (f + 1) (i : Int) V) Q
    have kk' : ∀ s', (∀ a, a ≠ 1 → s' a = W a) ∧ (∀ b, (b < 34 ∨ 34 + 4 * (i + 1) ≤ b ∨ 2 ≤ (b - 34) % 4) → s' 1 b = W 1 b) ∧ (∀ q, q < i + 1 → s' 1 (34 + 4 * q) = (if pk ≤ q then W 1 (34 + 4 * q + 3) else W 1 (X + 29 + 2 * q)) ∧ s' 1 (34 + 4 * q + 1) = (if pk ≤ q then 0 else W 1 (X + 29 + 2 * q + 1))) → Ok (m_X9_undo_L70 X k f ((i : Int) + 1) s') Q := kk
    have vX : V 1 X = pk := by rw [v2 X (by omega)]; exact hk
    rw [m_X9_undo_L70]
    by_cases c : pk ≤ i
    · simp (disch := omega) only [↓reduceIte, ↓nm_eq, ↓jn_eq, ↓c_within, ↓c_isIn, ↓c_isScene, ↓c_isPlace, ↓c_isCue, ↓c_isDigit, ↓d_isScene, ↓d_isAny, ↓ta_pb1, ↓ta_pb0, ↓ta_pb1', ↓ta_pb0', ta_lt, ta_nlt, ta_le, ta_nle, ta_eq, ta_neq, ta_nne, ta_ne, gs_id, a_gd01, a_gdT, or_true, true_or, bd_some, bW_sm, a_gd, a_ne, a_rd, Int.toNat_natCast, Int.toNat_add, Int.toNat_mul, Int.reduceToNat, a_gdp, a_cell, and_self, and_true, true_and, v2, h0, hk, p_begin i V (by omega), q_undo97 _ _ X i (pk := pk) hx (by omega) (show g_wr (g_wr V 1 (34 + 4 * i) (W 1 (34 + 4 * i + 3))) 1 (34 + 4 * i + 1) 0 1 X = pk by simp (disch := omega) only [↓reduceIte, ↓nm_eq, ↓jn_eq, ↓c_within, ↓c_isIn, ↓c_isScene, ↓c_isPlace, ↓c_isCue, ↓c_isDigit, ↓d_isScene, ↓d_isAny, ↓ta_pb1, ↓ta_pb0, ↓ta_pb1', ↓ta_pb0', ta_lt, ta_nlt, ta_le, ta_nle, ta_eq, ta_neq, ta_nne, ta_ne, gs_id, a_gd01, a_gdT, or_true, true_or, bd_some, bW_sm, a_gd, a_ne, a_rd, Int.toNat_natCast, Int.toNat_add, Int.toNat_mul, Int.reduceToNat, a_gdp, a_cell, and_self, and_true, true_and, vX]) (by omega), if_pos c]
      refine kk' _ ⟨fun a ha => by simp (disch := omega) only [↓reduceIte, ↓nm_eq, ↓jn_eq, ↓c_within, ↓c_isIn, ↓c_isScene, ↓c_isPlace, ↓c_isCue, ↓c_isDigit, ↓d_isScene, ↓d_isAny, ↓ta_pb1, ↓ta_pb0, ↓ta_pb1', ↓ta_pb0', ta_lt, ta_nlt, ta_le, ta_nle, ta_eq, ta_neq, ta_nne, ta_ne, gs_id, a_gd01, a_gdT, or_true, true_or, bd_some, bW_sm, a_gd, a_ne, a_rd, Int.toNat_natCast, Int.toNat_add, Int.toNat_mul, Int.reduceToNat, a_gdp, a_cell, and_self, and_true, true_and, v1], fun b hb => by simp (disch := omega) only [↓reduceIte, ↓nm_eq, ↓jn_eq, ↓c_within, ↓c_isIn, ↓c_isScene, ↓c_isPlace, ↓c_isCue, ↓c_isDigit, ↓d_isScene, ↓d_isAny, ↓ta_pb1, ↓ta_pb0, ↓ta_pb1', ↓ta_pb0', ta_lt, ta_nlt, ta_le, ta_nle, ta_eq, ta_neq, ta_nne, ta_ne, gs_id, a_gd01, a_gdT, or_true, true_or, bd_some, bW_sm, a_gd, a_ne, a_rd, Int.toNat_natCast, Int.toNat_add, Int.toNat_mul, Int.reduceToNat, a_gdp, a_cell, and_self, and_true, true_and, v2], fun q hq => ?_⟩
      by_cases e : q = i
      · subst e
        rw [if_pos c, if_pos c]
        exact ⟨by simp (disch := omega) only [↓reduceIte, ↓nm_eq, ↓jn_eq, ↓c_within, ↓c_isIn, ↓c_isScene, ↓c_isPlace, ↓c_isCue, ↓c_isDigit, ↓d_isScene, ↓d_isAny, ↓ta_pb1, ↓ta_pb0, ↓ta_pb1', ↓ta_pb0', ta_lt, ta_nlt, ta_le, ta_nle, ta_eq, ta_neq, ta_nne, ta_ne, gs_id, a_gd01, a_gdT, or_true, true_or, bd_some, bW_sm, a_gd, a_ne, a_rd, Int.toNat_natCast, Int.toNat_add, Int.toNat_mul, Int.reduceToNat, a_gdp, a_cell, and_self, and_true, true_and, v2], by simp (disch := omega) only [↓reduceIte, ↓nm_eq, ↓jn_eq, ↓c_within, ↓c_isIn, ↓c_isScene, ↓c_isPlace, ↓c_isCue, ↓c_isDigit, ↓d_isScene, ↓d_isAny, ↓ta_pb1, ↓ta_pb0, ↓ta_pb1', ↓ta_pb0', ta_lt, ta_nlt, ta_le, ta_nle, ta_eq, ta_neq, ta_nne, ta_ne, gs_id, a_gd01, a_gdT, or_true, true_or, bd_some, bW_sm, a_gd, a_ne, a_rd, Int.toNat_natCast, Int.toNat_add, Int.toNat_mul, Int.reduceToNat, a_gdp, a_cell, and_self, and_true, true_and]⟩
      · have := v3 q (by omega)
        rw [← this.1, ← this.2]
        exact ⟨by simp (disch := omega) only [↓reduceIte, ↓nm_eq, ↓jn_eq, ↓c_within, ↓c_isIn, ↓c_isScene, ↓c_isPlace, ↓c_isCue, ↓c_isDigit, ↓d_isScene, ↓d_isAny, ↓ta_pb1, ↓ta_pb0, ↓ta_pb1', ↓ta_pb0', ta_lt, ta_nlt, ta_le, ta_nle, ta_eq, ta_neq, ta_nne, ta_ne, gs_id, a_gd01, a_gdT, or_true, true_or, bd_some, bW_sm, a_gd, a_ne, a_rd, Int.toNat_natCast, Int.toNat_add, Int.toNat_mul, Int.reduceToNat, a_gdp, a_cell, and_self, and_true, true_and], by simp (disch := omega) only [↓reduceIte, ↓nm_eq, ↓jn_eq, ↓c_within, ↓c_isIn, ↓c_isScene, ↓c_isPlace, ↓c_isCue, ↓c_isDigit, ↓d_isScene, ↓d_isAny, ↓ta_pb1, ↓ta_pb0, ↓ta_pb1', ↓ta_pb0', ta_lt, ta_nlt, ta_le, ta_nle, ta_eq, ta_neq, ta_nne, ta_ne, gs_id, a_gd01, a_gdT, or_true, true_or, bd_some, bW_sm, a_gd, a_ne, a_rd, Int.toNat_natCast, Int.toNat_add, Int.toNat_mul, Int.reduceToNat, a_gdp, a_cell, and_self, and_true, true_and]⟩
    · simp (disch := omega) only [↓reduceIte, ↓nm_eq, ↓jn_eq, ↓c_within, ↓c_isIn, ↓c_isScene, ↓c_isPlace, ↓c_isCue, ↓c_isDigit, ↓d_isScene, ↓d_isAny, ↓ta_pb1, ↓ta_pb0, ↓ta_pb1', ↓ta_pb0', ta_lt, ta_nlt, ta_le, ta_nle, ta_eq, ta_neq, ta_nne, ta_ne, gs_id, a_gd01, a_gdT, or_true, true_or, bd_some, bW_sm, a_gd, a_ne, a_rd, Int.toNat_natCast, Int.toNat_add, Int.toNat_mul, Int.reduceToNat, a_gdp, a_cell, and_self, and_true, true_and, v2, h0, hk, q_undo97 _ _ X i (pk := pk) hx (by omega) vX (by omega), if_neg c]
      refine kk' _ ⟨fun a ha => by simp (disch := omega) only [↓reduceIte, ↓nm_eq, ↓jn_eq, ↓c_within, ↓c_isIn, ↓c_isScene, ↓c_isPlace, ↓c_isCue, ↓c_isDigit, ↓d_isScene, ↓d_isAny, ↓ta_pb1, ↓ta_pb0, ↓ta_pb1', ↓ta_pb0', ta_lt, ta_nlt, ta_le, ta_nle, ta_eq, ta_neq, ta_nne, ta_ne, gs_id, a_gd01, a_gdT, or_true, true_or, bd_some, bW_sm, a_gd, a_ne, a_rd, Int.toNat_natCast, Int.toNat_add, Int.toNat_mul, Int.reduceToNat, a_gdp, a_cell, and_self, and_true, true_and, v1], fun b hb => by simp (disch := omega) only [↓reduceIte, ↓nm_eq, ↓jn_eq, ↓c_within, ↓c_isIn, ↓c_isScene, ↓c_isPlace, ↓c_isCue, ↓c_isDigit, ↓d_isScene, ↓d_isAny, ↓ta_pb1, ↓ta_pb0, ↓ta_pb1', ↓ta_pb0', ta_lt, ta_nlt, ta_le, ta_nle, ta_eq, ta_neq, ta_nne, ta_ne, gs_id, a_gd01, a_gdT, or_true, true_or, bd_some, bW_sm, a_gd, a_ne, a_rd, Int.toNat_natCast, Int.toNat_add, Int.toNat_mul, Int.reduceToNat, a_gdp, a_cell, and_self, and_true, true_and, v2], fun q hq => ?_⟩
      by_cases e : q = i
      · subst e
        rw [if_neg c, if_neg c]
        exact ⟨by simp (disch := omega) only [↓reduceIte, ↓nm_eq, ↓jn_eq, ↓c_within, ↓c_isIn, ↓c_isScene, ↓c_isPlace, ↓c_isCue, ↓c_isDigit, ↓d_isScene, ↓d_isAny, ↓ta_pb1, ↓ta_pb0, ↓ta_pb1', ↓ta_pb0', ta_lt, ta_nlt, ta_le, ta_nle, ta_eq, ta_neq, ta_nne, ta_ne, gs_id, a_gd01, a_gdT, or_true, true_or, bd_some, bW_sm, a_gd, a_ne, a_rd, Int.toNat_natCast, Int.toNat_add, Int.toNat_mul, Int.reduceToNat, a_gdp, a_cell, and_self, and_true, true_and, v2], by simp (disch := omega) only [↓reduceIte, ↓nm_eq, ↓jn_eq, ↓c_within, ↓c_isIn, ↓c_isScene, ↓c_isPlace, ↓c_isCue, ↓c_isDigit, ↓d_isScene, ↓d_isAny, ↓ta_pb1, ↓ta_pb0, ↓ta_pb1', ↓ta_pb0', ta_lt, ta_nlt, ta_le, ta_nle, ta_eq, ta_neq, ta_nne, ta_ne, gs_id, a_gd01, a_gdT, or_true, true_or, bd_some, bW_sm, a_gd, a_ne, a_rd, Int.toNat_natCast, Int.toNat_add, Int.toNat_mul, Int.reduceToNat, a_gdp, a_cell, and_self, and_true, true_and, v2]⟩
      · have := v3 q (by omega)
        rw [← this.1, ← this.2]
        exact ⟨by simp (disch := omega) only [↓reduceIte, ↓nm_eq, ↓jn_eq, ↓c_within, ↓c_isIn, ↓c_isScene, ↓c_isPlace, ↓c_isCue, ↓c_isDigit, ↓d_isScene, ↓d_isAny, ↓ta_pb1, ↓ta_pb0, ↓ta_pb1', ↓ta_pb0', ta_lt, ta_nlt, ta_le, ta_nle, ta_eq, ta_neq, ta_nne, ta_ne, gs_id, a_gd01, a_gdT, or_true, true_or, bd_some, bW_sm, a_gd, a_ne, a_rd, Int.toNat_natCast, Int.toNat_add, Int.toNat_mul, Int.reduceToNat, a_gdp, a_cell, and_self, and_true, true_and], by simp (disch := omega) only [↓reduceIte, ↓nm_eq, ↓jn_eq, ↓c_within, ↓c_isIn, ↓c_isScene, ↓c_isPlace, ↓c_isCue, ↓c_isDigit, ↓d_isScene, ↓d_isAny, ↓ta_pb1, ↓ta_pb0, ↓ta_pb1', ↓ta_pb0', ta_lt, ta_nlt, ta_le, ta_nle, ta_eq, ta_neq, ta_nne, ta_ne, gs_id, a_gd01, a_gdT, or_true, true_or, bd_some, bW_sm, a_gd, a_ne, a_rd, Int.toNat_natCast, Int.toNat_add, Int.toNat_mul, Int.reduceToNat, a_gdp, a_cell, and_self, and_true, true_and]⟩
/-- one step is taken back -/
theorem R_undo {X nw st td kd pl ro od lk fw fg A X' nw' A' : Nat → Int} {S E P pk : Nat} (H : R_film X nw st td kd pl ro od lk fw fg A) (hS0 : X 3 = ((S + 1 : Nat) : Int)) (hE0 : X 2 = E) (hP0 : X 7 = P) (hpk : A (199 + 105 * S) = pk) (x3 : X' 3 = S) (xx : ∀ j, j ≠ 3 → X' j = X j) (e1 : ∀ j, j < 133 → nw' j = st ((E + S) % 30 * 133 + j)) (a3 : A' 3 = S) (aa : ∀ j, j ≠ 3 → (j < 6 ∨ (66 ≤ j ∧ j < 3349)) → A' j = A j) (a1 : ∀ j, j < 28 → A' (6 + j) = A (199 + 105 * S + 1 + j)) (a2 : ∀ q, q < P → A' (34 + 4 * q) = (if pk ≤ q then A (34 + 4 * q + 3) else A (199 + 105 * S + 29 + 2 * q)) ∧ A' (34 + 4 * q + 1) = (if pk ≤ q then 0 else A (199 + 105 * S + 29 + 2 * q + 1))) (a4 : ∀ q, q < 8 → A' (34 + 4 * q + 2) = A (34 + 4 * q + 2) ∧ A' (34 + 4 * q + 3) = A (34 + 4 * q + 3)) (a5 : ∀ i, i < 60 → A' (3349 + i) = A (199 + 105 * S + 45 + i)) : R_film X' nw' st td kd pl ro od lk fw fg A' := by
  obtain ⟨P0, T, S0, E0, C, F, hP, hT, hU, hS, hE, hC, hF, hsn, htd, hkd, hpl, hro, hod, hos, hsv, hlk, hfe, hst⟩ := H
  have hP1 := hP.1
  have hE1 := hE.1
  have eS : S0 = S + 1 := by
    have := hS.2.1
    omega
  have eE : E0 = E := by
    have := hE.2
    omega
  have eP : P0 = P := by
    have := hP.2.1
    omega
  subst eS eE eP
  obtain ⟨qk, h1, h2, h3, h4⟩ := hst S (by omega)
  obtain rfl : qk = pk := by omega
  have hs2 : S + 1 ≤ 30 := hS.1
  refine ⟨P0, T, S, E0, C, F, ?_, ?_, ?_, ⟨by omega, x3, a3⟩, ⟨hE1, by rw [xx 2 (by omega)]; exact hE.2⟩, ?_, ?_, ?_, ?_, ?_, ?_, ?_, ?_, hos, ?_, ?_, ?_, ?_⟩
  · rw [xx 7 (by omega), aa 0 (by omega) (by omega)]; exact hP
  · rw [xx 8 (by omega), aa 1 (by omega) (by omega)]; exact hT
  · rw [xx 9 (by omega), aa 2 (by omega) (by omega)]; exact hU
  · rw [xx 11 (by omega), aa 4 (by omega) (by omega)]; exact hC
  · rw [xx 17 (by omega), aa 5 (by omega) (by omega)]; exact hF
  · obtain ⟨D, d1, d2, d3, ⟨d4, d5, d6⟩, ⟨d7, d8, d9⟩, d10, d11, d12, d13, d14⟩ := h3
    refine ⟨D, d1, by rw [e1 41 (by omega)]; exact d2, ?_, ?_, ?_, ?_, fun t ht => ?_, fun t ht => ?_, fun q hq => ?_, R_book_cg d14 (fun j c d => e1 j (by omega)) a5⟩
    · show A' (6 + 0) = _
      rw [a1 0 (by omega)]; exact d3
    · show _ ∧ _ ∧ A' (6 + 1) = _
      rw [e1 42 (by omega), a1 1 (by omega)]; exact ⟨d4, d5, d6⟩
    · show _ ∧ _ ∧ A' (6 + 2) = _
      rw [e1 40 (by omega), a1 2 (by omega)]; exact ⟨d7, d8, d9⟩
    · show A' (6 + 3) = _
      rw [a1 3 (by omega)]; exact d10
    · show _ ∧ _ ∧ A' (6 + (4 + t)) = _
      rw [e1 (28 + t) (by omega), a1 (4 + t) (by omega)]; exact d11 t ht
    · show _ ∧ _ ∧ A' (6 + (16 + t)) = _
      rw [e1 (16 + t) (by omega), a1 (16 + t) (by omega)]; exact d12 t ht
    · obtain ⟨b1, b2⟩ := a2 q hq
      show _ ∧ _ ∧ A' (34 + 4 * q) = _ ∧ _ ∧ _ ∧ A' (34 + 4 * q + 1) = _
      rw [e1 q (by omega), e1 (8 + q) (by omega), b1, b2]
      by_cases c : qk ≤ q
      · obtain ⟨c1, c2⟩ := h4 q c hq
        obtain ⟨-, -, -, p4, p5⟩ := hpl q hq
        rw [if_pos c, if_pos c, c1, c2]
        exact ⟨p4, p5, rfl, by omega, by omega, rfl⟩
      · rw [if_neg c, if_neg c]
        exact d13 q (by omega)
  · intro i hi; rw [aa _ (by omega) (by omega)]; exact htd i hi
  · intro i hi; rw [aa _ (by omega) (by omega)]; exact hkd i hi
  · intro q hq; rw [(a4 q (by omega)).1, (a4 q (by omega)).2]; exact hpl q hq
  · intro i hi; rw [aa _ (by omega) (by omega)]; exact hro i hi
  · intro i hi; rw [aa _ (by omega) (by omega)]; exact hod i hi
  · rw [xx 13 (by omega), aa _ (by omega) (by omega)]; exact hsv
  · intro i hi; rw [aa _ (by omega) (by omega)]; exact hlk i hi
  · intro i hi; rw [aa _ (by omega) (by omega), aa _ (by omega) (by omega)]; exact hfe i hi
  · exact fun k hk => R_step_cg (by omega) hP1 (hst k (by omega)) (fun j c d => aa _ (by omega) (by omega)) (fun q hq => (a4 q (by omega)).2)
theorem st_14 : x_step_14 Rel := by
  intro n Mx Mm hr hn
  have H := Rel_RF hr
  obtain ⟨P, T, S, E, C, F, hP, hT, hU, hS, hE, hC, hF, hsn, htd, hkd, hpl, hro, hod, hos, hsv, hlk, hfe, hst⟩ := id H
  have hS1 := hS.1
  have hS2 := hS.2.1
  have hS3 := hS.2.2
  have hP1 := hP.1
  have hE1 := hE.1
  have hE2 := hE.2
  by_cases c : S = 0
  · subst c
    refine ⟨-1, -1, Mx, Mm, ?_, ?_, rfl, st_same hr⟩
    · unfold m_X8_undo; simp (disch := omega) only [↓reduceIte, ↓nm_eq, ↓jn_eq, ↓c_within, ↓c_isIn, ↓c_isScene, ↓c_isPlace, ↓c_isCue, ↓c_isDigit, ↓d_isScene, ↓d_isAny, ↓ta_pb1, ↓ta_pb0, ↓ta_pb1', ↓ta_pb0', ta_lt, ta_nlt, ta_le, ta_nle, ta_eq, ta_neq, ta_nne, ta_ne, gs_id, a_gd01, a_gdT, or_true, true_or, bd_some, bW_sm, a_gd, a_ne, a_rd, Int.toNat_natCast, Int.toNat_add, Int.toNat_mul, Int.reduceToNat, a_gdp, a_cell, and_self, and_true, true_and, hS2]
    · unfold m_X9_undo; simp (disch := omega) only [↓reduceIte, ↓nm_eq, ↓jn_eq, ↓c_within, ↓c_isIn, ↓c_isScene, ↓c_isPlace, ↓c_isCue, ↓c_isDigit, ↓d_isScene, ↓d_isAny, ↓ta_pb1, ↓ta_pb0, ↓ta_pb1', ↓ta_pb0', ta_lt, ta_nlt, ta_le, ta_nle, ta_eq, ta_neq, ta_nne, ta_ne, gs_id, a_gd01, a_gdT, or_true, true_or, bd_some, bW_sm, a_gd, a_ne, a_rd, Int.toNat_natCast, Int.toNat_add, Int.toNat_mul, Int.reduceToNat, a_gdp, a_cell, and_self, and_true, true_and, hS3]
  obtain ⟨Z, rfl⟩ : ∃ Z, S = Z + 1 := ⟨S - 1, by omega⟩
  obtain ⟨pk, h1, h2, h3, h4⟩ := hst Z (by omega)
  have em : ((E : Int) + (Z : Int)) % 30 = (((E + Z) % 30 : Nat) : Int) := by omega
  have hs : (E + Z) % 30 < 30 := by omega
  have ez : ((Z + 1 : Nat) : Int) - 1 = Z := by omega
  obtain ⟨M', hx, x1, x2, x3, x4⟩ : ∃ M', m_X8_undo Mx = some ((Z : Int), M') ∧ M' 1 3 = Z ∧ (∀ j, j ≠ 3 → M' 1 j = Mx 1 j) ∧ (∀ k, k ≠ 1 → k ≠ 2 → M' k = Mx k) ∧ ∀ j, j < 133 → M' 2 j = Mx 3 ((E + Z) % 30 * 133 + j) := by
    refine ⟨g_cp (g_wr Mx 1 3 (Z : Int)) 3 ((E + Z) % 30 * 133) 2 0 133, ?_, ?_, fun j hj => ?_, fun k k1 k2 => ?_, fun j hj => ?_⟩
    · unfold m_X8_undo m_X1_takeBack
      simp (disch := omega) only [↓reduceIte, ↓nm_eq, ↓jn_eq, ↓c_within, ↓c_isIn, ↓c_isScene, ↓c_isPlace, ↓c_isCue, ↓c_isDigit, ↓d_isScene, ↓d_isAny, ↓ta_pb1, ↓ta_pb0, ↓ta_pb1', ↓ta_pb0', ta_lt, ta_nlt, ta_le, ta_nle, ta_eq, ta_neq, ta_nne, ta_ne, gs_id, a_gd01, a_gdT, or_true, true_or, bd_some, bW_sm, a_gd, a_ne, a_rd, Int.toNat_natCast, Int.toNat_add, Int.toNat_mul, Int.reduceToNat, a_gdp, a_cell, and_self, and_true, true_and, hS2, ez, hE2, g_rem_nn, em, g_cp_ne]
    · simp (disch := omega) only [↓reduceIte, ↓nm_eq, ↓jn_eq, ↓c_within, ↓c_isIn, ↓c_isScene, ↓c_isPlace, ↓c_isCue, ↓c_isDigit, ↓d_isScene, ↓d_isAny, ↓ta_pb1, ↓ta_pb0, ↓ta_pb1', ↓ta_pb0', ta_lt, ta_nlt, ta_le, ta_nle, ta_eq, ta_neq, ta_nne, ta_ne, gs_id, a_gd01, a_gdT, or_true, true_or, bd_some, bW_sm, a_gd, a_ne, a_rd, Int.toNat_natCast, Int.toNat_add, Int.toNat_mul, Int.reduceToNat, a_gdp, a_cell, and_self, and_true, true_and, g_cp_ne]
    · simp (disch := omega) only [↓reduceIte, ↓nm_eq, ↓jn_eq, ↓c_within, ↓c_isIn, ↓c_isScene, ↓c_isPlace, ↓c_isCue, ↓c_isDigit, ↓d_isScene, ↓d_isAny, ↓ta_pb1, ↓ta_pb0, ↓ta_pb1', ↓ta_pb0', ta_lt, ta_nlt, ta_le, ta_nle, ta_eq, ta_neq, ta_nne, ta_ne, gs_id, a_gd01, a_gdT, or_true, true_or, bd_some, bW_sm, a_gd, a_ne, a_rd, Int.toNat_natCast, Int.toNat_add, Int.toNat_mul, Int.reduceToNat, a_gdp, a_cell, and_self, and_true, true_and, g_cp_ne]
    · simp (disch := omega) only [↓reduceIte, ↓nm_eq, ↓jn_eq, ↓c_within, ↓c_isIn, ↓c_isScene, ↓c_isPlace, ↓c_isCue, ↓c_isDigit, ↓d_isScene, ↓d_isAny, ↓ta_pb1, ↓ta_pb0, ↓ta_pb1', ↓ta_pb0', ta_lt, ta_nlt, ta_le, ta_nle, ta_eq, ta_neq, ta_nne, ta_ne, gs_id, a_gd01, a_gdT, or_true, true_or, bd_some, bW_sm, a_gd, a_ne, a_rd, Int.toNat_natCast, Int.toNat_add, Int.toNat_mul, Int.reduceToNat, a_gdp, a_cell, and_self, and_true, true_and, g_cp_cell]
    · simp (disch := omega) only [↓reduceIte, ↓nm_eq, ↓jn_eq, ↓c_within, ↓c_isIn, ↓c_isScene, ↓c_isPlace, ↓c_isCue, ↓c_isDigit, ↓d_isScene, ↓d_isAny, ↓ta_pb1, ↓ta_pb0, ↓ta_pb1', ↓ta_pb0', ta_lt, ta_nlt, ta_le, ta_nle, ta_eq, ta_neq, ta_nne, ta_ne, gs_id, a_gd01, a_gdT, or_true, true_or, bd_some, bW_sm, a_gd, a_ne, a_rd, Int.toNat_natCast, Int.toNat_add, Int.toNat_mul, Int.reduceToNat, a_gdp, a_cell, and_self, and_true, true_and, g_cp_in, Nat.sub_zero]
  have key : Ok (m_X9_undo Mm) (fun r => r.1 = Z ∧ (∀ a, a ≠ 1 → r.2 a = Mm a) ∧ RF M' r.2) := by
    unfold m_X9_undo
    simp (disch := omega) only [↓reduceIte, ↓nm_eq, ↓jn_eq, ↓c_within, ↓c_isIn, ↓c_isScene, ↓c_isPlace, ↓c_isCue, ↓c_isDigit, ↓d_isScene, ↓d_isAny, ↓ta_pb1, ↓ta_pb0, ↓ta_pb1', ↓ta_pb0', ta_lt, ta_nlt, ta_le, ta_nle, ta_eq, ta_neq, ta_nne, ta_ne, gs_id, a_gd01, a_gdT, or_true, true_or, bd_some, bW_sm, a_gd, a_ne, a_rd, Int.toNat_natCast, Int.toNat_add, Int.toNat_mul, Int.reduceToNat, a_gdp, a_cell, and_self, and_true, true_and, hS3, ez, q_undo37]
    refine q_undo70 _ _ (199 + 105 * Z) (P := P) (pk := pk) (by omega) hP1 h1 (by simp (disch := omega) only [↓reduceIte, ↓nm_eq, ↓jn_eq, ↓c_within, ↓c_isIn, ↓c_isScene, ↓c_isPlace, ↓c_isCue, ↓c_isDigit, ↓d_isScene, ↓d_isAny, ↓ta_pb1, ↓ta_pb0, ↓ta_pb1', ↓ta_pb0', ta_lt, ta_nlt, ta_le, ta_nle, ta_eq, ta_neq, ta_nne, ta_ne, gs_id, a_gd01, a_gdT, or_true, true_or, bd_some, bW_sm, a_gd, a_ne, a_rd, Int.toNat_natCast, Int.toNat_add, Int.toNat_mul, Int.reduceToNat, a_gdp, a_cell, and_self, and_true, true_and, cpF_ne]) (by simp (disch := omega) only [↓reduceIte, ↓nm_eq, ↓jn_eq, ↓c_within, ↓c_isIn, ↓c_isScene, ↓c_isPlace, ↓c_isCue, ↓c_isDigit, ↓d_isScene, ↓d_isAny, ↓ta_pb1, ↓ta_pb0, ↓ta_pb1', ↓ta_pb0', ta_lt, ta_nlt, ta_le, ta_nle, ta_eq, ta_neq, ta_nne, ta_ne, gs_id, a_gd01, a_gdT, or_true, true_or, bd_some, bW_sm, a_gd, a_ne, a_rd, Int.toNat_natCast, Int.toNat_add, Int.toNat_mul, Int.reduceToNat, a_gdp, a_cell, and_self, and_true, true_and, cpF_ne]) (fun W' w1 w2 w3 => ?_)
    simp (disch := omega) only [↓reduceIte, ↓nm_eq, ↓jn_eq, ↓c_within, ↓c_isIn, ↓c_isScene, ↓c_isPlace, ↓c_isCue, ↓c_isDigit, ↓d_isScene, ↓d_isAny, ↓ta_pb1, ↓ta_pb0, ↓ta_pb1', ↓ta_pb0', ta_lt, ta_nlt, ta_le, ta_nle, ta_eq, ta_neq, ta_nne, ta_ne, gs_id, a_gd01, a_gdT, or_true, true_or, bd_some, bW_sm, a_gd, a_ne, a_rd, Int.toNat_natCast, Int.toNat_add, Int.toNat_mul, Int.reduceToNat, a_gdp, a_cell, and_self, and_true, true_and, q_undo147]
    refine Ok_some ⟨?_, fun a ha => ?_, ?_⟩
    · simp (disch := omega) only [↓reduceIte, ↓nm_eq, ↓jn_eq, ↓c_within, ↓c_isIn, ↓c_isScene, ↓c_isPlace, ↓c_isCue, ↓c_isDigit, ↓d_isScene, ↓d_isAny, ↓ta_pb1, ↓ta_pb0, ↓ta_pb1', ↓ta_pb0', ta_lt, ta_nlt, ta_le, ta_nle, ta_eq, ta_neq, ta_nne, ta_ne, gs_id, a_gd01, a_gdT, or_true, true_or, bd_some, bW_sm, a_gd, a_ne, a_rd, Int.toNat_natCast, Int.toNat_add, Int.toNat_mul, Int.reduceToNat, a_gdp, a_cell, and_self, and_true, true_and, cpF_ne, w2]
    · dsimp only
      rw [cpF_cell _ _ ha, w1 a ha, cpF_cell _ _ ha, a_cell _ ha]
    · unfold RF
      dsimp only
      rw [x3 3 (by omega) (by omega), x3 4 (by omega) (by omega), x3 5 (by omega) (by omega), x3 6 (by omega) (by omega), x3 7 (by omega) (by omega), x3 8 (by omega) (by omega), x3 9 (by omega) (by omega), x3 10 (by omega) (by omega), x3 11 (by omega) (by omega)]
      refine R_undo (S := Z) (E := E) (P := P) (pk := pk) H hS2 hE2 hP.2.1 h2 x1 x2 x4 ?_ (fun j j1 j2 => ?_) (fun j hj => ?_) (fun q hq => ?_) (fun q hq => ?_) (fun i hi => ?_)
      · simp (disch := omega) only [↓reduceIte, ↓nm_eq, ↓jn_eq, ↓c_within, ↓c_isIn, ↓c_isScene, ↓c_isPlace, ↓c_isCue, ↓c_isDigit, ↓d_isScene, ↓d_isAny, ↓ta_pb1, ↓ta_pb0, ↓ta_pb1', ↓ta_pb0', ta_lt, ta_nlt, ta_le, ta_nle, ta_eq, ta_neq, ta_nne, ta_ne, gs_id, a_gd01, a_gdT, or_true, true_or, bd_some, bW_sm, a_gd, a_ne, a_rd, Int.toNat_natCast, Int.toNat_add, Int.toNat_mul, Int.reduceToNat, a_gdp, a_cell, and_self, and_true, true_and, cpF_ne, w2]
      · simp (disch := omega) only [↓reduceIte, ↓nm_eq, ↓jn_eq, ↓c_within, ↓c_isIn, ↓c_isScene, ↓c_isPlace, ↓c_isCue, ↓c_isDigit, ↓d_isScene, ↓d_isAny, ↓ta_pb1, ↓ta_pb0, ↓ta_pb1', ↓ta_pb0', ta_lt, ta_nlt, ta_le, ta_nle, ta_eq, ta_neq, ta_nne, ta_ne, gs_id, a_gd01, a_gdT, or_true, true_or, bd_some, bW_sm, a_gd, a_ne, a_rd, Int.toNat_natCast, Int.toNat_add, Int.toNat_mul, Int.reduceToNat, a_gdp, a_cell, and_self, and_true, true_and, cpF_ne, w2]
      · simp (disch := omega) only [↓reduceIte, ↓nm_eq, ↓jn_eq, ↓c_within, ↓c_isIn, ↓c_isScene, ↓c_isPlace, ↓c_isCue, ↓c_isDigit, ↓d_isScene, ↓d_isAny, ↓ta_pb1, ↓ta_pb0, ↓ta_pb1', ↓ta_pb0', ta_lt, ta_nlt, ta_le, ta_nle, ta_eq, ta_neq, ta_nne, ta_ne, gs_id, a_gd01, a_gdT, or_true, true_or, bd_some, bW_sm, a_gd, a_ne, a_rd, Int.toNat_natCast, Int.toNat_add, Int.toNat_mul, Int.reduceToNat, a_gdp, a_cell, and_self, and_true, true_and, cpF_ne, w2, cpF_at]
      · obtain ⟨y1, y2⟩ := w3 q hq
        simp (disch := omega) only [↓reduceIte, ↓nm_eq, ↓jn_eq, ↓c_within, ↓c_isIn, ↓c_isScene, ↓c_isPlace, ↓c_isCue, ↓c_isDigit, ↓d_isScene, ↓d_isAny, ↓ta_pb1, ↓ta_pb0, ↓ta_pb1', ↓ta_pb0', ta_lt, ta_nlt, ta_le, ta_nle, ta_eq, ta_neq, ta_nne, ta_ne, gs_id, a_gd01, a_gdT, or_true, true_or, bd_some, bW_sm, a_gd, a_ne, a_rd, Int.toNat_natCast, Int.toNat_add, Int.toNat_mul, Int.reduceToNat, a_gdp, a_cell, and_self, and_true, true_and, cpF_ne, y1, y2]
      · simp (disch := omega) only [↓reduceIte, ↓nm_eq, ↓jn_eq, ↓c_within, ↓c_isIn, ↓c_isScene, ↓c_isPlace, ↓c_isCue, ↓c_isDigit, ↓d_isScene, ↓d_isAny, ↓ta_pb1, ↓ta_pb0, ↓ta_pb1', ↓ta_pb0', ta_lt, ta_nlt, ta_le, ta_nle, ta_eq, ta_neq, ta_nne, ta_ne, gs_id, a_gd01, a_gdT, or_true, true_or, bd_some, bW_sm, a_gd, a_ne, a_rd, Int.toNat_natCast, Int.toNat_add, Int.toNat_mul, Int.reduceToNat, a_gdp, a_cell, and_self, and_true, true_and, cpF_ne, w2]
      · simp (disch := omega) only [↓reduceIte, ↓nm_eq, ↓jn_eq, ↓c_within, ↓c_isIn, ↓c_isScene, ↓c_isPlace, ↓c_isCue, ↓c_isDigit, ↓d_isScene, ↓d_isAny, ↓ta_pb1, ↓ta_pb0, ↓ta_pb1', ↓ta_pb0', ta_lt, ta_nlt, ta_le, ta_nle, ta_eq, ta_neq, ta_nne, ta_ne, gs_id, a_gd01, a_gdT, or_true, true_or, bd_some, bW_sm, a_gd, a_ne, a_rd, Int.toNat_natCast, Int.toNat_add, Int.toNat_mul, Int.reduceToNat, a_gdp, a_cell, and_self, and_true, true_and, cpF_at, cpF_ne, w2]
  obtain ⟨⟨r, W'⟩, e, e1, e2, e3⟩ := key
  dsimp only at e1 e2 e3
  refine ⟨Z, r, M', W', hx, e, by rw [← e1], Rel_mk hr ⟨fun k hk => x3 k (by omega) (by omega), fun j hj => by rw [x3 23 (by omega) (by omega)], x2 8 (by omega)⟩ ⟨fun k hk => e2 k (by omega), fun j hj => by rw [e2 0 (by omega)]⟩ (Rel_c hr (e2 0 (by omega))).1 (Rel_c hr (e2 0 (by omega))).2 e3⟩
