/-! what is looked at -/
theorem pc_all : (List.range 256).all (fun v => decide (pc v ≤ 8)) = true := by decide +kernel
theorem pc_le {v : Nat} (h : v < 256) : pc v ≤ 8 := of_decide_eq_true (all_of pc_all h)
theorem pc_nn (v : Nat) : 0 ≤ pc v := by unfold pc; omega
def PRow (P : Nat) (M W : g_M) : Prop := W 1 0 = P ∧ W 1 6 = M 2 41 ∧ ∀ q : Nat, q < P → W 1 (34 + 4 * q) = M 2 q ∧ W 1 (34 + 4 * q + 2) = M 6 q
theorem p_look {P : Nat} {M W0 : g_M} (hP : P ≤ 8) (h7 : M 1 7 = P) (hr : ∀ q : Nat, q < P → 0 ≤ M 2 q ∧ M 2 q ≤ 9) (hp : ∀ q : Nat, q < P → 0 ≤ M 6 q ∧ M 6 q ≤ 9) (h0 : PRow P M W0) : ∃ b p : Int, (0 ≤ b ∧ b ≤ 8) ∧ (0 ≤ p ∧ p ≤ 72) ∧ m_X3_lookAround M = some (g_wr (g_wr (g_wr M 33 21 (M 2 41)) 33 22 b) 33 23 p) ∧ ∀ W, PRow P M W → m_X9_name W = some (g_wr (g_wr (g_wr W 6 0 (M 2 41)) 6 1 b) 6 2 p) := by
  have hs := fun (V W : g_M) (hw : PRow P M W) (e1 : V 1 = M 1) (e2 : V 2 = M 2) => p_seen (M := V) (W := W) hP (by rw [e1]; exact h7) hw.1 (fun q hq => by rw [e2]; exact ⟨(hr q hq).1, (hr q hq).2, (hw.2.2 q hq).1⟩)
  have hf := fun (V W : g_M) (hw : PRow P M W) (e1 : V 1 = M 1) (e2 : V 2 = M 2) (e6 : V 6 = M 6) => p_front (M := V) (W := W) hP (by rw [e1]; exact h7) hw.1 (fun q hq => by rw [e2]; exact ⟨(hr q hq).1, (hr q hq).2, (hw.2.2 q hq).1⟩) (fun q hq => by rw [e6]; exact ⟨(hp q hq).1, (hp q hq).2, (hw.2.2 q hq).2⟩)
  obtain ⟨v, v1, v2, v3⟩ := hs (g_wr M 33 21 (M 2 41)) W0 h0 (a_cell _ (by omega)) (a_cell _ (by omega))
  have hb := pc_le (v := v) v1
  have hb0 := pc_nn v
  obtain ⟨p, p1, p2, p3⟩ := hf (g_wr (g_wr M 33 21 (M 2 41)) 33 22 (pc v)) W0 h0 (by rw [a_cell _ (by omega), a_cell _ (by omega)]) (by rw [a_cell _ (by omega), a_cell _ (by omega)]) (by rw [a_cell _ (by omega), a_cell _ (by omega)])
  refine ⟨pc v, p, by omega, p1, ?_, fun W hw => ?_⟩
  · unfold m_X3_lookAround
    simp (disch := omega) only [↓reduceIte, ↓nm_eq, ↓jn_eq, ↓c_within, ↓c_isIn, ↓c_isScene, ↓c_isPlace, ↓c_isCue, ↓c_isDigit, ↓d_isScene, ↓d_isAny, ↓ta_pb1, ↓ta_pb0, ↓ta_pb1', ↓ta_pb0', ta_lt, ta_nlt, ta_le, ta_nle, ta_eq, ta_neq, ta_nne, ta_ne, gs_id, a_gd01, a_gdT, or_true, true_or, bd_some, bW_sm, a_gd, a_ne, a_rd, Int.toNat_natCast, Int.toNat_add, Int.toNat_mul, Int.reduceToNat, a_gdp, a_cell, and_self, and_true, true_and]
    rw [v2]
    simp (disch := omega) only [↓reduceIte, ↓nm_eq, ↓jn_eq, ↓c_within, ↓c_isIn, ↓c_isScene, ↓c_isPlace, ↓c_isCue, ↓c_isDigit, ↓d_isScene, ↓d_isAny, ↓ta_pb1, ↓ta_pb0, ↓ta_pb1', ↓ta_pb0', ta_lt, ta_nlt, ta_le, ta_nle, ta_eq, ta_neq, ta_nne, ta_ne, gs_id, a_gd01, a_gdT, or_true, true_or, bd_some, bW_sm, a_gd, a_ne, a_rd, Int.toNat_natCast, Int.toNat_add, Int.toNat_mul, Int.reduceToNat, a_gdp, a_cell, and_self, and_true, true_and, p_bitCount (show v < 4096 by omega)]
    rw [p2]
    simp (disch := omega) only [↓reduceIte, ↓nm_eq, ↓jn_eq, ↓c_within, ↓c_isIn, ↓c_isScene, ↓c_isPlace, ↓c_isCue, ↓c_isDigit, ↓d_isScene, ↓d_isAny, ↓ta_pb1, ↓ta_pb0, ↓ta_pb1', ↓ta_pb0', ta_lt, ta_nlt, ta_le, ta_nle, ta_eq, ta_neq, ta_nne, ta_ne, gs_id, a_gd01, a_gdT, or_true, true_or, bd_some, bW_sm, a_gd, a_ne, a_rd, Int.toNat_natCast, Int.toNat_add, Int.toNat_mul, Int.reduceToNat, a_gdp, a_cell, and_self, and_true, true_and]
  · obtain ⟨v', a1, a2, a3⟩ := hs (g_wr M 33 21 (M 2 41)) W hw (a_cell _ (by omega)) (a_cell _ (by omega))
    obtain ⟨p', b1, b2, b3⟩ := hf (g_wr (g_wr M 33 21 (M 2 41)) 33 22 (pc v)) W hw (by rw [a_cell _ (by omega), a_cell _ (by omega)]) (by rw [a_cell _ (by omega), a_cell _ (by omega)]) (by rw [a_cell _ (by omega), a_cell _ (by omega)])
    obtain rfl : v' = v := by
      have := Option.some.inj (a2.symm.trans v2)
      omega
    obtain rfl : p' = p := Option.some.inj (b2.symm.trans p2)
    have s1 : ∀ x : Int, m_X9_seen (g_wr W 6 0 x) = m_X9_seen W := fun x => by
      obtain ⟨y, _, y2, y3⟩ := hs (g_wr M 33 21 (M 2 41)) (g_wr W 6 0 x) hw (a_cell _ (by omega)) (a_cell _ (by omega))
      rw [y3, a3, ← y2, ← a2]
    have s2 : ∀ x z : Int, m_X9_front (g_wr (g_wr W 6 0 x) 6 1 z) = m_X9_front W := fun x z => by
      obtain ⟨y, _, y2, y3⟩ := hf (g_wr (g_wr M 33 21 (M 2 41)) 33 22 (pc v')) (g_wr (g_wr W 6 0 x) 6 1 z) hw (by rw [a_cell _ (by omega), a_cell _ (by omega)]) (by rw [a_cell _ (by omega), a_cell _ (by omega)]) (by rw [a_cell _ (by omega), a_cell _ (by omega)])
      rw [y3, b3, ← y2, ← b2]
    unfold m_X9_name
    simp (disch := omega) only [↓reduceIte, ↓nm_eq, ↓jn_eq, ↓c_within, ↓c_isIn, ↓c_isScene, ↓c_isPlace, ↓c_isCue, ↓c_isDigit, ↓d_isScene, ↓d_isAny, ↓ta_pb1, ↓ta_pb0, ↓ta_pb1', ↓ta_pb0', ta_lt, ta_nlt, ta_le, ta_nle, ta_eq, ta_neq, ta_nne, ta_ne, gs_id, a_gd01, a_gdT, or_true, true_or, bd_some, bW_sm, a_gd, a_ne, a_rd, Int.toNat_natCast, Int.toNat_add, Int.toNat_mul, Int.reduceToNat, a_gdp, a_cell, and_self, and_true, true_and, s1, a3, q_bits (show v' < 4096 by omega), s2, b3, hw.2.1]
