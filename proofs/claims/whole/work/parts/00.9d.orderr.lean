/-! the reference's orders, one by one -/
theorem s_number {X Y TO i n m f : Nat} {v : Int} {k : g_M → Option (Int × g_M)} {M : g_M} (hX : X + 2 < 2820) (hY : Y ≤ 2212) (hT : M 3 (X + 2) = TO) (hi : i < TO) (hTO : TO ≤ 304) (hn : n ≤ i) (ho : M 3 (Y + 2 * i) = 0) (hv : M 3 (Y + 2 * i + 1) = v) (vb : 0 ≤ v ∧ v ≤ 9999) : m_X9_summedUp_L38 X Y k (f + 1) n m i M = m_X9_summedUp_L38 X Y k f ((n + 1 : Nat) : Int) m ((i + 1 : Nat) : Int) (g_wr M 7 n v) := by
  rw [m_X9_summedUp_L38]
  simp (disch := omega) only [↓reduceIte, ↓nm_eq, ↓jn_eq, ↓c_within, ↓c_isIn, ↓c_isScene, ↓c_isPlace, ↓c_isCue, ↓c_isDigit, ↓d_isScene, ↓d_isAny, ↓ta_pb1, ↓ta_pb0, ↓ta_pb1', ↓ta_pb0', ta_lt, ta_nlt, ta_le, ta_nle, ta_eq, ta_neq, ta_nne, ta_ne, gs_id, a_gd01, a_gdT, or_true, true_or, bd_some, bW_sm, a_gd, a_ne, a_rd, Int.toNat_natCast, Int.toNat_add, Int.toNat_mul, Int.reduceToNat, a_gdp, a_cell, and_self, and_true, true_and, hT, ho, hv, Int.natCast_add, Int.natCast_one]
theorem s_name {X Y TO i n m f u : Nat} {k : g_M → Option (Int × g_M)} {M : g_M} (hX : X + 2 < 2820) (hY : Y ≤ 2212) (hT : M 3 (X + 2) = TO) (hi : i < TO) (hTO : TO ≤ 304) (hn : n ≤ i) (ho : M 3 (Y + 2 * i) = 1) (hv : M 3 (Y + 2 * i + 1) = (u : Int)) (vb : u < 12) (eb : -1000000 ≤ M 6 u ∧ M 6 u ≤ 1000000) : m_X9_summedUp_L38 X Y k (f + 1) n m i M = m_X9_summedUp_L38 X Y k f ((n + 1 : Nat) : Int) m ((i + 1 : Nat) : Int) (g_wr M 7 n (M 6 u)) := by
  rw [m_X9_summedUp_L38]
  simp (disch := omega) only [↓reduceIte, ↓nm_eq, ↓jn_eq, ↓c_within, ↓c_isIn, ↓c_isScene, ↓c_isPlace, ↓c_isCue, ↓c_isDigit, ↓d_isScene, ↓d_isAny, ↓ta_pb1, ↓ta_pb0, ↓ta_pb1', ↓ta_pb0', ta_lt, ta_nlt, ta_le, ta_nle, ta_eq, ta_neq, ta_nne, ta_ne, gs_id, a_gd01, a_gdT, or_true, true_or, bd_some, bW_sm, a_gd, a_ne, a_rd, Int.toNat_natCast, Int.toNat_add, Int.toNat_mul, Int.reduceToNat, a_gdp, a_cell, and_self, and_true, true_and, hT, ho, hv, Int.natCast_add, Int.natCast_one]
theorem s_minus {X Y TO i n m f : Nat} {k : g_M → Option (Int × g_M)} {M : g_M} (hX : X + 2 < 2820) (hY : Y ≤ 2212) (hT : M 3 (X + 2) = TO) (hi : i < TO) (hTO : TO ≤ 304) (hn : n ≤ i) (ho : M 3 (Y + 2 * i) = 4) : m_X9_summedUp_L38 X Y k (f + 1) ((n + 1 : Nat) : Int) m i M = m_X9_summedUp_L38 X Y k f ((n + 1 : Nat) : Int) m ((i + 1 : Nat) : Int) (g_wr M 7 n (-(M 7 n))) := by
  have en : ((n + 1 : Nat) : Int) - 1 = (n : Int) := by omega
  rw [m_X9_summedUp_L38, Int.natCast_add i 1, Int.natCast_one]
  simp (disch := omega) only [↓reduceIte, ↓nm_eq, ↓jn_eq, ↓c_within, ↓c_isIn, ↓c_isScene, ↓c_isPlace, ↓c_isCue, ↓c_isDigit, ↓d_isScene, ↓d_isAny, ↓ta_pb1, ↓ta_pb0, ↓ta_pb1', ↓ta_pb0', ta_lt, ta_nlt, ta_le, ta_nle, ta_eq, ta_neq, ta_nne, ta_ne, gs_id, a_gd01, a_gdT, or_true, true_or, bd_some, bW_sm, a_gd, a_ne, a_rd, Int.toNat_natCast, Int.toNat_add, Int.toNat_mul, Int.reduceToNat, a_gdp, a_cell, and_self, and_true, true_and, hT, ho, en]
theorem s_kind {X Y TO i n m f : Nat} {r : Int} {k : g_M → Option (Int × g_M)} {M : g_M} (hX : X + 2 < 2820) (hY : Y ≤ 2212) (hT : M 3 (X + 2) = TO) (hi : i < TO) (hTO : TO ≤ 304) (hn : n ≤ i) (ho : M 3 (Y + 2 * i) = 2) (hr : m_X9_kindOf (M 7 n) M = some r) : m_X9_summedUp_L38 X Y k (f + 1) ((n + 1 : Nat) : Int) m i M = m_X9_summedUp_L38 X Y k f ((n + 1 : Nat) : Int) m ((i + 1 : Nat) : Int) (g_wr M 7 n r) := by
  have en : ((n + 1 : Nat) : Int) - 1 = (n : Int) := by omega
  rw [m_X9_summedUp_L38, Int.natCast_add i 1, Int.natCast_one]
  simp (disch := omega) only [↓reduceIte, ↓nm_eq, ↓jn_eq, ↓c_within, ↓c_isIn, ↓c_isScene, ↓c_isPlace, ↓c_isCue, ↓c_isDigit, ↓d_isScene, ↓d_isAny, ↓ta_pb1, ↓ta_pb0, ↓ta_pb1', ↓ta_pb0', ta_lt, ta_nlt, ta_le, ta_nle, ta_eq, ta_neq, ta_nne, ta_ne, gs_id, a_gd01, a_gdT, or_true, true_or, bd_some, bW_sm, a_gd, a_ne, a_rd, Int.toNat_natCast, Int.toNat_add, Int.toNat_mul, Int.reduceToNat, a_gdp, a_cell, and_self, and_true, true_and, hT, ho, en, hr]
theorem s_select {X Y TO i n m f : Nat} {k : g_M → Option (Int × g_M)} {M : g_M} (hX : X + 2 < 2820) (hY : Y ≤ 2212) (hT : M 3 (X + 2) = TO) (hi : i < TO) (hTO : TO ≤ 304) (hn : n ≤ i) (hm : m ≤ i) (ho : M 3 (Y + 2 * i) = 3) (ht : M 8 m = 0 ∨ M 8 m = 1) : m_X9_summedUp_L38 X Y k (f + 1) ((n + 2 : Nat) : Int) ((m + 1 : Nat) : Int) i M = m_X9_summedUp_L38 X Y k f ((n + 1 : Nat) : Int) m ((i + 1 : Nat) : Int) (if M 8 m = 0 then g_wr M 7 n (M 7 (n + 1)) else M) := by
  have en : ((n + 2 : Nat) : Int) + -1 = ((n + 1 : Nat) : Int) := by omega
  have en2 : ((n + 1 : Nat) : Int) - 1 = (n : Int) := by omega
  have em : ((m + 1 : Nat) : Int) + -1 = (m : Int) := by omega
  rw [m_X9_summedUp_L38, Int.natCast_add i 1, Int.natCast_one]
  rcases ht with ht | ht
  · rw [show (if M 8 m = 0 then g_wr M 7 n (M 7 (n + 1)) else M) = g_wr M 7 n (M 7 (n + 1)) from if_pos ht]
    simp (disch := omega) only [↓reduceIte, ↓nm_eq, ↓jn_eq, ↓c_within, ↓c_isIn, ↓c_isScene, ↓c_isPlace, ↓c_isCue, ↓c_isDigit, ↓d_isScene, ↓d_isAny, ↓ta_pb1, ↓ta_pb0, ↓ta_pb1', ↓ta_pb0', ta_lt, ta_nlt, ta_le, ta_nle, ta_eq, ta_neq, ta_nne, ta_ne, gs_id, a_gd01, a_gdT, or_true, true_or, bd_some, bW_sm, a_gd, a_ne, a_rd, Int.toNat_natCast, Int.toNat_add, Int.toNat_mul, Int.reduceToNat, a_gdp, a_cell, and_self, and_true, true_and, hT, ho, en, en2, em, ht]
  · rw [show (if M 8 m = 0 then g_wr M 7 n (M 7 (n + 1)) else M) = M from if_neg (by omega)]
    simp (disch := omega) only [↓reduceIte, ↓nm_eq, ↓jn_eq, ↓c_within, ↓c_isIn, ↓c_isScene, ↓c_isPlace, ↓c_isCue, ↓c_isDigit, ↓d_isScene, ↓d_isAny, ↓ta_pb1, ↓ta_pb0, ↓ta_pb1', ↓ta_pb0', ta_lt, ta_nlt, ta_le, ta_nle, ta_eq, ta_neq, ta_nne, ta_ne, gs_id, a_gd01, a_gdT, or_true, true_or, bd_some, bW_sm, a_gd, a_ne, a_rd, Int.toNat_natCast, Int.toNat_add, Int.toNat_mul, Int.reduceToNat, a_gdp, a_cell, and_self, and_true, true_and, hT, ho, en, en2, em, ht]
theorem s_two {X Y TO i n m f o : Nat} {r : Int} {k : g_M → Option (Int × g_M)} {M : g_M} (hX : X + 2 < 2820) (hY : Y ≤ 2212) (hT : M 3 (X + 2) = TO) (hi : i < TO) (hTO : TO ≤ 304) (hn : n ≤ i) (ho : M 3 (Y + 2 * i) = (o : Int)) (h5 : 5 ≤ o ∧ o ≤ 8) (hr : m_X9_two o (M 7 n) (M 7 (n + 1)) = some r) : m_X9_summedUp_L38 X Y k (f + 1) ((n + 2 : Nat) : Int) m i M = m_X9_summedUp_L38 X Y k f ((n + 1 : Nat) : Int) m ((i + 1 : Nat) : Int) (g_wr M 7 n r) := by
  have en : ((n + 2 : Nat) : Int) + -1 = ((n + 1 : Nat) : Int) := by omega
  have en2 : ((n + 1 : Nat) : Int) - 1 = (n : Int) := by omega
  rw [m_X9_summedUp_L38, Int.natCast_add i 1, Int.natCast_one]
  simp (disch := omega) only [↓reduceIte, ↓nm_eq, ↓jn_eq, ↓c_within, ↓c_isIn, ↓c_isScene, ↓c_isPlace, ↓c_isCue, ↓c_isDigit, ↓d_isScene, ↓d_isAny, ↓ta_pb1, ↓ta_pb0, ↓ta_pb1', ↓ta_pb0', ta_lt, ta_nlt, ta_le, ta_nle, ta_eq, ta_neq, ta_nne, ta_ne, gs_id, a_gd01, a_gdT, or_true, true_or, bd_some, bW_sm, a_gd, a_ne, a_rd, Int.toNat_natCast, Int.toNat_add, Int.toNat_mul, Int.reduceToNat, a_gdp, a_cell, and_self, and_true, true_and, hT, ho, en, en2, hr]
theorem s_rest {X Y TO i n m f : Nat} {r : Int} {k : g_M → Option (Int × g_M)} {M : g_M} (hX : X + 2 < 2820) (hY : Y ≤ 2212) (hT : M 3 (X + 2) = TO) (hi : i < TO) (hTO : TO ≤ 304) (hn : n ≤ i) (ho : M 3 (Y + 2 * i) = 9) (hr : m_X9_restOf (M 7 n) (M 7 (n + 1)) = some r) : m_X9_summedUp_L38 X Y k (f + 1) ((n + 2 : Nat) : Int) m i M = m_X9_summedUp_L38 X Y k f ((n + 1 : Nat) : Int) m ((i + 1 : Nat) : Int) (g_wr M 7 n r) := by
  have en : ((n + 2 : Nat) : Int) + -1 = ((n + 1 : Nat) : Int) := by omega
  have en2 : ((n + 1 : Nat) : Int) - 1 = (n : Int) := by omega
  rw [m_X9_summedUp_L38, Int.natCast_add i 1, Int.natCast_one]
  simp (disch := omega) only [↓reduceIte, ↓nm_eq, ↓jn_eq, ↓c_within, ↓c_isIn, ↓c_isScene, ↓c_isPlace, ↓c_isCue, ↓c_isDigit, ↓d_isScene, ↓d_isAny, ↓ta_pb1, ↓ta_pb0, ↓ta_pb1', ↓ta_pb0', ta_lt, ta_nlt, ta_le, ta_nle, ta_eq, ta_neq, ta_nne, ta_ne, gs_id, a_gd01, a_gdT, or_true, true_or, bd_some, bW_sm, a_gd, a_ne, a_rd, Int.toNat_natCast, Int.toNat_add, Int.toNat_mul, Int.reduceToNat, a_gdp, a_cell, and_self, and_true, true_and, hT, ho, en, en2, hr]
theorem s_ask {X Y TO i n m f o : Nat} {r : Int} {k : g_M → Option (Int × g_M)} {M : g_M} (hX : X + 2 < 2820) (hY : Y ≤ 2212) (hT : M 3 (X + 2) = TO) (hi : i < TO) (hTO : TO ≤ 304) (hn : n ≤ i) (hm : m ≤ i) (ho : M 3 (Y + 2 * i) = (o : Int)) (h5 : 10 ≤ o ∧ o ≤ 15) (hr : m_X9_isAsked o (M 7 n) (M 7 (n + 1)) = some r) (h01 : r = 0 ∨ r = 1) : m_X9_summedUp_L38 X Y k (f + 1) ((n + 2 : Nat) : Int) m i M = m_X9_summedUp_L38 X Y k f n ((m + 1 : Nat) : Int) ((i + 1 : Nat) : Int) (g_wr M 8 m r) := by
  have en : ((n + 2 : Nat) : Int) + -2 = (n : Int) := by omega
  rw [m_X9_summedUp_L38, Int.natCast_add i 1, Int.natCast_add m 1, Int.natCast_one]
  simp (disch := omega) only [↓reduceIte, ↓nm_eq, ↓jn_eq, ↓c_within, ↓c_isIn, ↓c_isScene, ↓c_isPlace, ↓c_isCue, ↓c_isDigit, ↓d_isScene, ↓d_isAny, ↓ta_pb1, ↓ta_pb0, ↓ta_pb1', ↓ta_pb0', ta_lt, ta_nlt, ta_le, ta_nle, ta_eq, ta_neq, ta_nne, ta_ne, gs_id, a_gd01, a_gdT, or_true, true_or, bd_some, bW_sm, a_gd, a_ne, a_rd, Int.toNat_natCast, Int.toNat_add, Int.toNat_mul, Int.reduceToNat, a_gdp, a_cell, and_self, and_true, true_and, hT, ho, en, hr]
  rw [g_gd_pos ⟨g_ix_of (by omega) (by omega) (by omega), h01⟩]
theorem s_not {X Y TO i n m f : Nat} {k : g_M → Option (Int × g_M)} {M : g_M} (hX : X + 2 < 2820) (hY : Y ≤ 2212) (hT : M 3 (X + 2) = TO) (hi : i < TO) (hTO : TO ≤ 304) (hm : m ≤ i) (ho : M 3 (Y + 2 * i) = 20) (ht : M 8 m = 0 ∨ M 8 m = 1) : m_X9_summedUp_L38 X Y k (f + 1) n ((m + 1 : Nat) : Int) i M = m_X9_summedUp_L38 X Y k f n ((m + 1 : Nat) : Int) ((i + 1 : Nat) : Int) (g_wr M 8 m (1 - M 8 m)) := by
  have em : ((m + 1 : Nat) : Int) - 1 = (m : Int) := by omega
  rw [m_X9_summedUp_L38, Int.natCast_add i 1, Int.natCast_one]
  rcases ht with ht | ht
  · rw [ht, show (1 : Int) - 0 = 1 from rfl]
    simp (disch := omega) only [↓reduceIte, ↓nm_eq, ↓jn_eq, ↓c_within, ↓c_isIn, ↓c_isScene, ↓c_isPlace, ↓c_isCue, ↓c_isDigit, ↓d_isScene, ↓d_isAny, ↓ta_pb1, ↓ta_pb0, ↓ta_pb1', ↓ta_pb0', ta_lt, ta_nlt, ta_le, ta_nle, ta_eq, ta_neq, ta_nne, ta_ne, gs_id, a_gd01, a_gdT, or_true, true_or, bd_some, bW_sm, a_gd, a_ne, a_rd, Int.toNat_natCast, Int.toNat_add, Int.toNat_mul, Int.reduceToNat, a_gdp, a_cell, and_self, and_true, true_and, hT, ho, em, ht]
  · rw [ht, show (1 : Int) - 1 = 0 from rfl]
    simp (disch := omega) only [↓reduceIte, ↓nm_eq, ↓jn_eq, ↓c_within, ↓c_isIn, ↓c_isScene, ↓c_isPlace, ↓c_isCue, ↓c_isDigit, ↓d_isScene, ↓d_isAny, ↓ta_pb1, ↓ta_pb0, ↓ta_pb1', ↓ta_pb0', ta_lt, ta_nlt, ta_le, ta_nle, ta_eq, ta_neq, ta_nne, ta_ne, gs_id, a_gd01, a_gdT, or_true, true_or, bd_some, bW_sm, a_gd, a_ne, a_rd, Int.toNat_natCast, Int.toNat_add, Int.toNat_mul, Int.reduceToNat, a_gdp, a_cell, and_self, and_true, true_and, hT, ho, em, ht]
theorem s_join {X Y TO i n m f o : Nat} {r : Int} {k : g_M → Option (Int × g_M)} {M : g_M} (hX : X + 2 < 2820) (hY : Y ≤ 2212) (hT : M 3 (X + 2) = TO) (hi : i < TO) (hTO : TO ≤ 304) (hm : m ≤ i) (ho : M 3 (Y + 2 * i) = (o : Int)) (h5 : o = 21 ∨ o = 22) (hr : m_X9_joined o (M 8 m) (M 8 (m + 1)) = some r) (h01 : r = 0 ∨ r = 1) : m_X9_summedUp_L38 X Y k (f + 1) n ((m + 2 : Nat) : Int) i M = m_X9_summedUp_L38 X Y k f n ((m + 1 : Nat) : Int) ((i + 1 : Nat) : Int) (g_wr M 8 m r) := by
  have em : ((m + 2 : Nat) : Int) + -1 = ((m + 1 : Nat) : Int) := by omega
  have em2 : ((m + 1 : Nat) : Int) - 1 = (m : Int) := by omega
  rw [m_X9_summedUp_L38, Int.natCast_add i 1, Int.natCast_one]
  simp (disch := omega) only [↓reduceIte, ↓nm_eq, ↓jn_eq, ↓c_within, ↓c_isIn, ↓c_isScene, ↓c_isPlace, ↓c_isCue, ↓c_isDigit, ↓d_isScene, ↓d_isAny, ↓ta_pb1, ↓ta_pb0, ↓ta_pb1', ↓ta_pb0', ta_lt, ta_nlt, ta_le, ta_nle, ta_eq, ta_neq, ta_nne, ta_ne, gs_id, a_gd01, a_gdT, or_true, true_or, bd_some, bW_sm, a_gd, a_ne, a_rd, Int.toNat_natCast, Int.toNat_add, Int.toNat_mul, Int.reduceToNat, a_gdp, a_cell, and_self, and_true, true_and, hT, ho, em, em2, hr]
  rw [g_gd_pos ⟨g_ix_of (by omega) (by omega) (by omega), h01⟩]
/-! what the two make of two -/
theorem cmp_le {a b : Int} (ha : -9000000000000000000 ≤ a ∧ a ≤ 9000000000000000000) (hb : -9000000000000000000 ≤ b ∧ b ≤ 9000000000000000000) : gs (g_cmp a b) = if b < a then 1 else if a = b then 0 else -1 := by
  unfold g_cmp
  rw [L_id (by omega) (by omega), L_id (by omega) (by omega)]
  by_cases c : b < a
  · rw [if_pos c, gsc_1]
  · rw [if_neg c]
    by_cases d : a = b
    · rw [if_pos d, gs_id (by omega) (by omega)]
    · rw [if_neg d, gsc_m1]
def clN (z : Int) : Int := if 1000000 < z then 1000000 else if z < -1000000 then -1000000 else z
theorem clN_b (z : Int) : -1000000 ≤ clN z ∧ clN z ≤ 1000000 := by
  unfold clN
  by_cases c : 1000000 < z
  · rw [if_pos c]; omega
  · rw [if_neg c]
    by_cases d : z < -1000000
    · rw [if_pos d]; omega
    · rw [if_neg d]; omega
theorem clN_id {z : Int} (h : -1000000 ≤ z ∧ z ≤ 1000000) : clN z = z := by
  unfold clN
  rw [if_neg (by omega), if_neg (by omega)]
theorem clip_x {z : Int} (h : -9000000000000000000 ≤ z ∧ z ≤ 9000000000000000000) : (if gs (g_cmp z 1000000) ≤ 0 then (if 0 ≤ gs (g_cmp z (-1000000)) then (some z) else (some (-1000000))) else (some 1000000)) = some (clN z) := by
  rw [cmp_le h (by omega), cmp_le h (by omega)]
  unfold clN
  by_cases c : 1000000 < z
  · rw [if_pos c, if_neg (by omega), if_pos c]
  · have h1 : (if 1000000 < z then (1 : Int) else if z = 1000000 then 0 else -1) ≤ 0 := by
      rw [if_neg c]
      by_cases e : z = 1000000
      · rw [if_pos e]; omega
      · rw [if_neg e]; omega
    rw [if_pos h1, if_neg c]
    by_cases d : z < -1000000
    · have h2 : ¬ (0 : Int) ≤ (if (-1000000 : Int) < z then (1 : Int) else if z = -1000000 then 0 else -1) := by
        rw [if_neg (by omega), if_neg (by omega)]; omega
      rw [if_neg h2, if_pos d]
    · have h2 : (0 : Int) ≤ (if (-1000000 : Int) < z then (1 : Int) else if z = -1000000 then 0 else -1) := by
        by_cases e : (-1000000 : Int) < z
        · rw [if_pos e]; omega
        · rw [if_neg e, if_pos (by omega)]; omega
      rw [if_pos h2, if_neg d]
/-- sum, difference, product, quotient, rest -/
def jnV (j : Nat) (a b : Int) : Int := if j = 0 then clN (a + b) else if j = 1 then clN (a - b) else if j = 2 then clN (a * b) else if j = 3 then a.tdiv b else if b = 0 then 0 else a.tmod b
theorem jnV_0 (a b : Int) : jnV 0 a b = clN (a + b) := if_pos rfl
theorem jnV_1 (a b : Int) : jnV 1 a b = clN (a - b) := (if_neg (by omega)).trans (if_pos rfl)
theorem jnV_2 (a b : Int) : jnV 2 a b = clN (a * b) := (if_neg (by omega)).trans ((if_neg (by omega)).trans (if_pos rfl))
theorem jnV_3 (a b : Int) : jnV 3 a b = a.tdiv b := (if_neg (by omega)).trans ((if_neg (by omega)).trans ((if_neg (by omega)).trans (if_pos rfl)))
theorem jnV_4 (a b : Int) : jnV 4 a b = if b = 0 then 0 else a.tmod b := (if_neg (by omega)).trans ((if_neg (by omega)).trans ((if_neg (by omega)).trans (if_neg (by omega))))
theorem mul_b {a b : Int} (ha : V6 a) (hb : V6 b) : -1000000000000 ≤ a * b ∧ a * b ≤ 1000000000000 := by
  have h : (a * b).natAbs ≤ 1000000 * 1000000 := by
    rw [Int.natAbs_mul]
    exact Nat.mul_le_mul (by unfold V6 at ha; omega) (by unfold V6 at hb; omega)
  omega
theorem jnV_b {j : Nat} {a b : Int} (ha : V6 a) (hb : V6 b) : V6 (jnV j a b) := by
  unfold jnV
  by_cases c0 : j = 0
  · rw [if_pos c0]; exact clN_b _
  · rw [if_neg c0]
    by_cases c1 : j = 1
    · rw [if_pos c1]; exact clN_b _
    · rw [if_neg c1]
      by_cases c2 : j = 2
      · rw [if_pos c2]; exact clN_b _
      · rw [if_neg c2]
        by_cases c3 : j = 3
        · rw [if_pos c3]
          have := Int.natAbs_tdiv_le_natAbs a b
          unfold V6 at *
          omega
        · rw [if_neg c3]
          by_cases c4 : b = 0
          · rw [if_pos c4]; unfold V6; omega
          · rw [if_neg c4]
            have := Int.natAbs_tmod a b
            have h2 := Nat.mod_le a.natAbs b.natAbs
            unfold V6 at *
            omega
theorem p_joined {j : Nat} (hj : j < 5) {a b : Int} (ha : V6 a) (hb : V6 b) : m_X3_joined ((54 + j : Nat) : Int) a b = some (jnV j a b) := by
  have mb := mul_b ha hb
  have va := ha
  have vb := hb
  unfold V6 at va vb
  unfold m_X3_joined
  have : j = 0 ∨ j = 1 ∨ j = 2 ∨ j = 3 ∨ j = 4 := by omega
  rcases this with rfl | rfl | rfl | rfl | rfl
  · rw [jnV_0]
    simp (disch := omega) only [↓reduceIte, ↓nm_eq, ↓jn_eq, ↓c_within, ↓c_isIn, ↓c_isScene, ↓c_isPlace, ↓c_isCue, ↓c_isDigit, ↓d_isScene, ↓d_isAny, ↓ta_pb1, ↓ta_pb0, ↓ta_pb1', ↓ta_pb0', ta_lt, ta_nlt, ta_le, ta_nle, ta_eq, ta_neq, ta_nne, ta_ne, gs_id, a_gd01, a_gdT, or_true, true_or, bd_some, bW_sm, a_gd, a_ne, a_rd, Int.toNat_natCast, Int.toNat_add, Int.toNat_mul, Int.reduceToNat, a_gdp, a_cell, and_self, and_true, true_and]
    exact clip_x (by omega)
  · rw [jnV_1]
    simp (disch := omega) only [↓reduceIte, ↓nm_eq, ↓jn_eq, ↓c_within, ↓c_isIn, ↓c_isScene, ↓c_isPlace, ↓c_isCue, ↓c_isDigit, ↓d_isScene, ↓d_isAny, ↓ta_pb1, ↓ta_pb0, ↓ta_pb1', ↓ta_pb0', ta_lt, ta_nlt, ta_le, ta_nle, ta_eq, ta_neq, ta_nne, ta_ne, gs_id, a_gd01, a_gdT, or_true, true_or, bd_some, bW_sm, a_gd, a_ne, a_rd, Int.toNat_natCast, Int.toNat_add, Int.toNat_mul, Int.reduceToNat, a_gdp, a_cell, and_self, and_true, true_and]
    exact clip_x (by omega)
  · rw [jnV_2]
    simp (disch := omega) only [↓reduceIte, ↓nm_eq, ↓jn_eq, ↓c_within, ↓c_isIn, ↓c_isScene, ↓c_isPlace, ↓c_isCue, ↓c_isDigit, ↓d_isScene, ↓d_isAny, ↓ta_pb1, ↓ta_pb0, ↓ta_pb1', ↓ta_pb0', ta_lt, ta_nlt, ta_le, ta_nle, ta_eq, ta_neq, ta_nne, ta_ne, gs_id, a_gd01, a_gdT, or_true, true_or, bd_some, bW_sm, a_gd, a_ne, a_rd, Int.toNat_natCast, Int.toNat_add, Int.toNat_mul, Int.reduceToNat, a_gdp, a_cell, and_self, and_true, true_and]
    exact clip_x (by omega)
  · rw [jnV_3]
    by_cases c : b = 0
    · subst c
      rw [Int.tdiv_zero]
      simp (disch := omega) only [↓reduceIte, ↓nm_eq, ↓jn_eq, ↓c_within, ↓c_isIn, ↓c_isScene, ↓c_isPlace, ↓c_isCue, ↓c_isDigit, ↓d_isScene, ↓d_isAny, ↓ta_pb1, ↓ta_pb0, ↓ta_pb1', ↓ta_pb0', ta_lt, ta_nlt, ta_le, ta_nle, ta_eq, ta_neq, ta_nne, ta_ne, gs_id, a_gd01, a_gdT, or_true, true_or, bd_some, bW_sm, a_gd, a_ne, a_rd, Int.toNat_natCast, Int.toNat_add, Int.toNat_mul, Int.reduceToNat, a_gdp, a_cell, and_self, and_true, true_and]
    · have e : g_div a b = a.tdiv b := by
        unfold g_div
        rw [gs_id (by omega) (by omega), gs_id (by omega) (by omega)]
      simp (disch := omega) only [↓reduceIte, ↓nm_eq, ↓jn_eq, ↓c_within, ↓c_isIn, ↓c_isScene, ↓c_isPlace, ↓c_isCue, ↓c_isDigit, ↓d_isScene, ↓d_isAny, ↓ta_pb1, ↓ta_pb0, ↓ta_pb1', ↓ta_pb0', ta_lt, ta_nlt, ta_le, ta_nle, ta_eq, ta_neq, ta_nne, ta_ne, gs_id, a_gd01, a_gdT, or_true, true_or, bd_some, bW_sm, a_gd, a_ne, a_rd, Int.toNat_natCast, Int.toNat_add, Int.toNat_mul, Int.reduceToNat, a_gdp, a_cell, and_self, and_true, true_and, e]
  · rw [jnV_4]
    by_cases c : b = 0
    · rw [if_pos c]
      simp (disch := omega) only [↓reduceIte, ↓nm_eq, ↓jn_eq, ↓c_within, ↓c_isIn, ↓c_isScene, ↓c_isPlace, ↓c_isCue, ↓c_isDigit, ↓d_isScene, ↓d_isAny, ↓ta_pb1, ↓ta_pb0, ↓ta_pb1', ↓ta_pb0', ta_lt, ta_nlt, ta_le, ta_nle, ta_eq, ta_neq, ta_nne, ta_ne, gs_id, a_gd01, a_gdT, or_true, true_or, bd_some, bW_sm, a_gd, a_ne, a_rd, Int.toNat_natCast, Int.toNat_add, Int.toNat_mul, Int.reduceToNat, a_gdp, a_cell, and_self, and_true, true_and]
    · have e : g_rem a b = a.tmod b := by
        unfold g_rem
        rw [gs_id (by omega) (by omega), gs_id (by omega) (by omega)]
      rw [if_neg c]
      simp (disch := omega) only [↓reduceIte, ↓nm_eq, ↓jn_eq, ↓c_within, ↓c_isIn, ↓c_isScene, ↓c_isPlace, ↓c_isCue, ↓c_isDigit, ↓d_isScene, ↓d_isAny, ↓ta_pb1, ↓ta_pb0, ↓ta_pb1', ↓ta_pb0', ta_lt, ta_nlt, ta_le, ta_nle, ta_eq, ta_neq, ta_nne, ta_ne, gs_id, a_gd01, a_gdT, or_true, true_or, bd_some, bW_sm, a_gd, a_ne, a_rd, Int.toNat_natCast, Int.toNat_add, Int.toNat_mul, Int.reduceToNat, a_gdp, a_cell, and_self, and_true, true_and, e]
theorem q_two {j : Nat} (hj : j < 4) {a b : Int} (ha : V6 a) (hb : V6 b) : m_X9_two ((5 + j : Nat) : Int) a b = some (jnV j a b) := by
  have mb := mul_b ha hb
  have vr := jnV_b (j := j) ha hb
  have va := ha
  have vb := hb
  unfold V6 at va vb
  have cl : ∀ z, (-9000000000000000000 ≤ z ∧ z ≤ 9000000000000000000) → m_X9_clip z = some (clN z) := fun z hz => clip_x hz
  unfold m_X9_two
  have : j = 0 ∨ j = 1 ∨ j = 2 ∨ j = 3 := by omega
  rcases this with rfl | rfl | rfl | rfl
  · rw [jnV_0]
    simp (disch := omega) only [↓reduceIte, ↓nm_eq, ↓jn_eq, ↓c_within, ↓c_isIn, ↓c_isScene, ↓c_isPlace, ↓c_isCue, ↓c_isDigit, ↓d_isScene, ↓d_isAny, ↓ta_pb1, ↓ta_pb0, ↓ta_pb1', ↓ta_pb0', ta_lt, ta_nlt, ta_le, ta_nle, ta_eq, ta_neq, ta_nne, ta_ne, gs_id, a_gd01, a_gdT, or_true, true_or, bd_some, bW_sm, a_gd, a_ne, a_rd, Int.toNat_natCast, Int.toNat_add, Int.toNat_mul, Int.reduceToNat, a_gdp, a_cell, and_self, and_true, true_and, cl (a + b) (by omega)]
  · rw [jnV_1]
    simp (disch := omega) only [↓reduceIte, ↓nm_eq, ↓jn_eq, ↓c_within, ↓c_isIn, ↓c_isScene, ↓c_isPlace, ↓c_isCue, ↓c_isDigit, ↓d_isScene, ↓d_isAny, ↓ta_pb1, ↓ta_pb0, ↓ta_pb1', ↓ta_pb0', ta_lt, ta_nlt, ta_le, ta_nle, ta_eq, ta_neq, ta_nne, ta_ne, gs_id, a_gd01, a_gdT, or_true, true_or, bd_some, bW_sm, a_gd, a_ne, a_rd, Int.toNat_natCast, Int.toNat_add, Int.toNat_mul, Int.reduceToNat, a_gdp, a_cell, and_self, and_true, true_and, cl (a - b) (by omega)]
  · rw [jnV_2]
    simp (disch := omega) only [↓reduceIte, ↓nm_eq, ↓jn_eq, ↓c_within, ↓c_isIn, ↓c_isScene, ↓c_isPlace, ↓c_isCue, ↓c_isDigit, ↓d_isScene, ↓d_isAny, ↓ta_pb1, ↓ta_pb0, ↓ta_pb1', ↓ta_pb0', ta_lt, ta_nlt, ta_le, ta_nle, ta_eq, ta_neq, ta_nne, ta_ne, gs_id, a_gd01, a_gdT, or_true, true_or, bd_some, bW_sm, a_gd, a_ne, a_rd, Int.toNat_natCast, Int.toNat_add, Int.toNat_mul, Int.reduceToNat, a_gdp, a_cell, and_self, and_true, true_and, cl (a * b) (by omega)]
  · have e : gs (g_cmp b 0) = if (0 : Int) < b then 1 else if b = 0 then 0 else -1 := cmp_le (by omega) (by omega)
    rw [jnV_3] at vr ⊢
    have vr' := vr
    by_cases c : b = 0
    · subst c
      rw [Int.tdiv_zero]
      simp (disch := omega) only [↓reduceIte, ↓nm_eq, ↓jn_eq, ↓c_within, ↓c_isIn, ↓c_isScene, ↓c_isPlace, ↓c_isCue, ↓c_isDigit, ↓d_isScene, ↓d_isAny, ↓ta_pb1, ↓ta_pb0, ↓ta_pb1', ↓ta_pb0', ta_lt, ta_nlt, ta_le, ta_nle, ta_eq, ta_neq, ta_nne, ta_ne, gs_id, a_gd01, a_gdT, or_true, true_or, bd_some, bW_sm, a_gd, a_ne, a_rd, Int.toNat_natCast, Int.toNat_add, Int.toNat_mul, Int.reduceToNat, a_gdp, a_cell, and_self, and_true, true_and, e]
    · have ne : ¬ gs (g_cmp b 0) = 0 := by
        rw [e]
        by_cases d : (0 : Int) < b
        · rw [if_pos d]; omega
        · rw [if_neg d, if_neg c]; omega
      have el : g_ldiv a b = a.tdiv b := by
        unfold g_ldiv
        rw [L_id (by omega) (by omega), L_id (by omega) (by omega)]
      have gl0 : gl b = b := L_id (by omega) (by omega)
      unfold V6 at vr'
      simp (disch := omega) only [↓reduceIte, ↓nm_eq, ↓jn_eq, ↓c_within, ↓c_isIn, ↓c_isScene, ↓c_isPlace, ↓c_isCue, ↓c_isDigit, ↓d_isScene, ↓d_isAny, ↓ta_pb1, ↓ta_pb0, ↓ta_pb1', ↓ta_pb0', ta_lt, ta_nlt, ta_le, ta_nle, ta_eq, ta_neq, ta_nne, ta_ne, gs_id, a_gd01, a_gdT, or_true, true_or, bd_some, bW_sm, a_gd, a_ne, a_rd, Int.toNat_natCast, Int.toNat_add, Int.toNat_mul, Int.reduceToNat, a_gdp, a_cell, and_self, and_true, true_and, ne, gl0, el, cl (a.tdiv b) (by omega), clN_id vr']
theorem q_rest {a b : Int} (ha : V6 a) (hb : V6 b) : m_X9_restOf a b = some (jnV 4 a b) := by
  have va := ha
  have vb := hb
  unfold V6 at va vb
  have e : gs (g_cmp b 0) = if (0 : Int) < b then 1 else if b = 0 then 0 else -1 := cmp_le (by omega) (by omega)
  unfold m_X9_restOf
  rw [jnV_4]
  by_cases c : b = 0
  · rw [if_pos c]
    subst c
    simp (disch := omega) only [↓reduceIte, ↓nm_eq, ↓jn_eq, ↓c_within, ↓c_isIn, ↓c_isScene, ↓c_isPlace, ↓c_isCue, ↓c_isDigit, ↓d_isScene, ↓d_isAny, ↓ta_pb1, ↓ta_pb0, ↓ta_pb1', ↓ta_pb0', ta_lt, ta_nlt, ta_le, ta_nle, ta_eq, ta_neq, ta_nne, ta_ne, gs_id, a_gd01, a_gdT, or_true, true_or, bd_some, bW_sm, a_gd, a_ne, a_rd, Int.toNat_natCast, Int.toNat_add, Int.toNat_mul, Int.reduceToNat, a_gdp, a_cell, and_self, and_true, true_and, e]
  · have ne : ¬ gs (g_cmp b 0) = 0 := by
      rw [e]
      by_cases d : (0 : Int) < b
      · rw [if_pos d]; omega
      · rw [if_neg d, if_neg c]; omega
    have el : g_lrem a b = a.tmod b := by
      unfold g_lrem
      rw [L_id (by omega) (by omega), L_id (by omega) (by omega)]
    have gl0 : gl b = b := L_id (by omega) (by omega)
    rw [if_neg c]
    simp (disch := omega) only [↓reduceIte, ↓nm_eq, ↓jn_eq, ↓c_within, ↓c_isIn, ↓c_isScene, ↓c_isPlace, ↓c_isCue, ↓c_isDigit, ↓d_isScene, ↓d_isAny, ↓ta_pb1, ↓ta_pb0, ↓ta_pb1', ↓ta_pb0', ta_lt, ta_nlt, ta_le, ta_nle, ta_eq, ta_neq, ta_nne, ta_ne, gs_id, a_gd01, a_gdT, or_true, true_or, bd_some, bW_sm, a_gd, a_ne, a_rd, Int.toNat_natCast, Int.toNat_add, Int.toNat_mul, Int.reduceToNat, a_gdp, a_cell, and_self, and_true, true_and, ne, gl0, el]
