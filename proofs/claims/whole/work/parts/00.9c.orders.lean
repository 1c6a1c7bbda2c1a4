/-! the class's orders, one by one -/
theorem ord_hi {z : Int} {o w : Nat} (h : z = ((o * 65536 + w : Nat) : Int)) (ho : o < 100) (hw : w < 65536) : g_shr z 16 = (o : Int) := by
  rw [h]
  have := shr_nat (x := o * 65536 + w) (i := 16) (by omega) (by omega)
  rw [show ((16 : Nat) : Int) = 16 from rfl] at this
  rw [this, Nat.shiftRight_eq_div_pow, show 2 ^ 16 = 65536 from rfl, show (o * 65536 + w) / 65536 = o by omega]
theorem ord_lo {z : Int} {o w : Nat} (h : z = ((o * 65536 + w : Nat) : Int)) (ho : o < 100) (hw : w < 65536) : g_and z 65535 = (w : Int) := by
  rw [h]
  have := and_nat (x := o * 65536 + w) (y := 65535) (by omega) (by omega)
  rw [show ((65535 : Nat) : Int) = 65535 from rfl] at this
  rw [this, show 65535 = 2 ^ 16 - 1 from rfl, Nat.and_two_pow_sub_one_eq_mod, show 2 ^ 16 = 65536 from rfl, show (o * 65536 + w) % 65536 = w by omega]
theorem v_number {t to i x f w : Nat} {k : Int → g_M → Option (Int × g_M)} {M : g_M} (hi : i < to) (hto : to ≤ 300) (hx : x ≤ i) (h : M (t + 1) i = ((40 * 65536 + w : Nat) : Int)) (hw : w < 65536) : m_X3_value_L24 t to k (f + 1) x i M = m_X3_value_L24 t to k f ((x + 1 : Nat) : Int) ((i + 1 : Nat) : Int) (g_wr M 34 x w) := by
  have e1 := ord_hi h (by omega) hw
  have e2 := ord_lo h (by omega) hw
  rw [m_X3_value_L24]
  simp (disch := omega) only [↓reduceIte, ↓nm_eq, ↓jn_eq, ↓c_within, ↓c_isIn, ↓c_isScene, ↓c_isPlace, ↓c_isCue, ↓c_isDigit, ↓d_isScene, ↓d_isAny, ↓ta_pb1, ↓ta_pb0, ↓ta_pb1', ↓ta_pb0', ta_lt, ta_nlt, ta_le, ta_nle, ta_eq, ta_neq, ta_nne, ta_ne, gs_id, a_gd01, a_gdT, or_true, true_or, bd_some, bW_sm, a_gd, a_ne, a_rd, Int.toNat_natCast, Int.toNat_add, Int.toNat_mul, Int.reduceToNat, a_gdp, a_cell, and_self, and_true, true_and, e1, e2, show ((40 : Nat) : Int) = 40 from rfl, Int.natCast_add, Int.natCast_one]
theorem v_name {t to i x f w n : Nat} {k : Int → g_M → Option (Int × g_M)} {M : g_M} (hi : i < to) (hto : to ≤ 300) (hx : x ≤ i) (hn : n < 12) (h : M (t + 1) i = (((21 + n) * 65536 + w : Nat) : Int)) (hw : w < 65536) : m_X3_value_L24 t to k (f + 1) x i M = m_X3_value_L24 t to k f ((x + 1 : Nat) : Int) ((i + 1 : Nat) : Int) (g_wr M 34 x (M 33 (21 + n))) := by
  have e1 := ord_hi h (by omega) hw
  have e2 := ord_lo h (by omega) hw
  rw [m_X3_value_L24]
  simp (disch := omega) only [↓reduceIte, ↓nm_eq, ↓jn_eq, ↓c_within, ↓c_isIn, ↓c_isScene, ↓c_isPlace, ↓c_isCue, ↓c_isDigit, ↓d_isScene, ↓d_isAny, ↓ta_pb1, ↓ta_pb0, ↓ta_pb1', ↓ta_pb0', ta_lt, ta_nlt, ta_le, ta_nle, ta_eq, ta_neq, ta_nne, ta_ne, gs_id, a_gd01, a_gdT, or_true, true_or, bd_some, bW_sm, a_gd, a_ne, a_rd, Int.toNat_natCast, Int.toNat_add, Int.toNat_mul, Int.reduceToNat, a_gdp, a_cell, and_self, and_true, true_and, e1, e2, Int.natCast_add, Int.natCast_one]
theorem v_jump {t to i x f w : Nat} {k : Int → g_M → Option (Int × g_M)} {M : g_M} (hi : i < to) (hto : to ≤ 300) (hx : x ≤ i) (h : M (t + 1) i = ((71 * 65536 + w : Nat) : Int)) (hw : w < 65536) (hiw : i < w) : m_X3_value_L24 t to k (f + 1) x i M = m_X3_value_L24 t to k f x w M := by
  have e1 := ord_hi h (by omega) hw
  have e2 := ord_lo h (by omega) hw
  have e3 : g_max (i : Int) ((w : Int) - 1) + 1 = w := by
    rw [g_max_of (by omega) (by omega)]
    by_cases c : (i : Int) < (w : Int) - 1
    · rw [if_pos c]; omega
    · rw [if_neg c]; omega
  rw [m_X3_value_L24]
  simp (disch := omega) only [↓reduceIte, ↓nm_eq, ↓jn_eq, ↓c_within, ↓c_isIn, ↓c_isScene, ↓c_isPlace, ↓c_isCue, ↓c_isDigit, ↓d_isScene, ↓d_isAny, ↓ta_pb1, ↓ta_pb0, ↓ta_pb1', ↓ta_pb0', ta_lt, ta_nlt, ta_le, ta_nle, ta_eq, ta_neq, ta_nne, ta_ne, gs_id, a_gd01, a_gdT, or_true, true_or, bd_some, bW_sm, a_gd, a_ne, a_rd, Int.toNat_natCast, Int.toNat_add, Int.toNat_mul, Int.reduceToNat, a_gdp, a_cell, and_self, and_true, true_and, e1, e2, show ((71 : Nat) : Int) = 71 from rfl, e3]
theorem v_unless {t to i x f w : Nat} {k : Int → g_M → Option (Int × g_M)} {M : g_M} (hi : i < to) (hto : to ≤ 300) (hx : x + 1 ≤ i) (h : M (t + 1) i = ((72 * 65536 + w : Nat) : Int)) (hw : w < 65536) (hiw : i < w) (hv : M 34 x = 0 ∨ M 34 x = 1) : m_X3_value_L24 t to k (f + 1) ((x + 1 : Nat) : Int) i M = m_X3_value_L24 t to k f x ((if M 34 x = 0 then w else i + 1 : Nat) : Int) M := by
  have e1 := ord_hi h (by omega) hw
  have e2 := ord_lo h (by omega) hw
  have e3 : g_max (i : Int) ((w : Int) - 1) + 1 = w := by
    rw [g_max_of (by omega) (by omega)]
    by_cases c : (i : Int) < (w : Int) - 1
    · rw [if_pos c]; omega
    · rw [if_neg c]; omega
  have e4 : g_max 0 (((x + 1 : Nat) : Int) - 1) = x := by
    rw [g_max_of (by omega) (by omega)]
    by_cases c : (0 : Int) < ((x + 1 : Nat) : Int) - 1
    · rw [if_pos c]; omega
    · rw [if_neg c]; omega
  rw [m_X3_value_L24]
  rcases hv with hv | hv
  · rw [show (if M 34 x = 0 then w else i + 1) = w from if_pos hv]
    simp (disch := omega) only [↓reduceIte, ↓nm_eq, ↓jn_eq, ↓c_within, ↓c_isIn, ↓c_isScene, ↓c_isPlace, ↓c_isCue, ↓c_isDigit, ↓d_isScene, ↓d_isAny, ↓ta_pb1, ↓ta_pb0, ↓ta_pb1', ↓ta_pb0', ta_lt, ta_nlt, ta_le, ta_nle, ta_eq, ta_neq, ta_nne, ta_ne, gs_id, a_gd01, a_gdT, or_true, true_or, bd_some, bW_sm, a_gd, a_ne, a_rd, Int.toNat_natCast, Int.toNat_add, Int.toNat_mul, Int.reduceToNat, a_gdp, a_cell, and_self, and_true, true_and, e1, e2, show ((72 : Nat) : Int) = 72 from rfl, e4, e3]
  · rw [show (if M 34 x = 0 then w else i + 1) = i + 1 from if_neg (by omega), Int.natCast_add i 1, Int.natCast_one]
    simp (disch := omega) only [↓reduceIte, ↓nm_eq, ↓jn_eq, ↓c_within, ↓c_isIn, ↓c_isScene, ↓c_isPlace, ↓c_isCue, ↓c_isDigit, ↓d_isScene, ↓d_isAny, ↓ta_pb1, ↓ta_pb0, ↓ta_pb1', ↓ta_pb0', ta_lt, ta_nlt, ta_le, ta_nle, ta_eq, ta_neq, ta_nne, ta_ne, gs_id, a_gd01, a_gdT, or_true, true_or, bd_some, bW_sm, a_gd, a_ne, a_rd, Int.toNat_natCast, Int.toNat_add, Int.toNat_mul, Int.reduceToNat, a_gdp, a_cell, and_self, and_true, true_and, e1, e2, show ((72 : Nat) : Int) = 72 from rfl, e4]
theorem v_unary {t to i x f w o : Nat} {k : Int → g_M → Option (Int × g_M)} {M : g_M} (hi : i < to) (hto : to ≤ 300) (hx : x + 1 ≤ i) (ho : o = 70 ∨ o = 18 ∨ o = 13) (h : M (t + 1) i = ((o * 65536 + w : Nat) : Int)) (hw : w < 65536) {r : Int} (hr : m_X3_altered o (M 34 x) M = some r) : m_X3_value_L24 t to k (f + 1) ((x + 1 : Nat) : Int) i M = m_X3_value_L24 t to k f ((x + 1 : Nat) : Int) ((i + 1 : Nat) : Int) (g_wr M 34 x r) := by
  have e1 := ord_hi h (by omega) hw
  have e2 := ord_lo h (by omega) hw
  have ex : ((x + 1 : Nat) : Int) - 1 = x := by omega
  rw [m_X3_value_L24, Int.natCast_add i 1, Int.natCast_one]
  rcases ho with rfl | rfl | rfl
  · simp (disch := omega) only [↓reduceIte, ↓nm_eq, ↓jn_eq, ↓c_within, ↓c_isIn, ↓c_isScene, ↓c_isPlace, ↓c_isCue, ↓c_isDigit, ↓d_isScene, ↓d_isAny, ↓ta_pb1, ↓ta_pb0, ↓ta_pb1', ↓ta_pb0', ta_lt, ta_nlt, ta_le, ta_nle, ta_eq, ta_neq, ta_nne, ta_ne, gs_id, a_gd01, a_gdT, or_true, true_or, bd_some, bW_sm, a_gd, a_ne, a_rd, Int.toNat_natCast, Int.toNat_add, Int.toNat_mul, Int.reduceToNat, a_gdp, a_cell, and_self, and_true, true_and, e1, e2, show ((70 : Nat) : Int) = 70 from rfl, ex]
    rw [show ((70 : Nat) : Int) = 70 from rfl] at hr
    simp (disch := omega) only [↓reduceIte, ↓nm_eq, ↓jn_eq, ↓c_within, ↓c_isIn, ↓c_isScene, ↓c_isPlace, ↓c_isCue, ↓c_isDigit, ↓d_isScene, ↓d_isAny, ↓ta_pb1, ↓ta_pb0, ↓ta_pb1', ↓ta_pb0', ta_lt, ta_nlt, ta_le, ta_nle, ta_eq, ta_neq, ta_nne, ta_ne, gs_id, a_gd01, a_gdT, or_true, true_or, bd_some, bW_sm, a_gd, a_ne, a_rd, Int.toNat_natCast, Int.toNat_add, Int.toNat_mul, Int.reduceToNat, a_gdp, a_cell, and_self, and_true, true_and, hr]
  · simp (disch := omega) only [↓reduceIte, ↓nm_eq, ↓jn_eq, ↓c_within, ↓c_isIn, ↓c_isScene, ↓c_isPlace, ↓c_isCue, ↓c_isDigit, ↓d_isScene, ↓d_isAny, ↓ta_pb1, ↓ta_pb0, ↓ta_pb1', ↓ta_pb0', ta_lt, ta_nlt, ta_le, ta_nle, ta_eq, ta_neq, ta_nne, ta_ne, gs_id, a_gd01, a_gdT, or_true, true_or, bd_some, bW_sm, a_gd, a_ne, a_rd, Int.toNat_natCast, Int.toNat_add, Int.toNat_mul, Int.reduceToNat, a_gdp, a_cell, and_self, and_true, true_and, e1, e2, show ((18 : Nat) : Int) = 18 from rfl, ex]
    rw [show ((18 : Nat) : Int) = 18 from rfl] at hr
    simp (disch := omega) only [↓reduceIte, ↓nm_eq, ↓jn_eq, ↓c_within, ↓c_isIn, ↓c_isScene, ↓c_isPlace, ↓c_isCue, ↓c_isDigit, ↓d_isScene, ↓d_isAny, ↓ta_pb1, ↓ta_pb0, ↓ta_pb1', ↓ta_pb0', ta_lt, ta_nlt, ta_le, ta_nle, ta_eq, ta_neq, ta_nne, ta_ne, gs_id, a_gd01, a_gdT, or_true, true_or, bd_some, bW_sm, a_gd, a_ne, a_rd, Int.toNat_natCast, Int.toNat_add, Int.toNat_mul, Int.reduceToNat, a_gdp, a_cell, and_self, and_true, true_and, hr]
  · simp (disch := omega) only [↓reduceIte, ↓nm_eq, ↓jn_eq, ↓c_within, ↓c_isIn, ↓c_isScene, ↓c_isPlace, ↓c_isCue, ↓c_isDigit, ↓d_isScene, ↓d_isAny, ↓ta_pb1, ↓ta_pb0, ↓ta_pb1', ↓ta_pb0', ta_lt, ta_nlt, ta_le, ta_nle, ta_eq, ta_neq, ta_nne, ta_ne, gs_id, a_gd01, a_gdT, or_true, true_or, bd_some, bW_sm, a_gd, a_ne, a_rd, Int.toNat_natCast, Int.toNat_add, Int.toNat_mul, Int.reduceToNat, a_gdp, a_cell, and_self, and_true, true_and, e1, e2, show ((13 : Nat) : Int) = 13 from rfl, ex]
    rw [show ((13 : Nat) : Int) = 13 from rfl] at hr
    simp (disch := omega) only [↓reduceIte, ↓nm_eq, ↓jn_eq, ↓c_within, ↓c_isIn, ↓c_isScene, ↓c_isPlace, ↓c_isCue, ↓c_isDigit, ↓d_isScene, ↓d_isAny, ↓ta_pb1, ↓ta_pb0, ↓ta_pb1', ↓ta_pb0', ta_lt, ta_nlt, ta_le, ta_nle, ta_eq, ta_neq, ta_nne, ta_ne, gs_id, a_gd01, a_gdT, or_true, true_or, bd_some, bW_sm, a_gd, a_ne, a_rd, Int.toNat_natCast, Int.toNat_add, Int.toNat_mul, Int.reduceToNat, a_gdp, a_cell, and_self, and_true, true_and, hr]
theorem v_joined {t to i x f w o : Nat} {k : Int → g_M → Option (Int × g_M)} {M : g_M} (hi : i < to) (hto : to ≤ 300) (hx : x + 2 ≤ i) (ho : 54 ≤ o ∧ o ≤ 58) (h : M (t + 1) i = ((o * 65536 + w : Nat) : Int)) (hw : w < 65536) {r : Int} (hr : m_X3_joined o (M 34 x) (M 34 (x + 1)) = some r) : m_X3_value_L24 t to k (f + 1) ((x + 2 : Nat) : Int) i M = m_X3_value_L24 t to k f ((x + 1 : Nat) : Int) ((i + 1 : Nat) : Int) (g_wr M 34 x r) := by
  have e1 := ord_hi h (by omega) hw
  have e2 := ord_lo h (by omega) hw
  have ex : ((x + 2 : Nat) : Int) + -1 = ((x + 1 : Nat) : Int) := by omega
  have ey : ((x + 1 : Nat) : Int) - 1 = (x : Int) := by omega
  rw [m_X3_value_L24, Int.natCast_add i 1, Int.natCast_one]
  simp (disch := omega) only [↓reduceIte, ↓nm_eq, ↓jn_eq, ↓c_within, ↓c_isIn, ↓c_isScene, ↓c_isPlace, ↓c_isCue, ↓c_isDigit, ↓d_isScene, ↓d_isAny, ↓ta_pb1, ↓ta_pb0, ↓ta_pb1', ↓ta_pb0', ta_lt, ta_nlt, ta_le, ta_nle, ta_eq, ta_neq, ta_nne, ta_ne, gs_id, a_gd01, a_gdT, or_true, true_or, bd_some, bW_sm, a_gd, a_ne, a_rd, Int.toNat_natCast, Int.toNat_add, Int.toNat_mul, Int.reduceToNat, a_gdp, a_cell, and_self, and_true, true_and, e1, e2, ex, ey, hr]
theorem v_asked {t to i x f w o : Nat} {k : Int → g_M → Option (Int × g_M)} {M : g_M} (hi : i < to) (hto : to ≤ 300) (hx : x + 2 ≤ i) (ho : o = 19 ∨ o = 20 ∨ o = 50 ∨ o = 51 ∨ o = 52 ∨ o = 53 ∨ o = 62 ∨ o = 63) (h : M (t + 1) i = ((o * 65536 + w : Nat) : Int)) (hw : w < 65536) {r : Int} (hr : m_X3_asked o (M 34 x) (M 34 (x + 1)) = some r) (h01 : r = 0 ∨ r = 1) : m_X3_value_L24 t to k (f + 1) ((x + 2 : Nat) : Int) i M = m_X3_value_L24 t to k f ((x + 1 : Nat) : Int) ((i + 1 : Nat) : Int) (g_wr M 34 x r) := by
  have e1 := ord_hi h (by omega) hw
  have e2 := ord_lo h (by omega) hw
  have ex : ((x + 2 : Nat) : Int) + -1 = ((x + 1 : Nat) : Int) := by omega
  have ey : ((x + 1 : Nat) : Int) - 1 = (x : Int) := by omega
  rw [m_X3_value_L24, Int.natCast_add i 1, Int.natCast_one]
  by_cases c : o < 54
  · by_cases c2 : o < 21
    · rcases h01 with rfl | rfl
      · simp (disch := omega) only [↓reduceIte, ↓nm_eq, ↓jn_eq, ↓c_within, ↓c_isIn, ↓c_isScene, ↓c_isPlace, ↓c_isCue, ↓c_isDigit, ↓d_isScene, ↓d_isAny, ↓ta_pb1, ↓ta_pb0, ↓ta_pb1', ↓ta_pb0', ta_lt, ta_nlt, ta_le, ta_nle, ta_eq, ta_neq, ta_nne, ta_ne, gs_id, a_gd01, a_gdT, or_true, true_or, bd_some, bW_sm, a_gd, a_ne, a_rd, Int.toNat_natCast, Int.toNat_add, Int.toNat_mul, Int.reduceToNat, a_gdp, a_cell, and_self, and_true, true_and, e1, e2, ex, ey, hr]
      · simp (disch := omega) only [↓reduceIte, ↓nm_eq, ↓jn_eq, ↓c_within, ↓c_isIn, ↓c_isScene, ↓c_isPlace, ↓c_isCue, ↓c_isDigit, ↓d_isScene, ↓d_isAny, ↓ta_pb1, ↓ta_pb0, ↓ta_pb1', ↓ta_pb0', ta_lt, ta_nlt, ta_le, ta_nle, ta_eq, ta_neq, ta_nne, ta_ne, gs_id, a_gd01, a_gdT, or_true, true_or, bd_some, bW_sm, a_gd, a_ne, a_rd, Int.toNat_natCast, Int.toNat_add, Int.toNat_mul, Int.reduceToNat, a_gdp, a_cell, and_self, and_true, true_and, e1, e2, ex, ey, hr]
    · rcases h01 with rfl | rfl
      · simp (disch := omega) only [↓reduceIte, ↓nm_eq, ↓jn_eq, ↓c_within, ↓c_isIn, ↓c_isScene, ↓c_isPlace, ↓c_isCue, ↓c_isDigit, ↓d_isScene, ↓d_isAny, ↓ta_pb1, ↓ta_pb0, ↓ta_pb1', ↓ta_pb0', ta_lt, ta_nlt, ta_le, ta_nle, ta_eq, ta_neq, ta_nne, ta_ne, gs_id, a_gd01, a_gdT, or_true, true_or, bd_some, bW_sm, a_gd, a_ne, a_rd, Int.toNat_natCast, Int.toNat_add, Int.toNat_mul, Int.reduceToNat, a_gdp, a_cell, and_self, and_true, true_and, e1, e2, ex, ey, hr]
      · simp (disch := omega) only [↓reduceIte, ↓nm_eq, ↓jn_eq, ↓c_within, ↓c_isIn, ↓c_isScene, ↓c_isPlace, ↓c_isCue, ↓c_isDigit, ↓d_isScene, ↓d_isAny, ↓ta_pb1, ↓ta_pb0, ↓ta_pb1', ↓ta_pb0', ta_lt, ta_nlt, ta_le, ta_nle, ta_eq, ta_neq, ta_nne, ta_ne, gs_id, a_gd01, a_gdT, or_true, true_or, bd_some, bW_sm, a_gd, a_ne, a_rd, Int.toNat_natCast, Int.toNat_add, Int.toNat_mul, Int.reduceToNat, a_gdp, a_cell, and_self, and_true, true_and, e1, e2, ex, ey, hr]
  · rcases h01 with rfl | rfl
    · simp (disch := omega) only [↓reduceIte, ↓nm_eq, ↓jn_eq, ↓c_within, ↓c_isIn, ↓c_isScene, ↓c_isPlace, ↓c_isCue, ↓c_isDigit, ↓d_isScene, ↓d_isAny, ↓ta_pb1, ↓ta_pb0, ↓ta_pb1', ↓ta_pb0', ta_lt, ta_nlt, ta_le, ta_nle, ta_eq, ta_neq, ta_nne, ta_ne, gs_id, a_gd01, a_gdT, or_true, true_or, bd_some, bW_sm, a_gd, a_ne, a_rd, Int.toNat_natCast, Int.toNat_add, Int.toNat_mul, Int.reduceToNat, a_gdp, a_cell, and_self, and_true, true_and, e1, e2, ex, ey, hr]
    · simp (disch := omega) only [↓reduceIte, ↓nm_eq, ↓jn_eq, ↓c_within, ↓c_isIn, ↓c_isScene, ↓c_isPlace, ↓c_isCue, ↓c_isDigit, ↓d_isScene, ↓d_isAny, ↓ta_pb1, ↓ta_pb0, ↓ta_pb1', ↓ta_pb0', ta_lt, ta_nlt, ta_le, ta_nle, ta_eq, ta_neq, ta_nne, ta_ne, gs_id, a_gd01, a_gdT, or_true, true_or, bd_some, bW_sm, a_gd, a_ne, a_rd, Int.toNat_natCast, Int.toNat_add, Int.toNat_mul, Int.reduceToNat, a_gdp, a_cell, and_self, and_true, true_and, e1, e2, ex, ey, hr]
