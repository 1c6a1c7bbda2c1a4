/-! the reference's choices at a token -/
theorem gs_ne {x c : Int} (hx : -1 ≤ x ∧ x ≤ 255) (hc : 0 ≤ c ∧ c ≤ 255) (h : x ≠ c) : gs x ≠ gs c := by
  rw [gs_id (by omega) (by omega), gs_id (by omega) (by omega)]
  exact h
def btwR (W : g_M) : Option Int := (m_X9_openNow W).bind (fun x11 => if gs x11 = gs 41 then ((m_X9_isCompared W).bind (fun x12 => if gs x12 ≠ 0 then ((m_X9_w3 97 110 100).bind (fun x13 => (m_X9_isWord x13 W).bind (fun x14 => if gs x14 = 0 then ((m_X9_w2 111 114).bind (fun x15 => (m_X9_isWord x15 W).bind (fun x16 => if gs x16 = 0 then (some (-1)) else (some 22)))) else (some 21)))) else ((m_X9_compareOf W).bind (fun x17 => some x17)))) else (some (-1)))
section
variable {b : Nat → Int} {s q T : Nat} {N : Int} {W : g_M}
theorem W9_ne (h : TW b s q T N W) {k : Nat} (hk : 50 ≤ k ∧ k ≤ 63) (hT : T ≠ k) {c : Int} (hc : sgn k = c) : W 0 9 ≠ c ∧ gs (W 0 9) ≠ gs c := by
  have n := TW_9 h
  have v := (sgn_k hk).1
  have a : W 0 9 ≠ c := fun e => hT ((n.2.2.2.1 k hk.1 hk.2).1 (by rw [e, hc]))
  exact ⟨a, gs_ne (by omega) (by omega) a⟩
theorem W9_eq (h : TW b s q T N W) {k : Nat} (hk : 50 ≤ k ∧ k ≤ 63) (hT : T = k) {c : Int} (hc : sgn k = c) : W 0 9 = c := by
  rw [((TW_9 h).2.2.2.1 k hk.1 hk.2).2 hT, hc]
theorem btw_other (h : TW b s q T N W) (hT : ¬ (54 ≤ T ∧ T ≤ 58)) : m_X9_betweenOf W = btwR W := by
  unfold m_X9_betweenOf
  rw [if_pos (W9_ne h (k := 54) (by omega) (by omega) (c := 43) rfl).2, if_pos (W9_ne h (k := 55) (by omega) (by omega) (c := 45) rfl).2, if_pos (W9_ne h (k := 56) (by omega) (by omega) (c := 42) rfl).2, if_pos (W9_ne h (k := 57) (by omega) (by omega) (c := 47) rfl).2, if_pos (W9_ne h (k := 58) (by omega) (by omega) (c := 37) rfl).2]
  rfl
theorem btw_arith (h : TW b s q T N W) {j : Nat} (hj : j < 5) (hT : T = 54 + j) : m_X9_betweenOf W = some ((5 + j : Nat) : Int) := by
  have a : j = 0 ∨ j = 1 ∨ j = 2 ∨ j = 3 ∨ j = 4 := by omega
  unfold m_X9_betweenOf
  rcases a with a | a | a | a | a
  · subst a
    have e := W9_eq h (k := 54) (by omega) hT (c := 43) rfl
    simp (disch := omega) only [↓reduceIte, ↓nm_eq, ↓jn_eq, ↓c_within, ↓c_isIn, ↓c_isScene, ↓c_isPlace, ↓c_isCue, ↓c_isDigit, ↓d_isScene, ↓d_isAny, ↓ta_pb1, ↓ta_pb0, ↓ta_pb1', ↓ta_pb0', ta_lt, ta_nlt, ta_le, ta_nle, ta_eq, ta_neq, ta_nne, ta_ne, gs_id, a_gd01, a_gdT, or_true, true_or, bd_some, bW_sm, a_gd, a_ne, a_rd, Int.toNat_natCast, Int.toNat_add, Int.toNat_mul, Int.reduceToNat, a_gdp, a_cell, and_self, and_true, true_and, e]; rfl
  · subst a
    have e := W9_eq h (k := 55) (by omega) hT (c := 45) rfl
    simp (disch := omega) only [↓reduceIte, ↓nm_eq, ↓jn_eq, ↓c_within, ↓c_isIn, ↓c_isScene, ↓c_isPlace, ↓c_isCue, ↓c_isDigit, ↓d_isScene, ↓d_isAny, ↓ta_pb1, ↓ta_pb0, ↓ta_pb1', ↓ta_pb0', ta_lt, ta_nlt, ta_le, ta_nle, ta_eq, ta_neq, ta_nne, ta_ne, gs_id, a_gd01, a_gdT, or_true, true_or, bd_some, bW_sm, a_gd, a_ne, a_rd, Int.toNat_natCast, Int.toNat_add, Int.toNat_mul, Int.reduceToNat, a_gdp, a_cell, and_self, and_true, true_and, e]; rfl
  · subst a
    have e := W9_eq h (k := 56) (by omega) hT (c := 42) rfl
    simp (disch := omega) only [↓reduceIte, ↓nm_eq, ↓jn_eq, ↓c_within, ↓c_isIn, ↓c_isScene, ↓c_isPlace, ↓c_isCue, ↓c_isDigit, ↓d_isScene, ↓d_isAny, ↓ta_pb1, ↓ta_pb0, ↓ta_pb1', ↓ta_pb0', ta_lt, ta_nlt, ta_le, ta_nle, ta_eq, ta_neq, ta_nne, ta_ne, gs_id, a_gd01, a_gdT, or_true, true_or, bd_some, bW_sm, a_gd, a_ne, a_rd, Int.toNat_natCast, Int.toNat_add, Int.toNat_mul, Int.reduceToNat, a_gdp, a_cell, and_self, and_true, true_and, e]; rfl
  · subst a
    have e := W9_eq h (k := 57) (by omega) hT (c := 47) rfl
    simp (disch := omega) only [↓reduceIte, ↓nm_eq, ↓jn_eq, ↓c_within, ↓c_isIn, ↓c_isScene, ↓c_isPlace, ↓c_isCue, ↓c_isDigit, ↓d_isScene, ↓d_isAny, ↓ta_pb1, ↓ta_pb0, ↓ta_pb1', ↓ta_pb0', ta_lt, ta_nlt, ta_le, ta_nle, ta_eq, ta_neq, ta_nne, ta_ne, gs_id, a_gd01, a_gdT, or_true, true_or, bd_some, bW_sm, a_gd, a_ne, a_rd, Int.toNat_natCast, Int.toNat_add, Int.toNat_mul, Int.reduceToNat, a_gdp, a_cell, and_self, and_true, true_and, e]; rfl
  · subst a
    have e := W9_eq h (k := 58) (by omega) hT (c := 37) rfl
    simp (disch := omega) only [↓reduceIte, ↓nm_eq, ↓jn_eq, ↓c_within, ↓c_isIn, ↓c_isScene, ↓c_isPlace, ↓c_isCue, ↓c_isDigit, ↓d_isScene, ↓d_isAny, ↓ta_pb1, ↓ta_pb0, ↓ta_pb1', ↓ta_pb0', ta_lt, ta_nlt, ta_le, ta_nle, ta_eq, ta_neq, ta_nne, ta_ne, gs_id, a_gd01, a_gdT, or_true, true_or, bd_some, bW_sm, a_gd, a_ne, a_rd, Int.toNat_natCast, Int.toNat_add, Int.toNat_mul, Int.reduceToNat, a_gdp, a_cell, and_self, and_true, true_and, e]; rfl
theorem btw_not41 (h : TW b s q T N W) (hT : ¬ (54 ≤ T ∧ T ≤ 58)) {x : Int} (ho : m_X9_openNow W = some x) (hx : -1 ≤ x ∧ x ≤ 43) (h41 : x ≠ 41) : m_X9_betweenOf W = some (-1) := by
  rw [btw_other h hT]
  unfold btwR
  simp (disch := omega) only [↓reduceIte, ↓nm_eq, ↓jn_eq, ↓c_within, ↓c_isIn, ↓c_isScene, ↓c_isPlace, ↓c_isCue, ↓c_isDigit, ↓d_isScene, ↓d_isAny, ↓ta_pb1, ↓ta_pb0, ↓ta_pb1', ↓ta_pb0', ta_lt, ta_nlt, ta_le, ta_nle, ta_eq, ta_neq, ta_nne, ta_ne, gs_id, a_gd01, a_gdT, or_true, true_or, bd_some, bW_sm, a_gd, a_ne, a_rd, Int.toNat_natCast, Int.toNat_add, Int.toNat_mul, Int.reduceToNat, a_gdp, a_cell, and_self, and_true, true_and, ho]
theorem btw_cmp (h : TW b s q T N W) (hT : ¬ (54 ≤ T ∧ T ≤ 58)) (ho : m_X9_openNow W = some 41) (hc : m_X9_isCompared W = some 0) : m_X9_betweenOf W = some (cmpR T) := by
  have e := q_compareOf h
  rw [btw_other h hT]
  unfold btwR
  simp (disch := omega) only [↓reduceIte, ↓nm_eq, ↓jn_eq, ↓c_within, ↓c_isIn, ↓c_isScene, ↓c_isPlace, ↓c_isCue, ↓c_isDigit, ↓d_isScene, ↓d_isAny, ↓ta_pb1, ↓ta_pb0, ↓ta_pb1', ↓ta_pb0', ta_lt, ta_nlt, ta_le, ta_nle, ta_eq, ta_neq, ta_nne, ta_ne, gs_id, a_gd01, a_gdT, or_true, true_or, bd_some, bW_sm, a_gd, a_ne, a_rd, Int.toNat_natCast, Int.toNat_add, Int.toNat_mul, Int.reduceToNat, a_gdp, a_cell, and_self, and_true, true_and, ho, hc, e]
theorem btw_join (h : TW b s q T N W) (hT : ¬ (54 ≤ T ∧ T ≤ 58)) (ho : m_X9_openNow W = some 41) (hc : m_X9_isCompared W = some 1) : m_X9_betweenOf W = some (if T = 19 then 21 else if T = 20 then 22 else -1) := by
  have e19 := t_word h (k := 19) (by omega) (by omega) (by omega)
  have e20 := t_word h (k := 20) (by omega) (by omega) (by omega)
  rw [btw_other h hT]
  unfold btwR
  rw [bd_eq ho, if_pos rfl, bd_eq hc, if_pos gs1_ne, bd_eq cwe_19, bd_eq e19]
  by_cases c1 : T = 19
  · rw [if_neg (fun z => pb_eq0.1 z c1), if_pos c1]
  · rw [if_pos (pb_eq0.2 c1), if_neg c1, bd_eq cwe_20, bd_eq e20]
    by_cases c2 : T = 20
    · rw [if_neg (fun z => pb_eq0.1 z c2), if_pos c2]
    · rw [if_pos (pb_eq0.2 c2), if_neg c2]
theorem part_40 (h : TW b s q T N W) : m_X9_partOf 40 W = some (if T = 60 then 0 else -1) := by
  unfold m_X9_partOf
  by_cases c : T = 60
  · have e := W9_eq h (k := 60) (by omega) c (c := 41) rfl
    rw [if_pos c]
    simp (disch := omega) only [↓reduceIte, ↓nm_eq, ↓jn_eq, ↓c_within, ↓c_isIn, ↓c_isScene, ↓c_isPlace, ↓c_isCue, ↓c_isDigit, ↓d_isScene, ↓d_isAny, ↓ta_pb1, ↓ta_pb0, ↓ta_pb1', ↓ta_pb0', ta_lt, ta_nlt, ta_le, ta_nle, ta_eq, ta_neq, ta_nne, ta_ne, gs_id, a_gd01, a_gdT, or_true, true_or, bd_some, bW_sm, a_gd, a_ne, a_rd, Int.toNat_natCast, Int.toNat_add, Int.toNat_mul, Int.reduceToNat, a_gdp, a_cell, and_self, and_true, true_and, e]
  · have e := W9_ne h (k := 60) (by omega) c (c := 41) rfl
    rw [if_neg c, if_pos (gs_id (by omega) (by omega)), if_pos e.2]
theorem part_41 (h : TW b s q T N W) {x : Int} (hx : x = 0 ∨ x = 1) (hc : m_X9_isCompared W = some x) : m_X9_partOf 41 W = some (if T = 15 ∧ x = 1 then 42 else -1) := by
  have e := t_word h (k := 15) (by omega) (by omega) (by omega)
  unfold m_X9_partOf
  rw [if_neg (by rw [gs_id (by omega) (by omega)]; omega), if_pos (gs_id (by omega) (by omega)), jn_eq, bd_eq cwe_15, bd_eq e]
  by_cases c : T = 15
  · rw [if_neg (fun z => pb_eq0.1 z c), bd_eq hc]
    rcases hx with a | a
    · rw [a, if_pos gs0_eq, if_neg (by omega)]
    · rw [a, if_neg gs1_ne, if_pos ⟨c, rfl⟩]
  · rw [if_pos (pb_eq0.2 c), if_neg (fun z => c z.1)]
theorem part_42 (h : TW b s q T N W) : m_X9_partOf 42 W = some (if T = 16 then 43 else -1) := by
  have e := t_word h (k := 16) (by omega) (by omega) (by omega)
  unfold m_X9_partOf
  rw [if_neg (by rw [gs_id (by omega) (by omega)]; omega), if_neg (by rw [gs_id (by omega) (by omega)]; omega), if_pos (gs_id (by omega) (by omega)), bd_eq cwe_16, bd_eq e]
  by_cases c : T = 16
  · rw [if_neg (fun z => pb_eq0.1 z c), if_pos c]
  · rw [if_pos (pb_eq0.2 c), if_neg c]
theorem part_43 (h : TW b s q T N W) : m_X9_partOf 43 W = some (if T = 17 then 0 else -1) := by
  have e := t_word h (k := 17) (by omega) (by omega) (by omega)
  unfold m_X9_partOf
  rw [if_neg (by rw [gs_id (by omega) (by omega)]; omega), if_neg (by rw [gs_id (by omega) (by omega)]; omega), if_neg (by rw [gs_id (by omega) (by omega)]; omega), if_pos (gs_id (by omega) (by omega)), bd_eq cwe_17, bd_eq e]
  by_cases c : T = 17
  · rw [if_neg (fun z => pb_eq0.1 z c), if_pos c]
  · rw [if_pos (pb_eq0.2 c), if_neg c]
theorem part_no {W : g_M} : m_X9_partOf (-1) W = some (-1) := by
  unfold m_X9_partOf
  rw [if_neg (by rw [gs_id (by omega) (by omega)]; omega), if_neg (by rw [gs_id (by omega) (by omega)]; omega), if_neg (by rw [gs_id (by omega) (by omega)]; omega), if_neg (by rw [gs_id (by omega) (by omega)]; omega)]
theorem b1_big (h9 : W 0 9 = 1) (h10 : 9999 < W 0 10 ∧ W 0 10 ≤ 2000000) : m_X9_beginOne W = some (2, W) := by
  unfold m_X9_beginOne
  simp (disch := omega) only [↓reduceIte, ↓nm_eq, ↓jn_eq, ↓c_within, ↓c_isIn, ↓c_isScene, ↓c_isPlace, ↓c_isCue, ↓c_isDigit, ↓d_isScene, ↓d_isAny, ↓ta_pb1, ↓ta_pb0, ↓ta_pb1', ↓ta_pb0', ta_lt, ta_nlt, ta_le, ta_nle, ta_eq, ta_neq, ta_nne, ta_ne, gs_id, a_gd01, a_gdT, or_true, true_or, bd_some, bW_sm, a_gd, a_ne, a_rd, Int.toNat_natCast, Int.toNat_add, Int.toNat_mul, Int.reduceToNat, a_gdp, a_cell, and_self, and_true, true_and, h9]
theorem b1_num {v : Int} {W1 W2 W4 : g_M} (h9 : W 0 9 = 1) (h10 : W 0 10 = v) (hv : 0 ≤ v ∧ v ≤ 9999) (hn : m_X9_nameOf W = some (-1)) (e1 : m_X9_emit 0 v W = some W1) (e2 : m_X9_nextToken W1 = some W2) (e3 : m_X9_settle 7 (g_wr W2 0 18 1) = some W4) : m_X9_beginOne W = some (0, W4) := by
  unfold m_X9_beginOne
  simp (disch := omega) only [↓reduceIte, ↓nm_eq, ↓jn_eq, ↓c_within, ↓c_isIn, ↓c_isScene, ↓c_isPlace, ↓c_isCue, ↓c_isDigit, ↓d_isScene, ↓d_isAny, ↓ta_pb1, ↓ta_pb0, ↓ta_pb1', ↓ta_pb0', ta_lt, ta_nlt, ta_le, ta_nle, ta_eq, ta_neq, ta_nne, ta_ne, gs_id, a_gd01, a_gdT, or_true, true_or, bd_some, bW_sm, a_gd, a_ne, a_rd, Int.toNat_natCast, Int.toNat_add, Int.toNat_mul, Int.reduceToNat, a_gdp, a_cell, and_self, and_true, true_and, h9, h10, hn, e1, e2, e3]
theorem b1_other {u : Int} (h9 : W 0 9 = 2) (hn : m_X9_nameOf W = some u) (hu : 0 ≤ u ∧ u < 12) (ho : m_X9_isOf u W = some 0) : m_X9_beginOne W = some (5, W) := by
  unfold m_X9_beginOne
  simp (disch := omega) only [↓reduceIte, ↓nm_eq, ↓jn_eq, ↓c_within, ↓c_isIn, ↓c_isScene, ↓c_isPlace, ↓c_isCue, ↓c_isDigit, ↓d_isScene, ↓d_isAny, ↓ta_pb1, ↓ta_pb0, ↓ta_pb1', ↓ta_pb0', ta_lt, ta_nlt, ta_le, ta_nle, ta_eq, ta_neq, ta_nne, ta_ne, gs_id, a_gd01, a_gdT, or_true, true_or, bd_some, bW_sm, a_gd, a_ne, a_rd, Int.toNat_natCast, Int.toNat_add, Int.toNat_mul, Int.reduceToNat, a_gdp, a_cell, and_self, and_true, true_and, h9, hn, ho]
theorem b1_name {u : Int} {W1 W2 W4 : g_M} (h9 : W 0 9 = 2) (hn : m_X9_nameOf W = some u) (hu : 0 ≤ u ∧ u < 12) (ho : m_X9_isOf u W = some 1) (e1 : m_X9_emit 1 u W = some W1) (e2 : m_X9_nextToken W1 = some W2) (e3 : m_X9_settle 7 (g_wr W2 0 18 1) = some W4) : m_X9_beginOne W = some (0, W4) := by
  unfold m_X9_beginOne
  simp (disch := omega) only [↓reduceIte, ↓nm_eq, ↓jn_eq, ↓c_within, ↓c_isIn, ↓c_isScene, ↓c_isPlace, ↓c_isCue, ↓c_isDigit, ↓d_isScene, ↓d_isAny, ↓ta_pb1, ↓ta_pb0, ↓ta_pb1', ↓ta_pb0', ta_lt, ta_nlt, ta_le, ta_nle, ta_eq, ta_neq, ta_nne, ta_ne, gs_id, a_gd01, a_gdT, or_true, true_or, bd_some, bW_sm, a_gd, a_ne, a_rd, Int.toNat_natCast, Int.toNat_add, Int.toNat_mul, Int.reduceToNat, a_gdp, a_cell, and_self, and_true, true_and, h9, hn, ho, e1, e2, e3]
def b1R (W : g_M) : Option (Int × g_M) := if gs (W 0 9) ≠ gs 40 then (if gs (W 0 9) ≠ gs 45 then ((m_X9_w5 107 105 110 100 115).bind (fun x18 => (m_X9_isWord x18 W).bind (fun x19 => if gs x19 = 0 then ((m_X9_w2 105 102).bind (fun x20 => (m_X9_isWord x20 W).bind (fun x21 => if gs x21 = 0 then (g_jn (some (1, W)) (fun J22 => (m_X9_w3 110 111 116).bind (fun x23 => (m_X9_isWord x23 W).bind (fun x24 => if gs x24 = 0 then (J22) else ((m_X9_isAskAhead W).bind (fun x25 => if gs x25 = 0 then (J22) else (g_bW (m_X9_opened 20 W) (fun x26 M27 => some (x26, M27))))))))) else (g_bW (m_X9_opened 41 W) (fun x28 M29 => some (x28, M29)))))) else (g_bW (m_X9_opened 2 W) (fun x30 M31 => some (x30, M31)))))) else (g_bW (m_X9_opened 4 W) (fun x32 M33 => some (x32, M33)))) else (g_bW (m_X9_opened 40 W) (fun x34 M35 => some (x34, M35)))
theorem b1_R (h : TW b s q T N W) (h40 : T ≠ 40) (hT : ¬ (21 ≤ T ∧ T ≤ 32)) : m_X9_beginOne W = b1R W := by
  have n := TW_9 h
  have e9 : W 0 9 ≠ 1 := fun z => h40 (n.2.2.1.1 z)
  have e8 : 0 ≤ W 0 9 ∧ W 0 9 ≤ 255 := n.1
  have en := q_nameOf h
  rw [if_neg hT] at en
  clear n h
  unfold m_X9_beginOne b1R
  simp (disch := omega) only [↓reduceIte, ↓nm_eq, ↓jn_eq, ↓c_within, ↓c_isIn, ↓c_isScene, ↓c_isPlace, ↓c_isCue, ↓c_isDigit, ↓d_isScene, ↓d_isAny, ↓ta_pb1, ↓ta_pb0, ↓ta_pb1', ↓ta_pb0', ta_lt, ta_nlt, ta_le, ta_nle, ta_eq, ta_neq, ta_nne, ta_ne, gs_id, a_gd01, a_gdT, or_true, true_or, bd_some, bW_sm, a_gd, a_ne, a_rd, Int.toNat_natCast, Int.toNat_add, Int.toNat_mul, Int.reduceToNat, a_gdp, a_cell, and_self, and_true, true_and, en]
theorem b1_59 (h : TW b s q T N W) (hT : T = 59) : m_X9_beginOne W = g_bW (m_X9_opened 40 W) (fun x M => some (x, M)) := by
  rw [b1_R h (by omega) (by omega)]
  unfold b1R
  rw [if_neg (fun z => z (by rw [W9_eq h (k := 59) (by omega) hT (c := 40) rfl]))]
theorem b1_55 (h : TW b s q T N W) (hT : T = 55) : m_X9_beginOne W = g_bW (m_X9_opened 4 W) (fun x M => some (x, M)) := by
  rw [b1_R h (by omega) (by omega)]
  unfold b1R
  rw [if_pos (W9_ne h (k := 59) (by omega) (by omega) (c := 40) rfl).2, if_neg (fun z => z (by rw [W9_eq h (k := 55) (by omega) hT (c := 45) rfl]))]
theorem b1_13 (h : TW b s q T N W) (hT : T = 13) : m_X9_beginOne W = g_bW (m_X9_opened 2 W) (fun x M => some (x, M)) := by
  rw [b1_R h (by omega) (by omega)]
  unfold b1R
  rw [if_pos (W9_ne h (k := 59) (by omega) (by omega) (c := 40) rfl).2, if_pos (W9_ne h (k := 55) (by omega) (by omega) (c := 45) rfl).2, bd_eq cwe_13, bd_eq (t_word h (k := 13) (by omega) (by omega) (by omega)), if_neg (fun z => pb_eq0.1 z hT)]
theorem b1_14 (h : TW b s q T N W) (hT : T = 14) : m_X9_beginOne W = g_bW (m_X9_opened 41 W) (fun x M => some (x, M)) := by
  rw [b1_R h (by omega) (by omega)]
  unfold b1R
  rw [if_pos (W9_ne h (k := 59) (by omega) (by omega) (c := 40) rfl).2, if_pos (W9_ne h (k := 55) (by omega) (by omega) (c := 45) rfl).2, bd_eq cwe_13, bd_eq (t_word h (k := 13) (by omega) (by omega) (by omega)), if_pos (pb_eq0.2 (by omega)), bd_eq cwe_14, bd_eq (t_word h (k := 14) (by omega) (by omega) (by omega)), if_neg (fun z => pb_eq0.1 z hT)]
theorem b1_18 (h : TW b s q T N W) (hT : T = 18) (ha : m_X9_isAskAhead W = some 1) : m_X9_beginOne W = g_bW (m_X9_opened 20 W) (fun x M => some (x, M)) := by
  rw [b1_R h (by omega) (by omega)]
  unfold b1R
  rw [if_pos (W9_ne h (k := 59) (by omega) (by omega) (c := 40) rfl).2, if_pos (W9_ne h (k := 55) (by omega) (by omega) (c := 45) rfl).2, bd_eq cwe_13, bd_eq (t_word h (k := 13) (by omega) (by omega) (by omega)), if_pos (pb_eq0.2 (by omega)), bd_eq cwe_14, bd_eq (t_word h (k := 14) (by omega) (by omega) (by omega)), if_pos (pb_eq0.2 (by omega)), jn_eq, bd_eq cwe_18, bd_eq (t_word h (k := 18) (by omega) (by omega) (by omega)), if_neg (fun z => pb_eq0.1 z hT), bd_eq ha, if_neg gs1_ne]
theorem b1_no (h : TW b s q T N W) (h40 : T ≠ 40) (hT : ¬ (21 ≤ T ∧ T ≤ 32)) (h59 : T ≠ 59) (h55 : T ≠ 55) (h13 : T ≠ 13) (h14 : T ≠ 14) (ha : T = 18 → m_X9_isAskAhead W = some 0) : m_X9_beginOne W = some (1, W) := by
  rw [b1_R h h40 hT]
  unfold b1R
  rw [if_pos (W9_ne h (k := 59) (by omega) (by omega) (c := 40) rfl).2, if_pos (W9_ne h (k := 55) (by omega) (by omega) (c := 45) rfl).2, bd_eq cwe_13, bd_eq (t_word h (k := 13) (by omega) (by omega) (by omega)), if_pos (pb_eq0.2 h13), bd_eq cwe_14, bd_eq (t_word h (k := 14) (by omega) (by omega) (by omega)), if_pos (pb_eq0.2 h14), jn_eq, bd_eq cwe_18, bd_eq (t_word h (k := 18) (by omega) (by omega) (by omega))]
  by_cases c : T = 18
  · rw [if_neg (fun z => pb_eq0.1 z c), bd_eq (ha c), if_pos gs0_eq]
  · rw [if_pos (pb_eq0.2 c)]
end
theorem q_opened8 {W : g_M} {o : Int} (h : W 0 17 = 8) : m_X9_opened o W = some (3, W) := by
  unfold m_X9_opened
  simp (disch := omega) only [↓reduceIte, ↓nm_eq, ↓jn_eq, ↓c_within, ↓c_isIn, ↓c_isScene, ↓c_isPlace, ↓c_isCue, ↓c_isDigit, ↓d_isScene, ↓d_isAny, ↓ta_pb1, ↓ta_pb0, ↓ta_pb1', ↓ta_pb0', ta_lt, ta_nlt, ta_le, ta_nle, ta_eq, ta_neq, ta_nne, ta_ne, gs_id, a_gd01, a_gdT, or_true, true_or, bd_some, bW_sm, a_gd, a_ne, a_rd, Int.toNat_natCast, Int.toNat_add, Int.toNat_mul, Int.reduceToNat, a_gdp, a_cell, and_self, and_true, true_and, h]
theorem q_opened {W W' : g_M} {o : Int} {d n : Nat} (h : W 0 17 = d) (hd : d < 8) (h16 : W 0 16 = n) (hn : n < 160) (e : m_X9_nextToken (g_wr (g_wr (g_wr W 0 17 ((d : Int) + 1)) 5 n o) 0 16 ((n : Int) + 1)) = some W') : m_X9_opened o W = some (0, W') := by
  unfold m_X9_opened
  simp (disch := omega) only [↓reduceIte, ↓nm_eq, ↓jn_eq, ↓c_within, ↓c_isIn, ↓c_isScene, ↓c_isPlace, ↓c_isCue, ↓c_isDigit, ↓d_isScene, ↓d_isAny, ↓ta_pb1, ↓ta_pb0, ↓ta_pb1', ↓ta_pb0', ta_lt, ta_nlt, ta_le, ta_nle, ta_eq, ta_neq, ta_nne, ta_ne, gs_id, a_gd01, a_gdT, or_true, true_or, bd_some, bW_sm, a_gd, a_ne, a_rd, Int.toNat_natCast, Int.toNat_add, Int.toNat_mul, Int.reduceToNat, a_gdp, a_cell, and_self, and_true, true_and, h, h16, e]
def KS (M22 : g_M) : Option (Int × g_M) := (m_X9_openNow M22).bind (fun x23 => if gs x23 < 0 then ((m_X9_settle 1 M22).bind (fun M24 => some (0, M24))) else (some (1, M22)))
theorem l15_begin {W W' : g_M} {f : Nat} (h : W 0 18 = 0) (e : m_X9_beginOne W = some (0, W')) : m_X9_summed_L15 KS (f + 1) W = m_X9_summed_L15 KS f W' := by
  rw [m_X9_summed_L15, h, if_pos gs0_eq, bW_eq e, nm_eq, if_pos gs0_eq]
theorem l15_fault {W W' : g_M} {f : Nat} {x : Int} (h : W 0 18 = 0) (e : m_X9_beginOne W = some (x, W')) (hx : 1 ≤ x ∧ x ≤ 6) : m_X9_summed_L15 KS (f + 1) W = some (x, W') := by
  rw [m_X9_summed_L15, h, if_pos gs0_eq, bW_eq e, nm_eq, if_neg (by rw [gs_id (by omega) (by omega)]; omega)]
theorem l15_behind {W W' : g_M} {f : Nat} (h : W 0 18 = 1) (e : m_X9_behindOne W = some (1, W')) : m_X9_summed_L15 KS (f + 1) W = m_X9_summed_L15 KS f W' := by
  rw [m_X9_summed_L15, h, if_neg gs1_ne, bW_eq e, if_neg gs1_ne]
theorem l15_out {W W' : g_M} {f : Nat} (h : W 0 18 = 1) (e : m_X9_behindOne W = some (0, W')) : m_X9_summed_L15 KS (f + 1) W = KS W' := by
  rw [m_X9_summed_L15, h, if_neg gs1_ne, bW_eq e, if_pos gs0_eq]
