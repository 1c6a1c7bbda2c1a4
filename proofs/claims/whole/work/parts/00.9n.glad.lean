/-! the third law, in both -/
theorem both_glad {n : Nat} {M0 W0 M W : g_M} {d b p u : Int} {kd : Nat → Int} (hr : Rel n M0 W0) (hu : -1 ≤ u ∧ u < M0 1 8) (h : Ev M0 W0 d b p kd M W) {q : Nat} (hq : q < 8) {x : Int} (hx : 0 ≤ x ∧ x ≤ 9999) (hro : 0 ≤ M 2 q ∧ M 2 q ≤ 9 ∧ W 1 (34 + 4 * q) = M 2 q) (hgl : 0 ≤ M 2 (8 + q) ∧ M 2 (8 + q) ≤ 99 ∧ W 1 (34 + 4 * q + 1) = M 2 (8 + q)) (hpl : 0 ≤ M 6 q ∧ M 6 q ≤ 9 ∧ W 1 (34 + 4 * q + 2) = M 6 q) : ∃ (c : Int) (M' W' : g_M), (0 ≤ c ∧ c ≤ 99) ∧ m_X3_gladdensSaid u q x M = some (c, M') ∧ m_X9_gladdensOf u q x W = some (c, W') ∧ (∀ a, a ≠ 33 → a ≠ 34 → M' a = M a) ∧ (∀ j, j < 24 → M' 33 j = M 33 j) ∧ ∀ a, a ≠ 6 → a ≠ 7 → a ≠ 8 → W' a = W a := by
  obtain ⟨ts, ⟨d6, b6, p6⟩, ⟨l1, l2, l3⟩, hk, hn⟩ := h
  obtain ⟨t, t1, t2, t3, t4⟩ := law_of hr hu
  have tg : ∀ {α : Type} (o : Option α), g_gd (xT t) o = o := fun o => g_gd_pos t2
  have u4 : u < 4 := by
    obtain ⟨hf, -⟩ := hr
    obtain ⟨P, T, S, E, C, F, -, ⟨q1, q2, -⟩, -⟩ := hf
    omega
  obtain ⟨r1, r2, r3⟩ := hro
  obtain ⟨y1, y2, y3⟩ := hgl
  obtain ⟨z1, z2, z3⟩ := hpl
  have ok : EnvOk 2 (En d b p 2 (fun n => if n = 8 then (q : Int) else if n = 9 then M 2 (8 + q) else if n = 10 then M 2 q else x)) kd := by
    refine En_ok d6 b6 p6 (fun n h3 hn => ?_) (fun s hs => (hk s hs).2.2)
    unfold V6
    by_cases c3 : n = 8
    · rw [if_pos c3]; omega
    · rw [if_neg c3]
      by_cases c4 : n = 9
      · rw [if_pos c4]; omega
      · rw [if_neg c4]
        by_cases c5 : n = 10
        · rw [if_pos c5]; omega
        · rw [if_neg c5]; omega
  obtain ⟨W2, hW2⟩ : ∃ W2, W2 = g_wr (g_wr (g_wr (g_wr (g_wr (g_wr (g_wr W 6 0 d) 6 1 b) 6 2 p) 6 8 q) 6 9 (M 2 (8 + q))) 6 10 (M 2 q)) 6 11 x := ⟨_, rfl⟩
  have w2 : ∀ a, a ≠ 6 → W2 a = W a := fun a ha => by rw [hW2, a_cell _ ha, a_cell _ ha, a_cell _ ha, a_cell _ ha, a_cell _ ha, a_cell _ ha, a_cell _ ha]
  have w26 : W2 6 0 = d ∧ W2 6 1 = b ∧ W2 6 2 = p ∧ W2 6 8 = q ∧ W2 6 9 = M 2 (8 + q) ∧ W2 6 10 = M 2 q ∧ W2 6 11 = x := by
    rw [hW2]
    refine ⟨?_, ?_, ?_, ?_, ?_, ?_, ?_⟩ <;> simp (disch := omega) only [↓reduceIte, ↓nm_eq, ↓jn_eq, ↓c_within, ↓c_isIn, ↓c_isScene, ↓c_isPlace, ↓c_isCue, ↓c_isDigit, ↓d_isScene, ↓d_isAny, ↓ta_pb1, ↓ta_pb0, ↓ta_pb1', ↓ta_pb0', ta_lt, ta_nlt, ta_le, ta_nle, ta_eq, ta_neq, ta_nne, ta_ne, gs_id, a_gd01, a_gdT, or_true, true_or, bd_some, bW_sm, a_gd, a_ne, a_rd, Int.toNat_natCast, Int.toNat_add, Int.toNat_mul, Int.reduceToNat, a_gdp, a_cell, and_self, and_true, true_and]
  have ts2 : Tsame M0 W0 M W2 := ⟨ts.1, by rw [w2 3 (by omega)]; exact ts.2⟩
  have gt : ∀ (V : g_M), V 1 = W 1 → m_X9_get q 1 V = some (M 2 (8 + q)) ∧ m_X9_get q 0 V = some (M 2 q) ∧ m_X9_get q 2 V = some (M 6 q) := fun V hV => by
    have e : 34 + 4 * q + 0 = 34 + 4 * q := rfl
    unfold m_X9_get
    refine ⟨?_, ?_, ?_⟩
    · simp (disch := omega) only [↓reduceIte, ↓nm_eq, ↓jn_eq, ↓c_within, ↓c_isIn, ↓c_isScene, ↓c_isPlace, ↓c_isCue, ↓c_isDigit, ↓d_isScene, ↓d_isAny, ↓ta_pb1, ↓ta_pb0, ↓ta_pb1', ↓ta_pb0', ta_lt, ta_nlt, ta_le, ta_nle, ta_eq, ta_neq, ta_nne, ta_ne, gs_id, a_gd01, a_gdT, or_true, true_or, bd_some, bW_sm, a_gd, a_ne, a_rd, Int.toNat_natCast, Int.toNat_add, Int.toNat_mul, Int.reduceToNat, a_gdp, a_cell, and_self, and_true, true_and, hV, y3]
    · simp (disch := omega) only [↓reduceIte, ↓nm_eq, ↓jn_eq, ↓c_within, ↓c_isIn, ↓c_isScene, ↓c_isPlace, ↓c_isCue, ↓c_isDigit, ↓d_isScene, ↓d_isAny, ↓ta_pb1, ↓ta_pb0, ↓ta_pb1', ↓ta_pb0', ta_lt, ta_nlt, ta_le, ta_nle, ta_eq, ta_neq, ta_nne, ta_ne, gs_id, a_gd01, a_gdT, or_true, true_or, bd_some, bW_sm, a_gd, a_ne, a_rd, Int.toNat_natCast, Int.toNat_add, Int.toNat_mul, Int.reduceToNat, a_gdp, a_cell, and_self, and_true, true_and, hV, e, r3, Nat.add_zero, Int.add_zero]
    · simp (disch := omega) only [↓reduceIte, ↓nm_eq, ↓jn_eq, ↓c_within, ↓c_isIn, ↓c_isScene, ↓c_isPlace, ↓c_isCue, ↓c_isDigit, ↓d_isScene, ↓d_isAny, ↓ta_pb1, ↓ta_pb0, ↓ta_pb1', ↓ta_pb0', ta_lt, ta_nlt, ta_le, ta_nle, ta_eq, ta_neq, ta_nne, ta_ne, gs_id, a_gd01, a_gdT, or_true, true_or, bd_some, bW_sm, a_gd, a_ne, a_rd, Int.toNat_natCast, Int.toNat_add, Int.toNat_mul, Int.reduceToNat, a_gdp, a_cell, and_self, and_true, true_and, hV, z3]
  have rc : ∀ (c : Int) (V : g_M), m_X9_says u 2 (M 6 q) 99 W2 = some (c, V) → m_X9_gladdensOf u q x W = some (c, V) := fun c V hq => by
    unfold m_X9_gladdensOf
    rw [hn, bd_some]
    simp (disch := omega) only [↓reduceIte, ↓nm_eq, ↓jn_eq, ↓c_within, ↓c_isIn, ↓c_isScene, ↓c_isPlace, ↓c_isCue, ↓c_isDigit, ↓d_isScene, ↓d_isAny, ↓ta_pb1, ↓ta_pb0, ↓ta_pb1', ↓ta_pb0', ta_lt, ta_nlt, ta_le, ta_nle, ta_eq, ta_neq, ta_nne, ta_ne, gs_id, a_gd01, a_gdT, or_true, true_or, bd_some, bW_sm, a_gd, a_ne, a_rd, Int.toNat_natCast, Int.toNat_add, Int.toNat_mul, Int.reduceToNat, a_gdp, a_cell, and_self, and_true, true_and, (gt (g_wr (g_wr (g_wr (g_wr W 6 0 d) 6 1 b) 6 2 p) 6 8 q) rfl).1, (gt (g_wr (g_wr (g_wr (g_wr (g_wr W 6 0 d) 6 1 b) 6 2 p) 6 8 q) 6 9 (M 2 (8 + q))) rfl).2.1, (gt (g_wr (g_wr (g_wr (g_wr (g_wr (g_wr (g_wr W 6 0 d) 6 1 b) 6 2 p) 6 8 q) 6 9 (M 2 (8 + q))) 6 10 (M 2 q)) 6 11 x) rfl).2.2]
    rw [← hW2]
    simp (disch := omega) only [↓reduceIte, ↓nm_eq, ↓jn_eq, ↓c_within, ↓c_isIn, ↓c_isScene, ↓c_isPlace, ↓c_isCue, ↓c_isDigit, ↓d_isScene, ↓d_isAny, ↓ta_pb1, ↓ta_pb0, ↓ta_pb1', ↓ta_pb0', ta_lt, ta_nlt, ta_le, ta_nle, ta_eq, ta_neq, ta_nne, ta_ne, gs_id, a_gd01, a_gdT, or_true, true_or, bd_some, bW_sm, a_gd, a_ne, a_rd, Int.toNat_natCast, Int.toNat_add, Int.toNat_mul, Int.reduceToNat, a_gdp, a_cell, and_self, and_true, true_and, hq]
  rcases t4 2 (by omega) with h | h
  · obtain ⟨g1, -⟩ := h M W ts
    have g2 := (h M W2 ts2).2 (M 6 q) 99 (by unfold V6; omega) (by omega)
    rw [show ((99 : Nat) : Int) = 99 from rfl, show ((2 : Nat) : Int) = 2 from rfl] at g2
    rw [show ((2 : Nat) : Int) = 2 from rfl] at g1
    refine ⟨M 6 q, M, W2, by omega, ?_, ?_, fun a _ _ => rfl, fun j _ => rfl, fun a a1 a2 a3 => w2 a a1⟩
    · unfold m_X3_gladdensSaid
      simp (disch := omega) only [↓reduceIte, ↓nm_eq, ↓jn_eq, ↓c_within, ↓c_isIn, ↓c_isScene, ↓c_isPlace, ↓c_isCue, ↓c_isDigit, ↓d_isScene, ↓d_isAny, ↓ta_pb1, ↓ta_pb0, ↓ta_pb1', ↓ta_pb0', ta_lt, ta_nlt, ta_le, ta_nle, ta_eq, ta_neq, ta_nne, ta_ne, gs_id, a_gd01, a_gdT, or_true, true_or, bd_some, bW_sm, a_gd, a_ne, a_rd, Int.toNat_natCast, Int.toNat_add, Int.toNat_mul, Int.reduceToNat, a_gdp, a_cell, and_self, and_true, true_and, t3, tg, g1]
    · refine rc _ _ ?_
      rw [g2, ctN_id]
      omega
  · obtain ⟨g1, g2⟩ := h M W ts
    obtain ⟨v, v6, hv⟩ := g2 _ _ ok
    obtain ⟨M2, hM2⟩ : ∃ M2, M2 = g_wr (g_wr (g_wr (g_wr M 33 29 q) 33 30 (M 2 (8 + q))) 33 31 (M 2 q)) 33 32 x := ⟨_, rfl⟩
    have m2 : ∀ a, a ≠ 33 → M2 a = M a := fun a ha => by rw [hM2, a_cell _ ha, a_cell _ ha, a_cell _ ha, a_cell _ ha]
    have m3 : ∀ j, j < 24 → M2 33 j = M 33 j := fun j hj => by rw [hM2, a_ne _ (by omega), a_ne _ (by omega), a_ne _ (by omega), a_ne _ (by omega)]
    have m4 : M2 33 29 = q ∧ M2 33 30 = M 2 (8 + q) ∧ M2 33 31 = M 2 q ∧ M2 33 32 = x := by
      rw [hM2]
      refine ⟨?_, ?_, ?_, ?_⟩ <;> simp (disch := omega) only [↓reduceIte, ↓nm_eq, ↓jn_eq, ↓c_within, ↓c_isIn, ↓c_isScene, ↓c_isPlace, ↓c_isCue, ↓c_isDigit, ↓d_isScene, ↓d_isAny, ↓ta_pb1, ↓ta_pb0, ↓ta_pb1', ↓ta_pb0', ta_lt, ta_nlt, ta_le, ta_nle, ta_eq, ta_neq, ta_nne, ta_ne, gs_id, a_gd01, a_gdT, or_true, true_or, bd_some, bW_sm, a_gd, a_ne, a_rd, Int.toNat_natCast, Int.toNat_add, Int.toNat_mul, Int.reduceToNat, a_gdp, a_cell, and_self, and_true, true_and]
    have nm : ∀ n, 3 ≤ n → nmOk 2 n → n = 8 ∨ n = 9 ∨ n = 10 ∨ n = 11 := fun n h3 hn => by
      unfold nmOk at hn; omega
    have ce : CEnv 2 (En d b p 2 (fun n => if n = 8 then (q : Int) else if n = 9 then M 2 (8 + q) else if n = 10 then M 2 q else x)) kd M2 := by
      refine En_c (by rw [m3 21 (by omega)]; exact l1) (by rw [m3 22 (by omega)]; exact l2) (by rw [m3 23 (by omega)]; exact l3) (fun n h3 hn => ?_) (fun s hs => by rw [m2 5 (by omega)]; exact (hk s hs).1)
      rcases nm n h3 hn with rfl | rfl | rfl | rfl
      · exact m4.1
      · exact m4.2.1
      · exact m4.2.2.1
      · exact m4.2.2.2
    have re : REnv 2 (En d b p 2 (fun n => if n = 8 then (q : Int) else if n = 9 then M 2 (8 + q) else if n = 10 then M 2 q else x)) kd W2 := by
      refine En_r w26.1 w26.2.1 w26.2.2.1 (fun n h3 hn => ?_) (fun s hs => by rw [w2 1 (by omega)]; exact (hk s hs).2.1) ok
      rcases nm n h3 hn with rfl | rfl | rfl | rfl
      · exact w26.2.2.2.1
      · exact w26.2.2.2.2.1
      · exact w26.2.2.2.2.2.1
      · exact w26.2.2.2.2.2.2
    obtain ⟨M3, W3, f1, f2, f3, f4⟩ := hv M2 W2 ⟨fun a a1 a2 => by rw [m2 a (by omega)]; exact ts.1 a a1 a2, ts2.2⟩ ce re
    have f5 := f4 (M 6 q) 99 (by omega)
    rw [show ((99 : Nat) : Int) = 99 from rfl, show ((2 : Nat) : Int) = 2 from rfl] at f5
    rw [show ((2 : Nat) : Int) = 2 from rfl] at g1 f1
    have bd := p_bounded (t := 99) v6 (by omega)
    rw [show ((99 : Nat) : Int) = 99 from rfl] at bd
    have cb := ctN_b v 99
    refine ⟨ctN v 99, M3, W3, by omega, ?_, rc _ _ f5, fun a a1 a2 => by rw [f2 a a2]; exact m2 a a1, fun j hj => by rw [f2 33 (by omega)]; exact m3 j hj, fun a a1 a2 a3 => by rw [f3 a a2 a3]; exact w2 a a1⟩
    unfold m_X3_gladdensSaid
    simp (disch := omega) only [↓reduceIte, ↓nm_eq, ↓jn_eq, ↓c_within, ↓c_isIn, ↓c_isScene, ↓c_isPlace, ↓c_isCue, ↓c_isDigit, ↓d_isScene, ↓d_isAny, ↓ta_pb1, ↓ta_pb0, ↓ta_pb1', ↓ta_pb0', ta_lt, ta_nlt, ta_le, ta_nle, ta_eq, ta_neq, ta_nne, ta_ne, gs_id, a_gd01, a_gdT, or_true, true_or, bd_some, bW_sm, a_gd, a_ne, a_rd, Int.toNat_natCast, Int.toNat_add, Int.toNat_mul, Int.reduceToNat, a_gdp, a_cell, and_self, and_true, true_and, t3, tg, g1, Nat.zero_add, Int.zero_add]
    rw [← hM2]
    simp (disch := omega) only [↓reduceIte, ↓nm_eq, ↓jn_eq, ↓c_within, ↓c_isIn, ↓c_isScene, ↓c_isPlace, ↓c_isCue, ↓c_isDigit, ↓d_isScene, ↓d_isAny, ↓ta_pb1, ↓ta_pb0, ↓ta_pb1', ↓ta_pb0', ta_lt, ta_nlt, ta_le, ta_nle, ta_eq, ta_neq, ta_nne, ta_ne, gs_id, a_gd01, a_gdT, or_true, true_or, bd_some, bW_sm, a_gd, a_ne, a_rd, Int.toNat_natCast, Int.toNat_add, Int.toNat_mul, Int.reduceToNat, a_gdp, a_cell, and_self, and_true, true_and, f1, bd]
