/-! the second law, in both -/
theorem both_stays {n : Nat} {M0 W0 M W : g_M} {d b p u : Int} {kd : Nat → Int} (hr : Rel n M0 W0) (hu : -1 ≤ u ∧ u < M0 1 8) (h : Ev M0 W0 d b p kd M W) (hM : M 1 9 = u) (hW : W 1 2 = u) {s : Nat} (hs : s < 12) {x y : Int} (hx : 0 ≤ x ∧ x ≤ 3) (hy : 0 ≤ y ∧ y ≤ 12) : ∃ (c c' : Int) (M' W' : g_M), ((c = 0 ∧ c' = 0) ∨ (c = 1 ∧ 1 ≤ c' ∧ c' ≤ 9)) ∧ m_X3_staysSaid s x y M = some (c, M') ∧ m_X9_staysOf s x y W = some (c', W') ∧ (∀ a, a ≠ 33 → a ≠ 34 → M' a = M a) ∧ (∀ j, j < 24 → M' 33 j = M 33 j) ∧ ∀ a, a ≠ 6 → a ≠ 7 → a ≠ 8 → W' a = W a := by
  obtain ⟨ts, ⟨d6, b6, p6⟩, ⟨l1, l2, l3⟩, hk, hn⟩ := h
  obtain ⟨t, t1, t2, t3, t4⟩ := law_of hr hu
  have tg : ∀ {α : Type} (o : Option α), g_gd (xT t) o = o := fun o => g_gd_pos t2
  have u4 : u < 4 := by
    obtain ⟨hf, -⟩ := hr
    obtain ⟨P, T, S, E, C, F, -, ⟨q1, q2, -⟩, -⟩ := hf
    omega
  have ok : EnvOk 1 (En d b p 1 (fun n => if n = 3 then (s : Int) else if n = 6 then x else y)) kd := by
    refine En_ok d6 b6 p6 (fun n h3 hn => ?_) (fun s hs => (hk s hs).2.2)
    unfold V6
    by_cases c3 : n = 3
    · rw [if_pos c3]; omega
    · rw [if_neg c3]
      by_cases c4 : n = 6
      · rw [if_pos c4]; omega
      · rw [if_neg c4]; omega
  obtain ⟨W2, hW2⟩ : ∃ W2, W2 = g_wr (g_wr (g_wr (g_wr (g_wr (g_wr W 6 0 d) 6 1 b) 6 2 p) 6 3 s) 6 6 x) 6 7 y := ⟨_, rfl⟩
  have w2 : ∀ a, a ≠ 6 → W2 a = W a := fun a ha => by rw [hW2, a_cell _ ha, a_cell _ ha, a_cell _ ha, a_cell _ ha, a_cell _ ha, a_cell _ ha]
  have w26 : W2 6 0 = d ∧ W2 6 1 = b ∧ W2 6 2 = p ∧ W2 6 3 = s ∧ W2 6 6 = x ∧ W2 6 7 = y := by
    rw [hW2]
    refine ⟨?_, ?_, ?_, ?_, ?_, ?_⟩ <;> simp (disch := omega) only [↓reduceIte, ↓nm_eq, ↓jn_eq, ↓c_within, ↓c_isIn, ↓c_isScene, ↓c_isPlace, ↓c_isCue, ↓c_isDigit, ↓d_isScene, ↓d_isAny, ↓ta_pb1, ↓ta_pb0, ↓ta_pb1', ↓ta_pb0', ta_lt, ta_nlt, ta_le, ta_nle, ta_eq, ta_neq, ta_nne, ta_ne, gs_id, a_gd01, a_gdT, or_true, true_or, bd_some, bW_sm, a_gd, a_ne, a_rd, Int.toNat_natCast, Int.toNat_add, Int.toNat_mul, Int.reduceToNat, a_gdp, a_cell, and_self, and_true, true_and]
  have ts2 : Tsame M0 W0 M W2 := ⟨ts.1, by rw [w2 3 (by omega)]; exact ts.2⟩
  have rc : ∀ (c : Int) (V : g_M), m_X9_says u 1 (if x = 1 then 1 else 0) 9 W2 = some (c, V) → m_X9_staysOf s x y W = some (c, V) := fun c V hq => by
    unfold m_X9_staysOf
    simp (disch := omega) only [↓reduceIte, ↓nm_eq, ↓jn_eq, ↓c_within, ↓c_isIn, ↓c_isScene, ↓c_isPlace, ↓c_isCue, ↓c_isDigit, ↓d_isScene, ↓d_isAny, ↓ta_pb1, ↓ta_pb0, ↓ta_pb1', ↓ta_pb0', ta_lt, ta_nlt, ta_le, ta_nle, ta_eq, ta_neq, ta_nne, ta_ne, gs_id, a_gd01, a_gdT, or_true, true_or, bd_some, bW_sm, a_gd, a_ne, a_rd, Int.toNat_natCast, Int.toNat_add, Int.toNat_mul, Int.reduceToNat, a_gdp, a_cell, and_self, and_true, true_and, hn]
    rw [← hW2]
    by_cases c1 : x = 1
    · rw [if_pos c1] at hq
      simp (disch := omega) only [↓reduceIte, ↓nm_eq, ↓jn_eq, ↓c_within, ↓c_isIn, ↓c_isScene, ↓c_isPlace, ↓c_isCue, ↓c_isDigit, ↓d_isScene, ↓d_isAny, ↓ta_pb1, ↓ta_pb0, ↓ta_pb1', ↓ta_pb0', ta_lt, ta_nlt, ta_le, ta_nle, ta_eq, ta_neq, ta_nne, ta_ne, gs_id, a_gd01, a_gdT, or_true, true_or, bd_some, bW_sm, a_gd, a_ne, a_rd, Int.toNat_natCast, Int.toNat_add, Int.toNat_mul, Int.reduceToNat, a_gdp, a_cell, and_self, and_true, true_and, w2, hW, hq]
    · rw [if_neg c1] at hq
      simp (disch := omega) only [↓reduceIte, ↓nm_eq, ↓jn_eq, ↓c_within, ↓c_isIn, ↓c_isScene, ↓c_isPlace, ↓c_isCue, ↓c_isDigit, ↓d_isScene, ↓d_isAny, ↓ta_pb1, ↓ta_pb0, ↓ta_pb1', ↓ta_pb0', ta_lt, ta_nlt, ta_le, ta_nle, ta_eq, ta_neq, ta_nne, ta_ne, gs_id, a_gd01, a_gdT, or_true, true_or, bd_some, bW_sm, a_gd, a_ne, a_rd, Int.toNat_natCast, Int.toNat_add, Int.toNat_mul, Int.reduceToNat, a_gdp, a_cell, and_self, and_true, true_and, w2, hW, hq]
  rcases t4 1 (by omega) with h | h
  · obtain ⟨g1, -⟩ := h M W ts
    have g2 := (h M W2 ts2).2 (if x = 1 then 1 else 0) 9 (by
      unfold V6
      by_cases c : x = 1
      · rw [if_pos c]; omega
      · rw [if_neg c]; omega) (by omega)
    rw [show ((9 : Nat) : Int) = 9 from rfl, show ((1 : Nat) : Int) = 1 from rfl] at g2
    rw [show ((1 : Nat) : Int) = 1 from rfl] at g1
    refine ⟨if x = 1 then 1 else 0, if x = 1 then 1 else 0, M, W2, ?_, ?_, ?_, fun a _ _ => rfl, fun j _ => rfl, fun a a1 a2 a3 => w2 a a1⟩
    · by_cases c : x = 1
      · rw [if_pos c]; omega
      · rw [if_neg c]; omega
    · unfold m_X3_staysSaid
      by_cases c1 : x = 1
      · rw [if_pos c1]
        simp (disch := omega) only [↓reduceIte, ↓nm_eq, ↓jn_eq, ↓c_within, ↓c_isIn, ↓c_isScene, ↓c_isPlace, ↓c_isCue, ↓c_isDigit, ↓d_isScene, ↓d_isAny, ↓ta_pb1, ↓ta_pb0, ↓ta_pb1', ↓ta_pb0', ta_lt, ta_nlt, ta_le, ta_nle, ta_eq, ta_neq, ta_nne, ta_ne, gs_id, a_gd01, a_gdT, or_true, true_or, bd_some, bW_sm, a_gd, a_ne, a_rd, Int.toNat_natCast, Int.toNat_add, Int.toNat_mul, Int.reduceToNat, a_gdp, a_cell, and_self, and_true, true_and, hM, t3, tg, g1]
      · rw [if_neg c1]
        simp (disch := omega) only [↓reduceIte, ↓nm_eq, ↓jn_eq, ↓c_within, ↓c_isIn, ↓c_isScene, ↓c_isPlace, ↓c_isCue, ↓c_isDigit, ↓d_isScene, ↓d_isAny, ↓ta_pb1, ↓ta_pb0, ↓ta_pb1', ↓ta_pb0', ta_lt, ta_nlt, ta_le, ta_nle, ta_eq, ta_neq, ta_nne, ta_ne, gs_id, a_gd01, a_gdT, or_true, true_or, bd_some, bW_sm, a_gd, a_ne, a_rd, Int.toNat_natCast, Int.toNat_add, Int.toNat_mul, Int.reduceToNat, a_gdp, a_cell, and_self, and_true, true_and, hM, t3, tg, g1]
    · refine rc _ _ ?_
      rw [g2, ctN_id]
      by_cases c : x = 1
      · rw [if_pos c]; omega
      · rw [if_neg c]; omega
  · obtain ⟨g1, g2⟩ := h M W ts
    obtain ⟨v, v6, hv⟩ := g2 _ _ ok
    obtain ⟨M2, hM2⟩ : ∃ M2, M2 = g_wr (g_wr (g_wr M 33 24 s) 33 27 x) 33 28 y := ⟨_, rfl⟩
    have m2 : ∀ a, a ≠ 33 → M2 a = M a := fun a ha => by rw [hM2, a_cell _ ha, a_cell _ ha, a_cell _ ha]
    have m3 : ∀ j, j < 24 → M2 33 j = M 33 j := fun j hj => by rw [hM2, a_ne _ (by omega), a_ne _ (by omega), a_ne _ (by omega)]
    have m4 : M2 33 24 = s ∧ M2 33 27 = x ∧ M2 33 28 = y := by
      rw [hM2]
      refine ⟨?_, ?_, ?_⟩ <;> simp (disch := omega) only [↓reduceIte, ↓nm_eq, ↓jn_eq, ↓c_within, ↓c_isIn, ↓c_isScene, ↓c_isPlace, ↓c_isCue, ↓c_isDigit, ↓d_isScene, ↓d_isAny, ↓ta_pb1, ↓ta_pb0, ↓ta_pb1', ↓ta_pb0', ta_lt, ta_nlt, ta_le, ta_nle, ta_eq, ta_neq, ta_nne, ta_ne, gs_id, a_gd01, a_gdT, or_true, true_or, bd_some, bW_sm, a_gd, a_ne, a_rd, Int.toNat_natCast, Int.toNat_add, Int.toNat_mul, Int.reduceToNat, a_gdp, a_cell, and_self, and_true, true_and]
    have nm : ∀ n, 3 ≤ n → nmOk 1 n → n = 3 ∨ n = 6 ∨ n = 7 := fun n h3 hn => by
      unfold nmOk at hn; omega
    have ce : CEnv 1 (En d b p 1 (fun n => if n = 3 then (s : Int) else if n = 6 then x else y)) kd M2 := by
      refine En_c (by rw [m3 21 (by omega)]; exact l1) (by rw [m3 22 (by omega)]; exact l2) (by rw [m3 23 (by omega)]; exact l3) (fun n h3 hn => ?_) (fun s hs => by rw [m2 5 (by omega)]; exact (hk s hs).1)
      rcases nm n h3 hn with rfl | rfl | rfl
      · exact m4.1
      · exact m4.2.1
      · exact m4.2.2
    have re : REnv 1 (En d b p 1 (fun n => if n = 3 then (s : Int) else if n = 6 then x else y)) kd W2 := by
      refine En_r w26.1 w26.2.1 w26.2.2.1 (fun n h3 hn => ?_) (fun s hs => by rw [w2 1 (by omega)]; exact (hk s hs).2.1) ok
      rcases nm n h3 hn with rfl | rfl | rfl
      · exact w26.2.2.2.1
      · exact w26.2.2.2.2.1
      · exact w26.2.2.2.2.2
    obtain ⟨M3, W3, f1, f2, f3, f4⟩ := hv M2 W2 ⟨fun a a1 a2 => by rw [m2 a (by omega)]; exact ts.1 a a1 a2, ts2.2⟩ ce re
    have f5 := f4 (if x = 1 then 1 else 0) 9 (by omega)
    rw [show ((9 : Nat) : Int) = 9 from rfl, show ((1 : Nat) : Int) = 1 from rfl] at f5
    rw [show ((1 : Nat) : Int) = 1 from rfl] at g1 f1
    refine ⟨if v ≤ 0 then 0 else 1, ctN v 9, M3, W3, ?_, ?_, rc _ _ f5, fun a a1 a2 => by rw [f2 a a2]; exact m2 a a1, fun j hj => by rw [f2 33 (by omega)]; exact m3 j hj, fun a a1 a2 a3 => by rw [f3 a a2 a3]; exact w2 a a1⟩
    · unfold ctN
      by_cases c : v ≤ 0
      · rw [if_pos c]
        by_cases c2 : v < 0
        · rw [if_pos c2]; omega
        · rw [if_neg c2, if_neg (by omega)]; omega
      · rw [if_neg c, if_neg (by omega)]
        by_cases c2 : ((9 : Nat) : Int) < v
        · rw [if_pos c2]; omega
        · rw [if_neg c2]; omega
    · unfold m_X3_staysSaid
      simp (disch := omega) only [↓reduceIte, ↓nm_eq, ↓jn_eq, ↓c_within, ↓c_isIn, ↓c_isScene, ↓c_isPlace, ↓c_isCue, ↓c_isDigit, ↓d_isScene, ↓d_isAny, ↓ta_pb1, ↓ta_pb0, ↓ta_pb1', ↓ta_pb0', ta_lt, ta_nlt, ta_le, ta_nle, ta_eq, ta_neq, ta_nne, ta_ne, gs_id, a_gd01, a_gdT, or_true, true_or, bd_some, bW_sm, a_gd, a_ne, a_rd, Int.toNat_natCast, Int.toNat_add, Int.toNat_mul, Int.reduceToNat, a_gdp, a_cell, and_self, and_true, true_and, hM, t3, tg, g1]
      rw [← hM2]
      unfold V6 at v6
      by_cases c : v ≤ 0
      · rw [if_pos c]
        simp (disch := omega) only [↓reduceIte, ↓nm_eq, ↓jn_eq, ↓c_within, ↓c_isIn, ↓c_isScene, ↓c_isPlace, ↓c_isCue, ↓c_isDigit, ↓d_isScene, ↓d_isAny, ↓ta_pb1, ↓ta_pb0, ↓ta_pb1', ↓ta_pb0', ta_lt, ta_nlt, ta_le, ta_nle, ta_eq, ta_neq, ta_nne, ta_ne, gs_id, a_gd01, a_gdT, or_true, true_or, bd_some, bW_sm, a_gd, a_ne, a_rd, Int.toNat_natCast, Int.toNat_add, Int.toNat_mul, Int.reduceToNat, a_gdp, a_cell, and_self, and_true, true_and, f1]
      · rw [if_neg c]
        simp (disch := omega) only [↓reduceIte, ↓nm_eq, ↓jn_eq, ↓c_within, ↓c_isIn, ↓c_isScene, ↓c_isPlace, ↓c_isCue, ↓c_isDigit, ↓d_isScene, ↓d_isAny, ↓ta_pb1, ↓ta_pb0, ↓ta_pb1', ↓ta_pb0', ta_lt, ta_nlt, ta_le, ta_nle, ta_eq, ta_neq, ta_nne, ta_ne, gs_id, a_gd01, a_gdT, or_true, true_or, bd_some, bW_sm, a_gd, a_ne, a_rd, Int.toNat_natCast, Int.toNat_add, Int.toNat_mul, Int.reduceToNat, a_gdp, a_cell, and_self, and_true, true_and, f1]
