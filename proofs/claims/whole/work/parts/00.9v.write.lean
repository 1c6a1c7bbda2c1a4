/-! the book is written: both -/
def shF (W : g_M) (i : Nat) : g_M := fun a b => if a = 1 ∧ 3349 ≤ b ∧ b < 3349 + i then W 1 (b + 2) else W a b
theorem shF_0 (W : g_M) : shF W 0 = W := by
  funext a b
  exact if_neg (by omega)
theorem shF_ne (W : g_M) {i a b : Nat} (h : a ≠ 1 ∨ b < 3349 ∨ 3349 + i ≤ b) : shF W i a b = W a b := if_neg (by omega)
theorem shF_cell (W : g_M) {i a : Nat} (h : a ≠ 1) : shF W i a = W a := funext fun b => if_neg (by omega)
theorem shF_in (W : g_M) {i b : Nat} (h : 3349 ≤ b ∧ b < 3349 + i) : shF W i 1 b = W 1 (b + 2) := if_pos ⟨rfl, h⟩
theorem shF_succ (W : g_M) (i : Nat) : g_wr (shF W i) 1 (3349 + i) (W 1 (3349 + i + 2)) = shF W (i + 1) := by
  funext a b
  by_cases c : a = 1 ∧ b = 3349 + i
  · rw [a_rd _ c, c.1, c.2, shF_in _ (by omega)]
  · rw [a_ne _ (by omega)]
    by_cases c2 : a = 1 ∧ 3349 ≤ b ∧ b < 3349 + i
    · rw [c2.1, shF_in _ (by omega), shF_in _ (by omega)]
    · rw [shF_ne _ (by omega), shF_ne _ (by omega)]
theorem q_shift (a b c : Int) (k : g_M → Option g_M) (W : g_M) : m_X9_write_L23 a b c k g_fuel 2 W = k (shF W 58) := by
  have := loop_F (fun f (i : Int) M => m_X9_write_L23 a b c k f (i + 2) M) 58 (fun i => shF W i) (k (shF W 58)) (fun f => ?_) (fun i f hi => ?_) 58 0 g_fuel (by omega) (by unfold g_fuel; omega)
  · rw [shF_0] at this
    exact this
  · show m_X9_write_L23 a b c k (f + 1) (((58 : Nat) : Int) + 2) (shF W 58) = _
    rw [m_X9_write_L23]
    simp (disch := omega) only [↓reduceIte, ↓nm_eq, ↓jn_eq, ↓c_within, ↓c_isIn, ↓c_isScene, ↓c_isPlace, ↓c_isCue, ↓c_isDigit, ↓d_isScene, ↓d_isAny, ↓ta_pb1, ↓ta_pb0, ↓ta_pb1', ↓ta_pb0', ta_lt, ta_nlt, ta_le, ta_nle, ta_eq, ta_neq, ta_nne, ta_ne, gs_id, a_gd01, a_gdT, or_true, true_or, bd_some, bW_sm, a_gd, a_ne, a_rd, Int.toNat_natCast, Int.toNat_add, Int.toNat_mul, Int.reduceToNat, a_gdp, a_cell, and_self, and_true, true_and]
  · show m_X9_write_L23 a b c k (f + 1) ((i : Int) + 2) (shF W i) = m_X9_write_L23 a b c k f (((i + 1 : Nat) : Int) + 2) (shF W (i + 1))
    have i1 : (gs (3349 + ((i : Int) + 2) - 2)).toNat = 3349 + i := by rw [gs_id (by omega) (by omega)]; omega
    have i2 : (gs (3349 + ((i : Int) + 2))).toNat = 3349 + i + 2 := by rw [gs_id (by omega) (by omega)]; omega
    have i3 : shF W i 1 (3349 + i + 2) = W 1 (3349 + i + 2) := shF_ne _ (by omega)
    rw [m_X9_write_L23]
    simp (disch := omega) only [↓reduceIte, ↓nm_eq, ↓jn_eq, ↓c_within, ↓c_isIn, ↓c_isScene, ↓c_isPlace, ↓c_isCue, ↓c_isDigit, ↓d_isScene, ↓d_isAny, ↓ta_pb1, ↓ta_pb0, ↓ta_pb1', ↓ta_pb0', ta_lt, ta_nlt, ta_le, ta_nle, ta_eq, ta_neq, ta_nne, ta_ne, gs_id, a_gd01, a_gdT, or_true, true_or, bd_some, bW_sm, a_gd, a_ne, a_rd, Int.toNat_natCast, Int.toNat_add, Int.toNat_mul, Int.reduceToNat, a_gdp, a_cell, and_self, and_true, true_and, ↓i1, ↓i2, i3, shF_succ]
    rw [show (((i + 1 : Nat) : Int) + 2) = (i : Int) + 2 + 1 by omega]
theorem q_put3 {V : g_M} {m D : Nat} (hm : m ≤ 29) (hD : D ≤ 9998) (h9 : V 1 9 = m) (h6 : V 1 6 = D) (v : Int) : ∃ V' : g_M, V' = g_wr (g_wr (g_wr V 1 (3349 + 2 * m) D) 1 (3349 + 2 * m + 1) v) 1 9 ((m : Int) + 1) ∧ (∀ k, k ≠ 1 → V' k = V k) ∧ (∀ j, j ≠ 9 → j ≠ 3349 + 2 * m → j ≠ 3349 + 2 * m + 1 → V' 1 j = V 1 j) ∧ V' 1 9 = (m : Int) + 1 ∧ V' 1 (3349 + 2 * m) = D ∧ V' 1 (3349 + 2 * m + 1) = v := by
  refine ⟨_, rfl, fun k hk => ?_, fun j h1 h2 h3 => ?_, ?_, ?_, ?_⟩
  · rw [a_cell _ hk, a_cell _ hk, a_cell _ hk]
  · rw [a_ne _ (by omega), a_ne _ (by omega), a_ne _ (by omega)]
  · exact wr_at _ _ _ _
  · rw [a_ne _ (by omega), a_ne _ (by omega)]; exact wr_at _ _ _ _
  · rw [a_ne _ (by omega)]; exact wr_at _ _ _ _
theorem q_write {W : g_M} {D : Nat} (hD : D ≤ 9998) (a b c : Int) (h23 : W 0 23 = 1) (h9 : W 1 9 = ((min 30 D : Nat) : Int)) (h6 : W 1 6 = D) : ∃ W' : g_M, m_X9_write a b c W = some W' ∧ (∀ k, k ≠ 1 → W' k = W k) ∧ (∀ j, j ≠ 9 → j < 3349 → W' 1 j = W 1 j) ∧ W' 1 9 = ((min 30 (D + 1) : Nat) : Int) ∧ (∀ i, i < 2 * min 29 D → W' 1 (3349 + i) = W 1 (3349 + (i + (if D < 30 then 0 else 2)))) ∧ W' 1 (3349 + 2 * min 29 D) = D ∧ W' 1 (3349 + 2 * min 29 D + 1) = (a * 2 + b) * 64 + c := by
  by_cases cD : D < 30
  · have e1 : min 30 D = D := by omega
    have e2 : min 29 D = D := by omega
    have e3 : min 30 (D + 1) = D + 1 := by omega
    rw [e1] at h9
    rw [e2, e3, if_pos cD]
    obtain ⟨V', v0, v1, v2, v3, v4, v5⟩ := q_put3 (V := W) (m := D) (D := D) (by omega) hD h9 h6 ((a * 2 + b) * 64 + c)
    refine ⟨V', ?_, v1, fun j h1 h2 => v2 j h1 (by omega) (by omega), by rw [v3]; omega, fun i hi => by rw [v2 _ (by omega) (by omega) (by omega), Nat.add_zero], v4, v5⟩
    unfold m_X9_write
    simp (disch := omega) only [↓reduceIte, ↓nm_eq, ↓jn_eq, ↓c_within, ↓c_isIn, ↓c_isScene, ↓c_isPlace, ↓c_isCue, ↓c_isDigit, ↓d_isScene, ↓d_isAny, ↓ta_pb1, ↓ta_pb0, ↓ta_pb1', ↓ta_pb0', ta_lt, ta_nlt, ta_le, ta_nle, ta_eq, ta_neq, ta_nne, ta_ne, gs_id, a_gd01, a_gdT, or_true, true_or, bd_some, bW_sm, a_gd, a_ne, a_rd, Int.toNat_natCast, Int.toNat_add, Int.toNat_mul, Int.reduceToNat, a_gdp, a_cell, and_self, and_true, true_and, h23, h9, h6]
    rw [v0]
  · have e1 : min 30 D = 30 := by omega
    have e2 : min 29 D = 29 := by omega
    have e3 : min 30 (D + 1) = 30 := by omega
    rw [e1] at h9
    rw [e2, e3, if_neg cD]
    obtain ⟨V, hV⟩ : ∃ V, V = g_wr (shF W 58) 1 9 29 := ⟨_, rfl⟩
    have g9 : V 1 9 = ((29 : Nat) : Int) := by rw [hV]; exact wr_at _ _ _ _
    have g6 : V 1 6 = D := by rw [hV, a_ne _ (by omega), shF_ne _ (by omega)]; exact h6
    have gk : ∀ k, k ≠ 1 → V k = W k := fun k hk => by rw [hV, a_cell _ hk, shF_cell _ hk]
    have gj : ∀ j, j ≠ 9 → j < 3349 → V 1 j = W 1 j := fun j h1 h2 => by rw [hV, a_ne _ (by omega), shF_ne _ (by omega)]
    have gb : ∀ i, i < 58 → V 1 (3349 + i) = W 1 (3349 + (i + 2)) := fun i hi => by rw [hV, a_ne _ (by omega), shF_in _ (by omega)]; rfl
    obtain ⟨V', v0, v1, v2, v3, v4, v5⟩ := q_put3 (V := V) (m := 29) (D := D) (by omega) hD g9 g6 ((a * 2 + b) * 64 + c)
    refine ⟨V', ?_, fun k hk => by rw [v1 k hk, gk k hk], fun j h1 h2 => by rw [v2 j h1 (by omega) (by omega)]; exact gj j h1 h2, by rw [v3]; omega, fun i hi => by rw [v2 _ (by omega) (by omega) (by omega)]; exact gb i (by omega), v4, v5⟩
    have s9 : shF W 58 1 9 = 30 := by rw [shF_ne _ (by omega)]; exact h9
    have s6 : shF W 58 1 6 = D := by rw [shF_ne _ (by omega)]; exact h6
    unfold m_X9_write
    simp (disch := omega) only [↓reduceIte, ↓nm_eq, ↓jn_eq, ↓c_within, ↓c_isIn, ↓c_isScene, ↓c_isPlace, ↓c_isCue, ↓c_isDigit, ↓d_isScene, ↓d_isAny, ↓ta_pb1, ↓ta_pb0, ↓ta_pb1', ↓ta_pb0', ta_lt, ta_nlt, ta_le, ta_nle, ta_eq, ta_neq, ta_nne, ta_ne, gs_id, a_gd01, a_gdT, or_true, true_or, bd_some, bW_sm, a_gd, a_ne, a_rd, Int.toNat_natCast, Int.toNat_add, Int.toNat_mul, Int.reduceToNat, a_gdp, a_cell, and_self, and_true, true_and, h23, h9, q_shift, s9]
    rw [v0, hV, s6]
    rfl
theorem R_book_add {D j y : Nat} {e : Int} {nw nw' bk bk' : Nat → Int} (hD : D ≤ 9998) (H : R_book D nw bk) (e0 : ∀ i, 43 ≤ i → i < 133 → i ≠ 43 + D % 30 → i ≠ 73 + D % 30 → i ≠ 103 + D % 30 → nw' i = nw i) (n1 : nw' (43 + D % 30) = j) (n2 : nw' (73 + D % 30) = e) (n3 : nw' (103 + D % 30) = y) (hj : j ≤ 30) (he : e = 0 ∨ e = 1) (hy : y ≤ 30) (b1 : ∀ i, i < 2 * min 29 D → bk' i = bk (i + (if D < 30 then 0 else 2))) (b2 : bk' (2 * min 29 D) = D) (b3 : bk' (2 * min 29 D + 1) = ((j : Int) * 2 + e) * 64 + y) : R_book (D + 1) nw' bk' := by
  unfold R_book
  intro i hi
  by_cases c : i < min 29 D
  · obtain ⟨t, ht⟩ : ∃ t, t = D + 1 - min 30 (D + 1) + i := ⟨_, rfl⟩
    have k : t < D ∧ D ≤ t + 29 := by omega
    have hh : bk' (2 * i) = ((t : Nat) : Int) ∧ bk' (2 * i + 1) = (nw (43 + t % 30) * 2 + nw (73 + t % 30)) * 64 + nw (103 + t % 30) ∧ (0 ≤ nw (43 + t % 30) ∧ nw (43 + t % 30) ≤ 30) ∧ (nw (73 + t % 30) = 0 ∨ nw (73 + t % 30) = 1) ∧ 0 ≤ nw (103 + t % 30) ∧ nw (103 + t % 30) ≤ 30 := by
      rw [b1 (2 * i) (by omega), b1 (2 * i + 1) (by omega)]
      by_cases cD : D < 30
      · have := H i (by omega)
        rw [show D - min 30 D + i = t by omega] at this
        rw [if_pos cD]
        exact this
      · have := H (i + 1) (by omega)
        rw [show D - min 30 D + (i + 1) = t by omega] at this
        rw [if_neg cD, show 2 * i + 1 + 2 = 2 * (i + 1) + 1 by omega, show 2 * i + 2 = 2 * (i + 1) by omega]
        exact this
    rw [← ht, e0 (43 + t % 30) (by omega) (by omega) (by omega) (by omega) (by omega), e0 (73 + t % 30) (by omega) (by omega) (by omega) (by omega) (by omega), e0 (103 + t % 30) (by omega) (by omega) (by omega) (by omega) (by omega)]
    exact hh
  · have hi2 : i = min 29 D := by omega
    have ht : D + 1 - min 30 (D + 1) + i = D := by omega
    rw [ht, n1, n2, n3, hi2, b2, b3]
    exact ⟨rfl, rfl, ⟨by omega, by omega⟩, he, by omega, by omega⟩
