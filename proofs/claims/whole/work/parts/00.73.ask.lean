/-! asking -/
theorem g_div_nn {x y : Int} (h0 : 0 ≤ x ∧ x < 2147483648) (h1 : 0 < y ∧ y < 2147483648) : g_div x y = x / y := by
  unfold g_div
  rw [gs_id (by omega) (by omega), gs_id (by omega) (by omega), Int.tdiv_eq_ediv_of_nonneg h0.1]
theorem g_rem_nn {x y : Int} (h0 : 0 ≤ x ∧ x < 2147483648) (h1 : 0 < y ∧ y < 2147483648) : g_rem x y = x % y := by
  unfold g_rem
  rw [gs_id (by omega) (by omega), gs_id (by omega) (by omega), Int.tmod_eq_emod_of_nonneg h0.1]
theorem g_min_of {x y : Int} (h0 : -2147483648 ≤ x ∧ x < 2147483648) (h1 : -2147483648 ≤ y ∧ y < 2147483648) : g_min x y = if y < x then y else x := by
  unfold g_min
  rw [gs_id (by omega) (by omega), gs_id (by omega) (by omega)]
theorem g_max_of {x y : Int} (h0 : -2147483648 ≤ x ∧ x < 2147483648) (h1 : -2147483648 ≤ y ∧ y < 2147483648) : g_max x y = if x < y then y else x := by
  unfold g_max
  rw [gs_id (by omega) (by omega), gs_id (by omega) (by omega)]
theorem p_written {M : g_M} {D : Nat} (h : M 2 41 = D) (hD : D ≤ 9999) : m_X1_written M = some ((min 30 D : Nat) : Int) := by
  unfold m_X1_written
  simp (disch := omega) only [a_gd, gs_id, show Int.toNat 41 = 41 from rfl, h, g_min_of]
  by_cases c : (D : Int) < 30
  · rw [if_pos c]; apply congrArg; omega
  · rw [if_neg c]; apply congrArg; omega
/-- where a place leads to -/
def nxF (nw td : Nat → Int) (s c : Nat) : Int := if s = 12 then 12 else if c = 0 then nw (16 + s) else td (s * 4 + c)
theorem nxF_lt {nw td : Nat → Int} (h1 : ∀ s : Nat, s < 12 → 0 ≤ nw (16 + s) ∧ nw (16 + s) ≤ 12) (h2 : ∀ i : Nat, i < 48 → 0 ≤ td i ∧ td i ≤ 12) {s c : Nat} (hs : s ≤ 12) (hc : c ≤ 3) : 0 ≤ nxF nw td s c ∧ nxF nw td s c ≤ 12 := by
  unfold nxF
  by_cases e : s = 12
  · rw [if_pos e]; omega
  · rw [if_neg e]
    by_cases z : c = 0
    · rw [if_pos z]; exact h1 s (by omega)
    · rw [if_neg z]; exact h2 _ (by omega)
theorem p_after {M : g_M} {s c : Nat} (hs : s ≤ 12) (hc : c ≤ 3) : m_X1_after s c M = some (nxF (M 2) (M 4) s c) := by
  unfold m_X1_after nxF
  by_cases e : s = 12
  · subst e
    simp (disch := omega) only [↓reduceIte, ↓c_isScene, ↓ta_pb0]
  · rw [if_neg e]
    by_cases z : c = 0
    · subst z
      simp (disch := omega) only [↓reduceIte, ↓c_isScene, ↓c_isCue, ↓ta_pb1, ↓ta_pb1', ta_nne, gs_id, a_gd, show (16 + (s : Int)).toNat = 16 + s by omega]
    · rw [if_neg z]
      simp (disch := omega) only [↓reduceIte, ↓c_isScene, ↓c_isCue, ↓ta_pb1, ↓ta_pb1', ta_ne, gs_id, a_gd, show ((s : Int) * 4 + (c : Int)).toNat = s * 4 + c by omega]
theorem q_nextOf {nw td : Nat → Int} {W : g_M} (h1 : ∀ s : Nat, s < 12 → W 1 (22 + s) = nw (16 + s)) (h2 : ∀ i : Nat, i < 48 → W 1 (66 + i) = td i) {s c : Nat} (hs : s ≤ 12) (hc : c ≤ 3) : m_X9_nextOf s c W = some (nxF nw td s c) := by
  unfold m_X9_nextOf nxF
  by_cases e : s = 12
  · subst e
    simp (disch := omega) only [↓reduceIte, ta_nne, gs_id]
  · rw [if_neg e]
    by_cases z : c = 0
    · subst z
      simp (disch := omega) only [↓reduceIte, ta_ne, ta_nne, gs_id, a_gd, show (22 + (s : Int)).toNat = 22 + s by omega, h1 s (by omega)]
    · rw [if_neg z]
      simp (disch := omega) only [↓reduceIte, ta_ne, gs_id, a_gd, show (66 + 4 * (s : Int) + (c : Int)).toNat = 66 + (s * 4 + c) by omega, h2 (s * 4 + c) (by omega)]
