/-! pure: the small functions of both sides -/
theorem bW_some {β : Type} (x : Int) (M : g_M) (f : Int → g_M → Option β) : g_bW (some (x, M)) f = f x M := rfl
theorem p_lits : gs 0 = 0 ∧ gs 1 = 1 := ⟨gsc_0, gsc_1⟩
def pb (p : Prop) [Decidable p] : Int := if p then 1 else 0
theorem pb_01 (p : Prop) [Decidable p] : pb p = 0 ∨ pb p = 1 := by unfold pb; split <;> simp
theorem pb_gs (p : Prop) [Decidable p] : gs (pb p) = pb p := by unfold pb; split <;> first | exact gsc_1 | exact gsc_0
theorem pb_t {p : Prop} [Decidable p] (h : p) : pb p = 1 := if_pos h
theorem pb_f {p : Prop} [Decidable p] (h : ¬ p) : pb p = 0 := if_neg h
theorem pb_eq0 {p : Prop} [Decidable p] : gs (pb p) = 0 ↔ ¬ p := by
  rw [pb_gs]; unfold pb; split <;> simp_all
theorem p_within {a b c : Int} (ha : gs a = a) (hb : gs b = b) (hc : gs c = c) : m_X8_within a b c = some (pb (b ≤ a ∧ a ≤ c)) := by
  simp only [m_X8_within, g_jn, ha, hb, hc]
  by_cases h1 : a < b
  · rw [if_pos h1, pb_f (by omega)]
  · rw [if_neg h1]
    by_cases h2 : c < a
    · rw [if_pos h2, pb_f (by omega)]
    · rw [if_neg h2, pb_t (by omega)]
theorem p_isIn {a b c : Int} (ha : gs a = a) (hb : gs b = b) (hc : gs c = c) : m_X9_isIn a b c = some (pb (b ≤ a ∧ a ≤ c)) := by
  simp only [m_X9_isIn, g_jn, ha, hb, hc]
  by_cases h1 : a < b
  · rw [if_pos h1, pb_f (by omega)]
  · rw [if_neg h1]
    by_cases h2 : c < a
    · rw [if_pos h2, pb_f (by omega)]
    · rw [if_neg h2, pb_t (by omega)]
theorem p_isScene {a : Int} (ha : gs a = a) : m_X8_isScene a = some (pb (0 ≤ a ∧ a ≤ 11)) := by
  unfold m_X8_isScene
  rw [p_within ha gsc_0 gsc_11]
  exact g_gd_pos (pb_01 _)
theorem p_isPlace {a : Int} (ha : gs a = a) : m_X8_isPlace a = some (pb (0 ≤ a ∧ a ≤ 12)) := by
  unfold m_X8_isPlace
  rw [p_within ha gsc_0 gsc_12]
  exact g_gd_pos (pb_01 _)
theorem p_isCue {a : Int} (ha : gs a = a) : m_X8_isCue a = some (pb (0 ≤ a ∧ a ≤ 3)) := by
  unfold m_X8_isCue
  rw [p_within ha gsc_0 gsc_3]
  exact g_gd_pos (pb_01 _)
theorem p_isDigit {a : Int} (ha : gs a = a) : m_X8_isDigit a = some (pb (0 ≤ a ∧ a ≤ 9)) := by
  unfold m_X8_isDigit
  rw [p_within ha gsc_0 gsc_9]
  exact g_gd_pos (pb_01 _)
theorem q_isScene {a : Int} (ha : gs a = a) : m_X9_isScene a = some (pb (0 ≤ a ∧ a ≤ 11)) := by
  unfold m_X9_isScene
  rw [p_isIn ha gsc_0 gsc_11]
  exact g_gd_pos (pb_01 _)
theorem q_isAny {a : Int} (ha : gs a = a) : m_X9_isAny a = some (pb (0 ≤ a ∧ a ≤ 12)) := by
  unfold m_X9_isAny
  rw [p_isIn ha gsc_0 gsc_12]
  exact g_gd_pos (pb_01 _)
theorem g_ix_of {x : Int} {n : Nat} (h0 : 0 ≤ x) (h1 : x < n) (hn : n ≤ 2147483648) : g_ix x n := by
  have e : gs x = x := gs_id (by omega) (by omega)
  exact ⟨by rw [e]; exact h0, by rw [e]; exact h1⟩
theorem gs_rd {x : Int} {k : Nat} (h : x = k) (hk : k < 2147483648) : (gs x).toNat = k := by
  rw [h, gs_nat hk]; omega
theorem wr_at (M : g_M) (k j : Nat) (v : Int) : g_wr M k j v k j = v := g_wr_at M k j v
theorem wr_cell (M : g_M) (k j : Nat) (v : Int) (a : Nat) (h : a ≠ k) : g_wr M k j v a = M a := by
  funext b
  exact (g_wr_ne h).symm
theorem wr_self (M : g_M) (k j : Nat) (v : Int) : g_wr M k j v k = fun b => if b = j then v else M k b := by
  funext b
  unfold g_wr
  by_cases h : b = j
  · rw [if_pos ⟨rfl, h⟩, if_pos h]
  · rw [if_neg (fun z => h z.2), if_neg h]
