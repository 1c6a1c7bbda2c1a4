/-! a law by a text: both have it and say the same, or neither has it -/
theorem R_heads {C : Nat → Nat → Int} {B : Nat → Int} {n : Nat} (h : ∀ k : Nat, k < n → R_clause (C 4 k) (fun j => C 5 (3 * k + j)) (fun j => B (1 + 4 * k + j))) : ∀ y, y < n → 0 ≤ B (1 + 4 * y) ∧ B (1 + 4 * y) ≤ 9 := by
  intro y hy
  obtain ⟨a, r, h1, h2, h3⟩ := h y hy
  have h2' : B (1 + 4 * y) = r := h2
  have : r ≤ 9 := by
    rcases h3 with ⟨g1, g2⟩ | ⟨g1, g2, -⟩ | ⟨g1, g2, -⟩ | ⟨g1, g2, -⟩ | ⟨g1, g2, -⟩ | ⟨g1, g2, -⟩ | ⟨g1, g2, -⟩ | ⟨g1, g2, -⟩ <;> omega
  rw [h2']; omega
theorem q_says_none {T n l t : Nat} {w : Int} {W : g_M} (hT : T < 4) (hn : n ≤ 24) (hl : l < 3) (ht : t ≤ 9999) (h0 : W 3 (705 * T) = n) (hb : ∀ y, y < n → 0 ≤ W 3 (705 * T + (1 + 4 * y)) ∧ W 3 (705 * T + (1 + 4 * y)) ≤ 9) (hne : ∀ y, y < n → W 3 (705 * T + (1 + 4 * y)) ≠ l) (hw : V6 w) : m_X9_says T l w t W = some (ctN w t, W) := by
  have e' : 705 * (T : Int) = ((705 * T : Nat) : Int) := by omega
  have eg : gs w = w := by unfold V6 at hw; exact gs_id (by omega) (by omega)
  unfold m_X9_says
  rw [nm_eq, show (0 : Int) = ((0 : Nat) : Int) from rfl]
  obtain ⟨f, hf⟩ : ∃ f, g_fuel = (f + 1) + n := ⟨g_fuel - n - 1, by unfold g_fuel; omega⟩
  rw [hf, says_walk hT hn hl h0 hb (Nat.le_refl n) hne n 0 (f + 1) (by omega), m_X9_says_L3]
  simp (disch := omega) only [↓reduceIte, ↓nm_eq, ↓jn_eq, ↓c_within, ↓c_isIn, ↓c_isScene, ↓c_isPlace, ↓c_isCue, ↓c_isDigit, ↓d_isScene, ↓d_isAny, ↓ta_pb1, ↓ta_pb0, ↓ta_pb1', ↓ta_pb0', ta_lt, ta_nlt, ta_le, ta_nle, ta_eq, ta_neq, ta_nne, ta_ne, gs_id, a_gd01, a_gdT, or_true, true_or, bd_some, bW_sm, a_gd, a_ne, a_rd, Int.toNat_natCast, Int.toNat_add, Int.toNat_mul, Int.reduceToNat, a_gdp, a_cell, and_self, and_true, true_and, e', h0]
  rw [eg, show ((0 : Nat) : Int) = (0 : Int) from rfl, q_cut hw ht]
  rfl
theorem q_says_val {T n l t k : Nat} {w : Int} {W W' : g_M} {v : Int} (hT : T < 4) (hn : n ≤ 24) (hl : l < 3) (ht : t ≤ 9999) (h0 : W 3 (705 * T) = n) (hb : ∀ y, y < n → 0 ≤ W 3 (705 * T + (1 + 4 * y)) ∧ W 3 (705 * T + (1 + 4 * y)) ≤ 9) (hk : k < n) (hat : W 3 (705 * T + (1 + 4 * k)) = l) (hne : ∀ y, y < k → W 3 (705 * T + (1 + 4 * y)) ≠ l) (hv : V6 v) (s1 : m_X9_summedUp T k W = some (v, W')) : m_X9_says T l w t W = some (ctN v t, W') := by
  have e' : 705 * (T : Int) = ((705 * T : Nat) : Int) := by omega
  have e : ((705 * (T : Int)) + 1) + 4 * (k : Int) = ((705 * T + 1 + 4 * k : Nat) : Int) := by omega
  rw [show 705 * T + (1 + 4 * k) = 705 * T + 1 + 4 * k by omega] at hat
  unfold m_X9_says
  rw [nm_eq, show (0 : Int) = ((0 : Nat) : Int) from rfl]
  obtain ⟨f, hf⟩ : ∃ f, g_fuel = (f + 1) + k := ⟨g_fuel - k - 1, by unfold g_fuel; omega⟩
  rw [hf, says_walk hT hn hl h0 hb (by omega) hne k 0 (f + 1) (by omega), m_X9_says_L3]
  simp (disch := omega) only [↓reduceIte, ↓nm_eq, ↓jn_eq, ↓c_within, ↓c_isIn, ↓c_isScene, ↓c_isPlace, ↓c_isCue, ↓c_isDigit, ↓d_isScene, ↓d_isAny, ↓ta_pb1, ↓ta_pb0, ↓ta_pb1', ↓ta_pb0', ta_lt, ta_nlt, ta_le, ta_nle, ta_eq, ta_neq, ta_nne, ta_ne, gs_id, a_gd01, a_gdT, or_true, true_or, bd_some, bW_sm, a_gd, a_ne, a_rd, Int.toNat_natCast, Int.toNat_add, Int.toNat_mul, Int.reduceToNat, a_gdp, a_cell, and_self, and_true, true_and, e, e', h0, hat, s1]
  rw [show ((0 : Nat) : Int) = (0 : Int) from rfl, q_cut hv ht]
  rfl
/-- texts as they were -/
def Tsame (M W M' W' : g_M) : Prop := (∀ a, 35 ≤ a → a ≤ 64 → M' a = M a) ∧ W' 3 = W 3
def LawNo (u : Int) (t l : Nat) (M W : g_M) : Prop := ∀ M' W', Tsame M W M' W' → m_X7_has t l M' = some 0 ∧ ∀ (w : Int) (top : Nat), V6 w → top ≤ 9999 → m_X9_says u l w top W' = some (ctN w top, W')
def LawYes (u : Int) (t l : Nat) (M W : g_M) : Prop := ∀ M' W', Tsame M W M' W' → m_X7_has t l M' = some 1 ∧ ∀ en kd, EnvOk l en kd → ∃ v, V6 v ∧ (∀ M'' W'', Tsame M W M'' W'' → CEnv l en kd M'' → REnv l en kd W'' → ∃ M3 W3, m_X3_value t l M'' = some (v, M3) ∧ (∀ a, a ≠ 34 → M3 a = M'' a) ∧ (∀ a, a ≠ 7 → a ≠ 8 → W3 a = W'' a) ∧ ∀ (w : Int) (top : Nat), top ≤ 9999 → m_X9_says u l w top W'' = some (ctN v top, W3))
