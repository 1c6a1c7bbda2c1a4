/-! what a law says, in both -/
def ctN (v : Int) (t : Nat) : Int := if v < 0 then 0 else if (t : Int) < v then t else v
theorem ctN_b (v : Int) (t : Nat) : 0 ≤ ctN v t ∧ ctN v t ≤ t := by
  unfold ctN
  by_cases c : v < 0
  · rw [if_pos c]; omega
  · rw [if_neg c]
    by_cases d : (t : Int) < v
    · rw [if_pos d]; omega
    · rw [if_neg d]; omega
theorem ctN_id {v : Int} {t : Nat} (h : 0 ≤ v ∧ v ≤ t) : ctN v t = v := by
  unfold ctN
  rw [if_neg (by omega), if_neg (by omega)]
theorem q_cut {v : Int} {t : Nat} (hv : V6 v) (ht : t ≤ 9999) : m_X9_cut v 0 (t : Int) = some (ctN v t) := by
  unfold V6 at hv
  have e0 : gs (0 : Int) = 0 := gs_id (by omega) (by omega)
  have et : gs (t : Int) = t := gs_id (by omega) (by omega)
  have a := cmp_le (a := v) (b := 0) (by omega) (by omega)
  have b := cmp_le (a := v) (b := t) (by omega) (by omega)
  unfold m_X9_cut ctN
  rw [e0, et, a, b]
  by_cases c : v < 0
  · rw [if_neg (show ¬ 0 < v by omega), if_neg (show ¬ v = 0 by omega), if_neg (by decide), if_pos c]
  · rw [if_neg c]
    have : (0 : Int) ≤ (if 0 < v then 1 else if v = 0 then 0 else -1) := by
      by_cases d : 0 < v
      · rw [if_pos d]; decide
      · rw [if_neg d, if_pos (by omega)]; decide
    rw [if_pos this]
    by_cases d : (t : Int) < v
    · rw [if_pos d, if_pos d, if_neg (by decide)]
    · rw [if_neg d, if_neg d]
      by_cases e : v = t
      · rw [if_pos e, if_pos (by decide)]
      · rw [if_neg e, if_pos (by decide)]
theorem p_bounded {v : Int} {t : Nat} (hv : V6 v) (ht : t ≤ 9999) : m_X3_bounded v (t : Int) = some (ctN v t) := by
  unfold V6 at hv
  unfold m_X3_bounded ctN
  rw [g_min_of (by omega) (by omega)]
  by_cases d : v < (t : Int)
  · rw [if_pos d, g_max_of (by omega) (by omega)]
    by_cases c : v < 0
    · rw [if_pos c, if_neg (by omega)]
    · rw [if_neg c, if_neg (show ¬ (t : Int) < v by omega)]
      by_cases e : 0 < v
      · rw [if_pos e]
      · rw [if_neg e]; congr 1; omega
  · rw [if_neg d, g_max_of (by omega) (by omega), if_neg (show ¬ v < 0 by omega)]
    by_cases e : (t : Int) < v
    · rw [if_pos e]
      by_cases g : (0 : Int) < t
      · rw [if_pos g]
      · rw [if_neg g]; congr 1; omega
    · rw [if_neg e]
      by_cases g : (0 : Int) < t
      · rw [if_pos g]; congr 1; omega
      · rw [if_neg g]; congr 1; omega
theorem p_value {t l i j : Nat} {M : g_M} {Cc en kd : Nat → Int} {v : Int} (hl : l < 3) (ht : t + 1 ≠ 34) (e2 : M (t + 2) l = i) (e3 : M (t + 3) l = j) (hj : j ≤ 300) (hij : i < j) (hc : CEv l Cc en kd i j v) (hcode : ∀ y, i ≤ y → y < j → M (t + 1) y = Cc y) (he : CEnv l en kd M) : ∃ M', m_X3_value t l M = some (v, M') ∧ ∀ a, a ≠ 34 → M' a = M a := by
  have gm : g_min (j : Int) 300 = j := by
    rw [g_min_of (by omega) (by omega)]
    by_cases c : (300 : Int) < j
    · omega
    · rw [if_neg c]
  obtain ⟨K, hK⟩ : ∃ K : Int → g_M → Option (Int × g_M), K = fun (x67 : Int) (M68 : g_M) => if gs x67 ≤ 0 then (some (0, M68)) else (g_gd (g_ix (x67 - 1) 300) (some ((M68 34 (gs (x67 - 1)).toNat), M68))) := ⟨_, rfl⟩
  have hv : m_X3_value t l M = m_X3_value_L24 t j K g_fuel ((0 : Nat) : Int) i M := by
    unfold m_X3_value
    rw [← hK]
    simp (disch := omega) only [↓reduceIte, ↓nm_eq, ↓jn_eq, ↓c_within, ↓c_isIn, ↓c_isScene, ↓c_isPlace, ↓c_isCue, ↓c_isDigit, ↓d_isScene, ↓d_isAny, ↓ta_pb1, ↓ta_pb0, ↓ta_pb1', ↓ta_pb0', ta_lt, ta_nlt, ta_le, ta_nle, ta_eq, ta_neq, ta_nne, ta_ne, gs_id, a_gd01, a_gdT, or_true, true_or, bd_some, bW_sm, a_gd, a_ne, a_rd, Int.toNat_natCast, Int.toNat_add, Int.toNat_mul, Int.reduceToNat, a_gdp, a_cell, and_self, and_true, true_and, e2, e3, gm, Int.natCast_zero]
  obtain ⟨n, M', n1, n2, n3, n4, n5⟩ := hc t j 0 K M ht hj (Nat.le_refl _) (Nat.zero_le _) hcode he
  obtain ⟨f, hf⟩ : ∃ f, g_fuel = (f + 1) + n := ⟨g_fuel - n - 1, by unfold g_fuel; omega⟩
  refine ⟨M', ?_, n3⟩
  rw [hv, hf, n2, m_X3_value_L24, hK]
  simp (disch := omega) only [↓reduceIte, ↓nm_eq, ↓jn_eq, ↓c_within, ↓c_isIn, ↓c_isScene, ↓c_isPlace, ↓c_isCue, ↓c_isDigit, ↓d_isScene, ↓d_isAny, ↓ta_pb1, ↓ta_pb0, ↓ta_pb1', ↓ta_pb0', ta_lt, ta_nlt, ta_le, ta_nle, ta_eq, ta_neq, ta_nne, ta_ne, gs_id, a_gd01, a_gdT, or_true, true_or, bd_some, bW_sm, a_gd, a_ne, a_rd, Int.toNat_natCast, Int.toNat_add, Int.toNat_mul, Int.reduceToNat, a_gdp, a_cell, and_self, and_true, true_and]
  rw [show (((0 + 1 : Nat) : Int) - 1).toNat = 0 from rfl, n5]
theorem q_summed {T k l i j : Nat} {W : g_M} {Bc en kd : Nat → Int} {v : Int} (hT : T < 4) (hk : k < 24) (e1 : W 3 (705 * T + (1 + 4 * k + 1)) = i) (e2 : W 3 (705 * T + (1 + 4 * k + 2)) = j) (hj : j ≤ 304) (hij : i < j) (hc : REv l Bc en kd i j v) (hcode : ∀ y, W 3 (705 * T + (97 + y)) = Bc y) (he : REnv l en kd W) : ∃ W', m_X9_summedUp T k W = some (v, W') ∧ ∀ a, a ≠ 7 → a ≠ 8 → W' a = W a := by
  obtain ⟨X, hX⟩ : ∃ X, X = 705 * T + 1 + 4 * k := ⟨_, rfl⟩
  obtain ⟨Y, hY⟩ : ∃ Y, Y = 705 * T + 97 := ⟨_, rfl⟩
  have eX : (705 * (T : Int) + 1) + 4 * (k : Int) = (X : Int) := by omega
  have eY : 705 * (T : Int) + 97 = (Y : Int) := by omega
  have e1' : W 3 (X + 1) = i := by rw [hX, show 705 * T + 1 + 4 * k + 1 = 705 * T + (1 + 4 * k + 1) by omega]; exact e1
  have e2' : W 3 (X + 2) = j := by rw [hX, show 705 * T + 1 + 4 * k + 2 = 705 * T + (1 + 4 * k + 2) by omega]; exact e2
  obtain ⟨K, hK⟩ : ∃ K : g_M → Option (Int × g_M), K = fun (M63 : g_M) => g_gd (g_ix 0 330) (some ((M63 7 (gs 0).toNat), M63)) := ⟨_, rfl⟩
  have hv : m_X9_summedUp T k W = m_X9_summedUp_L38 X Y K g_fuel ((0 : Nat) : Int) ((0 : Nat) : Int) i W := by
    unfold m_X9_summedUp
    rw [← hK]
    simp (disch := omega) only [↓reduceIte, ↓nm_eq, ↓jn_eq, ↓c_within, ↓c_isIn, ↓c_isScene, ↓c_isPlace, ↓c_isCue, ↓c_isDigit, ↓d_isScene, ↓d_isAny, ↓ta_pb1, ↓ta_pb0, ↓ta_pb1', ↓ta_pb0', ta_lt, ta_nlt, ta_le, ta_nle, ta_eq, ta_neq, ta_nne, ta_ne, gs_id, a_gd01, a_gdT, or_true, true_or, bd_some, bW_sm, a_gd, a_ne, a_rd, Int.toNat_natCast, Int.toNat_add, Int.toNat_mul, Int.reduceToNat, a_gdp, a_cell, and_self, and_true, true_and, eX, eY, e1', Int.natCast_zero]
  have cd : RCd Bc Y i j W := fun y _ _ => by
    rw [hY, show 705 * T + 97 + 2 * y = 705 * T + (97 + 2 * y) by omega, show 705 * T + (97 + 2 * y) + 1 = 705 * T + (97 + (2 * y + 1)) by omega]
    exact ⟨hcode _, hcode _⟩
  obtain ⟨W', n2, n3, n4, n5, n6⟩ := hc X Y j 0 0 K W (by omega) (by omega) e2' hj (Nat.le_refl _) (Nat.zero_le _) (Nat.zero_le _) cd he
  obtain ⟨f, hf⟩ : ∃ f, g_fuel = (f + 1) + (j - i) := ⟨g_fuel - (j - i) - 1, by unfold g_fuel; omega⟩
  refine ⟨W', ?_, n3⟩
  have e3 : W' 3 (X + 2) = j := by rw [n3 3 (by omega) (by omega)]; exact e2'
  rw [hv, hf, n2, m_X9_summedUp_L38, hK]
  simp (disch := omega) only [↓reduceIte, ↓nm_eq, ↓jn_eq, ↓c_within, ↓c_isIn, ↓c_isScene, ↓c_isPlace, ↓c_isCue, ↓c_isDigit, ↓d_isScene, ↓d_isAny, ↓ta_pb1, ↓ta_pb0, ↓ta_pb1', ↓ta_pb0', ta_lt, ta_nlt, ta_le, ta_nle, ta_eq, ta_neq, ta_nne, ta_ne, gs_id, a_gd01, a_gdT, or_true, true_or, bd_some, bW_sm, a_gd, a_ne, a_rd, Int.toNat_natCast, Int.toNat_add, Int.toNat_mul, Int.reduceToNat, a_gdp, a_cell, and_self, and_true, true_and, e3, n6]
theorem says_walk {T n l K : Nat} {w top : Int} {W : g_M} {k1 : Option (Int × g_M)} {k2 : Int → Option (Int × g_M)} (hT : T < 4) (hn : n ≤ 24) (hl : l < 3) (h0 : W 3 (705 * T) = n) (hb : ∀ y, y < n → 0 ≤ W 3 (705 * T + (1 + 4 * y)) ∧ W 3 (705 * T + (1 + 4 * y)) ≤ 9) (hK : K ≤ n) (hne : ∀ y, y < K → W 3 (705 * T + (1 + 4 * y)) ≠ l) : ∀ d x f : Nat, x + d = K → m_X9_says_L3 T l w top W k1 k2 (f + d) x = m_X9_says_L3 T l w top W k1 k2 f K := by
  intro d
  induction d with
  | zero => intro x f h; rw [Nat.add_zero] at h; rw [h, Nat.add_zero]
  | succ d ih =>
    intro x f h
    have b1 := hb x (by omega)
    have b2 := hne x (by omega)
    rw [show 705 * T + (1 + 4 * x) = 705 * T + 1 + 4 * x by omega] at b1 b2
    have e : ((705 * (T : Int)) + 1) + 4 * (x : Int) = ((705 * T + 1 + 4 * x : Nat) : Int) := by omega
    have e' : 705 * (T : Int) = ((705 * T : Nat) : Int) := by omega
    rw [← ih (x + 1) f (by omega), show f + (d + 1) = f + d + 1 by omega, m_X9_says_L3]
    simp (disch := omega) only [↓reduceIte, ↓nm_eq, ↓jn_eq, ↓c_within, ↓c_isIn, ↓c_isScene, ↓c_isPlace, ↓c_isCue, ↓c_isDigit, ↓d_isScene, ↓d_isAny, ↓ta_pb1, ↓ta_pb0, ↓ta_pb1', ↓ta_pb0', ta_lt, ta_nlt, ta_le, ta_nle, ta_eq, ta_neq, ta_nne, ta_ne, gs_id, a_gd01, a_gdT, or_true, true_or, bd_some, bW_sm, a_gd, a_ne, a_rd, Int.toNat_natCast, Int.toNat_add, Int.toNat_mul, Int.reduceToNat, a_gdp, a_cell, and_self, and_true, true_and, e, e', h0, Int.natCast_add x 1, Int.natCast_one]
