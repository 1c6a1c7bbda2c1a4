/-! tokens: the loops of the two scanners -/
theorem wr_wr (M : g_M) (k j : Nat) (v w : Int) : g_wr (g_wr M k j v) k j w = g_wr M k j w := by
  funext a b
  by_cases c : a = k ∧ b = j
  · rw [a_rd _ c, a_rd _ c]
  · rw [a_ne _ (by omega), a_ne _ (by omega), a_ne _ (by omega)]
theorem wr_id (M : g_M) {k j : Nat} {v : Int} (h : M k j = v) : g_wr M k j v = M := by
  funext a b
  by_cases c : a = k ∧ b = j
  · rw [a_rd _ c, c.1, c.2, h]
  · rw [a_ne _ (by omega)]
theorem wr_4 (M : g_M) {k i j : Nat} (h : i ≠ j) (v w v' w' : Int) : g_wr (g_wr (g_wr (g_wr M k i v) k j w) k i v') k j w' = g_wr (g_wr M k i v') k j w' := by
  funext a b
  by_cases c : a = k ∧ b = j
  · rw [a_rd _ c, a_rd _ c]
  · by_cases d : a = k ∧ b = i
    · rw [a_ne _ (by omega), a_rd _ d, a_ne _ (by omega), a_rd _ d]
    · rw [a_ne _ (by omega), a_ne _ (by omega), a_ne _ (by omega), a_ne _ (by omega), a_ne _ (by omega), a_ne _ (by omega)]
/-- all words of the class's are compared -/
theorem scan_all {L s q : Nat} {b : Nat → Int} (hs : s ≤ q) (hq : q ≤ L) (hL : L ≤ 300) : ∀ (d k : Nat) (M : g_M), k + d = 33 → (∀ i, i < L → 0 ≤ b i ∧ b i ≤ 255 ∧ M 24 i = b i) → M 23 5 = q → M 23 6 = s → M 23 7 = 42 → ∃ (T : Nat) (M' : g_M), ((T < 33 ∧ WD (fun i => b (s + i)) (q - s) T) ∨ (T = 42 ∧ ∀ j, k ≤ j → j < 33 → ¬ WD (fun i => b (s + i)) (q - s) j)) ∧ (∀ g, 161 ≤ g + wO k → m_X4_scanWord_L54 g k s ((wO k : Nat) : Int) M = some M') ∧ M' 23 7 = T ∧ (∀ a, a ≠ 23 → M' a = M a) ∧ ∀ j, j ≠ 7 → M' 23 j = M 23 j := by
  have sn : x_sl 0 = 160 := rfl
  intro d
  induction d with
  | zero =>
    intro k M hk hb h5 h6 h7
    obtain rfl : k = 33 := by omega
    have e : wO 33 = 160 := rfl
    refine ⟨42, M, Or.inr ⟨rfl, fun j h1 h2 => by omega⟩, fun g hg => ?_, h7, fun a _ => rfl, fun j _ => rfl⟩
    obtain ⟨g, rfl⟩ : ∃ g', g = g' + 1 := ⟨g - 1, by omega⟩
    rw [m_X4_scanWord_L54]
    simp (disch := omega) only [↓reduceIte, ↓nm_eq, ↓jn_eq, ↓c_within, ↓c_isIn, ↓c_isScene, ↓c_isPlace, ↓c_isCue, ↓c_isDigit, ↓d_isScene, ↓d_isAny, ↓ta_pb1, ↓ta_pb0, ↓ta_pb1', ↓ta_pb0', ta_lt, ta_nlt, ta_le, ta_nle, ta_eq, ta_neq, ta_nne, ta_ne, gs_id, a_gd01, a_gdT, or_true, true_or, bd_some, bW_sm, a_gd, a_ne, a_rd, Int.toNat_natCast, Int.toNat_add, Int.toNat_mul, Int.reduceToNat, a_gdp, a_cell, and_self, and_true, true_and, sn, e]
  | succ d ih =>
    intro k M hk hb h5 h6 h7
    obtain ⟨⟨t1, t2, t3, t4, t5⟩, t6⟩ := w_k (k := k) (by omega)
    obtain ⟨T, T1, T2⟩ := scan_word (L := L) (k := k) (by omega) hs hq hL hb h5 h6 h7 (wN k) 0 s (by omega) (Or.inl ⟨fun i hi => by omega, by omega⟩)
    rcases T1 with ⟨T3, T4⟩ | ⟨T3, T4⟩
    · refine ⟨k, g_wr M 23 7 k, Or.inl ⟨by omega, T4⟩, fun g hg => ?_, wr_at _ _ _ _, fun a ha => a_cell _ ha, fun j hj => a_ne _ (by omega)⟩
      obtain ⟨g, rfl⟩ : ∃ g', g = g' + 1 + (wN k + 1) := ⟨g - 1 - (wN k + 1), by omega⟩
      have a : m_X4_scanWord_L54 (g + 1 + (wN k + 1)) k s ((wO k : Nat) : Int) M = _ := T2 (g + 1)
      rw [a, m_X4_scanWord_L54, T3]
      by_cases z : 160 ≤ wO (k + 1)
      · simp (disch := omega) only [↓reduceIte, ↓nm_eq, ↓jn_eq, ↓c_within, ↓c_isIn, ↓c_isScene, ↓c_isPlace, ↓c_isCue, ↓c_isDigit, ↓d_isScene, ↓d_isAny, ↓ta_pb1, ↓ta_pb0, ↓ta_pb1', ↓ta_pb0', ta_lt, ta_nlt, ta_le, ta_nle, ta_eq, ta_neq, ta_nne, ta_ne, gs_id, a_gd01, a_gdT, or_true, true_or, bd_some, bW_sm, a_gd, a_ne, a_rd, Int.toNat_natCast, Int.toNat_add, Int.toNat_mul, Int.reduceToNat, a_gdp, a_cell, and_self, and_true, true_and, sn]
      · simp (disch := omega) only [↓reduceIte, ↓nm_eq, ↓jn_eq, ↓c_within, ↓c_isIn, ↓c_isScene, ↓c_isPlace, ↓c_isCue, ↓c_isDigit, ↓d_isScene, ↓d_isAny, ↓ta_pb1, ↓ta_pb0, ↓ta_pb1', ↓ta_pb0', ta_lt, ta_nlt, ta_le, ta_nle, ta_eq, ta_neq, ta_nne, ta_ne, gs_id, a_gd01, a_gdT, or_true, true_or, bd_some, bW_sm, a_gd, a_ne, a_rd, Int.toNat_natCast, Int.toNat_add, Int.toNat_mul, Int.reduceToNat, a_gdp, a_cell, and_self, and_true, true_and, sn]
    · obtain ⟨T', M', q1, q2, q3, q4, q5⟩ := ih (k + 1) (g_wr M 23 7 T) (by omega) (fun i hi => by rw [a_cell _ (by omega)]; exact hb i hi) (by rw [a_ne _ (by omega)]; exact h5) (by rw [a_ne _ (by omega)]; exact h6) (by rw [wr_at, T3]; rfl)
      refine ⟨T', M', ?_, fun g hg => ?_, q3, fun a ha => by rw [q4 a ha, a_cell _ ha], fun j hj => by rw [q5 j hj, a_ne _ (by omega)]⟩
      · rcases q1 with ⟨c1, c2⟩ | ⟨c1, c2⟩
        · exact Or.inl ⟨c1, c2⟩
        · refine Or.inr ⟨c1, fun j h1 h2 => ?_⟩
          by_cases z : j = k
          · rw [z]; exact T4
          · exact c2 j (by omega) h2
      · obtain ⟨g, rfl⟩ : ∃ g', g = g' + (wN k + 1) := ⟨g - (wN k + 1), by omega⟩
        have a : m_X4_scanWord_L54 (g + (wN k + 1)) k s ((wO k : Nat) : Int) M = _ := T2 g
        rw [a]
        exact q2 g (by omega)
theorem c_blank {L s : Nat} {b : Nat → Int} {M : g_M} {K : g_M → Option g_M} (hL : L ≤ 300) (hs : s ≤ L) (hb : ∀ i, i < L → 0 ≤ b i ∧ b i ≤ 255 ∧ M 24 i = b i) (h2 : M 23 2 = L) (h3 : s = L ∨ ¬ isB (b s)) : ∀ (d i f : Nat), i + d = s → d < f → (∀ y, i ≤ y → y < s → isB (b y)) → m_X4_advance_L0 K f (g_wr M 23 5 i) = K (g_wr M 23 5 s) := by
  intro d
  induction d with
  | zero =>
    intro i f h1 hf hy
    obtain ⟨f, rfl⟩ : ∃ g', f = g' + 1 := ⟨f - 1, by omega⟩
    obtain rfl : i = s := by omega
    rw [m_X4_advance_L0]
    rcases h3 with c | c
    · simp (disch := omega) only [↓reduceIte, ↓nm_eq, ↓jn_eq, ↓c_within, ↓c_isIn, ↓c_isScene, ↓c_isPlace, ↓c_isCue, ↓c_isDigit, ↓d_isScene, ↓d_isAny, ↓ta_pb1, ↓ta_pb0, ↓ta_pb1', ↓ta_pb0', ta_lt, ta_nlt, ta_le, ta_nle, ta_eq, ta_neq, ta_nne, ta_ne, gs_id, a_gd01, a_gdT, or_true, true_or, bd_some, bW_sm, a_gd, a_ne, a_rd, Int.toNat_natCast, Int.toNat_add, Int.toNat_mul, Int.reduceToNat, a_gdp, a_cell, and_self, and_true, true_and, h2]
    · by_cases c2 : i = L
      · simp (disch := omega) only [↓reduceIte, ↓nm_eq, ↓jn_eq, ↓c_within, ↓c_isIn, ↓c_isScene, ↓c_isPlace, ↓c_isCue, ↓c_isDigit, ↓d_isScene, ↓d_isAny, ↓ta_pb1, ↓ta_pb0, ↓ta_pb1', ↓ta_pb0', ta_lt, ta_nlt, ta_le, ta_nle, ta_eq, ta_neq, ta_nne, ta_ne, gs_id, a_gd01, a_gdT, or_true, true_or, bd_some, bW_sm, a_gd, a_ne, a_rd, Int.toNat_natCast, Int.toNat_add, Int.toNat_mul, Int.reduceToNat, a_gdp, a_cell, and_self, and_true, true_and, h2]
      · obtain ⟨b1, b2, b3⟩ := hb i (by omega)
        unfold isB at c
        simp (disch := omega) only [↓reduceIte, ↓nm_eq, ↓jn_eq, ↓c_within, ↓c_isIn, ↓c_isScene, ↓c_isPlace, ↓c_isCue, ↓c_isDigit, ↓d_isScene, ↓d_isAny, ↓ta_pb1, ↓ta_pb0, ↓ta_pb1', ↓ta_pb0', ta_lt, ta_nlt, ta_le, ta_nle, ta_eq, ta_neq, ta_nne, ta_ne, gs_id, a_gd01, a_gdT, or_true, true_or, bd_some, bW_sm, a_gd, a_ne, a_rd, Int.toNat_natCast, Int.toNat_add, Int.toNat_mul, Int.reduceToNat, a_gdp, a_cell, and_self, and_true, true_and, h2, b3]
  | succ d ih =>
    intro i f h1 hf hy
    obtain ⟨f, rfl⟩ : ∃ g', f = g' + 1 := ⟨f - 1, by omega⟩
    obtain ⟨b1, b2, b3⟩ := hb i (by omega)
    have a := ih (i + 1) f (by omega) (by omega) (fun y y1 y2 => hy y (by omega) y2)
    rw [Int.natCast_add, Int.natCast_one] at a
    rw [m_X4_advance_L0]
    rcases hy i (by omega) (by omega) with c | c
    · simp (disch := omega) only [↓reduceIte, ↓nm_eq, ↓jn_eq, ↓c_within, ↓c_isIn, ↓c_isScene, ↓c_isPlace, ↓c_isCue, ↓c_isDigit, ↓d_isScene, ↓d_isAny, ↓ta_pb1, ↓ta_pb0, ↓ta_pb1', ↓ta_pb0', ta_lt, ta_nlt, ta_le, ta_nle, ta_eq, ta_neq, ta_nne, ta_ne, gs_id, a_gd01, a_gdT, or_true, true_or, bd_some, bW_sm, a_gd, a_ne, a_rd, Int.toNat_natCast, Int.toNat_add, Int.toNat_mul, Int.reduceToNat, a_gdp, a_cell, and_self, and_true, true_and, h2, b3, c, wr_wr, a]
    · simp (disch := omega) only [↓reduceIte, ↓nm_eq, ↓jn_eq, ↓c_within, ↓c_isIn, ↓c_isScene, ↓c_isPlace, ↓c_isCue, ↓c_isDigit, ↓d_isScene, ↓d_isAny, ↓ta_pb1, ↓ta_pb0, ↓ta_pb1', ↓ta_pb0', ta_lt, ta_nlt, ta_le, ta_nle, ta_eq, ta_neq, ta_nne, ta_ne, gs_id, a_gd01, a_gdT, or_true, true_or, bd_some, bW_sm, a_gd, a_ne, a_rd, Int.toNat_natCast, Int.toNat_add, Int.toNat_mul, Int.reduceToNat, a_gdp, a_cell, and_self, and_true, true_and, h2, b3, c, wr_wr, a]
theorem c_letter {L s : Nat} {b : Nat → Int} {M : g_M} {K : g_M → Option g_M} (hL : L ≤ 300) (hs : s ≤ L) (hb : ∀ i, i < L → 0 ≤ b i ∧ b i ≤ 255 ∧ M 24 i = b i) (h2 : M 23 2 = L) (h3 : s = L ∨ ¬ isL (b s)) : ∀ (d i f : Nat), i + d = s → d < f → (∀ y, i ≤ y → y < s → isL (b y)) → m_X4_scanWord_L0 K f (g_wr M 23 5 i) = K (g_wr M 23 5 s) := by
  intro d
  induction d with
  | zero =>
    intro i f h1 hf hy
    obtain ⟨f, rfl⟩ : ∃ g', f = g' + 1 := ⟨f - 1, by omega⟩
    obtain rfl : i = s := by omega
    rw [m_X4_scanWord_L0]
    rcases h3 with c | c
    · simp (disch := omega) only [↓reduceIte, ↓nm_eq, ↓jn_eq, ↓c_within, ↓c_isIn, ↓c_isScene, ↓c_isPlace, ↓c_isCue, ↓c_isDigit, ↓d_isScene, ↓d_isAny, ↓ta_pb1, ↓ta_pb0, ↓ta_pb1', ↓ta_pb0', ta_lt, ta_nlt, ta_le, ta_nle, ta_eq, ta_neq, ta_nne, ta_ne, gs_id, a_gd01, a_gdT, or_true, true_or, bd_some, bW_sm, a_gd, a_ne, a_rd, Int.toNat_natCast, Int.toNat_add, Int.toNat_mul, Int.reduceToNat, a_gdp, a_cell, and_self, and_true, true_and, h2]
    · by_cases c2 : i = L
      · simp (disch := omega) only [↓reduceIte, ↓nm_eq, ↓jn_eq, ↓c_within, ↓c_isIn, ↓c_isScene, ↓c_isPlace, ↓c_isCue, ↓c_isDigit, ↓d_isScene, ↓d_isAny, ↓ta_pb1, ↓ta_pb0, ↓ta_pb1', ↓ta_pb0', ta_lt, ta_nlt, ta_le, ta_nle, ta_eq, ta_neq, ta_nne, ta_ne, gs_id, a_gd01, a_gdT, or_true, true_or, bd_some, bW_sm, a_gd, a_ne, a_rd, Int.toNat_natCast, Int.toNat_add, Int.toNat_mul, Int.reduceToNat, a_gdp, a_cell, and_self, and_true, true_and, h2]
      · obtain ⟨b1, b2, b3⟩ := hb i (by omega)
        have z := (p_isLetter (c := b i) (by omega)).2 c
        simp (disch := omega) only [↓reduceIte, ↓nm_eq, ↓jn_eq, ↓c_within, ↓c_isIn, ↓c_isScene, ↓c_isPlace, ↓c_isCue, ↓c_isDigit, ↓d_isScene, ↓d_isAny, ↓ta_pb1, ↓ta_pb0, ↓ta_pb1', ↓ta_pb0', ta_lt, ta_nlt, ta_le, ta_nle, ta_eq, ta_neq, ta_nne, ta_ne, gs_id, a_gd01, a_gdT, or_true, true_or, bd_some, bW_sm, a_gd, a_ne, a_rd, Int.toNat_natCast, Int.toNat_add, Int.toNat_mul, Int.reduceToNat, a_gdp, a_cell, and_self, and_true, true_and, h2, b3, z]
  | succ d ih =>
    intro i f h1 hf hy
    obtain ⟨f, rfl⟩ : ∃ g', f = g' + 1 := ⟨f - 1, by omega⟩
    obtain ⟨b1, b2, b3⟩ := hb i (by omega)
    have a := ih (i + 1) f (by omega) (by omega) (fun y y1 y2 => hy y (by omega) y2)
    rw [Int.natCast_add, Int.natCast_one] at a
    have z := (p_isLetter (c := b i) (by omega)).1 (hy i (by omega) (by omega))
    rw [m_X4_scanWord_L0]
    simp (disch := omega) only [↓reduceIte, ↓nm_eq, ↓jn_eq, ↓c_within, ↓c_isIn, ↓c_isScene, ↓c_isPlace, ↓c_isCue, ↓c_isDigit, ↓d_isScene, ↓d_isAny, ↓ta_pb1, ↓ta_pb0, ↓ta_pb1', ↓ta_pb0', ta_lt, ta_nlt, ta_le, ta_nle, ta_eq, ta_neq, ta_nne, ta_ne, gs_id, a_gd01, a_gdT, or_true, true_or, bd_some, bW_sm, a_gd, a_ne, a_rd, Int.toNat_natCast, Int.toNat_add, Int.toNat_mul, Int.reduceToNat, a_gdp, a_cell, and_self, and_true, true_and, h2, b3, z, wr_wr, a]
def cn (f : Nat → Int) : Nat → Int
  | 0 => 0
  | n + 1 => if cn f n * 10 + f n - 48 < 10000 then cn f n * 10 + f n - 48 else 10000
def rn (f : Nat → Int) : Nat → Int
  | 0 => 0
  | n + 1 => if 99999 < rn f n then rn f n else 10 * rn f n + f n - 48
theorem num_rel {f : Nat → Int} : ∀ n, (∀ i, i < n → isD (f i)) → (0 ≤ cn f n ∧ cn f n ≤ 10000) ∧ (0 ≤ rn f n ∧ rn f n ≤ 1000009) ∧ (cn f n ≤ 9999 → rn f n = cn f n) ∧ (9999 < cn f n → 9999 < rn f n) := by
  intro n
  induction n with
  | zero =>
    intro _
    have e1 : cn f 0 = 0 := rfl
    have e2 : rn f 0 = 0 := rfl
    rw [e1, e2]
    omega
  | succ n ih =>
    intro h
    obtain ⟨a1, a2, a3, a4⟩ := ih (fun i hi => h i (by omega))
    have b := h n (by omega)
    unfold isD at b
    have e1 : cn f (n + 1) = if cn f n * 10 + f n - 48 < 10000 then cn f n * 10 + f n - 48 else 10000 := rfl
    have e2 : rn f (n + 1) = if 99999 < rn f n then rn f n else 10 * rn f n + f n - 48 := rfl
    rw [e1, e2]
    by_cases c1 : cn f n * 10 + f n - 48 < 10000
    · rw [if_pos c1, if_neg (by omega)]
      omega
    · rw [if_neg c1]
      by_cases c2 : 99999 < rn f n
      · rw [if_pos c2]; omega
      · rw [if_neg c2]; omega
theorem c_digit {L s0 s : Nat} {b : Nat → Int} {M : g_M} (hL : L ≤ 300) (hs : s ≤ L) (hb : ∀ i, i < L → 0 ≤ b i ∧ b i ≤ 255 ∧ M 24 i = b i) (h2 : M 23 2 = L) (h3 : s = L ∨ ¬ isD (b s)) (h4 : ∀ y, s0 ≤ y → y < s → isD (b y)) : ∀ (d i f : Nat), s0 + i + d = s → d < f → m_X4_scanNumber_L11 f (g_wr (g_wr M 23 8 (cn (fun i => b (s0 + i)) i)) 23 5 ((s0 + i : Nat) : Int)) = some (g_wr (g_wr M 23 8 (cn (fun i => b (s0 + i)) (s - s0))) 23 5 s) := by
  intro d
  induction d with
  | zero =>
    intro i f h1 hf
    obtain ⟨f, rfl⟩ : ∃ g', f = g' + 1 := ⟨f - 1, by omega⟩
    obtain rfl : s = s0 + i := by omega
    rw [show s0 + i - s0 = i by omega, m_X4_scanNumber_L11]
    rcases h3 with c | c
    · simp (disch := omega) only [↓reduceIte, ↓nm_eq, ↓jn_eq, ↓c_within, ↓c_isIn, ↓c_isScene, ↓c_isPlace, ↓c_isCue, ↓c_isDigit, ↓d_isScene, ↓d_isAny, ↓ta_pb1, ↓ta_pb0, ↓ta_pb1', ↓ta_pb0', ta_lt, ta_nlt, ta_le, ta_nle, ta_eq, ta_neq, ta_nne, ta_ne, gs_id, a_gd01, a_gdT, or_true, true_or, bd_some, bW_sm, a_gd, a_ne, a_rd, Int.toNat_natCast, Int.toNat_add, Int.toNat_mul, Int.reduceToNat, a_gdp, a_cell, and_self, and_true, true_and, h2]
    · by_cases c2 : s0 + i = L
      · simp (disch := omega) only [↓reduceIte, ↓nm_eq, ↓jn_eq, ↓c_within, ↓c_isIn, ↓c_isScene, ↓c_isPlace, ↓c_isCue, ↓c_isDigit, ↓d_isScene, ↓d_isAny, ↓ta_pb1, ↓ta_pb0, ↓ta_pb1', ↓ta_pb0', ta_lt, ta_nlt, ta_le, ta_nle, ta_eq, ta_neq, ta_nne, ta_ne, gs_id, a_gd01, a_gdT, or_true, true_or, bd_some, bW_sm, a_gd, a_ne, a_rd, Int.toNat_natCast, Int.toNat_add, Int.toNat_mul, Int.reduceToNat, a_gdp, a_cell, and_self, and_true, true_and, h2]
      · obtain ⟨b1, b2, b3⟩ := hb (s0 + i) (by omega)
        have z := (p_isNumeral (c := b (s0 + i)) (by omega)).2 c
        simp (disch := omega) only [↓reduceIte, ↓nm_eq, ↓jn_eq, ↓c_within, ↓c_isIn, ↓c_isScene, ↓c_isPlace, ↓c_isCue, ↓c_isDigit, ↓d_isScene, ↓d_isAny, ↓ta_pb1, ↓ta_pb0, ↓ta_pb1', ↓ta_pb0', ta_lt, ta_nlt, ta_le, ta_nle, ta_eq, ta_neq, ta_nne, ta_ne, gs_id, a_gd01, a_gdT, or_true, true_or, bd_some, bW_sm, a_gd, a_ne, a_rd, Int.toNat_natCast, Int.toNat_add, Int.toNat_mul, Int.reduceToNat, a_gdp, a_cell, and_self, and_true, true_and, h2, b3, z]
  | succ d ih =>
    intro i f h1 hf
    obtain ⟨f, rfl⟩ : ∃ g', f = g' + 1 := ⟨f - 1, by omega⟩
    obtain ⟨b1, b2, b3⟩ := hb (s0 + i) (by omega)
    have a := ih (i + 1) f (by omega) (by omega)
    have z := (p_isNumeral (c := b (s0 + i)) (by omega)).1 (h4 _ (by omega) (by omega))
    obtain ⟨⟨n1, n2⟩, -⟩ := num_rel (f := fun i => b (s0 + i)) i (fun y hy => h4 _ (by omega) (by omega))
    have e : g_min 10000 (cn (fun i => b (s0 + i)) i * 10 + b (s0 + i) - 48) = cn (fun i => b (s0 + i)) (i + 1) := by
      rw [g_min_of (by omega) (by omega)]
      rfl
    rw [← a, m_X4_scanNumber_L11]
    simp (disch := omega) only [↓reduceIte, ↓nm_eq, ↓jn_eq, ↓c_within, ↓c_isIn, ↓c_isScene, ↓c_isPlace, ↓c_isCue, ↓c_isDigit, ↓d_isScene, ↓d_isAny, ↓ta_pb1, ↓ta_pb0, ↓ta_pb1', ↓ta_pb0', ta_lt, ta_nlt, ta_le, ta_nle, ta_eq, ta_neq, ta_nne, ta_ne, gs_id, a_gd01, a_gdT, or_true, true_or, bd_some, bW_sm, a_gd, a_ne, a_rd, Int.toNat_natCast, Int.toNat_add, Int.toNat_mul, Int.reduceToNat, a_gdp, a_cell, and_self, and_true, true_and, h2, b3, z, e]
    rw [wr_4 _ (by omega)]
    rfl
