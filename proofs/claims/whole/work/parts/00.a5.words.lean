/-! tokens: the class's words -/
def wO (k : Nat) : Nat := [0, 5, 11, 20, 25, 32, 37, 42, 47, 55, 58, 61, 64, 67, 73, 76, 81, 86, 90, 94, 98, 101, 105, 110, 116, 122, 128, 133, 137, 142, 146, 151, 155, 160].getD k 0
def wN (k : Nat) : Nat := [4, 5, 8, 4, 6, 4, 4, 4, 7, 2, 2, 2, 2, 5, 2, 4, 4, 3, 3, 3, 2, 3, 4, 5, 5, 5, 4, 3, 4, 3, 4, 3, 4].getD k 0
def chW (k i : Nat) : Int := x_sc 0 (wO k + i)
theorem w_tab : (List.range 33).all (fun k => decide (wO (k + 1) = wO k + wN k + 1 ∧ 2 ≤ wN k ∧ wN k ≤ 8 ∧ wO k + wN k < 160 ∧ x_sc 0 (wO k + wN k) = 32) && (List.range (wN k)).all (fun i => decide (97 ≤ chW k i ∧ chW k i ≤ 122))) = true := by decide +kernel
theorem w_k {k : Nat} (h : k < 33) : (wO (k + 1) = wO k + wN k + 1 ∧ 2 ≤ wN k ∧ wN k ≤ 8 ∧ wO k + wN k < 160 ∧ x_sc 0 (wO k + wN k) = 32) ∧ ∀ i, i < wN k → 97 ≤ chW k i ∧ chW k i ≤ 122 := by
  have a := all_of w_tab h
  rw [Bool.and_eq_true] at a
  exact ⟨of_decide_eq_true a.1, fun i hi => of_decide_eq_true (all_of a.2 hi)⟩
theorem w_dist : (List.range 33).all (fun j => (List.range 33).all (fun k => decide (j = k) || decide (wN j ≠ wN k) || (List.range (wN j)).any (fun i => decide (chW j i ≠ chW k i)))) = true := by decide +kernel
/-- the word of the letters f 0 .. f (m - 1) is the k-th -/
def WD (f : Nat → Int) (m k : Nat) : Prop := m = wN k ∧ ∀ i, i < m → f i = chW k i
theorem WD_one {f : Nat → Int} {m j k : Nat} (hj : j < 33) (hk : k < 33) (h : WD f m j) (g : WD f m k) : j = k := by
  have a := all_of (all_of w_dist hj) hk
  rw [Bool.or_eq_true, Bool.or_eq_true] at a
  obtain ⟨h1, h2⟩ := h
  obtain ⟨g1, g2⟩ := g
  rcases a with (a | a) | a
  · exact of_decide_eq_true a
  · exact absurd (h1.symm.trans g1) (of_decide_eq_true a)
  · obtain ⟨i, i1, i2⟩ := List.any_eq_true.1 a
    have i3 := List.mem_range.1 i1
    exact absurd ((h2 i (by omega)).symm.trans (g2 i (by omega))) (of_decide_eq_true i2)
def isL (c : Int) : Prop := (97 ≤ c ∧ c ≤ 122) ∨ (65 ≤ c ∧ c ≤ 90)
def isD (c : Int) : Prop := 48 ≤ c ∧ c ≤ 57
def isB (c : Int) : Prop := c = 32 ∨ c = 10
theorem span (p : Int → Prop) (b : Nat → Int) (L : Nat) : ∀ d s, s + d = L → ∃ q, s ≤ q ∧ q ≤ L ∧ (∀ i, s ≤ i → i < q → p (b i)) ∧ (q = L ∨ ¬ p (b q)) := by
  intro d
  induction d with
  | zero => intro s h; exact ⟨s, by omega, by omega, fun i _ _ => by omega, Or.inl (by omega)⟩
  | succ d ih =>
    intro s h
    rcases Classical.em (p (b s)) with c | c
    · obtain ⟨q, q1, q2, q3, q4⟩ := ih (s + 1) (by omega)
      refine ⟨q, by omega, q2, fun i h1 h2 => ?_, q4⟩
      by_cases z : i = s
      · rw [z]; exact c
      · exact q3 i (by omega) h2
    · exact ⟨s, by omega, by omega, fun i _ _ => by omega, Or.inr c⟩
theorem p_isLetter {c : Int} (h : 0 ≤ c ∧ c ≤ 255) : (isL c → m_X4_isLetter c = some 1) ∧ (¬ isL c → m_X4_isLetter c = some 0) := by
  unfold isL m_X4_isLetter
  refine ⟨fun z => ?_, fun z => ?_⟩
  · by_cases c1 : c < 97
    · simp (disch := omega) only [↓reduceIte, ↓nm_eq, ↓jn_eq, ↓c_within, ↓c_isIn, ↓c_isScene, ↓c_isPlace, ↓c_isCue, ↓c_isDigit, ↓d_isScene, ↓d_isAny, ↓ta_pb1, ↓ta_pb0, ↓ta_pb1', ↓ta_pb0', ta_lt, ta_nlt, ta_le, ta_nle, ta_eq, ta_neq, ta_nne, ta_ne, gs_id, a_gd01, a_gdT, or_true, true_or, bd_some, bW_sm, a_gd, a_ne, a_rd, Int.toNat_natCast, Int.toNat_add, Int.toNat_mul, Int.reduceToNat, a_gdp, a_cell, and_self, and_true, true_and]
    · simp (disch := omega) only [↓reduceIte, ↓nm_eq, ↓jn_eq, ↓c_within, ↓c_isIn, ↓c_isScene, ↓c_isPlace, ↓c_isCue, ↓c_isDigit, ↓d_isScene, ↓d_isAny, ↓ta_pb1, ↓ta_pb0, ↓ta_pb1', ↓ta_pb0', ta_lt, ta_nlt, ta_le, ta_nle, ta_eq, ta_neq, ta_nne, ta_ne, gs_id, a_gd01, a_gdT, or_true, true_or, bd_some, bW_sm, a_gd, a_ne, a_rd, Int.toNat_natCast, Int.toNat_add, Int.toNat_mul, Int.reduceToNat, a_gdp, a_cell, and_self, and_true, true_and]
  · by_cases c1 : c < 97
    · by_cases c2 : c < 65
      · simp (disch := omega) only [↓reduceIte, ↓nm_eq, ↓jn_eq, ↓c_within, ↓c_isIn, ↓c_isScene, ↓c_isPlace, ↓c_isCue, ↓c_isDigit, ↓d_isScene, ↓d_isAny, ↓ta_pb1, ↓ta_pb0, ↓ta_pb1', ↓ta_pb0', ta_lt, ta_nlt, ta_le, ta_nle, ta_eq, ta_neq, ta_nne, ta_ne, gs_id, a_gd01, a_gdT, or_true, true_or, bd_some, bW_sm, a_gd, a_ne, a_rd, Int.toNat_natCast, Int.toNat_add, Int.toNat_mul, Int.reduceToNat, a_gdp, a_cell, and_self, and_true, true_and]
      · simp (disch := omega) only [↓reduceIte, ↓nm_eq, ↓jn_eq, ↓c_within, ↓c_isIn, ↓c_isScene, ↓c_isPlace, ↓c_isCue, ↓c_isDigit, ↓d_isScene, ↓d_isAny, ↓ta_pb1, ↓ta_pb0, ↓ta_pb1', ↓ta_pb0', ta_lt, ta_nlt, ta_le, ta_nle, ta_eq, ta_neq, ta_nne, ta_ne, gs_id, a_gd01, a_gdT, or_true, true_or, bd_some, bW_sm, a_gd, a_ne, a_rd, Int.toNat_natCast, Int.toNat_add, Int.toNat_mul, Int.reduceToNat, a_gdp, a_cell, and_self, and_true, true_and]
    · simp (disch := omega) only [↓reduceIte, ↓nm_eq, ↓jn_eq, ↓c_within, ↓c_isIn, ↓c_isScene, ↓c_isPlace, ↓c_isCue, ↓c_isDigit, ↓d_isScene, ↓d_isAny, ↓ta_pb1, ↓ta_pb0, ↓ta_pb1', ↓ta_pb0', ta_lt, ta_nlt, ta_le, ta_nle, ta_eq, ta_neq, ta_nne, ta_ne, gs_id, a_gd01, a_gdT, or_true, true_or, bd_some, bW_sm, a_gd, a_ne, a_rd, Int.toNat_natCast, Int.toNat_add, Int.toNat_mul, Int.reduceToNat, a_gdp, a_cell, and_self, and_true, true_and]
theorem p_isNumeral {c : Int} (h : 0 ≤ c ∧ c ≤ 255) : (isD c → m_X4_isNumeral c = some 1) ∧ (¬ isD c → m_X4_isNumeral c = some 0) := by
  unfold isD m_X4_isNumeral
  refine ⟨fun z => ?_, fun z => ?_⟩
  · simp (disch := omega) only [↓reduceIte, ↓nm_eq, ↓jn_eq, ↓c_within, ↓c_isIn, ↓c_isScene, ↓c_isPlace, ↓c_isCue, ↓c_isDigit, ↓d_isScene, ↓d_isAny, ↓ta_pb1, ↓ta_pb0, ↓ta_pb1', ↓ta_pb0', ta_lt, ta_nlt, ta_le, ta_nle, ta_eq, ta_neq, ta_nne, ta_ne, gs_id, a_gd01, a_gdT, or_true, true_or, bd_some, bW_sm, a_gd, a_ne, a_rd, Int.toNat_natCast, Int.toNat_add, Int.toNat_mul, Int.reduceToNat, a_gdp, a_cell, and_self, and_true, true_and]
  · by_cases c1 : c < 48
    · simp (disch := omega) only [↓reduceIte, ↓nm_eq, ↓jn_eq, ↓c_within, ↓c_isIn, ↓c_isScene, ↓c_isPlace, ↓c_isCue, ↓c_isDigit, ↓d_isScene, ↓d_isAny, ↓ta_pb1, ↓ta_pb0, ↓ta_pb1', ↓ta_pb0', ta_lt, ta_nlt, ta_le, ta_nle, ta_eq, ta_neq, ta_nne, ta_ne, gs_id, a_gd01, a_gdT, or_true, true_or, bd_some, bW_sm, a_gd, a_ne, a_rd, Int.toNat_natCast, Int.toNat_add, Int.toNat_mul, Int.reduceToNat, a_gdp, a_cell, and_self, and_true, true_and]
    · simp (disch := omega) only [↓reduceIte, ↓nm_eq, ↓jn_eq, ↓c_within, ↓c_isIn, ↓c_isScene, ↓c_isPlace, ↓c_isCue, ↓c_isDigit, ↓d_isScene, ↓d_isAny, ↓ta_pb1, ↓ta_pb0, ↓ta_pb1', ↓ta_pb0', ta_lt, ta_nlt, ta_le, ta_nle, ta_eq, ta_neq, ta_nne, ta_ne, gs_id, a_gd01, a_gdT, or_true, true_or, bd_some, bW_sm, a_gd, a_ne, a_rd, Int.toNat_natCast, Int.toNat_add, Int.toNat_mul, Int.reduceToNat, a_gdp, a_cell, and_self, and_true, true_and]
/-- one word of the class's is compared -/
theorem scan_word {L s q k : Nat} {b : Nat → Int} {M : g_M} (hk : k < 33) (hs : s ≤ q) (hq : q ≤ L) (hL : L ≤ 300) (hb : ∀ i, i < L → 0 ≤ b i ∧ b i ≤ 255 ∧ M 24 i = b i) (h5 : M 23 5 = q) (h6 : M 23 6 = s) (h7 : M 23 7 = 42) : ∀ (d j : Nat) (x : Int), j + d = wN k → (((∀ i, i < j → i < q - s ∧ b (s + i) = chW k i) ∧ x = ((s + j : Nat) : Int)) ∨ (¬ (∀ i, i < j → i < q - s ∧ b (s + i) = chW k i) ∧ x = -1)) → ∃ T : Nat, ((T = k ∧ WD (fun i => b (s + i)) (q - s) k) ∨ (T = 42 ∧ ¬ WD (fun i => b (s + i)) (q - s) k)) ∧ ∀ g, m_X4_scanWord_L54 (g + (d + 1)) k x ((wO k + j : Nat) : Int) M = m_X4_scanWord_L54 g ((k + 1 : Nat) : Int) s ((wO (k + 1) : Nat) : Int) (g_wr M 23 7 T) := by
  obtain ⟨⟨t1, t2, t3, t4, t5⟩, t6⟩ := w_k hk
  have sn : x_sl 0 = 160 := rfl
  intro d
  induction d with
  | zero =>
    intro j x hj hx
    obtain rfl : j = wN k := by omega
    have e : x_sc 0 (wO k + wN k) = 32 := t5
    by_cases z : x = q
    · refine ⟨k, Or.inl ⟨rfl, ?_⟩, fun g => ?_⟩
      · rcases hx with ⟨a, a2⟩ | ⟨a, a2⟩
        · exact ⟨by omega, fun i hi => (a i (by omega)).2⟩
        · omega
      · rw [m_X4_scanWord_L54]
        simp (disch := omega) only [↓reduceIte, ↓nm_eq, ↓jn_eq, ↓c_within, ↓c_isIn, ↓c_isScene, ↓c_isPlace, ↓c_isCue, ↓c_isDigit, ↓d_isScene, ↓d_isAny, ↓ta_pb1, ↓ta_pb0, ↓ta_pb1', ↓ta_pb0', ta_lt, ta_nlt, ta_le, ta_nle, ta_eq, ta_neq, ta_nne, ta_ne, gs_id, a_gd01, a_gdT, or_true, true_or, bd_some, bW_sm, a_gd, a_ne, a_rd, Int.toNat_natCast, Int.toNat_add, Int.toNat_mul, Int.reduceToNat, a_gdp, a_cell, and_self, and_true, true_and, h7, sn, e, h5, h6, t1]
        rfl
    · refine ⟨42, Or.inr ⟨rfl, fun w => ?_⟩, fun g => ?_⟩
      · obtain ⟨w1, w2⟩ := w
        rcases hx with ⟨a, a2⟩ | ⟨a, a2⟩
        · omega
        · exact a (fun i hi => ⟨by omega, w2 i (by omega)⟩)
      · rw [m_X4_scanWord_L54]
        simp (disch := omega) only [↓reduceIte, ↓nm_eq, ↓jn_eq, ↓c_within, ↓c_isIn, ↓c_isScene, ↓c_isPlace, ↓c_isCue, ↓c_isDigit, ↓d_isScene, ↓d_isAny, ↓ta_pb1, ↓ta_pb0, ↓ta_pb1', ↓ta_pb0', ta_lt, ta_nlt, ta_le, ta_nle, ta_eq, ta_neq, ta_nne, ta_ne, gs_id, a_gd01, a_gdT, or_true, true_or, bd_some, bW_sm, a_gd, a_ne, a_rd, Int.toNat_natCast, Int.toNat_add, Int.toNat_mul, Int.reduceToNat, a_gdp, a_cell, and_self, and_true, true_and, h7, sn, e, h5, h6, t1]
        rfl
  | succ d ih =>
    intro j x hj hx
    have e := t6 j (by omega)
    have e0 : x_sc 0 (wO k + j) = chW k j := rfl
    have stp : ∀ y : Int, (((∀ i, i < j + 1 → i < q - s ∧ b (s + i) = chW k i) ∧ y = ((s + (j + 1) : Nat) : Int)) ∨ (¬ (∀ i, i < j + 1 → i < q - s ∧ b (s + i) = chW k i) ∧ y = -1)) → (∀ g, m_X4_scanWord_L54 (g + 1) k x ((wO k + j : Nat) : Int) M = m_X4_scanWord_L54 g k y ((wO k + (j + 1) : Nat) : Int) M) → ∃ T : Nat, ((T = k ∧ WD (fun i => b (s + i)) (q - s) k) ∨ (T = 42 ∧ ¬ WD (fun i => b (s + i)) (q - s) k)) ∧ ∀ g, m_X4_scanWord_L54 (g + (d + 1 + 1)) k x ((wO k + j : Nat) : Int) M = m_X4_scanWord_L54 g ((k + 1 : Nat) : Int) s ((wO (k + 1) : Nat) : Int) (g_wr M 23 7 T) := by
      intro y hy hg
      obtain ⟨T, T1, T2⟩ := ih (j + 1) y (by omega) hy
      refine ⟨T, T1, fun g => ?_⟩
      rw [← T2 g, ← hg]
      rfl
    have i1 : ((wO k + (j + 1) : Nat) : Int) = ((wO k + j : Nat) : Int) + 1 := by omega
    rcases hx with ⟨a, a2⟩ | ⟨a, a2⟩
    · by_cases c1 : s + j < q
      · obtain ⟨b1, b2, b3⟩ := hb (s + j) (by omega)
        by_cases c2 : b (s + j) = chW k j
        · refine stp ((s + (j + 1) : Nat) : Int) (Or.inl ⟨fun i hi => ?_, rfl⟩) (fun g => ?_)
          · by_cases z : i = j
            · rw [z]; exact ⟨by omega, c2⟩
            · exact a i (by omega)
          · rw [m_X4_scanWord_L54, i1, a2, show ((s + (j + 1) : Nat) : Int) = ((s + j : Nat) : Int) + 1 by omega]
            simp (disch := omega) only [↓reduceIte, ↓nm_eq, ↓jn_eq, ↓c_within, ↓c_isIn, ↓c_isScene, ↓c_isPlace, ↓c_isCue, ↓c_isDigit, ↓d_isScene, ↓d_isAny, ↓ta_pb1, ↓ta_pb0, ↓ta_pb1', ↓ta_pb0', ta_lt, ta_nlt, ta_le, ta_nle, ta_eq, ta_neq, ta_nne, ta_ne, gs_id, a_gd01, a_gdT, or_true, true_or, bd_some, bW_sm, a_gd, a_ne, a_rd, Int.toNat_natCast, Int.toNat_add, Int.toNat_mul, Int.reduceToNat, a_gdp, a_cell, and_self, and_true, true_and, h7, sn, e0, h5, h6, b3, c2]
        · refine stp (-1) (Or.inr ⟨fun w => c2 (w j (by omega)).2, rfl⟩) (fun g => ?_)
          rw [m_X4_scanWord_L54, i1, a2]
          simp (disch := omega) only [↓reduceIte, ↓nm_eq, ↓jn_eq, ↓c_within, ↓c_isIn, ↓c_isScene, ↓c_isPlace, ↓c_isCue, ↓c_isDigit, ↓d_isScene, ↓d_isAny, ↓ta_pb1, ↓ta_pb0, ↓ta_pb1', ↓ta_pb0', ta_lt, ta_nlt, ta_le, ta_nle, ta_eq, ta_neq, ta_nne, ta_ne, gs_id, a_gd01, a_gdT, or_true, true_or, bd_some, bW_sm, a_gd, a_ne, a_rd, Int.toNat_natCast, Int.toNat_add, Int.toNat_mul, Int.reduceToNat, a_gdp, a_cell, and_self, and_true, true_and, h7, sn, e0, h5, h6, b3, c2]
      · refine stp (-1) (Or.inr ⟨fun w => c1 (by have := (w j (by omega)).1; omega), rfl⟩) (fun g => ?_)
        rw [m_X4_scanWord_L54, i1, a2]
        simp (disch := omega) only [↓reduceIte, ↓nm_eq, ↓jn_eq, ↓c_within, ↓c_isIn, ↓c_isScene, ↓c_isPlace, ↓c_isCue, ↓c_isDigit, ↓d_isScene, ↓d_isAny, ↓ta_pb1, ↓ta_pb0, ↓ta_pb1', ↓ta_pb0', ta_lt, ta_nlt, ta_le, ta_nle, ta_eq, ta_neq, ta_nne, ta_ne, gs_id, a_gd01, a_gdT, or_true, true_or, bd_some, bW_sm, a_gd, a_ne, a_rd, Int.toNat_natCast, Int.toNat_add, Int.toNat_mul, Int.reduceToNat, a_gdp, a_cell, and_self, and_true, true_and, h7, sn, e0, h5, h6]
    · refine stp (-1) (Or.inr ⟨fun w => a (fun i hi => w i (by omega)), rfl⟩) (fun g => ?_)
      rw [m_X4_scanWord_L54, i1, a2]
      simp (disch := omega) only [↓reduceIte, ↓nm_eq, ↓jn_eq, ↓c_within, ↓c_isIn, ↓c_isScene, ↓c_isPlace, ↓c_isCue, ↓c_isDigit, ↓d_isScene, ↓d_isAny, ↓ta_pb1, ↓ta_pb0, ↓ta_pb1', ↓ta_pb0', ta_lt, ta_nlt, ta_le, ta_nle, ta_eq, ta_neq, ta_nne, ta_ne, gs_id, a_gd01, a_gdT, or_true, true_or, bd_some, bW_sm, a_gd, a_ne, a_rd, Int.toNat_natCast, Int.toNat_add, Int.toNat_mul, Int.reduceToNat, a_gdp, a_cell, and_self, and_true, true_and, h7, sn, e0, h5, h6]
