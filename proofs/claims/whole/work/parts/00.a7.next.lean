/-! tokens: the reference's loops; the next token in both -/
theorem q_byte {L i : Nat} {b : Nat → Int} {V : g_M} (hL : L ≤ 300) (h4 : V 0 4 = L) (hb : ∀ i, i < L → V 4 i = b i) (hi : i < L) : m_X9_byteAt i V = some (b i) := by
  have e := hb i hi
  unfold m_X9_byteAt
  simp (disch := omega) only [↓reduceIte, ↓nm_eq, ↓jn_eq, ↓c_within, ↓c_isIn, ↓c_isScene, ↓c_isPlace, ↓c_isCue, ↓c_isDigit, ↓d_isScene, ↓d_isAny, ↓ta_pb1, ↓ta_pb0, ↓ta_pb1', ↓ta_pb0', ta_lt, ta_nlt, ta_le, ta_nle, ta_eq, ta_neq, ta_nne, ta_ne, gs_id, a_gd01, a_gdT, or_true, true_or, bd_some, bW_sm, a_gd, a_ne, a_rd, Int.toNat_natCast, Int.toNat_add, Int.toNat_mul, Int.reduceToNat, a_gdp, a_cell, and_self, and_true, true_and, h4, e]
theorem q_byteE {L : Nat} {V : g_M} (hL : L ≤ 300) (h4 : V 0 4 = L) : m_X9_byteAt L V = some (-1) := by
  unfold m_X9_byteAt
  simp (disch := omega) only [↓reduceIte, ↓nm_eq, ↓jn_eq, ↓c_within, ↓c_isIn, ↓c_isScene, ↓c_isPlace, ↓c_isCue, ↓c_isDigit, ↓d_isScene, ↓d_isAny, ↓ta_pb1, ↓ta_pb0, ↓ta_pb1', ↓ta_pb0', ta_lt, ta_nlt, ta_le, ta_nle, ta_eq, ta_neq, ta_nne, ta_ne, gs_id, a_gd01, a_gdT, or_true, true_or, bd_some, bW_sm, a_gd, a_ne, a_rd, Int.toNat_natCast, Int.toNat_add, Int.toNat_mul, Int.reduceToNat, a_gdp, a_cell, and_self, and_true, true_and, h4]
theorem q_isLetter {c : Int} (h : -1 ≤ c ∧ c ≤ 255) : (isL c → m_X9_isLetterByte c = some 1) ∧ (¬ isL c → m_X9_isLetterByte c = some 0) := by
  unfold isL m_X9_isLetterByte
  refine ⟨fun z => ?_, fun z => ?_⟩
  · by_cases c1 : c < 97
    · simp (disch := omega) only [↓reduceIte, ↓nm_eq, ↓jn_eq, ↓c_within, ↓c_isIn, ↓c_isScene, ↓c_isPlace, ↓c_isCue, ↓c_isDigit, ↓d_isScene, ↓d_isAny, ↓ta_pb1, ↓ta_pb0, ↓ta_pb1', ↓ta_pb0', ta_lt, ta_nlt, ta_le, ta_nle, ta_eq, ta_neq, ta_nne, ta_ne, gs_id, a_gd01, a_gdT, or_true, true_or, bd_some, bW_sm, a_gd, a_ne, a_rd, Int.toNat_natCast, Int.toNat_add, Int.toNat_mul, Int.reduceToNat, a_gdp, a_cell, and_self, and_true, true_and]
    · simp (disch := omega) only [↓reduceIte, ↓nm_eq, ↓jn_eq, ↓c_within, ↓c_isIn, ↓c_isScene, ↓c_isPlace, ↓c_isCue, ↓c_isDigit, ↓d_isScene, ↓d_isAny, ↓ta_pb1, ↓ta_pb0, ↓ta_pb1', ↓ta_pb0', ta_lt, ta_nlt, ta_le, ta_nle, ta_eq, ta_neq, ta_nne, ta_ne, gs_id, a_gd01, a_gdT, or_true, true_or, bd_some, bW_sm, a_gd, a_ne, a_rd, Int.toNat_natCast, Int.toNat_add, Int.toNat_mul, Int.reduceToNat, a_gdp, a_cell, and_self, and_true, true_and]
  · by_cases c1 : c < 97
    · by_cases c2 : c < 65
      · simp (disch := omega) only [↓reduceIte, ↓nm_eq, ↓jn_eq, ↓c_within, ↓c_isIn, ↓c_isScene, ↓c_isPlace, ↓c_isCue, ↓c_isDigit, ↓d_isScene, ↓d_isAny, ↓ta_pb1, ↓ta_pb0, ↓ta_pb1', ↓ta_pb0', ta_lt, ta_nlt, ta_le, ta_nle, ta_eq, ta_neq, ta_nne, ta_ne, gs_id, a_gd01, a_gdT, or_true, true_or, bd_some, bW_sm, a_gd, a_ne, a_rd, Int.toNat_natCast, Int.toNat_add, Int.toNat_mul, Int.reduceToNat, a_gdp, a_cell, and_self, and_true, true_and]
      · simp (disch := omega) only [↓reduceIte, ↓nm_eq, ↓jn_eq, ↓c_within, ↓c_isIn, ↓c_isScene, ↓c_isPlace, ↓c_isCue, ↓c_isDigit, ↓d_isScene, ↓d_isAny, ↓ta_pb1, ↓ta_pb0, ↓ta_pb1', ↓ta_pb0', ta_lt, ta_nlt, ta_le, ta_nle, ta_eq, ta_neq, ta_nne, ta_ne, gs_id, a_gd01, a_gdT, or_true, true_or, bd_some, bW_sm, a_gd, a_ne, a_rd, Int.toNat_natCast, Int.toNat_add, Int.toNat_mul, Int.reduceToNat, a_gdp, a_cell, and_self, and_true, true_and]
    · simp (disch := omega) only [↓reduceIte, ↓nm_eq, ↓jn_eq, ↓c_within, ↓c_isIn, ↓c_isScene, ↓c_isPlace, ↓c_isCue, ↓c_isDigit, ↓d_isScene, ↓d_isAny, ↓ta_pb1, ↓ta_pb0, ↓ta_pb1', ↓ta_pb0', ta_lt, ta_nlt, ta_le, ta_nle, ta_eq, ta_neq, ta_nne, ta_ne, gs_id, a_gd01, a_gdT, or_true, true_or, bd_some, bW_sm, a_gd, a_ne, a_rd, Int.toNat_natCast, Int.toNat_add, Int.toNat_mul, Int.reduceToNat, a_gdp, a_cell, and_self, and_true, true_and]
theorem q_isFigure {c : Int} (h : -1 ≤ c ∧ c ≤ 255) : (isD c → m_X9_isFigure c = some 1) ∧ (¬ isD c → m_X9_isFigure c = some 0) := by
  unfold isD m_X9_isFigure
  refine ⟨fun z => ?_, fun z => ?_⟩
  · simp (disch := omega) only [↓reduceIte, ↓nm_eq, ↓jn_eq, ↓c_within, ↓c_isIn, ↓c_isScene, ↓c_isPlace, ↓c_isCue, ↓c_isDigit, ↓d_isScene, ↓d_isAny, ↓ta_pb1, ↓ta_pb0, ↓ta_pb1', ↓ta_pb0', ta_lt, ta_nlt, ta_le, ta_nle, ta_eq, ta_neq, ta_nne, ta_ne, gs_id, a_gd01, a_gdT, or_true, true_or, bd_some, bW_sm, a_gd, a_ne, a_rd, Int.toNat_natCast, Int.toNat_add, Int.toNat_mul, Int.reduceToNat, a_gdp, a_cell, and_self, and_true, true_and]
  · by_cases c1 : c < 48
    · simp (disch := omega) only [↓reduceIte, ↓nm_eq, ↓jn_eq, ↓c_within, ↓c_isIn, ↓c_isScene, ↓c_isPlace, ↓c_isCue, ↓c_isDigit, ↓d_isScene, ↓d_isAny, ↓ta_pb1, ↓ta_pb0, ↓ta_pb1', ↓ta_pb0', ta_lt, ta_nlt, ta_le, ta_nle, ta_eq, ta_neq, ta_nne, ta_ne, gs_id, a_gd01, a_gdT, or_true, true_or, bd_some, bW_sm, a_gd, a_ne, a_rd, Int.toNat_natCast, Int.toNat_add, Int.toNat_mul, Int.reduceToNat, a_gdp, a_cell, and_self, and_true, true_and]
    · simp (disch := omega) only [↓reduceIte, ↓nm_eq, ↓jn_eq, ↓c_within, ↓c_isIn, ↓c_isScene, ↓c_isPlace, ↓c_isCue, ↓c_isDigit, ↓d_isScene, ↓d_isAny, ↓ta_pb1, ↓ta_pb0, ↓ta_pb1', ↓ta_pb0', ta_lt, ta_nlt, ta_le, ta_nle, ta_eq, ta_neq, ta_nne, ta_ne, gs_id, a_gd01, a_gdT, or_true, true_or, bd_some, bW_sm, a_gd, a_ne, a_rd, Int.toNat_natCast, Int.toNat_add, Int.toNat_mul, Int.reduceToNat, a_gdp, a_cell, and_self, and_true, true_and]
theorem r_blank {L s : Nat} {b : Nat → Int} {W : g_M} {K : g_M → Option g_M} (hL : L ≤ 300) (hs : s ≤ L) (hb : ∀ i, i < L → 0 ≤ b i ∧ b i ≤ 255) (h4 : W 0 4 = L) (ht : ∀ i, i < L → W 4 i = b i) (h3 : s = L ∨ ¬ isB (b s)) : ∀ (d i f : Nat), i + d = s → d < f → (∀ y, i ≤ y → y < s → isB (b y)) → m_X9_nextToken_L0 K f (g_wr W 0 7 i) = K (g_wr W 0 7 s) := by
  have hV : ∀ (i : Nat) (x : Int), i < L → m_X9_byteAt i (g_wr W 0 7 x) = some (b i) := fun i x hi => q_byte hL (by rw [a_ne _ (by omega)]; exact h4) (fun y hy => by rw [a_cell _ (by omega)]; exact ht y hy) hi
  have hE : ∀ x : Int, m_X9_byteAt L (g_wr W 0 7 x) = some (-1) := fun x => q_byteE hL (by rw [a_ne _ (by omega)]; exact h4)
  intro d
  induction d with
  | zero =>
    intro i f h1 hf hy
    obtain ⟨f, rfl⟩ : ∃ g', f = g' + 1 := ⟨f - 1, by omega⟩
    obtain rfl : i = s := by omega
    rw [m_X9_nextToken_L0]
    by_cases c2 : i = L
    · subst c2
      simp (disch := omega) only [↓reduceIte, ↓nm_eq, ↓jn_eq, ↓c_within, ↓c_isIn, ↓c_isScene, ↓c_isPlace, ↓c_isCue, ↓c_isDigit, ↓d_isScene, ↓d_isAny, ↓ta_pb1, ↓ta_pb0, ↓ta_pb1', ↓ta_pb0', ta_lt, ta_nlt, ta_le, ta_nle, ta_eq, ta_neq, ta_nne, ta_ne, gs_id, a_gd01, a_gdT, or_true, true_or, bd_some, bW_sm, a_gd, a_ne, a_rd, Int.toNat_natCast, Int.toNat_add, Int.toNat_mul, Int.reduceToNat, a_gdp, a_cell, and_self, and_true, true_and, hE]
    · have c : ¬ isB (b i) := by
        rcases h3 with c | c
        · omega
        · exact c
      have b1 := hb i (by omega)
      have z := hV i i (by omega)
      unfold isB at c
      simp (disch := omega) only [↓reduceIte, ↓nm_eq, ↓jn_eq, ↓c_within, ↓c_isIn, ↓c_isScene, ↓c_isPlace, ↓c_isCue, ↓c_isDigit, ↓d_isScene, ↓d_isAny, ↓ta_pb1, ↓ta_pb0, ↓ta_pb1', ↓ta_pb0', ta_lt, ta_nlt, ta_le, ta_nle, ta_eq, ta_neq, ta_nne, ta_ne, gs_id, a_gd01, a_gdT, or_true, true_or, bd_some, bW_sm, a_gd, a_ne, a_rd, Int.toNat_natCast, Int.toNat_add, Int.toNat_mul, Int.reduceToNat, a_gdp, a_cell, and_self, and_true, true_and, z]
  | succ d ih =>
    intro i f h1 hf hy
    obtain ⟨f, rfl⟩ : ∃ g', f = g' + 1 := ⟨f - 1, by omega⟩
    have b1 := hb i (by omega)
    have z := hV i i (by omega)
    have a := ih (i + 1) f (by omega) (by omega) (fun y y1 y2 => hy y (by omega) y2)
    rw [Int.natCast_add, Int.natCast_one] at a
    rw [m_X9_nextToken_L0]
    rcases hy i (by omega) (by omega) with c | c
    · simp (disch := omega) only [↓reduceIte, ↓nm_eq, ↓jn_eq, ↓c_within, ↓c_isIn, ↓c_isScene, ↓c_isPlace, ↓c_isCue, ↓c_isDigit, ↓d_isScene, ↓d_isAny, ↓ta_pb1, ↓ta_pb0, ↓ta_pb1', ↓ta_pb0', ta_lt, ta_nlt, ta_le, ta_nle, ta_eq, ta_neq, ta_nne, ta_ne, gs_id, a_gd01, a_gdT, or_true, true_or, bd_some, bW_sm, a_gd, a_ne, a_rd, Int.toNat_natCast, Int.toNat_add, Int.toNat_mul, Int.reduceToNat, a_gdp, a_cell, and_self, and_true, true_and, z, c, wr_wr, a]
    · simp (disch := omega) only [↓reduceIte, ↓nm_eq, ↓jn_eq, ↓c_within, ↓c_isIn, ↓c_isScene, ↓c_isPlace, ↓c_isCue, ↓c_isDigit, ↓d_isScene, ↓d_isAny, ↓ta_pb1, ↓ta_pb0, ↓ta_pb1', ↓ta_pb0', ta_lt, ta_nlt, ta_le, ta_nle, ta_eq, ta_neq, ta_nne, ta_ne, gs_id, a_gd01, a_gdT, or_true, true_or, bd_some, bW_sm, a_gd, a_ne, a_rd, Int.toNat_natCast, Int.toNat_add, Int.toNat_mul, Int.reduceToNat, a_gdp, a_cell, and_self, and_true, true_and, z, c, wr_wr, a]
theorem gcmp_00 : g_cmp 0 0 = 0 := by decide +kernel
theorem gcmp_pos {x : Int} (h : 1 ≤ x ∧ x ≤ 1000000) : g_cmp x 0 = 1 := by
  unfold g_cmp
  rw [L_id (by omega) (by omega), L_id (by omega) (by omega), if_pos (by omega)]
theorem r_letter {L s0 s : Nat} {b : Nat → Int} {W : g_M} (hL : L ≤ 300) (hs : s ≤ L) (hb : ∀ i, i < L → 0 ≤ b i ∧ b i ≤ 255) (h4 : W 0 4 = L) (ht : ∀ i, i < L → W 4 i = b i) (h3 : s = L ∨ ¬ isL (b s)) (hy : ∀ y, s0 ≤ y → y < s → isL (b y)) : ∀ (d i f : Nat), s0 + i + d = s → d < f → m_X9_nextToken_L168 f (g_wr (g_wr W 0 11 (wv (fun i => b (s0 + i)) i)) 0 7 ((s0 + i : Nat) : Int)) = some (g_wr (g_wr W 0 11 (wv (fun i => b (s0 + i)) (s - s0))) 0 7 s) := by
  have hV : ∀ (i : Nat) (x y : Int), i < L → m_X9_byteAt i (g_wr (g_wr W 0 11 x) 0 7 y) = some (b i) := fun i x y hi => q_byte hL (by rw [a_ne _ (by omega), a_ne _ (by omega)]; exact h4) (fun z hz => by rw [a_cell _ (by omega), a_cell _ (by omega)]; exact ht z hz) hi
  have hE : ∀ x y : Int, m_X9_byteAt L (g_wr (g_wr W 0 11 x) 0 7 y) = some (-1) := fun x y => q_byteE hL (by rw [a_ne _ (by omega), a_ne _ (by omega)]; exact h4)
  intro d
  induction d with
  | zero =>
    intro i f h1 hf
    obtain ⟨f, rfl⟩ : ∃ g', f = g' + 1 := ⟨f - 1, by omega⟩
    obtain rfl : s = s0 + i := by omega
    rw [show s0 + i - s0 = i by omega, m_X9_nextToken_L168]
    by_cases c2 : s0 + i = L
    · have z := hE (wv (fun i => b (s0 + i)) i) ((s0 + i : Nat) : Int)
      rw [← c2] at z
      have z2 := (q_isLetter (c := -1) (by omega)).2 (by unfold isL; omega)
      simp (disch := omega) only [↓reduceIte, ↓nm_eq, ↓jn_eq, ↓c_within, ↓c_isIn, ↓c_isScene, ↓c_isPlace, ↓c_isCue, ↓c_isDigit, ↓d_isScene, ↓d_isAny, ↓ta_pb1, ↓ta_pb0, ↓ta_pb1', ↓ta_pb0', ta_lt, ta_nlt, ta_le, ta_nle, ta_eq, ta_neq, ta_nne, ta_ne, gs_id, a_gd01, a_gdT, or_true, true_or, bd_some, bW_sm, a_gd, a_ne, a_rd, Int.toNat_natCast, Int.toNat_add, Int.toNat_mul, Int.reduceToNat, a_gdp, a_cell, and_self, and_true, true_and, z, z2]
    · have c : ¬ isL (b (s0 + i)) := by
        rcases h3 with c | c
        · omega
        · exact c
      have b1 := hb (s0 + i) (by omega)
      have z := hV (s0 + i) (wv (fun i => b (s0 + i)) i) ((s0 + i : Nat) : Int) (by omega)
      have z2 := (q_isLetter (c := b (s0 + i)) (by omega)).2 c
      simp (disch := omega) only [↓reduceIte, ↓nm_eq, ↓jn_eq, ↓c_within, ↓c_isIn, ↓c_isScene, ↓c_isPlace, ↓c_isCue, ↓c_isDigit, ↓d_isScene, ↓d_isAny, ↓ta_pb1, ↓ta_pb0, ↓ta_pb1', ↓ta_pb0', ta_lt, ta_nlt, ta_le, ta_nle, ta_eq, ta_neq, ta_nne, ta_ne, gs_id, a_gd01, a_gdT, or_true, true_or, bd_some, bW_sm, a_gd, a_ne, a_rd, Int.toNat_natCast, Int.toNat_add, Int.toNat_mul, Int.reduceToNat, a_gdp, a_cell, and_self, and_true, true_and, z, z2]
  | succ d ih =>
    intro i f h1 hf
    obtain ⟨f, rfl⟩ : ∃ g', f = g' + 1 := ⟨f - 1, by omega⟩
    have b1 := hb (s0 + i) (by omega)
    have z := hV (s0 + i) (wv (fun i => b (s0 + i)) i) ((s0 + i : Nat) : Int) (by omega)
    have z2 := (q_isLetter (c := b (s0 + i)) (by omega)).1 (hy _ (by omega) (by omega))
    have a := ih (i + 1) f (by omega) (by omega)
    have st := wv_step (f := fun i => b (s0 + i)) (n := i) (fun y hh => by
      have := hy (s0 + y) (by omega) (by omega)
      unfold isL at this
      show 1 ≤ b (s0 + y) ∧ b (s0 + y) ≤ 255
      omega)
    rw [← a, m_X9_nextToken_L168]
    by_cases c6 : i ≤ 6
    · obtain ⟨e1, e2⟩ := st.1 c6
      have e2 : g_lor (g_lshl (wv (fun i => b (s0 + i)) i) 8) (b (s0 + i)) = wv (fun i => b (s0 + i)) (i + 1) := e2
      simp (disch := omega) only [↓reduceIte, ↓nm_eq, ↓jn_eq, ↓c_within, ↓c_isIn, ↓c_isScene, ↓c_isPlace, ↓c_isCue, ↓c_isDigit, ↓d_isScene, ↓d_isAny, ↓ta_pb1, ↓ta_pb0, ↓ta_pb1', ↓ta_pb0', ta_lt, ta_nlt, ta_le, ta_nle, ta_eq, ta_neq, ta_nne, ta_ne, gs_id, a_gd01, a_gdT, or_true, true_or, bd_some, bW_sm, a_gd, a_ne, a_rd, Int.toNat_natCast, Int.toNat_add, Int.toNat_mul, Int.reduceToNat, a_gdp, a_cell, and_self, and_true, true_and, z, z2, e1, gcmp_00, e2]
      rw [wr_4 _ (by omega)]
      rfl
    · obtain ⟨e1, e2, e3⟩ := st.2 c6
      simp (disch := omega) only [↓reduceIte, ↓nm_eq, ↓jn_eq, ↓c_within, ↓c_isIn, ↓c_isScene, ↓c_isPlace, ↓c_isCue, ↓c_isDigit, ↓d_isScene, ↓d_isAny, ↓ta_pb1, ↓ta_pb0, ↓ta_pb1', ↓ta_pb0', ta_lt, ta_nlt, ta_le, ta_nle, ta_eq, ta_neq, ta_nne, ta_ne, gs_id, a_gd01, a_gdT, or_true, true_or, bd_some, bW_sm, a_gd, a_ne, a_rd, Int.toNat_natCast, Int.toNat_add, Int.toNat_mul, Int.reduceToNat, a_gdp, a_cell, and_self, and_true, true_and, z, z2, gcmp_pos ⟨e1, Int.le_trans e2 (by omega)⟩]
      rw [wr_4 _ (by omega), e3]
      rfl
theorem r_digit {L s0 s : Nat} {b : Nat → Int} {W : g_M} (hL : L ≤ 300) (hs : s ≤ L) (hb : ∀ i, i < L → 0 ≤ b i ∧ b i ≤ 255) (h4 : W 0 4 = L) (ht : ∀ i, i < L → W 4 i = b i) (h3 : s = L ∨ ¬ isD (b s)) (hy : ∀ y, s0 ≤ y → y < s → isD (b y)) : ∀ (d i f : Nat), s0 + i + d = s → d < f → m_X9_nextToken_L85 f (g_wr (g_wr W 0 10 (rn (fun i => b (s0 + i)) i)) 0 7 ((s0 + i : Nat) : Int)) = some (g_wr (g_wr W 0 10 (rn (fun i => b (s0 + i)) (s - s0))) 0 7 s) := by
  have hV : ∀ (i : Nat) (x y : Int), i < L → m_X9_byteAt i (g_wr (g_wr W 0 10 x) 0 7 y) = some (b i) := fun i x y hi => q_byte hL (by rw [a_ne _ (by omega), a_ne _ (by omega)]; exact h4) (fun z hz => by rw [a_cell _ (by omega), a_cell _ (by omega)]; exact ht z hz) hi
  have hE : ∀ x y : Int, m_X9_byteAt L (g_wr (g_wr W 0 10 x) 0 7 y) = some (-1) := fun x y => q_byteE hL (by rw [a_ne _ (by omega), a_ne _ (by omega)]; exact h4)
  intro d
  induction d with
  | zero =>
    intro i f h1 hf
    obtain ⟨f, rfl⟩ : ∃ g', f = g' + 1 := ⟨f - 1, by omega⟩
    obtain rfl : s = s0 + i := by omega
    rw [show s0 + i - s0 = i by omega, m_X9_nextToken_L85]
    by_cases c2 : s0 + i = L
    · have z := hE (rn (fun i => b (s0 + i)) i) ((s0 + i : Nat) : Int)
      rw [← c2] at z
      have z2 := (q_isFigure (c := -1) (by omega)).2 (by unfold isD; omega)
      simp (disch := omega) only [↓reduceIte, ↓nm_eq, ↓jn_eq, ↓c_within, ↓c_isIn, ↓c_isScene, ↓c_isPlace, ↓c_isCue, ↓c_isDigit, ↓d_isScene, ↓d_isAny, ↓ta_pb1, ↓ta_pb0, ↓ta_pb1', ↓ta_pb0', ta_lt, ta_nlt, ta_le, ta_nle, ta_eq, ta_neq, ta_nne, ta_ne, gs_id, a_gd01, a_gdT, or_true, true_or, bd_some, bW_sm, a_gd, a_ne, a_rd, Int.toNat_natCast, Int.toNat_add, Int.toNat_mul, Int.reduceToNat, a_gdp, a_cell, and_self, and_true, true_and, z, z2]
    · have c : ¬ isD (b (s0 + i)) := by
        rcases h3 with c | c
        · omega
        · exact c
      have b1 := hb (s0 + i) (by omega)
      have z := hV (s0 + i) (rn (fun i => b (s0 + i)) i) ((s0 + i : Nat) : Int) (by omega)
      have z2 := (q_isFigure (c := b (s0 + i)) (by omega)).2 c
      simp (disch := omega) only [↓reduceIte, ↓nm_eq, ↓jn_eq, ↓c_within, ↓c_isIn, ↓c_isScene, ↓c_isPlace, ↓c_isCue, ↓c_isDigit, ↓d_isScene, ↓d_isAny, ↓ta_pb1, ↓ta_pb0, ↓ta_pb1', ↓ta_pb0', ta_lt, ta_nlt, ta_le, ta_nle, ta_eq, ta_neq, ta_nne, ta_ne, gs_id, a_gd01, a_gdT, or_true, true_or, bd_some, bW_sm, a_gd, a_ne, a_rd, Int.toNat_natCast, Int.toNat_add, Int.toNat_mul, Int.reduceToNat, a_gdp, a_cell, and_self, and_true, true_and, z, z2]
  | succ d ih =>
    intro i f h1 hf
    obtain ⟨f, rfl⟩ : ∃ g', f = g' + 1 := ⟨f - 1, by omega⟩
    have b1 := hb (s0 + i) (by omega)
    have z := hV (s0 + i) (rn (fun i => b (s0 + i)) i) ((s0 + i : Nat) : Int) (by omega)
    have z2 := (q_isFigure (c := b (s0 + i)) (by omega)).1 (hy _ (by omega) (by omega))
    have a := ih (i + 1) f (by omega) (by omega)
    obtain ⟨-, ⟨n1, n2⟩, -⟩ := num_rel (f := fun i => b (s0 + i)) i (fun y hh => hy _ (by omega) (by omega))
    have e : rn (fun i => b (s0 + i)) (i + 1) = if 99999 < rn (fun i => b (s0 + i)) i then rn (fun i => b (s0 + i)) i else 10 * rn (fun i => b (s0 + i)) i + b (s0 + i) - 48 := rfl
    rw [← a, m_X9_nextToken_L85]
    by_cases c6 : 99999 < rn (fun i => b (s0 + i)) i
    · rw [if_pos c6] at e
      simp (disch := omega) only [↓reduceIte, ↓nm_eq, ↓jn_eq, ↓c_within, ↓c_isIn, ↓c_isScene, ↓c_isPlace, ↓c_isCue, ↓c_isDigit, ↓d_isScene, ↓d_isAny, ↓ta_pb1, ↓ta_pb0, ↓ta_pb1', ↓ta_pb0', ta_lt, ta_nlt, ta_le, ta_nle, ta_eq, ta_neq, ta_nne, ta_ne, gs_id, a_gd01, a_gdT, or_true, true_or, bd_some, bW_sm, a_gd, a_ne, a_rd, Int.toNat_natCast, Int.toNat_add, Int.toNat_mul, Int.reduceToNat, a_gdp, a_cell, and_self, and_true, true_and, z, z2]
      rw [wr_4 _ (by omega), e]
      rfl
    · rw [if_neg c6] at e
      simp (disch := omega) only [↓reduceIte, ↓nm_eq, ↓jn_eq, ↓c_within, ↓c_isIn, ↓c_isScene, ↓c_isPlace, ↓c_isCue, ↓c_isDigit, ↓d_isScene, ↓d_isAny, ↓ta_pb1, ↓ta_pb0, ↓ta_pb1', ↓ta_pb0', ta_lt, ta_nlt, ta_le, ta_nle, ta_eq, ta_neq, ta_nne, ta_ne, gs_id, a_gd01, a_gdT, or_true, true_or, bd_some, bW_sm, a_gd, a_ne, a_rd, Int.toNat_natCast, Int.toNat_add, Int.toNat_mul, Int.reduceToNat, a_gdp, a_cell, and_self, and_true, true_and, z, z2]
      rw [wr_4 _ (by omega), e]
      rfl
