/-! odds, ways -/
theorem L_id {x : Int} (h1 : -9223372036854775808 ≤ x) (h2 : x < 9223372036854775808) : gl x = x := by
  unfold gl gJ
  rw [Int64.toInt_ofInt]
  exact Int.bmod_eq_of_le (by simpa using h1) (by simpa using h2)
/-- ways to the end, each weighing so much; t what one that is there weighs behind a cue -/
def cN (t : Int) (o : Nat → Int) (nx : Nat → Nat → Nat) : Nat → Nat → Int
  | 0, s => if s = 12 then 1 else 0
  | k + 1, s => if s = 12 then t * cN t o nx k 12 else sm (fun c => o c * cN t o nx k (nx s c)) 4
theorem cN_e (t : Int) (o : Nat → Int) (nx : Nat → Nat → Nat) (k : Nat) : cN t o nx (k + 1) 12 = t * cN t o nx k 12 := if_pos rfl
theorem cN_s (t : Int) (o : Nat → Int) (nx : Nat → Nat → Nat) (k : Nat) {s : Nat} (h : s ≠ 12) : cN t o nx (k + 1) s = sm (fun c => o c * cN t o nx k (nx s c)) 4 := if_neg h
theorem sm_s (f : Nat → Int) (n : Nat) : sm f (n + 1) = sm f n + f n := rfl
theorem sm_0 (f : Nat → Int) : sm f 0 = 0 := rfl
theorem sm_zero : ∀ n, sm (fun _ => 0) n = 0 := by
  intro n
  induction n with
  | zero => rfl
  | succ n ih => rw [sm_s, ih]; rfl
theorem sm_upd (g f : Nat → Int) (u : Nat) (v : Int) : ∀ n, sm (fun j => (if j = u then g j + v else g j) * f j) n = sm (fun j => g j * f j) n + if u < n then v * f u else 0 := by
  intro n
  induction n with
  | zero => rw [sm_0, sm_0, if_neg (by omega)]; rfl
  | succ n ih =>
    rw [sm_s, sm_s, ih]
    by_cases c : n = u
    · subst c
      rw [if_pos rfl, if_neg (by omega), if_pos (by omega), Int.add_mul]
      omega
    · rw [if_neg c]
      by_cases d : u < n
      · rw [if_pos d, if_pos (by omega)]; omega
      · rw [if_neg d, if_neg (by omega)]; omega
theorem cN_0s (t : Int) (o : Nat → Int) (nx : Nat → Nat → Nat) (T : Nat → Int) : ∀ n, n ≤ 12 → sm (fun j => T j * cN t o nx 0 j) n = 0 := by
  intro n
  induction n with
  | zero => intro _; rfl
  | succ n ih =>
    intro hn
    rw [sm_s, ih (by omega), show cN t o nx 0 n = 0 from if_neg (by omega), Int.mul_zero]
    rfl
theorem cN_b (o : Nat → Int) (nx : Nat → Nat → Nat) (h0 : ∀ c, c < 4 → 0 ≤ o c) (h10 : o 0 + o 1 + o 2 + o 3 = 10) (hn : ∀ s c, s ≤ 12 → c < 4 → nx s c ≤ 12) : ∀ k s, s ≤ 12 → 0 ≤ cN 10 o nx k s ∧ cN 10 o nx k s ≤ (10 : Int) ^ k := by
  intro k
  induction k with
  | zero =>
    intro s hs
    by_cases c : s = 12
    · rw [show cN 10 o nx 0 s = 1 from if_pos c]; exact ⟨by omega, Int.le_refl _⟩
    · rw [show cN 10 o nx 0 s = 0 from if_neg c]; exact ⟨by omega, by decide⟩
  | succ k ih =>
    intro s hs
    have ep : (10 : Int) ^ (k + 1) = 10 * 10 ^ k := by rw [Int.pow_succ, Int.mul_comm]
    rw [ep]
    by_cases c : s = 12
    · subst c
      rw [cN_e]
      have := ih 12 (by omega)
      omega
    · rw [cN_s _ _ _ _ c, sm_s, sm_s, sm_s, sm_s, sm_0]
      have a0 := ih _ (hn s 0 hs (by omega))
      have a1 := ih _ (hn s 1 hs (by omega))
      have a2 := ih _ (hn s 2 hs (by omega))
      have a3 := ih _ (hn s 3 hs (by omega))
      have o0 := h0 0 (by omega)
      have o1 := h0 1 (by omega)
      have o2 := h0 2 (by omega)
      have o3 := h0 3 (by omega)
      generalize (10 : Int) ^ k = B at *
      have m : ∀ (p x : Int), 0 ≤ p → 0 ≤ x ∧ x ≤ B → 0 ≤ p * x ∧ p * x ≤ p * B := fun p x hp hx => ⟨Int.mul_nonneg hp hx.1, Int.mul_le_mul_of_nonneg_left hx.2 hp⟩
      have b0 := m _ _ o0 a0
      have b1 := m _ _ o1 a1
      have b2 := m _ _ o2 a2
      have b3 := m _ _ o3 a3
      have e : 10 * B = o 0 * B + o 1 * B + o 2 * B + o 3 * B := by rw [← Int.add_mul, ← Int.add_mul, ← Int.add_mul, h10]
      omega
/-! the class -/
def CI (t : Int) (o : Nat → Int) (nx : Nat → Nat → Nat) (M0 : g_M) (k : Nat) (M : g_M) : Prop := (∀ a, a ≠ 72 → a ≠ 73 → M a = M0 a) ∧ ∀ s, s ≤ 12 → M 72 s = cN t o nx k s
theorem p_count {M : g_M} (t : Int) (o : Nat → Int) (nx : Nat → Nat → Nat) : ∃ M1, m_X0_countFromEnd M = some M1 ∧ (∀ a, a ≠ 68 → a ≠ 72 → M1 a = M a) ∧ M1 68 = cpF M 68 0 (svV M) 52 68 ∧ ∀ s, s ≤ 12 → M1 72 s = cN t o nx 0 s := by
  unfold m_X0_countFromEnd
  rw [p_survey, bd_some, nm_eq]
  obtain ⟨M1, hM1⟩ : ∃ M1, M1 = cpF M 68 0 (svV M) 52 := ⟨_, rfl⟩
  have key : m_X0_countFromEnd_L6 g_fuel 0 M1 = some (cpF M1 72 0 (fun s => if s = 12 then 1 else 0) 13) := by
    refine cp_loop (fun f i M => m_X0_countFromEnd_L6 f i M) 72 0 13 (fun s => if s = 12 then 1 else 0) M1 _ (fun f => ?_) (fun i f hi => ?_) g_fuel (by unfold g_fuel; omega)
    · show m_X0_countFromEnd_L6 (f + 1) _ _ = _
      rw [m_X0_countFromEnd_L6]
      simp (disch := omega) only [↓reduceIte, ↓nm_eq, ↓jn_eq, ↓c_within, ↓c_isIn, ↓c_isScene, ↓c_isPlace, ↓c_isCue, ↓c_isDigit, ↓d_isScene, ↓d_isAny, ↓ta_pb1, ↓ta_pb0, ↓ta_pb1', ↓ta_pb0', ta_lt, ta_nlt, ta_le, ta_nle, ta_eq, ta_neq, ta_nne, ta_ne, gs_id, a_gd01, a_gdT, or_true, true_or, bd_some, bW_sm, a_gd, a_ne, a_rd, Int.toNat_natCast, Int.toNat_add, Int.toNat_mul, Int.reduceToNat, a_gdp, a_cell, and_self, and_true, true_and]
    · show m_X0_countFromEnd_L6 (f + 1) _ _ = m_X0_countFromEnd_L6 f _ _
      rw [m_X0_countFromEnd_L6]
      by_cases e : i = 12
      · rw [if_pos e]
        simp (disch := omega) only [↓reduceIte, ↓nm_eq, ↓jn_eq, ↓c_within, ↓c_isIn, ↓c_isScene, ↓c_isPlace, ↓c_isCue, ↓c_isDigit, ↓d_isScene, ↓d_isAny, ↓ta_pb1, ↓ta_pb0, ↓ta_pb1', ↓ta_pb0', ta_lt, ta_nlt, ta_le, ta_nle, ta_eq, ta_neq, ta_nne, ta_ne, gs_id, a_gd01, a_gdT, or_true, true_or, bd_some, bW_sm, a_gd, a_ne, a_rd, Int.toNat_natCast, Int.toNat_add, Int.toNat_mul, Int.reduceToNat, a_gdp, a_cell, and_self, and_true, true_and, Nat.zero_add]
      · rw [if_neg e]
        simp (disch := omega) only [↓reduceIte, ↓nm_eq, ↓jn_eq, ↓c_within, ↓c_isIn, ↓c_isScene, ↓c_isPlace, ↓c_isCue, ↓c_isDigit, ↓d_isScene, ↓d_isAny, ↓ta_pb1, ↓ta_pb0, ↓ta_pb1', ↓ta_pb0', ta_lt, ta_nlt, ta_le, ta_nle, ta_eq, ta_neq, ta_nne, ta_ne, gs_id, a_gd01, a_gdT, or_true, true_or, bd_some, bW_sm, a_gd, a_ne, a_rd, Int.toNat_natCast, Int.toNat_add, Int.toNat_mul, Int.reduceToNat, a_gdp, a_cell, and_self, and_true, true_and, Nat.zero_add]
  rw [← hM1, key]
  refine ⟨_, rfl, fun a h1 h2 => by rw [cpF_cell _ _ h2, hM1, cpF_cell _ _ h1], by rw [cpF_cell _ _ (by omega)], fun s hs => ?_⟩
  rw [cpF_in _ _ (by omega)]
  rfl
theorem p_odds40 (x33 x34 x35 x36 x37 : Int) {nx : Nat → Nat → Nat} {o : Nat → Int} (t : Int) {k : Nat} (hn : ∀ s c, s ≤ 12 → c < 4 → nx s c ≤ 12) {M : g_M} (hsv : Sv nx M) (ho : ∀ c, c < 4 → M 8 c = o c ∧ 0 ≤ o c ∧ o c ≤ 10) (hc : ∀ s, s ≤ 12 → M 72 s = cN t o nx k s) (kc : Int → Option (Int × g_M)) {s : Nat} (hs : s < 12) : m_X0_oddsWithin_L40 x33 x34 x35 x36 x37 s M kc g_fuel 0 0 = kc (cN t o nx (k + 1) s) := by
  rw [cN_s _ _ _ _ (show s ≠ 12 by omega)]
  refine loop_F (fun F i (a : Int) => m_X0_oddsWithin_L40 x33 x34 x35 x36 x37 s M kc F a i) 4 (fun i => sm (fun c => o c * cN t o nx k (nx s c)) i) _ (fun F => ?_) (fun i F hi => ?_) 4 0 g_fuel (by omega) (by unfold g_fuel; omega)
  · show m_X0_oddsWithin_L40 x33 x34 x35 x36 x37 s M kc (F + 1) _ _ = _
    rw [m_X0_oddsWithin_L40]
    simp (disch := omega) only [↓reduceIte, ↓nm_eq, ↓jn_eq, ↓c_within, ↓c_isIn, ↓c_isScene, ↓c_isPlace, ↓c_isCue, ↓c_isDigit, ↓d_isScene, ↓d_isAny, ↓ta_pb1, ↓ta_pb0, ↓ta_pb1', ↓ta_pb0', ta_lt, ta_nlt, ta_le, ta_nle, ta_eq, ta_neq, ta_nne, ta_ne, gs_id, a_gd01, a_gdT, or_true, true_or, bd_some, bW_sm, a_gd, a_ne, a_rd, Int.toNat_natCast, Int.toNat_add, Int.toNat_mul, Int.reduceToNat, a_gdp, a_cell, and_self, and_true, true_and]
  · show m_X0_oddsWithin_L40 x33 x34 x35 x36 x37 s M kc (F + 1) _ _ = m_X0_oddsWithin_L40 x33 x34 x35 x36 x37 s M kc F (sm (fun c => o c * cN t o nx k (nx s c)) (i + 1)) _
    rw [sm_s, m_X0_oddsWithin_L40]
    have hu := hn s i (by omega) hi
    have e1 := hsv s i (by omega) hi
    have e2 := hc _ hu
    obtain ⟨e3, e4, e5⟩ := ho i hi
    generalize sm (fun c => o c * cN t o nx k (nx s c)) i = A
    generalize cN t o nx k (nx s i) = B at *
    generalize nx s i = u at *
    simp (disch := omega) only [↓reduceIte, ↓nm_eq, ↓jn_eq, ↓c_within, ↓c_isIn, ↓c_isScene, ↓c_isPlace, ↓c_isCue, ↓c_isDigit, ↓d_isScene, ↓d_isAny, ↓ta_pb1, ↓ta_pb0, ↓ta_pb1', ↓ta_pb0', ta_lt, ta_nlt, ta_le, ta_nle, ta_eq, ta_neq, ta_nne, ta_ne, gs_id, a_gd01, a_gdT, or_true, true_or, bd_some, bW_sm, a_gd, a_ne, a_rd, Int.toNat_natCast, Int.toNat_add, Int.toNat_mul, Int.reduceToNat, a_gdp, a_cell, and_self, and_true, true_and, e1, e2, e3, Int.natCast_add, Int.natCast_one]
theorem p_ways27 (x27 x28 x29 : Int) {nx : Nat → Nat → Nat} (t : Int) {k : Nat} (hn : ∀ s c, s ≤ 12 → c < 4 → nx s c ≤ 12) {M : g_M} (hsv : Sv nx M) (hc : ∀ s, s ≤ 12 → M 72 s = cN t (fun _ => 1) nx k s) (kc : Int → Option (Int × g_M)) {s : Nat} (hs : s < 12) : m_X0_waysJust_L27 x27 x28 x29 s M kc g_fuel 0 0 = kc (cN t (fun _ => 1) nx (k + 1) s) := by
  rw [cN_s _ _ _ _ (show s ≠ 12 by omega)]
  refine loop_F (fun F i (a : Int) => m_X0_waysJust_L27 x27 x28 x29 s M kc F a i) 4 (fun i => sm (fun c => 1 * cN t (fun _ => 1) nx k (nx s c)) i) _ (fun F => ?_) (fun i F hi => ?_) 4 0 g_fuel (by omega) (by unfold g_fuel; omega)
  · show m_X0_waysJust_L27 x27 x28 x29 s M kc (F + 1) _ _ = _
    rw [m_X0_waysJust_L27]
    simp (disch := omega) only [↓reduceIte, ↓nm_eq, ↓jn_eq, ↓c_within, ↓c_isIn, ↓c_isScene, ↓c_isPlace, ↓c_isCue, ↓c_isDigit, ↓d_isScene, ↓d_isAny, ↓ta_pb1, ↓ta_pb0, ↓ta_pb1', ↓ta_pb0', ta_lt, ta_nlt, ta_le, ta_nle, ta_eq, ta_neq, ta_nne, ta_ne, gs_id, a_gd01, a_gdT, or_true, true_or, bd_some, bW_sm, a_gd, a_ne, a_rd, Int.toNat_natCast, Int.toNat_add, Int.toNat_mul, Int.reduceToNat, a_gdp, a_cell, and_self, and_true, true_and]
  · show m_X0_waysJust_L27 x27 x28 x29 s M kc (F + 1) _ _ = m_X0_waysJust_L27 x27 x28 x29 s M kc F (sm (fun c => 1 * cN t (fun _ => 1) nx k (nx s c)) (i + 1)) _
    rw [sm_s, m_X0_waysJust_L27]
    have hu := hn s i (by omega) hi
    have e1 := hsv s i (by omega) hi
    have e2 := hc _ hu
    generalize sm (fun c => 1 * cN t (fun _ => 1) nx k (nx s c)) i = A
    generalize cN t (fun _ => 1) nx k (nx s i) = B at *
    generalize nx s i = u at *
    simp (disch := omega) only [↓reduceIte, ↓nm_eq, ↓jn_eq, ↓c_within, ↓c_isIn, ↓c_isScene, ↓c_isPlace, ↓c_isCue, ↓c_isDigit, ↓d_isScene, ↓d_isAny, ↓ta_pb1, ↓ta_pb0, ↓ta_pb1', ↓ta_pb0', ta_lt, ta_nlt, ta_le, ta_nle, ta_eq, ta_neq, ta_nne, ta_ne, gs_id, a_gd01, a_gdT, or_true, true_or, bd_some, bW_sm, a_gd, a_ne, a_rd, Int.toNat_natCast, Int.toNat_add, Int.toNat_mul, Int.reduceToNat, a_gdp, a_cell, and_self, and_true, true_and, e1, e2, Int.one_mul, Int.natCast_add, Int.natCast_one]
theorem p_odds27 (x23 x24 x25 x26 x27 : Int) {nx : Nat → Nat → Nat} {o : Nat → Int} (t : Int) {k : Nat} (hn : ∀ s c, s ≤ 12 → c < 4 → nx s c ≤ 12) {M : g_M} (hsv : Sv nx M) (ho : ∀ c, c < 4 → M 8 c = o c ∧ 0 ≤ o c ∧ o c ≤ 10) (hc : ∀ s, s ≤ 12 → M 72 s = cN t o nx k s) (kc : g_M → Option (Int × g_M)) : m_X0_oddsWithin_L27 x23 x24 x25 x26 x27 kc g_fuel 0 M = kc (cpF M 73 0 (fun s => cN t o nx (k + 1) s) 12) := by
  refine cp_loop (fun f i M => m_X0_oddsWithin_L27 x23 x24 x25 x26 x27 kc f i M) 73 0 12 (fun s => cN t o nx (k + 1) s) M _ (fun f => ?_) (fun i f hi => ?_) g_fuel (by unfold g_fuel; omega)
  · show m_X0_oddsWithin_L27 x23 x24 x25 x26 x27 kc (f + 1) _ _ = _
    rw [m_X0_oddsWithin_L27]
    simp (disch := omega) only [↓reduceIte, ↓nm_eq, ↓jn_eq, ↓c_within, ↓c_isIn, ↓c_isScene, ↓c_isPlace, ↓c_isCue, ↓c_isDigit, ↓d_isScene, ↓d_isAny, ↓ta_pb1, ↓ta_pb0, ↓ta_pb1', ↓ta_pb0', ta_lt, ta_nlt, ta_le, ta_nle, ta_eq, ta_neq, ta_nne, ta_ne, gs_id, a_gd01, a_gdT, or_true, true_or, bd_some, bW_sm, a_gd, a_ne, a_rd, Int.toNat_natCast, Int.toNat_add, Int.toNat_mul, Int.reduceToNat, a_gdp, a_cell, and_self, and_true, true_and]
  · show m_X0_oddsWithin_L27 x23 x24 x25 x26 x27 kc (f + 1) _ _ = m_X0_oddsWithin_L27 x23 x24 x25 x26 x27 kc f _ _
    rw [m_X0_oddsWithin_L27, if_neg (by rw [gs_id (by omega) (by omega), gs_id (by omega) (by omega)]; omega), nm_eq, nm_eq, p_odds40 x23 x24 x25 x26 x27 (nx := nx) (o := o) t (k := k) hn (fun s c hs hc => by rw [cpF_cell _ _ (by omega)]; exact hsv s c hs hc) (fun c hc => by rw [cpF_cell _ _ (by omega)]; exact ho c hc) (fun s hs => by rw [cpF_cell _ _ (by omega)]; exact hc s hs) _ hi]
    generalize cN t o nx (k + 1) i = B
    simp (disch := omega) only [↓reduceIte, ↓nm_eq, ↓jn_eq, ↓c_within, ↓c_isIn, ↓c_isScene, ↓c_isPlace, ↓c_isCue, ↓c_isDigit, ↓d_isScene, ↓d_isAny, ↓ta_pb1, ↓ta_pb0, ↓ta_pb1', ↓ta_pb0', ta_lt, ta_nlt, ta_le, ta_nle, ta_eq, ta_neq, ta_nne, ta_ne, gs_id, a_gd01, a_gdT, or_true, true_or, bd_some, bW_sm, a_gd, a_ne, a_rd, Int.toNat_natCast, Int.toNat_add, Int.toNat_mul, Int.reduceToNat, a_gdp, a_cell, and_self, and_true, true_and, Nat.zero_add]
theorem p_ways14 (x19 x20 x21 : Int) {nx : Nat → Nat → Nat} (t : Int) {k : Nat} (hn : ∀ s c, s ≤ 12 → c < 4 → nx s c ≤ 12) {M : g_M} (hsv : Sv nx M) (hc : ∀ s, s ≤ 12 → M 72 s = cN t (fun _ => 1) nx k s) (kc : g_M → Option (Int × g_M)) : m_X0_waysJust_L14 x19 x20 x21 kc g_fuel 0 M = kc (cpF M 73 0 (fun s => cN t (fun _ => 1) nx (k + 1) s) 12) := by
  refine cp_loop (fun f i M => m_X0_waysJust_L14 x19 x20 x21 kc f i M) 73 0 12 (fun s => cN t (fun _ => 1) nx (k + 1) s) M _ (fun f => ?_) (fun i f hi => ?_) g_fuel (by unfold g_fuel; omega)
  · show m_X0_waysJust_L14 x19 x20 x21 kc (f + 1) _ _ = _
    rw [m_X0_waysJust_L14]
    simp (disch := omega) only [↓reduceIte, ↓nm_eq, ↓jn_eq, ↓c_within, ↓c_isIn, ↓c_isScene, ↓c_isPlace, ↓c_isCue, ↓c_isDigit, ↓d_isScene, ↓d_isAny, ↓ta_pb1, ↓ta_pb0, ↓ta_pb1', ↓ta_pb0', ta_lt, ta_nlt, ta_le, ta_nle, ta_eq, ta_neq, ta_nne, ta_ne, gs_id, a_gd01, a_gdT, or_true, true_or, bd_some, bW_sm, a_gd, a_ne, a_rd, Int.toNat_natCast, Int.toNat_add, Int.toNat_mul, Int.reduceToNat, a_gdp, a_cell, and_self, and_true, true_and]
  · show m_X0_waysJust_L14 x19 x20 x21 kc (f + 1) _ _ = m_X0_waysJust_L14 x19 x20 x21 kc f _ _
    rw [m_X0_waysJust_L14, if_neg (by rw [gs_id (by omega) (by omega), gs_id (by omega) (by omega)]; omega), nm_eq, nm_eq, p_ways27 x19 x20 x21 (nx := nx) t (k := k) hn (fun s c hs hc => by rw [cpF_cell _ _ (by omega)]; exact hsv s c hs hc) (fun s hs => by rw [cpF_cell _ _ (by omega)]; exact hc s hs) _ hi]
    generalize cN t (fun _ => 1) nx (k + 1) i = B
    simp (disch := omega) only [↓reduceIte, ↓nm_eq, ↓jn_eq, ↓c_within, ↓c_isIn, ↓c_isScene, ↓c_isPlace, ↓c_isCue, ↓c_isDigit, ↓d_isScene, ↓d_isAny, ↓ta_pb1, ↓ta_pb0, ↓ta_pb1', ↓ta_pb0', ta_lt, ta_nlt, ta_le, ta_nle, ta_eq, ta_neq, ta_nne, ta_ne, gs_id, a_gd01, a_gdT, or_true, true_or, bd_some, bW_sm, a_gd, a_ne, a_rd, Int.toNat_natCast, Int.toNat_add, Int.toNat_mul, Int.reduceToNat, a_gdp, a_cell, and_self, and_true, true_and, Nat.zero_add]
/-- how one round ends: the later ones are those of now -/
theorem CI_step {t : Int} {o : Nat → Int} {nx : Nat → Nat → Nat} {M0 M : g_M} {k : Nat} (h : CI t o nx M0 k M) {v : Int} (hv : v = cN t o nx (k + 1) 12) : CI t o nx M0 (k + 1) (g_cp (g_wr (cpF M 73 0 (fun s => cN t o nx (k + 1) s) 12) 73 12 v) 73 0 72 0 13) := by
  obtain ⟨h1, h2⟩ := h
  refine ⟨fun a ha hb => ?_, fun s hs => ?_⟩
  · rw [g_cp_cell _ ha, a_cell _ hb, cpF_cell _ _ hb]; exact h1 a ha hb
  · rw [g_cp_in _ (by omega), Nat.sub_zero, Nat.zero_add]
    by_cases e : s = 12
    · subst e; rw [wr_at]; exact hv
    · rw [a_ne _ (by omega), cpF_in _ _ (by omega), Nat.sub_zero]
theorem p_odds10 (x14 x16 : Int) {nx : Nat → Nat → Nat} {o : Nat → Int} (hn : ∀ s c, s ≤ 12 → c < 4 → nx s c ≤ 12) {M0 : g_M} (hsv : Sv nx M0) (ho : ∀ c, c < 4 → M0 8 c = o c ∧ 0 ≤ o c ∧ o c ≤ 10) (h0 : ∀ s, s ≤ 12 → M0 72 s = cN 10 o nx 0 s) (kc : Int → g_M → Option (Int × g_M)) {n : Nat} (hn9 : n ≤ 12) : ∃ M', CI 10 o nx M0 n M' ∧ m_X0_oddsWithin_L10 x14 n x16 kc g_fuel 1 0 M0 = kc (cN 10 o nx n 12) M' := by
  have key : ∀ d i F (M : g_M), i + d = n → d < F → CI 10 o nx M0 i M → ∃ M', CI 10 o nx M0 n M' ∧ m_X0_oddsWithin_L10 x14 n x16 kc F (cN 10 o nx i 12) i M = kc (cN 10 o nx n 12) M' := by
    intro d
    induction d with
    | zero =>
      intro i F M h1 h2 h3
      obtain ⟨F, rfl⟩ : ∃ u, F = u + 1 := ⟨F - 1, by omega⟩
      obtain rfl : i = n := by omega
      refine ⟨M, h3, ?_⟩
      rw [m_X0_oddsWithin_L10]
      simp (disch := omega) only [↓reduceIte, ↓nm_eq, ↓jn_eq, ↓c_within, ↓c_isIn, ↓c_isScene, ↓c_isPlace, ↓c_isCue, ↓c_isDigit, ↓d_isScene, ↓d_isAny, ↓ta_pb1, ↓ta_pb0, ↓ta_pb1', ↓ta_pb0', ta_lt, ta_nlt, ta_le, ta_nle, ta_eq, ta_neq, ta_nne, ta_ne, gs_id, a_gd01, a_gdT, or_true, true_or, bd_some, bW_sm, a_gd, a_ne, a_rd, Int.toNat_natCast, Int.toNat_add, Int.toNat_mul, Int.reduceToNat, a_gdp, a_cell, and_self, and_true, true_and]
    | succ d ih =>
      intro i F M h1 h2 h3
      obtain ⟨F, rfl⟩ : ∃ u, F = u + 1 := ⟨F - 1, by omega⟩
      have c := CI_step h3 (v := cN 10 o nx i 12 * 10) (by rw [cN_e, Int.mul_comm])
      obtain ⟨M', m1, m2⟩ := ih (i + 1) F _ (by omega) (by omega) c
      refine ⟨M', m1, ?_⟩
      rw [← m2, m_X0_oddsWithin_L10, if_neg (by rw [gs_id (by omega) (by omega), gs_id (by omega) (by omega)]; omega), nm_eq, nm_eq, p_odds27 _ _ _ _ _ 10 (k := i) hn (fun s c hs hc => by rw [h3.1 68 (by omega) (by omega)]; exact hsv s c hs hc) (fun c hc => by rw [h3.1 8 (by omega) (by omega)]; exact ho c hc) h3.2, cN_e, Int.mul_comm 10]
      generalize cN 10 o nx i 12 = B
      simp (disch := omega) only [↓reduceIte, ↓nm_eq, ↓jn_eq, ↓c_within, ↓c_isIn, ↓c_isScene, ↓c_isPlace, ↓c_isCue, ↓c_isDigit, ↓d_isScene, ↓d_isAny, ↓ta_pb1, ↓ta_pb0, ↓ta_pb1', ↓ta_pb0', ta_lt, ta_nlt, ta_le, ta_nle, ta_eq, ta_neq, ta_nne, ta_ne, gs_id, a_gd01, a_gdT, or_true, true_or, bd_some, bW_sm, a_gd, a_ne, a_rd, Int.toNat_natCast, Int.toNat_add, Int.toNat_mul, Int.reduceToNat, a_gdp, a_cell, and_self, and_true, true_and, Int.natCast_add, Int.natCast_one]
  exact key n 0 g_fuel M0 (by omega) (by unfold g_fuel; omega) ⟨fun a _ _ => rfl, h0⟩
theorem p_ways6 (x13 : Int) {nx : Nat → Nat → Nat} (hn : ∀ s c, s ≤ 12 → c < 4 → nx s c ≤ 12) {M0 : g_M} (hsv : Sv nx M0) (h0 : ∀ s, s ≤ 12 → M0 72 s = cN 0 (fun _ => 1) nx 0 s) (kc : g_M → Option (Int × g_M)) {n : Nat} (hn9 : n ≤ 12) : ∃ M', CI 0 (fun _ => 1) nx M0 n M' ∧ m_X0_waysJust_L6 x13 n kc g_fuel 0 M0 = kc M' := by
  have key : ∀ d i F (M : g_M), i + d = n → d < F → CI 0 (fun _ => 1) nx M0 i M → ∃ M', CI 0 (fun _ => 1) nx M0 n M' ∧ m_X0_waysJust_L6 x13 n kc F i M = kc M' := by
    intro d
    induction d with
    | zero =>
      intro i F M h1 h2 h3
      obtain ⟨F, rfl⟩ : ∃ u, F = u + 1 := ⟨F - 1, by omega⟩
      obtain rfl : i = n := by omega
      refine ⟨M, h3, ?_⟩
      rw [m_X0_waysJust_L6]
      simp (disch := omega) only [↓reduceIte, ↓nm_eq, ↓jn_eq, ↓c_within, ↓c_isIn, ↓c_isScene, ↓c_isPlace, ↓c_isCue, ↓c_isDigit, ↓d_isScene, ↓d_isAny, ↓ta_pb1, ↓ta_pb0, ↓ta_pb1', ↓ta_pb0', ta_lt, ta_nlt, ta_le, ta_nle, ta_eq, ta_neq, ta_nne, ta_ne, gs_id, a_gd01, a_gdT, or_true, true_or, bd_some, bW_sm, a_gd, a_ne, a_rd, Int.toNat_natCast, Int.toNat_add, Int.toNat_mul, Int.reduceToNat, a_gdp, a_cell, and_self, and_true, true_and]
    | succ d ih =>
      intro i F M h1 h2 h3
      obtain ⟨F, rfl⟩ : ∃ u, F = u + 1 := ⟨F - 1, by omega⟩
      have c := CI_step h3 (v := 0) (by rw [cN_e, Int.zero_mul])
      obtain ⟨M', m1, m2⟩ := ih (i + 1) F _ (by omega) (by omega) c
      refine ⟨M', m1, ?_⟩
      rw [← m2, m_X0_waysJust_L6, if_neg (by rw [gs_id (by omega) (by omega), gs_id (by omega) (by omega)]; omega), nm_eq, p_ways14 _ _ _ 0 (k := i) hn (fun s c hs hc => by rw [h3.1 68 (by omega) (by omega)]; exact hsv s c hs hc) h3.2]
      simp (disch := omega) only [↓reduceIte, ↓nm_eq, ↓jn_eq, ↓c_within, ↓c_isIn, ↓c_isScene, ↓c_isPlace, ↓c_isCue, ↓c_isDigit, ↓d_isScene, ↓d_isAny, ↓ta_pb1, ↓ta_pb0, ↓ta_pb1', ↓ta_pb0', ta_lt, ta_nlt, ta_le, ta_nle, ta_eq, ta_neq, ta_nne, ta_ne, gs_id, a_gd01, a_gdT, or_true, true_or, bd_some, bW_sm, a_gd, a_ne, a_rd, Int.toNat_natCast, Int.toNat_add, Int.toNat_mul, Int.reduceToNat, a_gdp, a_cell, and_self, and_true, true_and, Int.natCast_add, Int.natCast_one]
  exact key n 0 g_fuel M0 (by omega) (by unfold g_fuel; omega) ⟨fun a _ _ => rfl, h0⟩
