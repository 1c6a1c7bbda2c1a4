/-! the class's chart: survey, how many cues to a place -/
def ND (nw td : Nat → Int) (s c : Nat) : Nat := (nxF nw td s c).toNat
theorem ND_cast {nw td : Nat → Int} (h1 : ∀ s : Nat, s < 12 → 0 ≤ nw (16 + s) ∧ nw (16 + s) ≤ 12) (h2 : ∀ i : Nat, i < 48 → 0 ≤ td i ∧ td i ≤ 12) {s c : Nat} (hs : s ≤ 12) (hc : c < 4) : nxF nw td s c = (ND nw td s c : Int) ∧ ND nw td s c ≤ 12 := by
  have := nxF_lt h1 h2 hs (show c ≤ 3 by omega)
  unfold ND
  omega
def svV (M : g_M) : Nat → Int := fun j => nxF (M 2) (M 4) (j / 4) (j % 4)
theorem svV_at (M : g_M) {s c : Nat} (hc : c < 4) : svV M (4 * s + c) = nxF (M 2) (M 4) s c := by
  unfold svV
  rw [show (4 * s + c) / 4 = s by omega, show (4 * s + c) % 4 = c by omega]
theorem p_survey10 (M : g_M) (k : g_M → Option g_M) {s : Nat} (hs : s < 13) : m_X0_survey_L10 s k g_fuel 0 (cpF M 68 0 (svV M) (4 * s)) = k (cpF M 68 0 (svV M) (4 * s + 4)) := by
  refine loop_F (fun f i M => m_X0_survey_L10 s k f i M) 4 (fun i => cpF M 68 0 (svV M) (4 * s + i)) _ (fun f => ?_) (fun i f hi => ?_) 4 0 g_fuel (by omega) (by unfold g_fuel; omega)
  · show m_X0_survey_L10 s k (f + 1) _ _ = _
    rw [m_X0_survey_L10]
    simp (disch := omega) only [↓reduceIte, ↓nm_eq, ↓jn_eq, ↓c_within, ↓c_isIn, ↓c_isScene, ↓c_isPlace, ↓c_isCue, ↓c_isDigit, ↓d_isScene, ↓d_isAny, ↓ta_pb1, ↓ta_pb0, ↓ta_pb1', ↓ta_pb0', ta_lt, ta_nlt, ta_le, ta_nle, ta_eq, ta_neq, ta_nne, ta_ne, gs_id, a_gd01, a_gdT, or_true, true_or, bd_some, bW_sm, a_gd, a_ne, a_rd, Int.toNat_natCast, Int.toNat_add, Int.toNat_mul, Int.reduceToNat, a_gdp, a_cell, and_self, and_true, true_and]
  · show m_X0_survey_L10 s k (f + 1) _ _ = m_X0_survey_L10 s k f _ (cpF M 68 0 (svV M) (4 * s + i + 1))
    rw [m_X0_survey_L10, ← cpF_succ, svV_at M hi]
    simp (disch := omega) only [↓reduceIte, ↓nm_eq, ↓jn_eq, ↓c_within, ↓c_isIn, ↓c_isScene, ↓c_isPlace, ↓c_isCue, ↓c_isDigit, ↓d_isScene, ↓d_isAny, ↓ta_pb1, ↓ta_pb0, ↓ta_pb1', ↓ta_pb0', ta_lt, ta_nlt, ta_le, ta_nle, ta_eq, ta_neq, ta_nne, ta_ne, gs_id, a_gd01, a_gdT, or_true, true_or, bd_some, bW_sm, a_gd, a_ne, a_rd, Int.toNat_natCast, Int.toNat_add, Int.toNat_mul, Int.reduceToNat, a_gdp, a_cell, and_self, and_true, true_and, p_after (M := cpF M 68 0 (svV M) (4 * s + i)) (s := s) (c := i) (by omega) (by omega), cpF_cell, Int.natCast_add, Int.natCast_one, Nat.mul_comm s 4, Nat.zero_add]
theorem p_survey (M : g_M) : m_X0_survey M = some (cpF M 68 0 (svV M) 52) := by
  unfold m_X0_survey
  rw [nm_eq]
  have h := loop_F (fun f i M => m_X0_survey_L2 f i M) 13 (fun i => cpF M 68 0 (svV M) (4 * i)) (some (cpF M 68 0 (svV M) 52)) (fun f => ?_) (fun i f hi => ?_) 13 0 g_fuel (by omega) (by unfold g_fuel; omega)
  · rw [Nat.mul_zero, cpF_0] at h
    exact h
  · show m_X0_survey_L2 (f + 1) _ _ = _
    rw [m_X0_survey_L2]
    simp (disch := omega) only [↓reduceIte, ↓nm_eq, ↓jn_eq, ↓c_within, ↓c_isIn, ↓c_isScene, ↓c_isPlace, ↓c_isCue, ↓c_isDigit, ↓d_isScene, ↓d_isAny, ↓ta_pb1, ↓ta_pb0, ↓ta_pb1', ↓ta_pb0', ta_lt, ta_nlt, ta_le, ta_nle, ta_eq, ta_neq, ta_nne, ta_ne, gs_id, a_gd01, a_gdT, or_true, true_or, bd_some, bW_sm, a_gd, a_ne, a_rd, Int.toNat_natCast, Int.toNat_add, Int.toNat_mul, Int.reduceToNat, a_gdp, a_cell, and_self, and_true, true_and]
  · show m_X0_survey_L2 (f + 1) _ _ = m_X0_survey_L2 f _ (cpF M 68 0 (svV M) (4 * i + 4))
    rw [m_X0_survey_L2]
    simp (disch := omega) only [↓reduceIte, ↓nm_eq, ↓jn_eq, ↓c_within, ↓c_isIn, ↓c_isScene, ↓c_isPlace, ↓c_isCue, ↓c_isDigit, ↓d_isScene, ↓d_isAny, ↓ta_pb1, ↓ta_pb0, ↓ta_pb1', ↓ta_pb0', ta_lt, ta_nlt, ta_le, ta_nle, ta_eq, ta_neq, ta_nne, ta_ne, gs_id, a_gd01, a_gdT, or_true, true_or, bd_some, bW_sm, a_gd, a_ne, a_rd, Int.toNat_natCast, Int.toNat_add, Int.toNat_mul, Int.reduceToNat, a_gdp, a_cell, and_self, and_true, true_and, p_survey10 M _ hi, Int.natCast_add, Int.natCast_one]
/-- what a surveyed memory holds -/
def Sv (nx : Nat → Nat → Nat) (M : g_M) : Prop := ∀ s c, s ≤ 12 → c < 4 → M 68 (s * 4 + c) = nx s c
theorem Sv_of (M : g_M) (h1 : ∀ s : Nat, s < 12 → 0 ≤ M 2 (16 + s) ∧ M 2 (16 + s) ≤ 12) (h2 : ∀ i : Nat, i < 48 → 0 ≤ M 4 i ∧ M 4 i ≤ 12) : Sv (ND (M 2) (M 4)) (cpF M 68 0 (svV M) 52) := by
  intro s c hs hc
  rw [cpF_in _ _ (by omega), Nat.sub_zero, Nat.mul_comm s 4, svV_at M hc]
  exact (ND_cast h1 h2 hs hc).1
def Snd (nx : Nat → Nat → Nat) (to : Nat) (M : g_M) : Prop := ∀ s, s ≤ 12 → M 69 s = 1000 ∨ ∃ d : Nat, d < 1000 ∧ M 69 s = d ∧ Rch nx to d s
def I55 (nx : Nat → Nat → Nat) (to : Nat) (M0 : g_M) (i : Nat) (fl : Int) (M : g_M) : Prop := (∀ a, a ≠ 69 → M a = M0 a) ∧ (fl = 0 ∨ fl = 1) ∧ Snd nx to M ∧ (∀ s, s ≤ 12 → M 69 s ≤ M0 69 s) ∧ (fl = 0 → ∀ s, s ≤ 12 → M 69 s = M0 69 s) ∧ ∀ s c, s ≤ 12 → c < 4 → 4 * s + c < i → M 69 s ≤ M0 69 (nx s c) + 1
theorem p_meas55 {Q : g_M → Prop} {nx : Nat → Nat → Nat} {to : Nat} (hn : ∀ s c, s ≤ 12 → c < 4 → nx s c ≤ 12) (x32 : Int) (k : Int → g_M → Option g_M) (M0 : g_M) (hsv : Sv nx M0) (hso : Snd nx to M0) (hk : ∀ fl M, I55 nx to M0 52 fl M → Ok (k fl M) Q) : Ok (m_X0_measureTo_L55 x32 k g_fuel 0 0 M0) Q := by
  refine Ok_for 52 (fun f i (s : Int × g_M) => m_X0_measureTo_L55 x32 k f s.1 i s.2) (fun i s => I55 nx to M0 i s.1 s.2) (fun f s h => ?_) (fun i f s hi h kk => ?_) 0 g_fuel (0, M0) (by omega) (by unfold g_fuel; omega) ⟨fun a ha => rfl, Or.inl rfl, hso, fun s hs => Int.le_refl _, fun _ s hs => rfl, fun s c hs hc hi => by omega⟩
  · obtain ⟨fl, M⟩ := s
    show Ok (m_X0_measureTo_L55 x32 k (f + 1) fl _ M) Q
    rw [m_X0_measureTo_L55]
    simp (disch := omega) only [↓reduceIte, ↓nm_eq, ↓jn_eq, ↓c_within, ↓c_isIn, ↓c_isScene, ↓c_isPlace, ↓c_isCue, ↓c_isDigit, ↓d_isScene, ↓d_isAny, ↓ta_pb1, ↓ta_pb0, ↓ta_pb1', ↓ta_pb0', ta_lt, ta_nlt, ta_le, ta_nle, ta_eq, ta_neq, ta_nne, ta_ne, gs_id, a_gd01, a_gdT, or_true, true_or, bd_some, bW_sm, a_gd, a_ne, a_rd, Int.toNat_natCast, Int.toNat_add, Int.toNat_mul, Int.reduceToNat, a_gdp, a_cell, and_self, and_true, true_and]
    exact hk fl M h
  · obtain ⟨fl, M⟩ := s
    have kk' : ∀ fl M, I55 nx to M0 (i + 1) fl M → Ok (m_X0_measureTo_L55 x32 k f fl ((i : Int) + 1) M) Q := fun fl M h => kk (fl, M) h
    obtain ⟨g1, g2, g3, g4, g5, g6⟩ := h
    dsimp only at g1 g2 g3 g4 g5 g6
    show Ok (m_X0_measureTo_L55 x32 k (f + 1) fl _ M) Q
    obtain ⟨s, c, hs, hc, rfl⟩ : ∃ s c, s ≤ 12 ∧ c < 4 ∧ i = 4 * s + c := ⟨i / 4, i % 4, by omega, by omega, by omega⟩
    have u12 := hn s c hs hc
    have e68 : M 68 (4 * s + c) = nx s c := by rw [g1 68 (by omega), Nat.mul_comm 4 s]; exact hsv s c hs hc
    have ed : (((4 * s + c : Nat) : Int)) / 4 = (s : Int) := by omega
    have b1 : 0 ≤ M 69 s ∧ M 69 s ≤ 1000 := by
      rcases g3 s hs with h | ⟨d, h1, h2, -⟩ <;> omega
    have b2 : 0 ≤ M 69 (nx s c) ∧ M 69 (nx s c) ≤ 1000 := by
      rcases g3 _ u12 with h | ⟨d, h1, h2, -⟩ <;> omega
    have l2 := g4 _ u12
    generalize hu : nx s c = u at u12 e68 b2 l2
    rw [m_X0_measureTo_L55]
    by_cases cc : M 69 s ≤ M 69 u + 1
    · simp (disch := omega) only [↓reduceIte, ↓nm_eq, ↓jn_eq, ↓c_within, ↓c_isIn, ↓c_isScene, ↓c_isPlace, ↓c_isCue, ↓c_isDigit, ↓d_isScene, ↓d_isAny, ↓ta_pb1, ↓ta_pb0, ↓ta_pb1', ↓ta_pb0', ta_lt, ta_nlt, ta_le, ta_nle, ta_eq, ta_neq, ta_nne, ta_ne, gs_id, a_gd01, a_gdT, or_true, true_or, bd_some, bW_sm, a_gd, a_ne, a_rd, Int.toNat_natCast, Int.toNat_add, Int.toNat_mul, Int.reduceToNat, a_gdp, a_cell, and_self, and_true, true_and, e68, g_div_nn, ed]
      refine kk' fl M ⟨g1, g2, g3, g4, g5, fun s' c' hs' hc' hi' => ?_⟩
      by_cases e : 4 * s' + c' < 4 * s + c
      · exact g6 s' c' hs' hc' e
      · obtain rfl : s' = s := by omega
        obtain rfl : c' = c := by omega
        rw [hu]
        omega
    · simp (disch := omega) only [↓reduceIte, ↓nm_eq, ↓jn_eq, ↓c_within, ↓c_isIn, ↓c_isScene, ↓c_isPlace, ↓c_isCue, ↓c_isDigit, ↓d_isScene, ↓d_isAny, ↓ta_pb1, ↓ta_pb0, ↓ta_pb1', ↓ta_pb0', ta_lt, ta_nlt, ta_le, ta_nle, ta_eq, ta_neq, ta_nne, ta_ne, gs_id, a_gd01, a_gdT, or_true, true_or, bd_some, bW_sm, a_gd, a_ne, a_rd, Int.toNat_natCast, Int.toNat_add, Int.toNat_mul, Int.reduceToNat, a_gdp, a_cell, and_self, and_true, true_and, e68, g_div_nn, ed]
      refine kk' 1 _ ⟨fun a ha => by rw [a_cell _ ha]; exact g1 a ha, Or.inr rfl, fun t ht => ?_, fun t ht => ?_, fun z => by omega, fun s' c' hs' hc' hi' => ?_⟩
      · by_cases e : t = s
        · subst e
          right
          rcases g3 u u12 with h | ⟨d, h1, h2, h3⟩
          · omega
          · exact ⟨d + 1, by omega, by rw [wr_at]; omega, c, hc, by rw [hu]; exact h3⟩
        · rw [a_ne _ (by omega)]; exact g3 t ht
      · by_cases e : t = s
        · subst e
          rw [wr_at]
          have := g4 t ht
          omega
        · rw [a_ne _ (by omega)]; exact g4 t ht
      · by_cases e : s' = s
        · subst e
          rw [wr_at]
          by_cases e2 : 4 * s' + c' < 4 * s' + c
          · have := g6 s' c' hs' hc' e2
            omega
          · obtain rfl : c' = c := by omega
            rw [hu]
            omega
        · rw [a_ne _ (by omega)]
          exact g6 s' c' hs' hc' (by omega)
def MT (nx : Nat → Nat → Nat) (to : Nat) (M M' : g_M) : Prop := (∀ a, a ≠ 68 → a ≠ 69 → M' a = M a) ∧ Sv nx M' ∧ ∀ s, s ≤ 12 → M' 69 s = if dst nx to s = 1000000 then 1000 else (dst nx to s : Int)
def I40 (nx : Nat → Nat → Nat) (to : Nat) (M0 : g_M) (r : Nat) (fl : Int) (M : g_M) : Prop := (∀ a, a ≠ 69 → M a = M0 a) ∧ (fl = 0 ∨ fl = 1) ∧ Snd nx to M ∧ (∀ j s, s ≤ 12 → j ≤ r → Rch nx to j s → M 69 s ≤ j) ∧ (fl = 0 → ∀ s c, s ≤ 12 → c < 4 → M 69 s ≤ M 69 (nx s c) + 1)
theorem p_meas40 {nx : Nat → Nat → Nat} {to : Nat} (hto : to ≤ 12) (hn : ∀ s c, s ≤ 12 → c < 4 → nx s c ≤ 12) (M0 : g_M) (hsv : Sv nx M0) (hso : Snd nx to M0) (h0 : M0 69 to = 0) : Ok (m_X0_measureTo_L40 g_fuel 1 0 M0) (fun M => (∀ a, a ≠ 69 → M a = M0 a) ∧ ∀ s, s ≤ 12 → M 69 s = if dst nx to s = 1000000 then 1000 else (dst nx to s : Int)) := by
  have fin : ∀ M : g_M, (∀ a, a ≠ 69 → M a = M0 a) → Snd nx to M → (∀ j s, s ≤ 12 → j ≤ 12 → Rch nx to j s → M 69 s ≤ j) → Ok (some M) (fun M => (∀ a, a ≠ 69 → M a = M0 a) ∧ ∀ s, s ≤ 12 → M 69 s = if dst nx to s = 1000000 then 1000 else (dst nx to s : Int)) := fun M a b c => Ok_some ⟨a, fun s hs => dst_of hto hn b c hs⟩
  refine Ok_for 13 (fun f i (s : Int × g_M) => m_X0_measureTo_L40 f s.1 i s.2) (fun i s => I40 nx to M0 i s.1 s.2) (fun f s h => ?_) (fun i f s hi h kk => ?_) 0 g_fuel (1, M0) (by omega) (by unfold g_fuel; omega) ⟨fun a ha => rfl, Or.inr rfl, hso, fun j s hs hj r => ?_, fun z => by omega⟩
  · obtain ⟨fl, M⟩ := s
    obtain ⟨g1, g2, g3, g4, g5⟩ := h
    dsimp only at g1 g2 g3 g4 g5
    show Ok (m_X0_measureTo_L40 (f + 1) fl _ M) _
    rw [m_X0_measureTo_L40]
    simp (disch := omega) only [↓reduceIte, ↓nm_eq, ↓jn_eq, ↓c_within, ↓c_isIn, ↓c_isScene, ↓c_isPlace, ↓c_isCue, ↓c_isDigit, ↓d_isScene, ↓d_isAny, ↓ta_pb1, ↓ta_pb0, ↓ta_pb1', ↓ta_pb0', ta_lt, ta_nlt, ta_le, ta_nle, ta_eq, ta_neq, ta_nne, ta_ne, gs_id, a_gd01, a_gdT, or_true, true_or, bd_some, bW_sm, a_gd, a_ne, a_rd, Int.toNat_natCast, Int.toNat_add, Int.toNat_mul, Int.reduceToNat, a_gdp, a_cell, and_self, and_true, true_and]
    exact fin M g1 g3 (fun j s hs hj r => g4 j s hs (by omega) r)
  · obtain ⟨fl, M⟩ := s
    obtain ⟨g1, g2, g3, g4, g5⟩ := h
    dsimp only at g1 g2 g3 g4 g5
    show Ok (m_X0_measureTo_L40 (f + 1) fl _ M) _
    rw [m_X0_measureTo_L40]
    by_cases cf : fl = 0
    · subst cf
      simp (disch := omega) only [↓reduceIte, ↓nm_eq, ↓jn_eq, ↓c_within, ↓c_isIn, ↓c_isScene, ↓c_isPlace, ↓c_isCue, ↓c_isDigit, ↓d_isScene, ↓d_isAny, ↓ta_pb1, ↓ta_pb0, ↓ta_pb1', ↓ta_pb0', ta_lt, ta_nlt, ta_le, ta_nle, ta_eq, ta_neq, ta_nne, ta_ne, gs_id, a_gd01, a_gdT, or_true, true_or, bd_some, bW_sm, a_gd, a_ne, a_rd, Int.toNat_natCast, Int.toNat_add, Int.toNat_mul, Int.reduceToNat, a_gdp, a_cell, and_self, and_true, true_and]
      refine fin M g1 g3 ?_
      intro j
      induction j with
      | zero => exact fun s hs hj r => g4 0 s hs (by omega) r
      | succ j ih =>
        rintro s hs hj ⟨c, hc, r⟩
        have a := ih (nx s c) (hn s c hs hc) (by omega) r
        have b := g5 rfl s c hs hc
        omega
    · simp (disch := omega) only [↓reduceIte, ↓nm_eq, ↓jn_eq, ↓c_within, ↓c_isIn, ↓c_isScene, ↓c_isPlace, ↓c_isCue, ↓c_isDigit, ↓d_isScene, ↓d_isAny, ↓ta_pb1, ↓ta_pb0, ↓ta_pb1', ↓ta_pb0', ta_lt, ta_nlt, ta_le, ta_nle, ta_eq, ta_neq, ta_nne, ta_ne, gs_id, a_gd01, a_gdT, or_true, true_or, bd_some, bW_sm, a_gd, a_ne, a_rd, Int.toNat_natCast, Int.toNat_add, Int.toNat_mul, Int.reduceToNat, a_gdp, a_cell, and_self, and_true, true_and]
      refine p_meas55 hn _ _ M (fun s c hs hc => by rw [g1 68 (by omega)]; exact hsv s c hs hc) g3 (fun fl' M' h' => ?_)
      obtain ⟨f1, f2, f3, f4, f5, f6⟩ := h'
      refine kk (fl', M') ⟨fun a ha => (f1 a ha).trans (g1 a ha), f2, f3, fun j s hs hj r => ?_, fun z s c hs hc => ?_⟩
      · cases j with
        | zero => exact Int.le_trans (f4 s hs) (g4 0 s hs (by omega) r)
        | succ j =>
          obtain ⟨c, hc, r⟩ := r
          have a := g4 j (nx s c) (hn s c hs hc) (by omega) r
          have b := f6 s c hs hc (by omega)
          show M' 69 s ≤ _
          omega
      · have a := f5 z
        have b := f6 s c hs hc (by omega)
        show M' 69 s ≤ M' 69 (nx s c) + 1
        rw [a _ (hn s c hs hc)]
        exact b
  · obtain rfl : j = 0 := by omega
    obtain rfl : s = to := r
    show M0 69 s ≤ _
    rw [h0]
    exact Int.le_refl _
theorem p_measure {M : g_M} (h1 : ∀ s : Nat, s < 12 → 0 ≤ M 2 (16 + s) ∧ M 2 (16 + s) ≤ 12) (h2 : ∀ i : Nat, i < 48 → 0 ≤ M 4 i ∧ M 4 i ≤ 12) {to : Nat} (hto : to ≤ 12) : Ok (m_X0_measureTo to M) (MT (ND (M 2) (M 4)) to M) := by
  have hn : ∀ s c, s ≤ 12 → c < 4 → ND (M 2) (M 4) s c ≤ 12 := fun s c hs hc => (ND_cast h1 h2 hs hc).2
  have sv := Sv_of M h1 h2
  unfold m_X0_measureTo
  rw [p_survey, bd_some, nm_eq]
  obtain ⟨M1, hM1⟩ : ∃ M1, M1 = cpF M 68 0 (svV M) 52 := ⟨_, rfl⟩
  have e1 : ∀ a, a ≠ 68 → M1 a = M a := fun a ha => by rw [hM1]; exact cpF_cell _ _ ha
  rw [← hM1] at sv ⊢
  clear hM1
  have key : ∀ k : g_M → Option g_M, m_X0_measureTo_L6 to k g_fuel 0 M1 = k (cpF M1 69 0 (fun s => if s = to then 0 else 1000) 13) := by
    intro k
    refine cp_loop (fun f i M => m_X0_measureTo_L6 to k f i M) 69 0 13 (fun s => if s = to then 0 else 1000) M1 _ (fun f => ?_) (fun i f hi => ?_) g_fuel (by unfold g_fuel; omega)
    · show m_X0_measureTo_L6 to k (f + 1) _ _ = _
      rw [m_X0_measureTo_L6]
      simp (disch := omega) only [↓reduceIte, ↓nm_eq, ↓jn_eq, ↓c_within, ↓c_isIn, ↓c_isScene, ↓c_isPlace, ↓c_isCue, ↓c_isDigit, ↓d_isScene, ↓d_isAny, ↓ta_pb1, ↓ta_pb0, ↓ta_pb1', ↓ta_pb0', ta_lt, ta_nlt, ta_le, ta_nle, ta_eq, ta_neq, ta_nne, ta_ne, gs_id, a_gd01, a_gdT, or_true, true_or, bd_some, bW_sm, a_gd, a_ne, a_rd, Int.toNat_natCast, Int.toNat_add, Int.toNat_mul, Int.reduceToNat, a_gdp, a_cell, and_self, and_true, true_and]
    · show m_X0_measureTo_L6 to k (f + 1) _ _ = m_X0_measureTo_L6 to k f _ _
      rw [m_X0_measureTo_L6]
      by_cases e : i = to
      · rw [if_pos e]
        simp (disch := omega) only [↓reduceIte, ↓nm_eq, ↓jn_eq, ↓c_within, ↓c_isIn, ↓c_isScene, ↓c_isPlace, ↓c_isCue, ↓c_isDigit, ↓d_isScene, ↓d_isAny, ↓ta_pb1, ↓ta_pb0, ↓ta_pb1', ↓ta_pb0', ta_lt, ta_nlt, ta_le, ta_nle, ta_eq, ta_neq, ta_nne, ta_ne, gs_id, a_gd01, a_gdT, or_true, true_or, bd_some, bW_sm, a_gd, a_ne, a_rd, Int.toNat_natCast, Int.toNat_add, Int.toNat_mul, Int.reduceToNat, a_gdp, a_cell, and_self, and_true, true_and, Nat.zero_add]
      · rw [if_neg e]
        simp (disch := omega) only [↓reduceIte, ↓nm_eq, ↓jn_eq, ↓c_within, ↓c_isIn, ↓c_isScene, ↓c_isPlace, ↓c_isCue, ↓c_isDigit, ↓d_isScene, ↓d_isAny, ↓ta_pb1, ↓ta_pb0, ↓ta_pb1', ↓ta_pb0', ta_lt, ta_nlt, ta_le, ta_nle, ta_eq, ta_neq, ta_nne, ta_ne, gs_id, a_gd01, a_gdT, or_true, true_or, bd_some, bW_sm, a_gd, a_ne, a_rd, Int.toNat_natCast, Int.toNat_add, Int.toNat_mul, Int.reduceToNat, a_gdp, a_cell, and_self, and_true, true_and, Nat.zero_add]
  rw [key, nm_eq, nm_eq]
  refine Ok_mono (p_meas40 hto hn _ (fun s c hs hc => ?_) (fun s hs => ?_) ?_) (fun M' h => ?_)
  · rw [cpF_cell _ _ (by omega)]; exact sv s c hs hc
  · rw [cpF_in _ _ (by omega), Nat.sub_zero]
    by_cases e : s = to
    · rw [if_pos e]; exact Or.inr ⟨0, by omega, rfl, e⟩
    · rw [if_neg e]; exact Or.inl rfl
  · rw [cpF_in _ _ (by omega), Nat.sub_zero, if_pos rfl]
  · obtain ⟨f1, f2⟩ := h
    refine ⟨fun a ha hb => ?_, fun s c hs hc => ?_, f2⟩
    · rw [f1 a hb, cpF_cell _ _ hb, e1 a ha]
    · rw [f1 68 (by omega), cpF_cell _ _ (by omega)]; exact sv s c hs hc
