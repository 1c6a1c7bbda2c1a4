/-! like scenes: the class -/
def kdE (M : g_M) (s : Nat) : Int := if s = 12 then 4 else M 5 s
/-- two have one number just if they are of one sort -/
def SrE (E : Nat → Nat → Prop) (M : g_M) : Prop := (∀ s, s ≤ 12 → 0 ≤ M 74 s ∧ M 74 s ≤ 20) ∧ ∀ a b, a ≤ 12 → b ≤ 12 → (M 74 a = M 74 b ↔ E a b)
def SrN (E : Nat → Nat → Prop) (M : g_M) : Prop := ∀ s, s ≤ 12 → ∃ p, IsLow E s p ∧ M 74 s = (cnt (rep E) p : Int)
theorem SrN_E {E : Nat → Nat → Prop} (h : Eqv E) {M : g_M} (hs : SrN E M) : SrE E M := by
  refine ⟨fun s hs' => ?_, fun a b ha hb => ?_⟩
  · obtain ⟨p, l, e⟩ := hs s hs'
    have := cnt_le (rep E) p
    have := l.1
    omega
  · obtain ⟨p, l, e⟩ := hs a ha
    obtain ⟨q, l', e'⟩ := hs b hb
    rw [e, e']
    constructor
    · intro z
      have pq : p = q := cnt_inj (low_rep h l) (low_rep h l') (by omega)
      subst pq
      exact h.2.2 _ _ _ l.2.1 (h.2.1 _ _ l'.2.1)
    · intro z
      have := low_uniq (low_cg h z l) l'
      subst this
      rfl
theorem p_sortBy {M : g_M} (hk : ∀ s : Nat, s < 12 → 0 ≤ M 5 s ∧ M 5 s ≤ 3) (nx : Nat → Nat → Nat) (sv : Sv nx (cpF M 68 0 (svV M) 52)) : ∃ M1, m_X0_sortByKind M = some M1 ∧ (∀ a, a ≠ 68 → a ≠ 74 → M1 a = M a) ∧ Sv nx M1 ∧ SrE (Ek (kdE M) nx 0) M1 := by
  unfold m_X0_sortByKind
  rw [p_survey, bd_some, nm_eq]
  obtain ⟨M1, hM1⟩ : ∃ M1, M1 = cpF M 68 0 (svV M) 52 := ⟨_, rfl⟩
  have e1 : ∀ a, a ≠ 68 → M1 a = M a := fun a ha => by rw [hM1]; exact cpF_cell _ _ ha
  rw [← hM1] at sv ⊢
  clear hM1
  have key : ∀ k : g_M → Option g_M, m_X0_sortByKind_L6 k g_fuel 0 M1 = k (cpF M1 74 0 (fun s => M 5 s) 12) := by
    intro k
    refine cp_loop (fun f i M => m_X0_sortByKind_L6 k f i M) 74 0 12 (fun s => M 5 s) M1 _ (fun f => ?_) (fun i f hi => ?_) g_fuel (by unfold g_fuel; omega)
    · show m_X0_sortByKind_L6 k (f + 1) _ _ = _
      rw [m_X0_sortByKind_L6]
      simp (disch := omega) only [↓reduceIte, ↓nm_eq, ↓jn_eq, ↓c_within, ↓c_isIn, ↓c_isScene, ↓c_isPlace, ↓c_isCue, ↓c_isDigit, ↓d_isScene, ↓d_isAny, ↓ta_pb1, ↓ta_pb0, ↓ta_pb1', ↓ta_pb0', ta_lt, ta_nlt, ta_le, ta_nle, ta_eq, ta_neq, ta_nne, ta_ne, gs_id, a_gd01, a_gdT, or_true, true_or, bd_some, bW_sm, a_gd, a_ne, a_rd, Int.toNat_natCast, Int.toNat_add, Int.toNat_mul, Int.reduceToNat, a_gdp, a_cell, and_self, and_true, true_and]
    · show m_X0_sortByKind_L6 k (f + 1) _ _ = m_X0_sortByKind_L6 k f _ _
      rw [m_X0_sortByKind_L6]
      have e5 : cpF M1 74 0 (fun s => M 5 s) i 5 = M 5 := by rw [cpF_cell _ _ (by omega), e1 5 (by omega)]
      simp (disch := omega) only [↓reduceIte, ↓nm_eq, ↓jn_eq, ↓c_within, ↓c_isIn, ↓c_isScene, ↓c_isPlace, ↓c_isCue, ↓c_isDigit, ↓d_isScene, ↓d_isAny, ↓ta_pb1, ↓ta_pb0, ↓ta_pb1', ↓ta_pb0', ta_lt, ta_nlt, ta_le, ta_nle, ta_eq, ta_neq, ta_nne, ta_ne, gs_id, a_gd01, a_gdT, or_true, true_or, bd_some, bW_sm, a_gd, a_ne, a_rd, Int.toNat_natCast, Int.toNat_add, Int.toNat_mul, Int.reduceToNat, a_gdp, a_cell, and_self, and_true, true_and, e5, Nat.zero_add]
  rw [key]
  simp (disch := omega) only [↓reduceIte, ↓nm_eq, ↓jn_eq, ↓c_within, ↓c_isIn, ↓c_isScene, ↓c_isPlace, ↓c_isCue, ↓c_isDigit, ↓d_isScene, ↓d_isAny, ↓ta_pb1, ↓ta_pb0, ↓ta_pb1', ↓ta_pb0', ta_lt, ta_nlt, ta_le, ta_nle, ta_eq, ta_neq, ta_nne, ta_ne, gs_id, a_gd01, a_gdT, or_true, true_or, bd_some, bW_sm, a_gd, a_ne, a_rd, Int.toNat_natCast, Int.toNat_add, Int.toNat_mul, Int.reduceToNat, a_gdp, a_cell, and_self, and_true, true_and]
  have v : ∀ s, s ≤ 12 → g_wr (cpF M1 74 0 (fun s => M 5 s) 12) 74 12 4 74 s = kdE M s := by
    intro s hs
    unfold kdE
    by_cases e : s = 12
    · subst e; rw [if_pos rfl, wr_at]
    · rw [if_neg e, a_ne _ (by omega), cpF_in _ _ (by omega), Nat.sub_zero]
  refine ⟨_, rfl, fun a h1 h2 => by rw [a_cell _ h2, cpF_cell _ _ h2, e1 a h1], fun s c hs hc => by rw [a_cell _ (by omega), cpF_cell _ _ (by omega)]; exact sv s c hs hc, fun s hs => ?_, fun a b ha hb => ?_⟩
  · rw [v s hs]
    unfold kdE
    by_cases e : s = 12
    · rw [if_pos e]; omega
    · rw [if_neg e]
      have := hk s (by omega)
      omega
  · rw [v a ha, v b hb]
    exact Iff.rfl
theorem p_alike {M : g_M} {nx : Nat → Nat → Nat} {E : Nat → Nat → Prop} (hn : ∀ s c, s ≤ 12 → c < 4 → nx s c ≤ 12) (hsv : Sv nx M) (hs : SrE E M) {a b : Nat} (ha : a ≤ 12) (hb : b ≤ 12) : ∃ r : Int, m_X0_isAlike a b M = some r ∧ (r = 0 ∨ r = 1) ∧ (r = 1 ↔ fin nx E a b) := by
  obtain ⟨s1, s2⟩ := hs
  have sa := s1 a ha
  have sb := s1 b hb
  have lp : ∀ x : Int, (x = 0 ∨ x = 1) → (x = 1 ↔ E a b) → Ok (m_X0_isAlike_L24 a b M g_fuel x 0) (fun r => (r = 0 ∨ r = 1) ∧ (r = 1 ↔ fin nx E a b)) := by
    intro x hx hx1
    refine Ok_for 4 (fun F i (x : Int) => m_X0_isAlike_L24 a b M F x i) (fun i x => (x = 0 ∨ x = 1) ∧ (x = 1 ↔ (E a b ∧ ∀ c, c < i → E (nx a c) (nx b c)))) (fun F x h => ?_) (fun i F x hi h kk => ?_) 0 g_fuel x (by omega) (by unfold g_fuel; omega) ⟨hx, hx1.trans ⟨fun h => ⟨h, fun c hc => by omega⟩, fun h => h.1⟩⟩
    · show Ok (m_X0_isAlike_L24 a b M (F + 1) x _) _
      rw [m_X0_isAlike_L24]
      simp (disch := omega) only [↓reduceIte, ↓nm_eq, ↓jn_eq, ↓c_within, ↓c_isIn, ↓c_isScene, ↓c_isPlace, ↓c_isCue, ↓c_isDigit, ↓d_isScene, ↓d_isAny, ↓ta_pb1, ↓ta_pb0, ↓ta_pb1', ↓ta_pb0', ta_lt, ta_nlt, ta_le, ta_nle, ta_eq, ta_neq, ta_nne, ta_ne, gs_id, a_gd01, a_gdT, or_true, true_or, bd_some, bW_sm, a_gd, a_ne, a_rd, Int.toNat_natCast, Int.toNat_add, Int.toNat_mul, Int.reduceToNat, a_gdp, a_cell, and_self, and_true, true_and]
      exact Ok_some h
    · show Ok (m_X0_isAlike_L24 a b M (F + 1) x _) _
      obtain ⟨h1, h2⟩ := h
      have kk' : ∀ x' : Int, (x' = 0 ∨ x' = 1) → (x' = 1 ↔ (E a b ∧ ∀ c, c < i + 1 → E (nx a c) (nx b c))) → Ok (m_X0_isAlike_L24 a b M F x' ((i : Int) + 1)) (fun r => (r = 0 ∨ r = 1) ∧ (r = 1 ↔ fin nx E a b)) := fun x' a b => kk x' ⟨a, b⟩
      rw [m_X0_isAlike_L24]
      rcases h1 with rfl | rfl
      · simp (disch := omega) only [↓reduceIte, ↓nm_eq, ↓jn_eq, ↓c_within, ↓c_isIn, ↓c_isScene, ↓c_isPlace, ↓c_isCue, ↓c_isDigit, ↓d_isScene, ↓d_isAny, ↓ta_pb1, ↓ta_pb0, ↓ta_pb1', ↓ta_pb0', ta_lt, ta_nlt, ta_le, ta_nle, ta_eq, ta_neq, ta_nne, ta_ne, gs_id, a_gd01, a_gdT, or_true, true_or, bd_some, bW_sm, a_gd, a_ne, a_rd, Int.toNat_natCast, Int.toNat_add, Int.toNat_mul, Int.reduceToNat, a_gdp, a_cell, and_self, and_true, true_and]
        refine Ok_some ⟨Or.inl rfl, fun z => by omega, fun z => ?_⟩
        exact h2.2 ⟨z.1, fun c hc => z.2 c (by omega)⟩
      · have old := h2.1 rfl
        have ua := hn a i ha hi
        have ub := hn b i hb hi
        have va := s1 _ ua
        have vb := s1 _ ub
        have e1 := hsv a i ha hi
        have e2 := hsv b i hb hi
        have eq := s2 _ _ ua ub
        by_cases c : M 74 (nx a i) = M 74 (nx b i)
        · simp (disch := omega) only [↓reduceIte, ↓nm_eq, ↓jn_eq, ↓c_within, ↓c_isIn, ↓c_isScene, ↓c_isPlace, ↓c_isCue, ↓c_isDigit, ↓d_isScene, ↓d_isAny, ↓ta_pb1, ↓ta_pb0, ↓ta_pb1', ↓ta_pb0', ta_lt, ta_nlt, ta_le, ta_nle, ta_eq, ta_neq, ta_nne, ta_ne, gs_id, a_gd01, a_gdT, or_true, true_or, bd_some, bW_sm, a_gd, a_ne, a_rd, Int.toNat_natCast, Int.toNat_add, Int.toNat_mul, Int.reduceToNat, a_gdp, a_cell, and_self, and_true, true_and, e1, e2]
          refine kk' 1 (Or.inr rfl) ⟨fun _ => ⟨old.1, fun c' hc' => ?_⟩, fun _ => rfl⟩
          by_cases e : c' = i
          · subst e; exact eq.1 c
          · exact old.2 c' (by omega)
        · simp (disch := omega) only [↓reduceIte, ↓nm_eq, ↓jn_eq, ↓c_within, ↓c_isIn, ↓c_isScene, ↓c_isPlace, ↓c_isCue, ↓c_isDigit, ↓d_isScene, ↓d_isAny, ↓ta_pb1, ↓ta_pb0, ↓ta_pb1', ↓ta_pb0', ta_lt, ta_nlt, ta_le, ta_nle, ta_eq, ta_neq, ta_nne, ta_ne, gs_id, a_gd01, a_gdT, or_true, true_or, bd_some, bW_sm, a_gd, a_ne, a_rd, Int.toNat_natCast, Int.toNat_add, Int.toNat_mul, Int.reduceToNat, a_gdp, a_cell, and_self, and_true, true_and, e1, e2]
          refine kk' 0 (Or.inl rfl) ⟨fun z => by omega, fun z => ?_⟩
          exact absurd (eq.2 (z.2 i (by omega))) c
  unfold m_X0_isAlike
  by_cases c : M 74 a = M 74 b
  · obtain ⟨r, e, h1, h2⟩ := lp 1 (Or.inr rfl) ⟨fun _ => (s2 a b ha hb).1 c, fun _ => rfl⟩
    exact ⟨r, by simp (disch := omega) only [↓reduceIte, ↓nm_eq, ↓jn_eq, ↓c_within, ↓c_isIn, ↓c_isScene, ↓c_isPlace, ↓c_isCue, ↓c_isDigit, ↓d_isScene, ↓d_isAny, ↓ta_pb1, ↓ta_pb0, ↓ta_pb1', ↓ta_pb0', ta_lt, ta_nlt, ta_le, ta_nle, ta_eq, ta_neq, ta_nne, ta_ne, gs_id, a_gd01, a_gdT, or_true, true_or, bd_some, bW_sm, a_gd, a_ne, a_rd, Int.toNat_natCast, Int.toNat_add, Int.toNat_mul, Int.reduceToNat, a_gdp, a_cell, and_self, and_true, true_and, e], h1, h2⟩
  · obtain ⟨r, e, h1, h2⟩ := lp 0 (Or.inl rfl) ⟨fun z => by omega, fun z => absurd ((s2 a b ha hb).2 z) c⟩
    exact ⟨r, by simp (disch := omega) only [↓reduceIte, ↓nm_eq, ↓jn_eq, ↓c_within, ↓c_isIn, ↓c_isScene, ↓c_isPlace, ↓c_isCue, ↓c_isDigit, ↓d_isScene, ↓d_isAny, ↓ta_pb1, ↓ta_pb0, ↓ta_pb1', ↓ta_pb0', ta_lt, ta_nlt, ta_le, ta_nle, ta_eq, ta_neq, ta_nne, ta_ne, gs_id, a_gd01, a_gdT, or_true, true_or, bd_some, bW_sm, a_gd, a_ne, a_rd, Int.toNat_natCast, Int.toNat_add, Int.toNat_mul, Int.reduceToNat, a_gdp, a_cell, and_self, and_true, true_and, e], h1, h2⟩
theorem p_part12 {Q : Int × g_M → Prop} {M : g_M} {nx : Nat → Nat → Nat} {E : Nat → Nat → Prop} (hn : ∀ s c, s ≤ 12 → c < 4 → nx s c ≤ 12) (hsv : Sv nx M) (hs : SrE E M) (x18 : Int) {a : Nat} (ha : a ≤ 12) (k : Int → Option (Int × g_M)) (hk : ∀ b : Nat, b ≤ a → (b < a → fin nx E a b) → (∀ q, q < b → ¬ fin nx E a q) → Ok (k b) Q) : Ok (m_X0_partFiner_L12 x18 a M k g_fuel 0) Q := by
  refine Ok_for a (fun F i (_ : Unit) => m_X0_partFiner_L12 x18 a M k F i) (fun i _ => ∀ q, q < i → ¬ fin nx E a q) (fun F u h => ?_) (fun i F u hi h kk => ?_) 0 g_fuel () (by omega) (by unfold g_fuel; omega) (fun q hq => by omega)
  · show Ok (m_X0_partFiner_L12 x18 a M k (F + 1) _) Q
    rw [m_X0_partFiner_L12]
    simp (disch := omega) only [↓reduceIte, ↓nm_eq, ↓jn_eq, ↓c_within, ↓c_isIn, ↓c_isScene, ↓c_isPlace, ↓c_isCue, ↓c_isDigit, ↓d_isScene, ↓d_isAny, ↓ta_pb1, ↓ta_pb0, ↓ta_pb1', ↓ta_pb0', ta_lt, ta_nlt, ta_le, ta_nle, ta_eq, ta_neq, ta_nne, ta_ne, gs_id, a_gd01, a_gdT, or_true, true_or, bd_some, bW_sm, a_gd, a_ne, a_rd, Int.toNat_natCast, Int.toNat_add, Int.toNat_mul, Int.reduceToNat, a_gdp, a_cell, and_self, and_true, true_and]
    exact hk a (Nat.le_refl _) (fun z => by omega) h
  · show Ok (m_X0_partFiner_L12 x18 a M k (F + 1) _) Q
    obtain ⟨r, e, h1, h2⟩ := p_alike hn hsv hs ha (show i ≤ 12 by omega)
    rw [m_X0_partFiner_L12]
    by_cases c : fin nx E a i
    · have r1 := h2.2 c
      subst r1
      simp (disch := omega) only [↓reduceIte, ↓nm_eq, ↓jn_eq, ↓c_within, ↓c_isIn, ↓c_isScene, ↓c_isPlace, ↓c_isCue, ↓c_isDigit, ↓d_isScene, ↓d_isAny, ↓ta_pb1, ↓ta_pb0, ↓ta_pb1', ↓ta_pb0', ta_lt, ta_nlt, ta_le, ta_nle, ta_eq, ta_neq, ta_nne, ta_ne, gs_id, a_gd01, a_gdT, or_true, true_or, bd_some, bW_sm, a_gd, a_ne, a_rd, Int.toNat_natCast, Int.toNat_add, Int.toNat_mul, Int.reduceToNat, a_gdp, a_cell, and_self, and_true, true_and, e]
      exact hk i (by omega) (fun _ => c) h
    · have r0 : r = 0 := by
        rcases h1 with h | h
        · exact h
        · exact absurd (h2.1 h) c
      subst r0
      simp (disch := omega) only [↓reduceIte, ↓nm_eq, ↓jn_eq, ↓c_within, ↓c_isIn, ↓c_isScene, ↓c_isPlace, ↓c_isCue, ↓c_isDigit, ↓d_isScene, ↓d_isAny, ↓ta_pb1, ↓ta_pb0, ↓ta_pb1', ↓ta_pb0', ta_lt, ta_nlt, ta_le, ta_nle, ta_eq, ta_neq, ta_nne, ta_ne, gs_id, a_gd01, a_gdT, or_true, true_or, bd_some, bW_sm, a_gd, a_ne, a_rd, Int.toNat_natCast, Int.toNat_add, Int.toNat_mul, Int.reduceToNat, a_gdp, a_cell, and_self, and_true, true_and, e]
      refine kk () (fun q hq => ?_)
      by_cases e : q = i
      · subst e; exact c
      · exact h q (by omega)
theorem p_part {M : g_M} {nx : Nat → Nat → Nat} {E : Nat → Nat → Prop} (hE : Eqv E) (hn : ∀ s c, s ≤ 12 → c < 4 → nx s c ≤ 12) (hsv : Sv nx M) (hs : SrE E M) : Ok (m_X0_partFiner M) (fun r => r.1 = (cnt (rep (fin nx E)) 13 : Int) ∧ (∀ a, a ≠ 74 → a ≠ 75 → r.2 a = M a) ∧ SrN (fin nx E) r.2) := by
  have hf := fin_eqv (nx := nx) hE
  unfold m_X0_partFiner
  rw [nm_eq, nm_eq]
  have bnd := fun n => cnt_le (rep (fin nx E)) n
  refine Ok_for 13 (fun F i (s : Int × g_M) => m_X0_partFiner_L4 _ F s.1 i s.2) (fun i s => s.1 = (cnt (rep (fin nx E)) i : Int) ∧ (∀ a, a ≠ 75 → s.2 a = M a) ∧ ∀ t, t < i → ∃ p, IsLow (fin nx E) t p ∧ s.2 75 t = (cnt (rep (fin nx E)) p : Int)) (fun F s h => ?_) (fun i F s hi h kk => ?_) 0 g_fuel (0, M) (by omega) (by unfold g_fuel; omega) ⟨rfl, fun a ha => rfl, fun t ht => by omega⟩
  · obtain ⟨x, V⟩ := s
    obtain ⟨h1, h2, h3⟩ := h
    dsimp only at h1 h2 h3
    show Ok (m_X0_partFiner_L4 _ (F + 1) x _ V) _
    rw [m_X0_partFiner_L4]
    simp (disch := omega) only [↓reduceIte, ↓nm_eq, ↓jn_eq, ↓c_within, ↓c_isIn, ↓c_isScene, ↓c_isPlace, ↓c_isCue, ↓c_isDigit, ↓d_isScene, ↓d_isAny, ↓ta_pb1, ↓ta_pb0, ↓ta_pb1', ↓ta_pb0', ta_lt, ta_nlt, ta_le, ta_nle, ta_eq, ta_neq, ta_nne, ta_ne, gs_id, a_gd01, a_gdT, or_true, true_or, bd_some, bW_sm, a_gd, a_ne, a_rd, Int.toNat_natCast, Int.toNat_add, Int.toNat_mul, Int.reduceToNat, a_gdp, a_cell, and_self, and_true, true_and]
    refine Ok_some ⟨h1, fun a ha hb => ?_, fun s hs => ?_⟩
    · show g_cp V 75 0 74 0 13 a = M a
      rw [g_cp_cell _ ha, h2 a hb]
    · obtain ⟨p, l, e⟩ := h3 s (by omega)
      refine ⟨p, l, ?_⟩
      show g_cp V 75 0 74 0 13 74 s = _
      rw [g_cp_in _ (by omega), Nat.sub_zero, Nat.zero_add]
      exact e
  · obtain ⟨x, V⟩ := s
    obtain ⟨h1, h2, h3⟩ := h
    dsimp only at h1 h2 h3
    show Ok (m_X0_partFiner_L4 _ (F + 1) x _ V) _
    rw [m_X0_partFiner_L4, if_neg (by rw [gs_id (by omega) (by omega), gs_id (by omega) (by omega)]; omega), nm_eq]
    have kk' : ∀ (x' : Int) (V' : g_M), x' = (cnt (rep (fin nx E)) (i + 1) : Int) → (∀ a, a ≠ 75 → V' a = M a) → (∀ t, t < i + 1 → ∃ p, IsLow (fin nx E) t p ∧ V' 75 t = (cnt (rep (fin nx E)) p : Int)) → Ok (m_X0_partFiner_L4 (fun (x36 : Int) (M37 : g_M) => g_gd (0 ≤ gs 0 ∧ 0 ≤ gs 0 ∧ 0 ≤ gs 13 ∧ gs 0 + gs 13 ≤ 13 ∧ gs 0 + gs 13 ≤ 13) (g_nm (g_cp M37 75 (gs 0).toNat 74 (gs 0).toNat (gs 13).toNat) (fun M38 => some (x36, M38)))) F x' ((i : Int) + 1) V') (fun r => r.1 = (cnt (rep (fin nx E)) 13 : Int) ∧ (∀ a, a ≠ 74 → a ≠ 75 → r.2 a = M a) ∧ SrN (fin nx E) r.2) := fun x' V' a b c => kk (x', V') ⟨a, b, c⟩
    refine p_part12 (E := E) hn (fun s c hs hc => by rw [h2 68 (by omega)]; exact hsv s c hs hc) ⟨fun s hs' => by rw [h2 74 (by omega)]; exact hs.1 s hs', fun a b ha hb => by rw [h2 74 (by omega)]; exact hs.2 a b ha hb⟩ x (show i ≤ 12 by omega) _ (fun b hb hb1 hb2 => ?_)
    have bi := bnd i
    by_cases c : b = i
    · subst c
      have rp : rep (fin nx E) b := fun q hq z => hb2 q hq z
      rw [jn_eq, if_pos (Int.le_refl _), g_gd_pos (g_ix_of (by omega) (by omega) (by omega)), nm_eq, nm_eq, show (gs (b : Int)).toNat = b by rw [gs_id (by omega) (by omega)]; omega]
      refine kk' (x + 1) (g_wr V 75 b x) (by rw [cnt_t rp, h1]; rfl) (fun a ha => by rw [a_cell _ ha]; exact h2 a ha) (fun t ht => ?_)
      by_cases e : t = b
      · subst e
        exact ⟨t, ⟨Nat.le_refl _, hf.1 t, hb2⟩, by rw [wr_at]; exact h1⟩
      · rw [a_ne _ (by omega)]; exact h3 t (by omega)
    · have al := hb1 (by omega)
      obtain ⟨p, l, e⟩ := h3 b (by omega)
      have lb : IsLow (fin nx E) i b := ⟨by omega, al, hb2⟩
      have pb : p = b := low_uniq (low_cg hf (hf.2.1 _ _ al) l) lb
      subst pb
      have nr : ¬ rep (fin nx E) i := fun z => z p (by omega) al
      rw [jn_eq, if_neg (by rw [gs_id (by omega) (by omega), gs_id (by omega) (by omega)]; omega), g_gd_pos (g_ix_of (by omega) (by omega) (by omega)), g_gd_pos (g_ix_of (by omega) (by omega) (by omega)), nm_eq, show (gs (p : Int)).toNat = p by rw [gs_id (by omega) (by omega)]; omega, show (gs (i : Int)).toNat = i by rw [gs_id (by omega) (by omega)]; omega]
      refine kk' x (g_wr V 75 i (V 75 p)) (by rw [cnt_f nr]; exact h1) (fun a ha => by rw [a_cell _ ha]; exact h2 a ha) (fun t ht => ?_)
      by_cases e2 : t = i
      · subst e2
        exact ⟨p, lb, by rw [wr_at]; exact e⟩
      · rw [a_ne _ (by omega)]; exact h3 t (by omega)
/-- all the sorts -/
theorem p_sortAll {M : g_M} (h1 : ∀ s : Nat, s < 12 → 0 ≤ M 2 (16 + s) ∧ M 2 (16 + s) ≤ 12) (h2 : ∀ i : Nat, i < 48 → 0 ≤ M 4 i ∧ M 4 i ≤ 12) (hk : ∀ s : Nat, s < 12 → 0 ≤ M 5 s ∧ M 5 s ≤ 3) : Ok (m_X0_sortAll M) (fun r => r.1 = (cnt (rep (Ek (kdE M) (ND (M 2) (M 4)) 12)) 13 : Int) ∧ (∀ a, a ≠ 68 → a ≠ 74 → a ≠ 75 → r.2 a = M a) ∧ SrN (Ek (kdE M) (ND (M 2) (M 4)) 12) r.2) := by
  have hn : ∀ s c, s ≤ 12 → c < 4 → ND (M 2) (M 4) s c ≤ 12 := fun s c hs hc => (ND_cast h1 h2 hs hc).2
  have sv := Sv_of M h1 h2
  generalize ND (M 2) (M 4) = nx at *
  obtain ⟨M1, e1, f1, f2, f3⟩ := p_sortBy hk nx sv
  generalize kdE M = K at *
  obtain ⟨⟨c1, M2⟩, e2, g1, g2, g3⟩ := p_part (Ek_eqv K nx 0) hn f2 f3
  dsimp only at g1 g2 g3
  have bnd := fun k => cnt_le (rep (Ek K nx k)) 13
  have fix : ∀ k, (∀ a b, a ≤ 12 → b ≤ 12 → (Ek K nx k a b ↔ Ek K nx 12 a b)) → ∀ x V, x = (cnt (rep (Ek K nx k)) 13 : Int) → (∀ a, a ≠ 68 → a ≠ 74 → a ≠ 75 → V a = M a) → SrN (Ek K nx k) V → Ok (some (x, V)) (fun r => r.1 = (cnt (rep (Ek K nx 12)) 13 : Int) ∧ (∀ a, a ≠ 68 → a ≠ 74 → a ≠ 75 → r.2 a = M a) ∧ SrN (Ek K nx 12) r.2) := by
    intro k hkk x V hx hV hS
    have rp : ∀ i, i < 13 → (rep (Ek K nx k) i ↔ rep (Ek K nx 12) i) := fun i hi => ⟨fun z q hq w => z q hq ((hkk i q (by omega) (by omega)).2 w), fun z q hq w => z q hq ((hkk i q (by omega) (by omega)).1 w)⟩
    refine Ok_some ⟨by rw [hx, cnt_cg 13 rp], hV, fun s hs => ?_⟩
    obtain ⟨p, l, e⟩ := hS s hs
    have lp := l.1
    refine ⟨p, ⟨l.1, (hkk s p hs (by omega)).1 l.2.1, fun q hq w => l.2.2 q hq ((hkk s q hs (by omega)).2 w)⟩, ?_⟩
    rw [← cnt_cg p (fun i hi => rp i (by omega))]
    exact e
  unfold m_X0_sortAll
  rw [e1, bd_some, nm_eq, e2, bW_sm, nm_eq, nm_eq]
  refine Ok_for 13 (fun F i (s : Int × Int × g_M) => m_X0_sortAll_L13 F s.1 s.2.1 i s.2.2) (fun i s => s.2.1 = (cnt (rep (Ek K nx (i + 1))) 13 : Int) ∧ s.1 = (if i = 0 then 0 else (cnt (rep (Ek K nx i)) 13 : Int)) ∧ (∀ a, a ≠ 68 → a ≠ 74 → a ≠ 75 → s.2.2 a = M a) ∧ Sv nx s.2.2 ∧ SrN (Ek K nx (i + 1)) s.2.2) (fun F s h => ?_) (fun i F s hi h kk => ?_) 0 g_fuel (0, c1, M2) (by omega) (by unfold g_fuel; omega) ⟨g1, rfl, fun a a1 a2 a3 => (g2 a a2 a3).trans (f1 a a1 a2), fun s c hs hc => (congrFun (g2 68 (by omega) (by omega)) _).trans (f2 s c hs hc), g3⟩
  · obtain ⟨b, c, V⟩ := s
    obtain ⟨h1, h2, h3, h4, h5⟩ := h
    dsimp only at h1 h2 h3 h4 h5
    show Ok (m_X0_sortAll_L13 (F + 1) b c _ V) _
    rw [m_X0_sortAll_L13]
    simp (disch := omega) only [↓reduceIte, ↓nm_eq, ↓jn_eq, ↓c_within, ↓c_isIn, ↓c_isScene, ↓c_isPlace, ↓c_isCue, ↓c_isDigit, ↓d_isScene, ↓d_isAny, ↓ta_pb1, ↓ta_pb0, ↓ta_pb1', ↓ta_pb0', ta_lt, ta_nlt, ta_le, ta_nle, ta_eq, ta_neq, ta_nne, ta_ne, gs_id, a_gd01, a_gdT, or_true, true_or, bd_some, bW_sm, a_gd, a_ne, a_rd, Int.toNat_natCast, Int.toNat_add, Int.toNat_mul, Int.reduceToNat, a_gdp, a_cell, and_self, and_true, true_and]
    exact fix 14 (fun x y hx hy => ⟨fun z => Ek_low z (by omega), fun z => Ek_12 hn 14 x y hx hy (by omega) z⟩) c V h1 h3 h5
  · obtain ⟨b, c, V⟩ := s
    obtain ⟨h1, h2, h3, h4, h5⟩ := h
    dsimp only at h1 h2 h3 h4 h5
    show Ok (m_X0_sortAll_L13 (F + 1) b c _ V) _
    rw [m_X0_sortAll_L13]
    have b1 := bnd (i + 1)
    have b0 := bnd i
    have bb : 0 ≤ b ∧ b ≤ 13 := by
      by_cases z : i = 0
      · rw [if_pos z] at h2; omega
      · rw [if_neg z] at h2; omega
    by_cases d : c ≤ b
    · simp (disch := omega) only [↓reduceIte, ↓nm_eq, ↓jn_eq, ↓c_within, ↓c_isIn, ↓c_isScene, ↓c_isPlace, ↓c_isCue, ↓c_isDigit, ↓d_isScene, ↓d_isAny, ↓ta_pb1, ↓ta_pb0, ↓ta_pb1', ↓ta_pb0', ta_lt, ta_nlt, ta_le, ta_nle, ta_eq, ta_neq, ta_nne, ta_ne, gs_id, a_gd01, a_gdT, or_true, true_or, bd_some, bW_sm, a_gd, a_ne, a_rd, Int.toNat_natCast, Int.toNat_add, Int.toNat_mul, Int.reduceToNat, a_gdp, a_cell, and_self, and_true, true_and]
      by_cases z : i = 0
      · rw [if_pos z] at h2
        have : 1 ≤ cnt (rep (Ek K nx (i + 1))) 13 := by
          have r0 : rep (Ek K nx (i + 1)) 0 := fun q hq => by omega
          have := cnt_up (p := rep (Ek K nx (i + 1))) 12 1
          rw [show cnt (rep (Ek K nx (i + 1))) 1 = 1 from cnt_t r0] at this
          exact this
        omega
      · rw [if_neg z] at h2
        have no : ∀ s, s < 13 → rep (fin nx (Ek K nx i)) s → rep (Ek K nx i) s := by
          intro s hs r
          apply Classical.byContradiction
          intro nr
          have := cnt_lt (p := rep (Ek K nx i)) (q := rep (Ek K nx (i + 1))) 13 (fun t ht z q hq w => z q hq w.1) ⟨s, hs, r, nr⟩
          omega
        have one := rep_new (Ek_eqv K nx i) no
        have st := Ek_still hn (fun x y hx hy w => one x y (by omega) (by omega) w)
        refine fix (i + 1) (fun x y hx hy => ?_) c V h1 h3 h5
        rw [← st x y hx hy]
        exact ⟨fun w => w.1, fun w => one x y (by omega) (by omega) w⟩
    · simp (disch := omega) only [↓reduceIte, ↓nm_eq, ↓jn_eq, ↓c_within, ↓c_isIn, ↓c_isScene, ↓c_isPlace, ↓c_isCue, ↓c_isDigit, ↓d_isScene, ↓d_isAny, ↓ta_pb1, ↓ta_pb0, ↓ta_pb1', ↓ta_pb0', ta_lt, ta_nlt, ta_le, ta_nle, ta_eq, ta_neq, ta_nne, ta_ne, gs_id, a_gd01, a_gdT, or_true, true_or, bd_some, bW_sm, a_gd, a_ne, a_rd, Int.toNat_natCast, Int.toNat_add, Int.toNat_mul, Int.reduceToNat, a_gdp, a_cell, and_self, and_true, true_and]
      refine Ok_bW (p_part (Ek_eqv K nx (i + 1)) hn h4 (SrN_E (Ek_eqv K nx (i + 1)) h5)) (fun x V' hh => ?_)
      obtain ⟨q1, q2, q3⟩ := hh
      dsimp only at q1 q2 q3
      exact kk (c, x, V') ⟨q1, by show c = _; rw [if_neg (by omega)]; exact h1, fun a a1 a2 a3 => (q2 a a2 a3).trans (h3 a a1 a2 a3), fun s c hs hc => by show V' 68 _ = _; rw [q2 68 (by omega) (by omega)]; exact h4 s c hs hc, q3⟩
/-- what parts two -/
theorem p_parted {M : g_M} (h1 : ∀ s : Nat, s < 12 → 0 ≤ M 2 (16 + s) ∧ M 2 (16 + s) ≤ 12) (h2 : ∀ i : Nat, i < 48 → 0 ≤ M 4 i ∧ M 4 i ≤ 12) (hk : ∀ s : Nat, s < 12 → 0 ≤ M 5 s ∧ M 5 s ≤ 3) {a b : Nat} (ha : a ≤ 12) (hb : b ≤ 12) : Ok (m_X0_parted a b M) (fun r => (∀ x, x ≠ 68 → x ≠ 74 → x ≠ 75 → r.2 x = M x) ∧ r.1 = if pdd (kdE M) (ND (M 2) (M 4)) a b = 1000000 then -1 else (pdd (kdE M) (ND (M 2) (M 4)) a b : Int)) := by
  have hn : ∀ s c, s ≤ 12 → c < 4 → ND (M 2) (M 4) s c ≤ 12 := fun s c hs hc => (ND_cast h1 h2 hs hc).2
  have sv := Sv_of M h1 h2
  generalize ND (M 2) (M 4) = nx at *
  obtain ⟨M1, e1, f1, f2, f3⟩ := p_sortBy hk nx sv
  generalize kdE M = K at *
  have sp := pdd_spec K nx a b
  generalize pdd K nx a b = D at sp ⊢
  unfold m_X0_parted
  rw [e1, bd_some, nm_eq]
  refine Ok_for 13 (fun F i (V : g_M) => m_X0_parted_L6 a b F i V) (fun i V => (∀ x, x ≠ 68 → x ≠ 74 → x ≠ 75 → V x = M x) ∧ Sv nx V ∧ SrE (Ek K nx i) V ∧ ∀ j, j < i → Ek K nx j a b) (fun F V h => ?_) (fun i F V hi h kk => ?_) 0 g_fuel M1 (by omega) (by unfold g_fuel; omega) ⟨fun x x1 x2 x3 => f1 x x1 x2, f2, f3, fun j hj => by omega⟩
  · obtain ⟨g1, g2, g3, g4⟩ := h
    show Ok (m_X0_parted_L6 a b (F + 1) _ V) _
    rw [m_X0_parted_L6]
    simp (disch := omega) only [↓reduceIte, ↓nm_eq, ↓jn_eq, ↓c_within, ↓c_isIn, ↓c_isScene, ↓c_isPlace, ↓c_isCue, ↓c_isDigit, ↓d_isScene, ↓d_isAny, ↓ta_pb1, ↓ta_pb0, ↓ta_pb1', ↓ta_pb0', ta_lt, ta_nlt, ta_le, ta_nle, ta_eq, ta_neq, ta_nne, ta_ne, gs_id, a_gd01, a_gdT, or_true, true_or, bd_some, bW_sm, a_gd, a_ne, a_rd, Int.toNat_natCast, Int.toNat_add, Int.toNat_mul, Int.reduceToNat, a_gdp, a_cell, and_self, and_true, true_and]
    refine Ok_some ⟨g1, ?_⟩
    rcases sp with ⟨s1, -⟩ | ⟨s1, s2, -⟩
    · rw [if_pos s1]
    · exact absurd (g4 D (by omega)) s2
  · obtain ⟨g1, g2, g3, g4⟩ := h
    show Ok (m_X0_parted_L6 a b (F + 1) _ V) _
    rw [m_X0_parted_L6]
    have va := g3.1 a ha
    have vb := g3.1 b hb
    have eq := g3.2 a b ha hb
    by_cases c : V 74 a = V 74 b
    · simp (disch := omega) only [↓reduceIte, ↓nm_eq, ↓jn_eq, ↓c_within, ↓c_isIn, ↓c_isScene, ↓c_isPlace, ↓c_isCue, ↓c_isDigit, ↓d_isScene, ↓d_isAny, ↓ta_pb1, ↓ta_pb0, ↓ta_pb1', ↓ta_pb0', ta_lt, ta_nlt, ta_le, ta_nle, ta_eq, ta_neq, ta_nne, ta_ne, gs_id, a_gd01, a_gdT, or_true, true_or, bd_some, bW_sm, a_gd, a_ne, a_rd, Int.toNat_natCast, Int.toNat_add, Int.toNat_mul, Int.reduceToNat, a_gdp, a_cell, and_self, and_true, true_and]
      refine Ok_bW (p_part (Ek_eqv K nx i) hn g2 g3) (fun x V' hh => ?_)
      obtain ⟨q1, q2, q3⟩ := hh
      dsimp only at q1 q2 q3
      refine kk V' ⟨fun x x1 x2 x3 => (q2 x x2 x3).trans (g1 x x1 x2 x3), fun s c hs hc => (congrFun (q2 68 (by omega) (by omega)) _).trans (g2 s c hs hc), SrN_E (Ek_eqv K nx (i + 1)) q3, fun j hj => ?_⟩
      by_cases e : j = i
      · subst e; exact eq.1 c
      · exact g4 j (by omega)
    · simp (disch := omega) only [↓reduceIte, ↓nm_eq, ↓jn_eq, ↓c_within, ↓c_isIn, ↓c_isScene, ↓c_isPlace, ↓c_isCue, ↓c_isDigit, ↓d_isScene, ↓d_isAny, ↓ta_pb1, ↓ta_pb0, ↓ta_pb1', ↓ta_pb0', ta_lt, ta_nlt, ta_le, ta_nle, ta_eq, ta_neq, ta_nne, ta_ne, gs_id, a_gd01, a_gdT, or_true, true_or, bd_some, bW_sm, a_gd, a_ne, a_rd, Int.toNat_natCast, Int.toNat_add, Int.toNat_mul, Int.reduceToNat, a_gdp, a_cell, and_self, and_true, true_and]
      refine Ok_some ⟨g1, ?_⟩
      have ne : ¬ Ek K nx i a b := fun z => c (eq.2 z)
      rcases sp with ⟨-, s2⟩ | ⟨s1, s2, s3⟩
      · exact absurd (Ek_low s2 (by omega)) ne
      · have a1 : ¬ D < i := fun z => s2 (g4 D z)
        have a2 : ¬ i < D := fun z => ne (s3 i z)
        rw [if_neg (by omega)]
        show (i : Int) = D
        omega
