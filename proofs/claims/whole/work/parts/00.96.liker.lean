/-! like scenes: the reference; both -/
def KdW (K : Nat → Int) (W : g_M) : Prop := ∀ V : g_M, V 1 = W 1 → ∀ s : Nat, s ≤ 12 → m_X9_kindAt s V = some (K s) ∧ 0 ≤ K s ∧ K s ≤ 4
def LvD (K : Nat → Int) (nx : Nat → Nat → Nat) (k : Nat) (V : g_M) : Prop := ∀ p q, p ≤ 12 → q ≤ 12 → V 14 (13 * p + q) = (pd K nx k p q : Int) ∨ (V 14 (13 * p + q) = ((k + 1 : Nat) : Int) ∧ pd K nx k p q = 1000000)
theorem pd_le (K : Nat → Int) (nx : Nat → Nat → Nat) {k : Nat} (hk : k ≤ 12) (p q : Nat) : pd K nx k p q ≤ 12 ∨ pd K nx k p q = 1000000 := by
  rcases pd_spec K nx k (by omega) p q with ⟨h, -⟩ | ⟨h, -⟩
  · exact Or.inr h
  · exact Or.inl (by omega)
theorem q_behind {K : Nat → Int} {nx : Nat → Nat → Nat} (hn : ∀ s c, s ≤ 12 → c < 4 → nx s c ≤ 12) {k : Nat} (hk : k < 12) {W V : g_M} (hx : Nx nx W) (hV : V 1 = W 1) (hl : LvD K nx k V) {p q : Nat} (hp : p ≤ 12) (hq : q ≤ 12) : ∃ r : Int, m_X9_isPartedBehind p q k V = some r ∧ (r = 0 ∨ r = 1) ∧ (r = 1 ↔ ∃ c, c < 4 ∧ pd K nx k (nx p c) (nx q c) = k) := by
  have pb := fun c => pd_le K nx (k := k) (by omega) (nx p c) (nx q c)
  have key : Ok (m_X9_isPartedBehind_L3 p q k V g_fuel 0) (fun r => (r = 0 ∨ r = 1) ∧ (r = 1 ↔ ∃ c, c < 4 ∧ pd K nx k (nx p c) (nx q c) = k)) := by
    refine Ok_for 4 (fun F i (_ : Unit) => m_X9_isPartedBehind_L3 p q k V F i) (fun i _ => ∀ c, c < i → pd K nx k (nx p c) (nx q c) ≠ k) (fun F u h => ?_) (fun i F u hi h kk => ?_) 0 g_fuel () (by omega) (by unfold g_fuel; omega) (fun c hc => by omega)
    · show Ok (m_X9_isPartedBehind_L3 p q k V (F + 1) _) _
      rw [m_X9_isPartedBehind_L3]
      simp (disch := omega) only [↓reduceIte, ↓nm_eq, ↓jn_eq, ↓c_within, ↓c_isIn, ↓c_isScene, ↓c_isPlace, ↓c_isCue, ↓c_isDigit, ↓d_isScene, ↓d_isAny, ↓ta_pb1, ↓ta_pb0, ↓ta_pb1', ↓ta_pb0', ta_lt, ta_nlt, ta_le, ta_nle, ta_eq, ta_neq, ta_nne, ta_ne, gs_id, a_gd01, a_gdT, or_true, true_or, bd_some, bW_sm, a_gd, a_ne, a_rd, Int.toNat_natCast, Int.toNat_add, Int.toNat_mul, Int.reduceToNat, a_gdp, a_cell, and_self, and_true, true_and]
      exact Ok_some ⟨Or.inl rfl, fun z => by omega, fun ⟨c, hc, z⟩ => absurd z (h c hc)⟩
    · show Ok (m_X9_isPartedBehind_L3 p q k V (F + 1) _) _
      rw [m_X9_isPartedBehind_L3]
      have up := hn p i hp hi
      have uq := hn q i hq hi
      have vv := hl _ _ up uq
      have bb := pb i
      have x1 := hx V hV p i hp hi
      have x2 := hx V hV q i hq hi
      by_cases c : pd K nx k (nx p i) (nx q i) = k
      · have e : V 14 (13 * nx p i + nx q i) = k := by omega
        simp (disch := omega) only [↓reduceIte, ↓nm_eq, ↓jn_eq, ↓c_within, ↓c_isIn, ↓c_isScene, ↓c_isPlace, ↓c_isCue, ↓c_isDigit, ↓d_isScene, ↓d_isAny, ↓ta_pb1, ↓ta_pb0, ↓ta_pb1', ↓ta_pb0', ta_lt, ta_nlt, ta_le, ta_nle, ta_eq, ta_neq, ta_nne, ta_ne, gs_id, a_gd01, a_gdT, or_true, true_or, bd_some, bW_sm, a_gd, a_ne, a_rd, Int.toNat_natCast, Int.toNat_add, Int.toNat_mul, Int.reduceToNat, a_gdp, a_cell, and_self, and_true, true_and, x1, x2, e]
        exact Ok_some ⟨Or.inr rfl, fun _ => ⟨i, hi, c⟩, fun _ => rfl⟩
      · have e : ¬ V 14 (13 * nx p i + nx q i) = k := by omega
        have rng : 0 ≤ V 14 (13 * nx p i + nx q i) ∧ V 14 (13 * nx p i + nx q i) ≤ 1000000 := by omega
        simp (disch := omega) only [↓reduceIte, ↓nm_eq, ↓jn_eq, ↓c_within, ↓c_isIn, ↓c_isScene, ↓c_isPlace, ↓c_isCue, ↓c_isDigit, ↓d_isScene, ↓d_isAny, ↓ta_pb1, ↓ta_pb0, ↓ta_pb1', ↓ta_pb0', ta_lt, ta_nlt, ta_le, ta_nle, ta_eq, ta_neq, ta_nne, ta_ne, gs_id, a_gd01, a_gdT, or_true, true_or, bd_some, bW_sm, a_gd, a_ne, a_rd, Int.toNat_natCast, Int.toNat_add, Int.toNat_mul, Int.reduceToNat, a_gdp, a_cell, and_self, and_true, true_and, x1, x2]
        refine kk () (fun c' hc' => ?_)
        by_cases e2 : c' = i
        · subst e2; exact c
        · exact h c' (by omega)
  obtain ⟨r, e, h1, h2⟩ := key
  refine ⟨r, ?_, h1, h2⟩
  unfold m_X9_isPartedBehind
  rw [nm_eq]
  exact e
def ID (K : Nat → Int) (nx : Nat → Nat → Nat) (W : g_M) (k x : Nat) (V : g_M) : Prop := (∀ a, a ≠ 14 → V a = W a) ∧ ∀ p q, p ≤ 12 → q ≤ 12 → (13 * p + q < x → V 14 (13 * p + q) = (pd K nx (k + 1) p q : Int)) ∧ (x ≤ 13 * p + q → V 14 (13 * p + q) = (pd K nx k p q : Int))
theorem ID_lv {K : Nat → Int} {nx : Nat → Nat → Nat} {W : g_M} {k x : Nat} {V : g_M} (h : ID K nx W k x V) : LvD K nx k V := by
  intro p q hp hq
  obtain ⟨h1, h2⟩ := h.2 p q hp hq
  by_cases c : 13 * p + q < x
  · rw [h1 c, pd_succ]
    by_cases d : pd K nx k p q = 1000000 ∧ (pd K nx k (nx p 0) (nx q 0) = k ∨ pd K nx k (nx p 1) (nx q 1) = k ∨ pd K nx k (nx p 2) (nx q 2) = k ∨ pd K nx k (nx p 3) (nx q 3) = k)
    · rw [if_pos d]; exact Or.inr ⟨rfl, d.1⟩
    · rw [if_neg d]; exact Or.inl rfl
  · exact Or.inl (h2 (by omega))
theorem q_part77 {Q : g_M → Prop} {K : Nat → Int} {nx : Nat → Nat → Nat} (hn : ∀ s c, s ≤ 12 → c < 4 → nx s c ≤ 12) {k : Nat} (hk : k < 12) {W : g_M} (hx : Nx nx W) {p : Nat} (hp : p ≤ 12) (kc : g_M → Option g_M) (V0 : g_M) (h0 : ID K nx W k (13 * p) V0) (hq : ∀ V, ID K nx W k (13 * p + 13) V → Ok (kc V) Q) : Ok (m_X9_layParted_L77 ((k + 1 : Nat) : Int) p kc g_fuel 0 V0) Q := by
  refine Ok_for 13 (fun F i V => m_X9_layParted_L77 ((k + 1 : Nat) : Int) p kc F i V) (fun i V => ID K nx W k (13 * p + i) V) (fun F V h => ?_) (fun i F V hi h kk => ?_) 0 g_fuel V0 (by omega) (by unfold g_fuel; omega) h0
  · show Ok (m_X9_layParted_L77 _ p kc (F + 1) _ V) Q
    rw [m_X9_layParted_L77]
    simp (disch := omega) only [↓reduceIte, ↓nm_eq, ↓jn_eq, ↓c_within, ↓c_isIn, ↓c_isScene, ↓c_isPlace, ↓c_isCue, ↓c_isDigit, ↓d_isScene, ↓d_isAny, ↓ta_pb1, ↓ta_pb0, ↓ta_pb1', ↓ta_pb0', ta_lt, ta_nlt, ta_le, ta_nle, ta_eq, ta_neq, ta_nne, ta_ne, gs_id, a_gd01, a_gdT, or_true, true_or, bd_some, bW_sm, a_gd, a_ne, a_rd, Int.toNat_natCast, Int.toNat_add, Int.toNat_mul, Int.reduceToNat, a_gdp, a_cell, and_self, and_true, true_and]
    exact hq V h
  · show Ok (m_X9_layParted_L77 _ p kc (F + 1) _ V) Q
    have lv := ID_lv h
    have vi := (h.2 p i hp (by omega)).2 (Nat.le_refl _)
    have bi := pd_le K nx (k := k) (by omega) p i
    have ps := pd_succ K nx k p i
    obtain ⟨r, e, r01, r1⟩ := q_behind hn hk hx (by rw [h.1 1 (by omega)]) lv hp (show i ≤ 12 by omega)
    have stay : pd K nx (k + 1) p i = pd K nx k p i → Ok (m_X9_layParted_L77 ((k + 1 : Nat) : Int) p kc F ((i : Int) + 1) V) Q := by
      intro z
      refine kk V ⟨h.1, fun p' q' hp' hq' => ?_⟩
      by_cases c : 13 * p' + q' = 13 * p + i
      · have : p' = p := by omega
        subst this
        have : q' = i := by omega
        subst this
        exact ⟨fun _ => by rw [z]; exact vi, fun w => by omega⟩
      · exact ⟨fun w => (h.2 p' q' hp' hq').1 (by omega), fun w => (h.2 p' q' hp' hq').2 (by omega)⟩
    have move : pd K nx (k + 1) p i = k + 1 → Ok (m_X9_layParted_L77 ((k + 1 : Nat) : Int) p kc F ((i : Int) + 1) (g_wr V 14 (13 * p + i) ((k + 1 : Nat) : Int))) Q := by
      intro z
      refine kk _ ⟨fun a ha => by rw [a_cell _ ha]; exact h.1 a ha, fun p' q' hp' hq' => ?_⟩
      by_cases c : 13 * p' + q' = 13 * p + i
      · have : p' = p := by omega
        subst this
        have : q' = i := by omega
        subst this
        exact ⟨fun _ => by rw [z, wr_at], fun w => by omega⟩
      · rw [a_ne _ (by omega)]
        exact ⟨fun w => (h.2 p' q' hp' hq').1 (by omega), fun w => (h.2 p' q' hp' hq').2 (by omega)⟩
    have ek : (((k + 1 : Nat) : Int) - 1) = (k : Int) := by omega
    rw [m_X9_layParted_L77]
    by_cases c : pd K nx k p i = 1000000
    · by_cases d : ∃ c, c < 4 ∧ pd K nx k (nx p c) (nx i c) = k
      · rw [if_pos ⟨c, four.1 d⟩] at ps
        have : r = 1 := r1.2 d
        subst this
        simp (disch := omega) only [↓reduceIte, ↓nm_eq, ↓jn_eq, ↓c_within, ↓c_isIn, ↓c_isScene, ↓c_isPlace, ↓c_isCue, ↓c_isDigit, ↓d_isScene, ↓d_isAny, ↓ta_pb1, ↓ta_pb0, ↓ta_pb1', ↓ta_pb0', ta_lt, ta_nlt, ta_le, ta_nle, ta_eq, ta_neq, ta_nne, ta_ne, gs_id, a_gd01, a_gdT, or_true, true_or, bd_some, bW_sm, a_gd, a_ne, a_rd, Int.toNat_natCast, Int.toNat_add, Int.toNat_mul, Int.reduceToNat, a_gdp, a_cell, and_self, and_true, true_and, ek, e]
        exact move ps
      · rw [if_neg (fun z => d (four.2 z.2))] at ps
        have : r = 0 := by
          rcases r01 with z | z
          · exact z
          · exact absurd (r1.1 z) d
        subst this
        simp (disch := omega) only [↓reduceIte, ↓nm_eq, ↓jn_eq, ↓c_within, ↓c_isIn, ↓c_isScene, ↓c_isPlace, ↓c_isCue, ↓c_isDigit, ↓d_isScene, ↓d_isAny, ↓ta_pb1, ↓ta_pb0, ↓ta_pb1', ↓ta_pb0', ta_lt, ta_nlt, ta_le, ta_nle, ta_eq, ta_neq, ta_nne, ta_ne, gs_id, a_gd01, a_gdT, or_true, true_or, bd_some, bW_sm, a_gd, a_ne, a_rd, Int.toNat_natCast, Int.toNat_add, Int.toNat_mul, Int.reduceToNat, a_gdp, a_cell, and_self, and_true, true_and, ek, e]
        exact stay ps
    · rw [if_neg (fun z => c z.1)] at ps
      clear r1 r01 e move
      simp (disch := omega) only [↓reduceIte, ↓nm_eq, ↓jn_eq, ↓c_within, ↓c_isIn, ↓c_isScene, ↓c_isPlace, ↓c_isCue, ↓c_isDigit, ↓d_isScene, ↓d_isAny, ↓ta_pb1, ↓ta_pb0, ↓ta_pb1', ↓ta_pb0', ta_lt, ta_nlt, ta_le, ta_nle, ta_eq, ta_neq, ta_nne, ta_ne, gs_id, a_gd01, a_gdT, or_true, true_or, bd_some, bW_sm, a_gd, a_ne, a_rd, Int.toNat_natCast, Int.toNat_add, Int.toNat_mul, Int.reduceToNat, a_gdp, a_cell, and_self, and_true, true_and]
      exact stay ps
theorem q_part {K : Nat → Int} {nx : Nat → Nat → Nat} (hn : ∀ s c, s ≤ 12 → c < 4 → nx s c ≤ 12) (W : g_M) (hx : Nx nx W) (hk : KdW K W) : Ok (m_X9_layParted W) (fun V => (∀ a, a ≠ 14 → V a = W a) ∧ ∀ p q, p ≤ 12 → q ≤ 12 → V 14 (13 * p + q) = (pdd K nx p q : Int)) := by
  unfold m_X9_layParted
  have key10 : ∀ (k : g_M → Option g_M) (p : Nat), p ≤ 12 → m_X9_layParted_L10 p k g_fuel 0 (cpF W 14 0 (fun x => (pd K nx 0 (x / 13) (x % 13) : Int)) (13 * p)) = k (cpF W 14 0 (fun x => (pd K nx 0 (x / 13) (x % 13) : Int)) (13 * p + 13)) := by
    intro k p hp
    refine loop_F (fun F i V => m_X9_layParted_L10 p k F i V) 13 (fun i => cpF W 14 0 (fun x => (pd K nx 0 (x / 13) (x % 13) : Int)) (13 * p + i)) _ (fun F => ?_) (fun i F hi => ?_) 13 0 g_fuel (by omega) (by unfold g_fuel; omega)
    · show m_X9_layParted_L10 p k (F + 1) _ _ = _
      rw [m_X9_layParted_L10]
      simp (disch := omega) only [↓reduceIte, ↓nm_eq, ↓jn_eq, ↓c_within, ↓c_isIn, ↓c_isScene, ↓c_isPlace, ↓c_isCue, ↓c_isDigit, ↓d_isScene, ↓d_isAny, ↓ta_pb1, ↓ta_pb0, ↓ta_pb1', ↓ta_pb0', ta_lt, ta_nlt, ta_le, ta_nle, ta_eq, ta_neq, ta_nne, ta_ne, gs_id, a_gd01, a_gdT, or_true, true_or, bd_some, bW_sm, a_gd, a_ne, a_rd, Int.toNat_natCast, Int.toNat_add, Int.toNat_mul, Int.reduceToNat, a_gdp, a_cell, and_self, and_true, true_and]
    · show m_X9_layParted_L10 p k (F + 1) _ _ = m_X9_layParted_L10 p k F _ (cpF W 14 0 (fun x => (pd K nx 0 (x / 13) (x % 13) : Int)) (13 * p + i + 1))
      rw [m_X9_layParted_L10, ← cpF_succ, show (13 * p + i) / 13 = p by omega, show (13 * p + i) % 13 = i by omega, Nat.zero_add]
      have c1 : cpF W 14 0 (fun x => (pd K nx 0 (x / 13) (x % 13) : Int)) (13 * p + i) 1 = W 1 := cpF_cell _ _ (by omega)
      obtain ⟨a1, a2, a3⟩ := hk _ c1 p hp
      obtain ⟨b1, b2, b3⟩ := hk _ c1 i (by omega)
      have e0 : pd K nx 0 p i = if K p = K i then 1000000 else 0 := rfl
      by_cases c : K p = K i
      · rw [e0, if_pos c]
        simp (disch := omega) only [↓reduceIte, ↓nm_eq, ↓jn_eq, ↓c_within, ↓c_isIn, ↓c_isScene, ↓c_isPlace, ↓c_isCue, ↓c_isDigit, ↓d_isScene, ↓d_isAny, ↓ta_pb1, ↓ta_pb0, ↓ta_pb1', ↓ta_pb0', ta_lt, ta_nlt, ta_le, ta_nle, ta_eq, ta_neq, ta_nne, ta_ne, gs_id, a_gd01, a_gdT, or_true, true_or, bd_some, bW_sm, a_gd, a_ne, a_rd, Int.toNat_natCast, Int.toNat_add, Int.toNat_mul, Int.reduceToNat, a_gdp, a_cell, and_self, and_true, true_and, a1, b1, Int.natCast_add, Int.natCast_one]
        rfl
      · rw [e0, if_neg c]
        simp (disch := omega) only [↓reduceIte, ↓nm_eq, ↓jn_eq, ↓c_within, ↓c_isIn, ↓c_isScene, ↓c_isPlace, ↓c_isCue, ↓c_isDigit, ↓d_isScene, ↓d_isAny, ↓ta_pb1, ↓ta_pb0, ↓ta_pb1', ↓ta_pb0', ta_lt, ta_nlt, ta_le, ta_nle, ta_eq, ta_neq, ta_nne, ta_ne, gs_id, a_gd01, a_gdT, or_true, true_or, bd_some, bW_sm, a_gd, a_ne, a_rd, Int.toNat_natCast, Int.toNat_add, Int.toNat_mul, Int.reduceToNat, a_gdp, a_cell, and_self, and_true, true_and, a1, b1, Int.natCast_add, Int.natCast_one]
        rfl
  have key2 : ∀ k : g_M → Option g_M, m_X9_layParted_L2 k g_fuel 0 W = k (cpF W 14 0 (fun x => (pd K nx 0 (x / 13) (x % 13) : Int)) 169) := by
    intro k
    have lp := loop_F (fun F i V => m_X9_layParted_L2 k F i V) 13 (fun i => cpF W 14 0 (fun x => (pd K nx 0 (x / 13) (x % 13) : Int)) (13 * i)) (k (cpF W 14 0 (fun x => (pd K nx 0 (x / 13) (x % 13) : Int)) 169)) (fun F => ?_) (fun i F hi => ?_) 13 0 g_fuel (by omega) (by unfold g_fuel; omega)
    · rw [Nat.mul_zero, cpF_0] at lp
      exact lp
    · show m_X9_layParted_L2 k (F + 1) _ _ = _
      rw [m_X9_layParted_L2]
      simp (disch := omega) only [↓reduceIte, ↓nm_eq, ↓jn_eq, ↓c_within, ↓c_isIn, ↓c_isScene, ↓c_isPlace, ↓c_isCue, ↓c_isDigit, ↓d_isScene, ↓d_isAny, ↓ta_pb1, ↓ta_pb0, ↓ta_pb1', ↓ta_pb0', ta_lt, ta_nlt, ta_le, ta_nle, ta_eq, ta_neq, ta_nne, ta_ne, gs_id, a_gd01, a_gdT, or_true, true_or, bd_some, bW_sm, a_gd, a_ne, a_rd, Int.toNat_natCast, Int.toNat_add, Int.toNat_mul, Int.reduceToNat, a_gdp, a_cell, and_self, and_true, true_and]
    · show m_X9_layParted_L2 k (F + 1) _ _ = m_X9_layParted_L2 k F _ (cpF W 14 0 (fun x => (pd K nx 0 (x / 13) (x % 13) : Int)) (13 * (i + 1)))
      rw [m_X9_layParted_L2, if_neg (by rw [gs_id (by omega) (by omega), gs_id (by omega) (by omega)]; omega), nm_eq, key10 _ i (by omega), nm_eq, Int.natCast_add]
      rfl
  rw [nm_eq, key2, nm_eq]
  have h := Ok_for (Q := fun V => (∀ a, a ≠ 14 → V a = W a) ∧ ∀ p q, p ≤ 12 → q ≤ 12 → V 14 (13 * p + q) = (pdd K nx p q : Int)) 13 (fun F i V => m_X9_layParted_L61 F i V) (fun i V => 1 ≤ i ∧ (∀ a, a ≠ 14 → V a = W a) ∧ ∀ p q, p ≤ 12 → q ≤ 12 → V 14 (13 * p + q) = (pd K nx (i - 1) p q : Int)) (fun F V h => ?_) (fun i F V hi h kk => ?_) 1 g_fuel (cpF W 14 0 (fun x => (pd K nx 0 (x / 13) (x % 13) : Int)) 169) (by omega) (by unfold g_fuel; omega) ⟨by omega, fun a ha => cpF_cell _ _ ha, fun p q hp hq => by rw [cpF_in _ _ (by omega), Nat.sub_zero, show (13 * p + q) / 13 = p by omega, show (13 * p + q) % 13 = q by omega]⟩
  · exact h
  · obtain ⟨v0, v1, v2⟩ := h
    show Ok (m_X9_layParted_L61 (F + 1) _ V) _
    rw [m_X9_layParted_L61]
    simp (disch := omega) only [↓reduceIte, ↓nm_eq, ↓jn_eq, ↓c_within, ↓c_isIn, ↓c_isScene, ↓c_isPlace, ↓c_isCue, ↓c_isDigit, ↓d_isScene, ↓d_isAny, ↓ta_pb1, ↓ta_pb0, ↓ta_pb1', ↓ta_pb0', ta_lt, ta_nlt, ta_le, ta_nle, ta_eq, ta_neq, ta_nne, ta_ne, gs_id, a_gd01, a_gdT, or_true, true_or, bd_some, bW_sm, a_gd, a_ne, a_rd, Int.toNat_natCast, Int.toNat_add, Int.toNat_mul, Int.reduceToNat, a_gdp, a_cell, and_self, and_true, true_and]
    exact Ok_some ⟨v1, v2⟩
  · obtain ⟨v0, v1, v2⟩ := h
    show Ok (m_X9_layParted_L61 (F + 1) _ V) _
    rw [m_X9_layParted_L61]
    obtain ⟨k, rfl⟩ : ∃ k, i = k + 1 := ⟨i - 1, by omega⟩
    rw [if_neg (by rw [gs_id (by omega) (by omega), gs_id (by omega) (by omega)]; omega), nm_eq]
    refine Ok_for 13 (fun F i V => m_X9_layParted_L69 ((k + 1 : Nat) : Int) _ F i V) (fun i V => ID K nx W k (13 * i) V) (fun F' V h => ?_) (fun i F' V hi' h kk' => ?_) 0 g_fuel V (by omega) (by unfold g_fuel; omega) ⟨v1, fun p q hp hq => ⟨fun w => by omega, fun _ => v2 p q hp hq⟩⟩
    · show Ok (m_X9_layParted_L69 _ _ (F' + 1) _ V) _
      rw [m_X9_layParted_L69]
      simp (disch := omega) only [↓reduceIte, ↓nm_eq, ↓jn_eq, ↓c_within, ↓c_isIn, ↓c_isScene, ↓c_isPlace, ↓c_isCue, ↓c_isDigit, ↓d_isScene, ↓d_isAny, ↓ta_pb1, ↓ta_pb0, ↓ta_pb1', ↓ta_pb0', ta_lt, ta_nlt, ta_le, ta_nle, ta_eq, ta_neq, ta_nne, ta_ne, gs_id, a_gd01, a_gdT, or_true, true_or, bd_some, bW_sm, a_gd, a_ne, a_rd, Int.toNat_natCast, Int.toNat_add, Int.toNat_mul, Int.reduceToNat, a_gdp, a_cell, and_self, and_true, true_and]
      exact kk V ⟨by omega, h.1, fun p q hp hq => (h.2 p q hp hq).1 (by omega)⟩
    · show Ok (m_X9_layParted_L69 _ _ (F' + 1) _ V) _
      rw [m_X9_layParted_L69, if_neg (by rw [gs_id (by omega) (by omega), gs_id (by omega) (by omega)]; omega), nm_eq]
      refine q_part77 hn (by omega) hx (show i ≤ 12 by omega) _ V h (fun U hU => ?_)
      rw [nm_eq]
      exact kk' U hU
theorem q_lowest {E : Nat → Nat → Prop} (hE : Eqv E) {f : Nat → Nat → Nat} (hf : ∀ p q, p ≤ 12 → q ≤ 12 → (f p q = 1000000 ↔ E p q) ∧ (f p q ≤ 12 ∨ f p q = 1000000)) {V : g_M} (hV : ∀ p q, p ≤ 12 → q ≤ 12 → V 14 (13 * p + q) = (f p q : Int)) {s : Nat} (hs : s ≤ 12) : ∃ p : Nat, m_X9_lowestLike s V = some (p : Int) ∧ IsLow E s p := by
  obtain ⟨p, l⟩ := low_ex hE s
  have pl := l.1
  have key : ∀ n i F : Nat, i + n = p → n < F → m_X9_lowestLike_L2 s V F i = some (p : Int) := by
    intro n
    induction n with
    | zero =>
      intro i F h1 h2
      obtain ⟨F, rfl⟩ : ∃ u, F = u + 1 := ⟨F - 1, by omega⟩
      obtain rfl : i = p := by omega
      have e := hV i s (by omega) hs
      rw [(hf i s (by omega) hs).1.2 (hE.2.1 _ _ l.2.1)] at e
      rw [m_X9_lowestLike_L2]
      simp (disch := omega) only [↓reduceIte, ↓nm_eq, ↓jn_eq, ↓c_within, ↓c_isIn, ↓c_isScene, ↓c_isPlace, ↓c_isCue, ↓c_isDigit, ↓d_isScene, ↓d_isAny, ↓ta_pb1, ↓ta_pb0, ↓ta_pb1', ↓ta_pb0', ta_lt, ta_nlt, ta_le, ta_nle, ta_eq, ta_neq, ta_nne, ta_ne, gs_id, a_gd01, a_gdT, or_true, true_or, bd_some, bW_sm, a_gd, a_ne, a_rd, Int.toNat_natCast, Int.toNat_add, Int.toNat_mul, Int.reduceToNat, a_gdp, a_cell, and_self, and_true, true_and, e]
    | succ n ih =>
      intro i F h1 h2
      obtain ⟨F, rfl⟩ : ∃ u, F = u + 1 := ⟨F - 1, by omega⟩
      have e := hV i s (by omega) hs
      obtain ⟨g1, g2⟩ := hf i s (by omega) hs
      have ne : f i s ≠ 1000000 := fun z => l.2.2 i (by omega) (hE.2.1 _ _ (g1.1 z))
      rw [m_X9_lowestLike_L2]
      simp (disch := omega) only [↓reduceIte, ↓nm_eq, ↓jn_eq, ↓c_within, ↓c_isIn, ↓c_isScene, ↓c_isPlace, ↓c_isCue, ↓c_isDigit, ↓d_isScene, ↓d_isAny, ↓ta_pb1, ↓ta_pb0, ↓ta_pb1', ↓ta_pb0', ta_lt, ta_nlt, ta_le, ta_nle, ta_eq, ta_neq, ta_nne, ta_ne, gs_id, a_gd01, a_gdT, or_true, true_or, bd_some, bW_sm, a_gd, a_ne, a_rd, Int.toNat_natCast, Int.toNat_add, Int.toNat_mul, Int.reduceToNat, a_gdp, a_cell, and_self, and_true, true_and, e]
      exact ih (i + 1) F (by omega) (by omega)
  refine ⟨p, ?_, l⟩
  unfold m_X9_lowestLike
  rw [nm_eq]
  exact key p 0 g_fuel (by omega) (by unfold g_fuel; omega)
theorem pdd_E (K : Nat → Int) (nx : Nat → Nat → Nat) (p q : Nat) : (pdd K nx p q = 1000000 ↔ Ek K nx 12 p q) ∧ (pdd K nx p q ≤ 12 ∨ pdd K nx p q = 1000000) := by
  have sp := pdd_spec K nx p q
  generalize pdd K nx p q = D at sp ⊢
  rcases sp with ⟨h, h'⟩ | ⟨h, h', -⟩
  · exact ⟨⟨fun _ => h', fun _ => h⟩, Or.inr h⟩
  · exact ⟨⟨fun z => by omega, fun z => absurd (Ek_low z h) h'⟩, Or.inl h⟩
theorem KdW_of {M W : g_M} (H : RF M W) : KdW (kdE M) W := by
  have hk := RF_kd H
  intro V hV s hs
  have q := q_kindAt (W := V) (kd := M 5) (fun s hs => by rw [hV]; exact hk s hs) hs
  refine ⟨q, ?_⟩
  unfold kdE
  by_cases e : s = 12
  · rw [if_pos e]; omega
  · rw [if_neg e]
    have := hk s (by omega)
    omega
theorem Rel_like {n : Nat} {Mx Mm M' W' : g_M} (hr : Rel n Mx Mm) (h1 : ∀ a, a ≠ 68 → a ≠ 74 → a ≠ 75 → M' a = Mx a) (h2 : ∀ a, a ≠ 14 → W' a = Mm a) : Rel (n + 1) M' W' := Rel_scr hr (fun a ha => h1 a (by omega) (by omega) (by omega)) (fun a ha => h2 a (by omega))
theorem st_28 : x_step_28 Rel := by
  intro n Mx Mm hr hn a1 a2 h1 h2
  obtain ⟨i1, j1⟩ := h1
  obtain ⟨i2, j2⟩ := h2
  by_cases c1 : 0 ≤ a1 ∧ a1 ≤ 12
  rotate_left
  · refine ⟨-1, -1, Mx, Mm, ?_, ?_, rfl, st_same hr⟩
    · unfold m_X8_parts; simp (disch := omega) only [↓reduceIte, ↓nm_eq, ↓jn_eq, ↓c_within, ↓c_isIn, ↓c_isScene, ↓c_isPlace, ↓c_isCue, ↓c_isDigit, ↓d_isScene, ↓d_isAny, ↓ta_pb1, ↓ta_pb0, ↓ta_pb1', ↓ta_pb0', ta_lt, ta_nlt, ta_le, ta_nle, ta_eq, ta_neq, ta_nne, ta_ne, gs_id, a_gd01, a_gdT, or_true, true_or, bd_some, bW_sm, a_gd, a_ne, a_rd, Int.toNat_natCast, Int.toNat_add, Int.toNat_mul, Int.reduceToNat, a_gdp, a_cell, and_self, and_true, true_and]
    · unfold m_X9_parts; simp (disch := omega) only [↓reduceIte, ↓nm_eq, ↓jn_eq, ↓c_within, ↓c_isIn, ↓c_isScene, ↓c_isPlace, ↓c_isCue, ↓c_isDigit, ↓d_isScene, ↓d_isAny, ↓ta_pb1, ↓ta_pb0, ↓ta_pb1', ↓ta_pb0', ta_lt, ta_nlt, ta_le, ta_nle, ta_eq, ta_neq, ta_nne, ta_ne, gs_id, a_gd01, a_gdT, or_true, true_or, bd_some, bW_sm, a_gd, a_ne, a_rd, Int.toNat_natCast, Int.toNat_add, Int.toNat_mul, Int.reduceToNat, a_gdp, a_cell, and_self, and_true, true_and]
  by_cases c2 : 0 ≤ a2 ∧ a2 ≤ 12
  rotate_left
  · refine ⟨-1, -1, Mx, Mm, ?_, ?_, rfl, st_same hr⟩
    · unfold m_X8_parts; simp (disch := omega) only [↓reduceIte, ↓nm_eq, ↓jn_eq, ↓c_within, ↓c_isIn, ↓c_isScene, ↓c_isPlace, ↓c_isCue, ↓c_isDigit, ↓d_isScene, ↓d_isAny, ↓ta_pb1, ↓ta_pb0, ↓ta_pb1', ↓ta_pb0', ta_lt, ta_nlt, ta_le, ta_nle, ta_eq, ta_neq, ta_nne, ta_ne, gs_id, a_gd01, a_gdT, or_true, true_or, bd_some, bW_sm, a_gd, a_ne, a_rd, Int.toNat_natCast, Int.toNat_add, Int.toNat_mul, Int.reduceToNat, a_gdp, a_cell, and_self, and_true, true_and]
    · unfold m_X9_parts; simp (disch := omega) only [↓reduceIte, ↓nm_eq, ↓jn_eq, ↓c_within, ↓c_isIn, ↓c_isScene, ↓c_isPlace, ↓c_isCue, ↓c_isDigit, ↓d_isScene, ↓d_isAny, ↓ta_pb1, ↓ta_pb0, ↓ta_pb1', ↓ta_pb0', ta_lt, ta_nlt, ta_le, ta_nle, ta_eq, ta_neq, ta_nne, ta_ne, gs_id, a_gd01, a_gdT, or_true, true_or, bd_some, bW_sm, a_gd, a_ne, a_rd, Int.toNat_natCast, Int.toNat_add, Int.toNat_mul, Int.reduceToNat, a_gdp, a_cell, and_self, and_true, true_and]
  obtain ⟨a, rfl⟩ : ∃ s : Nat, a1 = s := ⟨a1.toNat, by omega⟩
  obtain ⟨b, rfl⟩ : ∃ s : Nat, a2 = s := ⟨a2.toNat, by omega⟩
  have H := Rel_RF hr
  obtain ⟨b1, b2, hnx⟩ := ND_of H
  obtain ⟨⟨r, M'⟩, e1, f1, f2⟩ := p_parted b1 b2 (fun s hs => ⟨(RF_kd H s hs).1, (RF_kd H s hs).2.1⟩) (a := a) (b := b) (by omega) (by omega)
  obtain ⟨W', e2, g1, g2⟩ := q_part hnx Mm (Nx_of H) (KdW_of H)
  have g3 := g2 a b (by omega) (by omega)
  have sp := pdd_spec (kdE Mx) (ND (Mx 2) (Mx 4)) a b
  dsimp only at f1 f2
  generalize pdd (kdE Mx) (ND (Mx 2) (Mx 4)) a b = D at f2 g3 sp
  have sp2 : D ≤ 12 ∨ D = 1000000 := by
    rcases sp with ⟨h, -⟩ | ⟨h, -⟩
    · exact Or.inr h
    · exact Or.inl h
  clear sp
  refine ⟨r, r, M', W', ?_, ?_, rfl, Rel_like hr f1 g1⟩
  · unfold m_X8_parts; simp (disch := omega) only [↓reduceIte, ↓nm_eq, ↓jn_eq, ↓c_within, ↓c_isIn, ↓c_isScene, ↓c_isPlace, ↓c_isCue, ↓c_isDigit, ↓d_isScene, ↓d_isAny, ↓ta_pb1, ↓ta_pb0, ↓ta_pb1', ↓ta_pb0', ta_lt, ta_nlt, ta_le, ta_nle, ta_eq, ta_neq, ta_nne, ta_ne, gs_id, a_gd01, a_gdT, or_true, true_or, bd_some, bW_sm, a_gd, a_ne, a_rd, Int.toNat_natCast, Int.toNat_add, Int.toNat_mul, Int.reduceToNat, a_gdp, a_cell, and_self, and_true, true_and, e1]
  · unfold m_X9_parts
    by_cases c : D = 1000000
    · rw [if_pos c] at f2
      simp (disch := omega) only [↓reduceIte, ↓nm_eq, ↓jn_eq, ↓c_within, ↓c_isIn, ↓c_isScene, ↓c_isPlace, ↓c_isCue, ↓c_isDigit, ↓d_isScene, ↓d_isAny, ↓ta_pb1, ↓ta_pb0, ↓ta_pb1', ↓ta_pb0', ta_lt, ta_nlt, ta_le, ta_nle, ta_eq, ta_neq, ta_nne, ta_ne, gs_id, a_gd01, a_gdT, or_true, true_or, bd_some, bW_sm, a_gd, a_ne, a_rd, Int.toNat_natCast, Int.toNat_add, Int.toNat_mul, Int.reduceToNat, a_gdp, a_cell, and_self, and_true, true_and, e2, g3]
      rw [f2]
    · rw [if_neg c] at f2
      simp (disch := omega) only [↓reduceIte, ↓nm_eq, ↓jn_eq, ↓c_within, ↓c_isIn, ↓c_isScene, ↓c_isPlace, ↓c_isCue, ↓c_isDigit, ↓d_isScene, ↓d_isAny, ↓ta_pb1, ↓ta_pb0, ↓ta_pb1', ↓ta_pb0', ta_lt, ta_nlt, ta_le, ta_nle, ta_eq, ta_neq, ta_nne, ta_ne, gs_id, a_gd01, a_gdT, or_true, true_or, bd_some, bW_sm, a_gd, a_ne, a_rd, Int.toNat_natCast, Int.toNat_add, Int.toNat_mul, Int.reduceToNat, a_gdp, a_cell, and_self, and_true, true_and, e2, g3]
      rw [f2]
theorem st_27 : x_step_27 Rel := by
  intro n Mx Mm hr hn a1 h1
  obtain ⟨i1, j1⟩ := h1
  by_cases c1 : -1 ≤ a1 ∧ a1 ≤ 12
  rotate_left
  · refine ⟨-2, -2, Mx, Mm, ?_, ?_, rfl, st_same hr⟩
    · unfold m_X8_kinds; simp (disch := omega) only [↓reduceIte, ↓nm_eq, ↓jn_eq, ↓c_within, ↓c_isIn, ↓c_isScene, ↓c_isPlace, ↓c_isCue, ↓c_isDigit, ↓d_isScene, ↓d_isAny, ↓ta_pb1, ↓ta_pb0, ↓ta_pb1', ↓ta_pb0', ta_lt, ta_nlt, ta_le, ta_nle, ta_eq, ta_neq, ta_nne, ta_ne, gs_id, a_gd01, a_gdT, or_true, true_or, bd_some, bW_sm, a_gd, a_ne, a_rd, Int.toNat_natCast, Int.toNat_add, Int.toNat_mul, Int.reduceToNat, a_gdp, a_cell, and_self, and_true, true_and]
    · unfold m_X9_kinds; simp (disch := omega) only [↓reduceIte, ↓nm_eq, ↓jn_eq, ↓c_within, ↓c_isIn, ↓c_isScene, ↓c_isPlace, ↓c_isCue, ↓c_isDigit, ↓d_isScene, ↓d_isAny, ↓ta_pb1, ↓ta_pb0, ↓ta_pb1', ↓ta_pb0', ta_lt, ta_nlt, ta_le, ta_nle, ta_eq, ta_neq, ta_nne, ta_ne, gs_id, a_gd01, a_gdT, or_true, true_or, bd_some, bW_sm, a_gd, a_ne, a_rd, Int.toNat_natCast, Int.toNat_add, Int.toNat_mul, Int.reduceToNat, a_gdp, a_cell, and_self, and_true, true_and]
  have H := Rel_RF hr
  obtain ⟨b1, b2, hnx⟩ := ND_of H
  obtain ⟨⟨x, M'⟩, e1, f0, f1, f2⟩ := p_sortAll b1 b2 (fun s hs => ⟨(RF_kd H s hs).1, (RF_kd H s hs).2.1⟩)
  obtain ⟨W', e2, g1, g2⟩ := q_part hnx Mm (Nx_of H) (KdW_of H)
  dsimp only at f0 f1 f2
  generalize ND (Mx 2) (Mx 4) = nx at *
  generalize kdE Mx = K at *
  have hE := Ek_eqv K nx 12
  have hf : ∀ p q, p ≤ 12 → q ≤ 12 → (pdd K nx p q = 1000000 ↔ Ek K nx 12 p q) ∧ (pdd K nx p q ≤ 12 ∨ pdd K nx p q = 1000000) := fun p q _ _ => pdd_E K nx p q
  generalize pdd K nx = D at *
  generalize Ek K nx 12 = E at *
  have cl := fun n => cnt_le (rep E) n
  have cnt38 : ∀ t : Nat, t ≤ 13 → Ok (m_X9_kinds_L38 t W' g_fuel 0 0) (fun q => q = ((cnt (rep E) t : Int), W')) := by
    intro t ht
    refine Ok_for t (fun F i (a : Int) => m_X9_kinds_L38 t W' F a i) (fun i a => a = (cnt (rep E) i : Int)) (fun F a h => ?_) (fun i F a hi h kk => ?_) 0 g_fuel 0 (by omega) (by unfold g_fuel; omega) rfl
    · show Ok (m_X9_kinds_L38 t W' (F + 1) a _) _
      rw [m_X9_kinds_L38]
      simp (disch := omega) only [↓reduceIte, ↓nm_eq, ↓jn_eq, ↓c_within, ↓c_isIn, ↓c_isScene, ↓c_isPlace, ↓c_isCue, ↓c_isDigit, ↓d_isScene, ↓d_isAny, ↓ta_pb1, ↓ta_pb0, ↓ta_pb1', ↓ta_pb0', ta_lt, ta_nlt, ta_le, ta_nle, ta_eq, ta_neq, ta_nne, ta_ne, gs_id, a_gd01, a_gdT, or_true, true_or, bd_some, bW_sm, a_gd, a_ne, a_rd, Int.toNat_natCast, Int.toNat_add, Int.toNat_mul, Int.reduceToNat, a_gdp, a_cell, and_self, and_true, true_and]
      exact Ok_some (by rw [h])
    · show Ok (m_X9_kinds_L38 t W' (F + 1) a _) _
      obtain ⟨p, e, l⟩ := q_lowest hE hf g2 (show i ≤ 12 by omega)
      have pl := l.1
      rw [m_X9_kinds_L38]
      by_cases c : p = i
      · subst c
        have rp : rep E p := l.2.2
        simp (disch := omega) only [↓reduceIte, ↓nm_eq, ↓jn_eq, ↓c_within, ↓c_isIn, ↓c_isScene, ↓c_isPlace, ↓c_isCue, ↓c_isDigit, ↓d_isScene, ↓d_isAny, ↓ta_pb1, ↓ta_pb0, ↓ta_pb1', ↓ta_pb0', ta_lt, ta_nlt, ta_le, ta_nle, ta_eq, ta_neq, ta_nne, ta_ne, gs_id, a_gd01, a_gdT, or_true, true_or, bd_some, bW_sm, a_gd, a_ne, a_rd, Int.toNat_natCast, Int.toNat_add, Int.toNat_mul, Int.reduceToNat, a_gdp, a_cell, and_self, and_true, true_and, e]
        exact kk (a + 1) (by rw [cnt_t rp, h]; rfl)
      · have nr : ¬ rep E i := fun z => z p (by omega) l.2.1
        simp (disch := omega) only [↓reduceIte, ↓nm_eq, ↓jn_eq, ↓c_within, ↓c_isIn, ↓c_isScene, ↓c_isPlace, ↓c_isCue, ↓c_isDigit, ↓d_isScene, ↓d_isAny, ↓ta_pb1, ↓ta_pb0, ↓ta_pb1', ↓ta_pb0', ta_lt, ta_nlt, ta_le, ta_nle, ta_eq, ta_neq, ta_nne, ta_ne, gs_id, a_gd01, a_gdT, or_true, true_or, bd_some, bW_sm, a_gd, a_ne, a_rd, Int.toNat_natCast, Int.toNat_add, Int.toNat_mul, Int.reduceToNat, a_gdp, a_cell, and_self, and_true, true_and, e, Int.add_zero]
        exact kk a (by rw [cnt_f nr]; exact h)
  by_cases c : a1 = -1
  · obtain ⟨q, e3, rfl⟩ := cnt38 13 (by omega)
    refine ⟨x, x, M', W', ?_, ?_, rfl, Rel_like hr f1 g1⟩
    · unfold m_X8_kinds; simp (disch := omega) only [↓reduceIte, ↓nm_eq, ↓jn_eq, ↓c_within, ↓c_isIn, ↓c_isScene, ↓c_isPlace, ↓c_isCue, ↓c_isDigit, ↓d_isScene, ↓d_isAny, ↓ta_pb1, ↓ta_pb0, ↓ta_pb1', ↓ta_pb0', ta_lt, ta_nlt, ta_le, ta_nle, ta_eq, ta_neq, ta_nne, ta_ne, gs_id, a_gd01, a_gdT, or_true, true_or, bd_some, bW_sm, a_gd, a_ne, a_rd, Int.toNat_natCast, Int.toNat_add, Int.toNat_mul, Int.reduceToNat, a_gdp, a_cell, and_self, and_true, true_and, e1]
    · unfold m_X9_kinds
      simp (disch := omega) only [↓reduceIte, ↓nm_eq, ↓jn_eq, ↓c_within, ↓c_isIn, ↓c_isScene, ↓c_isPlace, ↓c_isCue, ↓c_isDigit, ↓d_isScene, ↓d_isAny, ↓ta_pb1, ↓ta_pb0, ↓ta_pb1', ↓ta_pb0', ta_lt, ta_nlt, ta_le, ta_nle, ta_eq, ta_neq, ta_nne, ta_ne, gs_id, a_gd01, a_gdT, or_true, true_or, bd_some, bW_sm, a_gd, a_ne, a_rd, Int.toNat_natCast, Int.toNat_add, Int.toNat_mul, Int.reduceToNat, a_gdp, a_cell, and_self, and_true, true_and, e2]
      rw [show (13 : Int) = ((13 : Nat) : Int) from rfl, e3, f0]
  · obtain ⟨s, rfl⟩ : ∃ s : Nat, a1 = s := ⟨a1.toNat, by omega⟩
    obtain ⟨p, l, e4⟩ := f2 s (by omega)
    obtain ⟨p', e5, l'⟩ := q_lowest hE hf g2 (show s ≤ 12 by omega)
    have : p' = p := low_uniq l' l
    subst this
    have pl := l.1
    obtain ⟨q, e3, rfl⟩ := cnt38 p' (by omega)
    refine ⟨(cnt (rep E) p' : Int), (cnt (rep E) p' : Int), M', W', ?_, ?_, rfl, Rel_like hr f1 g1⟩
    · unfold m_X8_kinds; simp (disch := omega) only [↓reduceIte, ↓nm_eq, ↓jn_eq, ↓c_within, ↓c_isIn, ↓c_isScene, ↓c_isPlace, ↓c_isCue, ↓c_isDigit, ↓d_isScene, ↓d_isAny, ↓ta_pb1, ↓ta_pb0, ↓ta_pb1', ↓ta_pb0', ta_lt, ta_nlt, ta_le, ta_nle, ta_eq, ta_neq, ta_nne, ta_ne, gs_id, a_gd01, a_gdT, or_true, true_or, bd_some, bW_sm, a_gd, a_ne, a_rd, Int.toNat_natCast, Int.toNat_add, Int.toNat_mul, Int.reduceToNat, a_gdp, a_cell, and_self, and_true, true_and, e1, e4]
    · unfold m_X9_kinds; simp (disch := omega) only [↓reduceIte, ↓nm_eq, ↓jn_eq, ↓c_within, ↓c_isIn, ↓c_isScene, ↓c_isPlace, ↓c_isCue, ↓c_isDigit, ↓d_isScene, ↓d_isAny, ↓ta_pb1, ↓ta_pb0, ↓ta_pb1', ↓ta_pb0', ta_lt, ta_nlt, ta_le, ta_nle, ta_eq, ta_neq, ta_nne, ta_ne, gs_id, a_gd01, a_gdT, or_true, true_or, bd_some, bW_sm, a_gd, a_ne, a_rd, Int.toNat_natCast, Int.toNat_add, Int.toNat_mul, Int.reduceToNat, a_gdp, a_cell, and_self, and_true, true_and, e2, e5, e3]
