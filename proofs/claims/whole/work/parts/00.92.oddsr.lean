/-! odds, ways: the reference; both -/
/-- how much is where, as the reference has it; what it weighs against any f is what is left of the sum -/
theorem q_go31 {x26 : Int} {W : g_M} {nx : Nat → Nat → Nat} {o : Nat → Int} {Q : Int × g_M → Prop} (hn : ∀ s c, s ≤ 12 → c < 4 → nx s c ≤ 12) (hx : Nx nx W) (ho : ∀ V : g_M, V 1 = W 1 → ∀ c : Nat, c < 4 → 0 ≤ o c ∧ o c ≤ 10 ∧ (x26 = 0 → o c = 1) ∧ (x26 ≠ 0 → V 1 (138 + c) = o c)) (h26 : x26 = 0 ∨ x26 = 1) (kc : g_M → Option (Int × g_M)) (V : g_M) (hV : V 1 = W 1) {s : Nat} (hs : s < 12) (hk : ∀ U, (∀ a, a ≠ 13 → U a = V a) → (∀ f : Nat → Int, sm (fun j => U 13 j * f j) 13 = sm (fun j => V 13 j * f j) 13 + V 12 s * sm (fun c => o c * f (nx s c)) 4) → Ok (kc U) Q) : Ok (m_X9_goOn_L31 x26 s kc g_fuel 0 V) Q := by
  refine Ok_for 4 (fun F i M => m_X9_goOn_L31 x26 s kc F i M) (fun i U => (∀ a, a ≠ 13 → U a = V a) ∧ ∀ f : Nat → Int, sm (fun j => U 13 j * f j) 13 = sm (fun j => V 13 j * f j) 13 + V 12 s * sm (fun c => o c * f (nx s c)) i) (fun F U h => ?_) (fun i F U hi h kk => ?_) 0 g_fuel V (by omega) (by unfold g_fuel; omega) ⟨fun a ha => rfl, fun f => by rw [sm_0, Int.mul_zero, Int.add_zero]⟩
  · obtain ⟨u1, u2⟩ := h
    show Ok (m_X9_goOn_L31 x26 s kc (F + 1) _ U) Q
    rw [m_X9_goOn_L31]
    simp (disch := omega) only [↓reduceIte, ↓nm_eq, ↓jn_eq, ↓c_within, ↓c_isIn, ↓c_isScene, ↓c_isPlace, ↓c_isCue, ↓c_isDigit, ↓d_isScene, ↓d_isAny, ↓ta_pb1, ↓ta_pb0, ↓ta_pb1', ↓ta_pb0', ta_lt, ta_nlt, ta_le, ta_nle, ta_eq, ta_neq, ta_nne, ta_ne, gs_id, a_gd01, a_gdT, or_true, true_or, bd_some, bW_sm, a_gd, a_ne, a_rd, Int.toNat_natCast, Int.toNat_add, Int.toNat_mul, Int.reduceToNat, a_gdp, a_cell, and_self, and_true, true_and]
    exact hk U u1 u2
  · obtain ⟨u1, u2⟩ := h
    show Ok (m_X9_goOn_L31 x26 s kc (F + 1) _ U) Q
    have hu := hn s i (by omega) hi
    have uW : U 1 = W 1 := by rw [u1 1 (by omega), hV]
    have xx := hx U uW s i (by omega) hi
    obtain ⟨o1, o2, o3, o4⟩ := ho U uW i hi
    have new : Ok (m_X9_goOn_L31 x26 s kc F ((i : Int) + 1) (g_wr U 13 (nx s i) (U 13 (nx s i) + U 12 s * o i))) Q := by
      refine kk _ ⟨fun a ha => by rw [a_cell _ ha]; exact u1 a ha, fun f => ?_⟩
      have e : (fun j => g_wr U 13 (nx s i) (U 13 (nx s i) + U 12 s * o i) 13 j * f j) = fun j => (if j = nx s i then U 13 j + U 12 s * o i else U 13 j) * f j := by
        funext j
        by_cases c : j = nx s i
        · subst c; rw [if_pos rfl, wr_at]
        · rw [if_neg c, a_ne _ (by omega)]
      show sm (fun j => g_wr U 13 (nx s i) (U 13 (nx s i) + U 12 s * o i) 13 j * f j) 13 = _
      rw [e, sm_upd, if_pos (by omega), u2 f, sm_s (fun c => o c * f (nx s c)) i, u1 12 (by omega), Int.mul_add, Int.mul_assoc]
      omega
    rw [m_X9_goOn_L31]
    generalize nx s i = u at *
    rcases h26 with rfl | rfl
    · have e := o3 rfl
      rw [e] at new
      simp (disch := omega) only [↓reduceIte, ↓nm_eq, ↓jn_eq, ↓c_within, ↓c_isIn, ↓c_isScene, ↓c_isPlace, ↓c_isCue, ↓c_isDigit, ↓d_isScene, ↓d_isAny, ↓ta_pb1, ↓ta_pb0, ↓ta_pb1', ↓ta_pb0', ta_lt, ta_nlt, ta_le, ta_nle, ta_eq, ta_neq, ta_nne, ta_ne, gs_id, a_gd01, a_gdT, or_true, true_or, bd_some, bW_sm, a_gd, a_ne, a_rd, Int.toNat_natCast, Int.toNat_add, Int.toNat_mul, Int.reduceToNat, a_gdp, a_cell, and_self, and_true, true_and, xx]
      exact new
    · have e := o4 (by omega)
      simp (disch := omega) only [↓reduceIte, ↓nm_eq, ↓jn_eq, ↓c_within, ↓c_isIn, ↓c_isScene, ↓c_isPlace, ↓c_isCue, ↓c_isDigit, ↓d_isScene, ↓d_isAny, ↓ta_pb1, ↓ta_pb0, ↓ta_pb1', ↓ta_pb0', ta_lt, ta_nlt, ta_le, ta_nle, ta_eq, ta_neq, ta_nne, ta_ne, gs_id, a_gd01, a_gdT, or_true, true_or, bd_some, bW_sm, a_gd, a_ne, a_rd, Int.toNat_natCast, Int.toNat_add, Int.toNat_mul, Int.reduceToNat, a_gdp, a_cell, and_self, and_true, true_and, xx, e]
      exact new
theorem q_go23 {x26 : Int} {W : g_M} {nx : Nat → Nat → Nat} {o : Nat → Int} {Q : Int × g_M → Prop} (hn : ∀ s c, s ≤ 12 → c < 4 → nx s c ≤ 12) (hx : Nx nx W) (ho : ∀ V : g_M, V 1 = W 1 → ∀ c : Nat, c < 4 → 0 ≤ o c ∧ o c ≤ 10 ∧ (x26 = 0 → o c = 1) ∧ (x26 ≠ 0 → V 1 (138 + c) = o c)) (h26 : x26 = 0 ∨ x26 = 1) (kc : g_M → Option (Int × g_M)) (V : g_M) (hV : V 1 = W 1) (h0 : ∀ f : Nat → Int, sm (fun j => V 13 j * f j) 13 = 0) (hk : ∀ U, (∀ a, a ≠ 13 → U a = V a) → (∀ f : Nat → Int, sm (fun j => U 13 j * f j) 13 = sm (fun s => V 12 s * sm (fun c => o c * f (nx s c)) 4) 12) → Ok (kc U) Q) : Ok (m_X9_goOn_L23 x26 kc g_fuel 0 V) Q := by
  refine Ok_for 12 (fun F i M => m_X9_goOn_L23 x26 kc F i M) (fun i U => (∀ a, a ≠ 13 → U a = V a) ∧ ∀ f : Nat → Int, sm (fun j => U 13 j * f j) 13 = sm (fun s => V 12 s * sm (fun c => o c * f (nx s c)) 4) i) (fun F U h => ?_) (fun i F U hi h kk => ?_) 0 g_fuel V (by omega) (by unfold g_fuel; omega) ⟨fun a ha => rfl, fun f => by rw [h0 f]; rfl⟩
  · obtain ⟨u1, u2⟩ := h
    show Ok (m_X9_goOn_L23 x26 kc (F + 1) _ U) Q
    rw [m_X9_goOn_L23]
    simp (disch := omega) only [↓reduceIte, ↓nm_eq, ↓jn_eq, ↓c_within, ↓c_isIn, ↓c_isScene, ↓c_isPlace, ↓c_isCue, ↓c_isDigit, ↓d_isScene, ↓d_isAny, ↓ta_pb1, ↓ta_pb0, ↓ta_pb1', ↓ta_pb0', ta_lt, ta_nlt, ta_le, ta_nle, ta_eq, ta_neq, ta_nne, ta_ne, gs_id, a_gd01, a_gdT, or_true, true_or, bd_some, bW_sm, a_gd, a_ne, a_rd, Int.toNat_natCast, Int.toNat_add, Int.toNat_mul, Int.reduceToNat, a_gdp, a_cell, and_self, and_true, true_and]
    exact hk U u1 u2
  · obtain ⟨u1, u2⟩ := h
    show Ok (m_X9_goOn_L23 x26 kc (F + 1) _ U) Q
    rw [m_X9_goOn_L23]
    simp (disch := omega) only [↓reduceIte, ↓nm_eq, ↓jn_eq, ↓c_within, ↓c_isIn, ↓c_isScene, ↓c_isPlace, ↓c_isCue, ↓c_isDigit, ↓d_isScene, ↓d_isAny, ↓ta_pb1, ↓ta_pb0, ↓ta_pb1', ↓ta_pb0', ta_lt, ta_nlt, ta_le, ta_nle, ta_eq, ta_neq, ta_nne, ta_ne, gs_id, a_gd01, a_gdT, or_true, true_or, bd_some, bW_sm, a_gd, a_ne, a_rd, Int.toNat_natCast, Int.toNat_add, Int.toNat_mul, Int.reduceToNat, a_gdp, a_cell, and_self, and_true, true_and]
    refine q_go31 hn hx ho h26 _ U (by rw [u1 1 (by omega), hV]) hi (fun T t1 t2 => ?_)
    refine kk T ⟨fun a ha => (t1 a ha).trans (u1 a ha), fun f => ?_⟩
    rw [t2 f, u2 f, sm_s (fun s => V 12 s * sm (fun c => o c * f (nx s c)) 4) i, u1 12 (by omega)]
theorem q_goOn {x26 : Int} {W : g_M} {nx : Nat → Nat → Nat} {o : Nat → Int} (hn : ∀ s c, s ≤ 12 → c < 4 → nx s c ≤ 12) (hx : Nx nx W) (ho : ∀ V : g_M, V 1 = W 1 → ∀ c : Nat, c < 4 → 0 ≤ o c ∧ o c ≤ 10 ∧ (x26 = 0 → o c = 1) ∧ (x26 ≠ 0 → V 1 (138 + c) = o c)) (h26 : x26 = 0 ∨ x26 = 1) (V : g_M) (hV : V 1 = W 1) : Ok (m_X9_goOn x26 V) (fun r => (∀ a, a ≠ 12 → a ≠ 13 → r.2 a = V a) ∧ ∀ f : Nat → Int, sm (fun j => r.2 12 j * f j) 12 + r.1 * f 12 = sm (fun s => V 12 s * sm (fun c => o c * f (nx s c)) 4) 12) := by
  unfold m_X9_goOn
  have key : ∀ k : g_M → Option (Int × g_M), m_X9_goOn_L2 x26 k g_fuel 0 V = k (cpF V 13 0 (fun _ => 0) 13) := by
    intro k
    refine cp_loop (fun f i M => m_X9_goOn_L2 x26 k f i M) 13 0 13 (fun _ => 0) V _ (fun f => ?_) (fun i f hi => ?_) g_fuel (by unfold g_fuel; omega)
    · show m_X9_goOn_L2 x26 k (f + 1) _ _ = _
      rw [m_X9_goOn_L2]
      simp (disch := omega) only [↓reduceIte, ↓nm_eq, ↓jn_eq, ↓c_within, ↓c_isIn, ↓c_isScene, ↓c_isPlace, ↓c_isCue, ↓c_isDigit, ↓d_isScene, ↓d_isAny, ↓ta_pb1, ↓ta_pb0, ↓ta_pb1', ↓ta_pb0', ta_lt, ta_nlt, ta_le, ta_nle, ta_eq, ta_neq, ta_nne, ta_ne, gs_id, a_gd01, a_gdT, or_true, true_or, bd_some, bW_sm, a_gd, a_ne, a_rd, Int.toNat_natCast, Int.toNat_add, Int.toNat_mul, Int.reduceToNat, a_gdp, a_cell, and_self, and_true, true_and]
    · show m_X9_goOn_L2 x26 k (f + 1) _ _ = m_X9_goOn_L2 x26 k f _ _
      rw [m_X9_goOn_L2]
      simp (disch := omega) only [↓reduceIte, ↓nm_eq, ↓jn_eq, ↓c_within, ↓c_isIn, ↓c_isScene, ↓c_isPlace, ↓c_isCue, ↓c_isDigit, ↓d_isScene, ↓d_isAny, ↓ta_pb1, ↓ta_pb0, ↓ta_pb1', ↓ta_pb0', ta_lt, ta_nlt, ta_le, ta_nle, ta_eq, ta_neq, ta_nne, ta_ne, gs_id, a_gd01, a_gdT, or_true, true_or, bd_some, bW_sm, a_gd, a_ne, a_rd, Int.toNat_natCast, Int.toNat_add, Int.toNat_mul, Int.reduceToNat, a_gdp, a_cell, and_self, and_true, true_and, Nat.zero_add]
  rw [nm_eq, key, nm_eq]
  refine q_go23 hn hx ho h26 _ _ (by rw [cpF_cell _ _ (by omega)]; exact hV) (fun f => ?_) (fun U u1 u2 => ?_)
  · have e : ∀ n, n ≤ 13 → sm (fun j => cpF V 13 0 (fun _ => 0) 13 13 j * f j) n = 0 := by
      intro n
      induction n with
      | zero => intro _; rfl
      | succ n ih => intro h; rw [sm_s, ih (by omega), cpF_in _ _ (by omega), Int.zero_mul]; rfl
    exact e 13 (by omega)
  · have key2 : ∀ k : g_M → Option (Int × g_M), m_X9_goOn_L90 k g_fuel 0 U = k (cpF U 12 0 (fun j => U 13 j) 12) := by
      intro k
      refine cp_loop (fun f i M => m_X9_goOn_L90 k f i M) 12 0 12 (fun j => U 13 j) U _ (fun f => ?_) (fun i f hi => ?_) g_fuel (by unfold g_fuel; omega)
      · show m_X9_goOn_L90 k (f + 1) _ _ = _
        rw [m_X9_goOn_L90]
        simp (disch := omega) only [↓reduceIte, ↓nm_eq, ↓jn_eq, ↓c_within, ↓c_isIn, ↓c_isScene, ↓c_isPlace, ↓c_isCue, ↓c_isDigit, ↓d_isScene, ↓d_isAny, ↓ta_pb1, ↓ta_pb0, ↓ta_pb1', ↓ta_pb0', ta_lt, ta_nlt, ta_le, ta_nle, ta_eq, ta_neq, ta_nne, ta_ne, gs_id, a_gd01, a_gdT, or_true, true_or, bd_some, bW_sm, a_gd, a_ne, a_rd, Int.toNat_natCast, Int.toNat_add, Int.toNat_mul, Int.reduceToNat, a_gdp, a_cell, and_self, and_true, true_and]
      · show m_X9_goOn_L90 k (f + 1) _ _ = m_X9_goOn_L90 k f _ _
        rw [m_X9_goOn_L90]
        simp (disch := omega) only [↓reduceIte, ↓nm_eq, ↓jn_eq, ↓c_within, ↓c_isIn, ↓c_isScene, ↓c_isPlace, ↓c_isCue, ↓c_isDigit, ↓d_isScene, ↓d_isAny, ↓ta_pb1, ↓ta_pb0, ↓ta_pb1', ↓ta_pb0', ta_lt, ta_nlt, ta_le, ta_nle, ta_eq, ta_neq, ta_nne, ta_ne, gs_id, a_gd01, a_gdT, or_true, true_or, bd_some, bW_sm, a_gd, a_ne, a_rd, Int.toNat_natCast, Int.toNat_add, Int.toNat_mul, Int.reduceToNat, a_gdp, a_cell, and_self, and_true, true_and, cpF_ne, Nat.zero_add]
    rw [nm_eq, key2]
    simp (disch := omega) only [↓reduceIte, ↓nm_eq, ↓jn_eq, ↓c_within, ↓c_isIn, ↓c_isScene, ↓c_isPlace, ↓c_isCue, ↓c_isDigit, ↓d_isScene, ↓d_isAny, ↓ta_pb1, ↓ta_pb0, ↓ta_pb1', ↓ta_pb0', ta_lt, ta_nlt, ta_le, ta_nle, ta_eq, ta_neq, ta_nne, ta_ne, gs_id, a_gd01, a_gdT, or_true, true_or, bd_some, bW_sm, a_gd, a_ne, a_rd, Int.toNat_natCast, Int.toNat_add, Int.toNat_mul, Int.reduceToNat, a_gdp, a_cell, and_self, and_true, true_and, cpF_ne]
    refine Ok_some ⟨fun a ha hb => ?_, fun f => ?_⟩
    · show cpF U 12 0 (fun j => U 13 j) 12 a = V a
      rw [cpF_cell _ _ ha, u1 a hb, cpF_cell _ _ hb]
    · have e := u2 f
      rw [sm_s] at e
      rw [show cpF V 13 0 (fun _ => 0) 13 12 = V 12 from cpF_cell _ _ (by omega)] at e
      rw [← e]
      show sm (fun j => cpF U 12 0 (fun j => U 13 j) 12 12 j * f j) 12 + U 13 12 * f 12 = _
      rw [sm_cg (f := fun j => cpF U 12 0 (fun j => U 13 j) 12 12 j * f j) (g := fun j => U 13 j * f j) 12 (fun i hi => by rw [cpF_in _ _ (by omega), Nat.sub_zero])]
/-- what is there and what came to the end, behind k cues: with m cues to go it is what the class counts -/
def FI (t : Int) (o : Nat → Int) (nx : Nat → Nat → Nat) (s : Nat) (W0 : g_M) (k : Nat) (U : Int) (W : g_M) : Prop := (∀ a, a ≠ 12 → a ≠ 13 → W a = W0 a) ∧ ∀ m, cN t o nx (m + k) s = sm (fun j => W 12 j * cN t o nx m j) 12 + U * cN t o nx m 12
theorem FI_step {t : Int} {o : Nat → Int} {nx : Nat → Nat → Nat} {s : Nat} {W0 W W' : g_M} {k : Nat} {U A : Int} (h : FI t o nx s W0 k U W) (h1 : ∀ a, a ≠ 12 → a ≠ 13 → W' a = W a) (h2 : ∀ f : Nat → Int, sm (fun j => W' 12 j * f j) 12 + A * f 12 = sm (fun s => W 12 s * sm (fun c => o c * f (nx s c)) 4) 12) : FI t o nx s W0 (k + 1) (t * U + A) W' := by
  obtain ⟨g1, g2⟩ := h
  refine ⟨fun a ha hb => (h1 a ha hb).trans (g1 a ha hb), fun m => ?_⟩
  have a := g2 (m + 1)
  rw [show m + 1 + k = m + (k + 1) by omega] at a
  have e : sm (fun j => W 12 j * cN t o nx (m + 1) j) 12 = sm (fun s => W 12 s * sm (fun c => o c * cN t o nx m (nx s c)) 4) 12 := sm_cg 12 (fun i hi => by rw [cN_s _ _ _ _ (show i ≠ 12 by omega)])
  rw [a, e, ← h2 (cN t o nx m), cN_e, Int.add_mul, Int.mul_assoc, ← Int.mul_assoc U, Int.mul_comm U t, Int.mul_assoc]
  omega
theorem FI_0 {t : Int} {o : Nat → Int} {nx : Nat → Nat → Nat} {s : Nat} {W0 W : g_M} {k : Nat} {U : Int} (h : FI t o nx s W0 k U W) : cN t o nx k s = U := by
  have a := h.2 0
  rw [Nat.zero_add, cN_0s _ _ _ _ 12 (by omega), show cN t o nx 0 12 = 1 from if_pos rfl] at a
  omega
theorem q_begin (W : g_M) {s : Nat} (hs : s ≤ 12) : m_X9_beginAt s W = some (cpF W 12 0 (fun j => if j = s then 1 else 0) 13) := by
  unfold m_X9_beginAt
  rw [nm_eq]
  refine cp_loop (fun f i M => m_X9_beginAt_L2 s f i M) 12 0 13 (fun j => if j = s then 1 else 0) W _ (fun f => ?_) (fun i f hi => ?_) g_fuel (by unfold g_fuel; omega)
  · show m_X9_beginAt_L2 s (f + 1) _ _ = _
    rw [m_X9_beginAt_L2]
    simp (disch := omega) only [↓reduceIte, ↓nm_eq, ↓jn_eq, ↓c_within, ↓c_isIn, ↓c_isScene, ↓c_isPlace, ↓c_isCue, ↓c_isDigit, ↓d_isScene, ↓d_isAny, ↓ta_pb1, ↓ta_pb0, ↓ta_pb1', ↓ta_pb0', ta_lt, ta_nlt, ta_le, ta_nle, ta_eq, ta_neq, ta_nne, ta_ne, gs_id, a_gd01, a_gdT, or_true, true_or, bd_some, bW_sm, a_gd, a_ne, a_rd, Int.toNat_natCast, Int.toNat_add, Int.toNat_mul, Int.reduceToNat, a_gdp, a_cell, and_self, and_true, true_and]
  · show m_X9_beginAt_L2 s (f + 1) _ _ = m_X9_beginAt_L2 s f _ _
    rw [m_X9_beginAt_L2]
    by_cases e : i = s
    · rw [if_pos e]
      simp (disch := omega) only [↓reduceIte, ↓nm_eq, ↓jn_eq, ↓c_within, ↓c_isIn, ↓c_isScene, ↓c_isPlace, ↓c_isCue, ↓c_isDigit, ↓d_isScene, ↓d_isAny, ↓ta_pb1, ↓ta_pb0, ↓ta_pb1', ↓ta_pb0', ta_lt, ta_nlt, ta_le, ta_nle, ta_eq, ta_neq, ta_nne, ta_ne, gs_id, a_gd01, a_gdT, or_true, true_or, bd_some, bW_sm, a_gd, a_ne, a_rd, Int.toNat_natCast, Int.toNat_add, Int.toNat_mul, Int.reduceToNat, a_gdp, a_cell, and_self, and_true, true_and, Nat.zero_add]
    · rw [if_neg e]
      simp (disch := omega) only [↓reduceIte, ↓nm_eq, ↓jn_eq, ↓c_within, ↓c_isIn, ↓c_isScene, ↓c_isPlace, ↓c_isCue, ↓c_isDigit, ↓d_isScene, ↓d_isAny, ↓ta_pb1, ↓ta_pb0, ↓ta_pb1', ↓ta_pb0', ta_lt, ta_nlt, ta_le, ta_nle, ta_eq, ta_neq, ta_nne, ta_ne, gs_id, a_gd01, a_gdT, or_true, true_or, bd_some, bW_sm, a_gd, a_ne, a_rd, Int.toNat_natCast, Int.toNat_add, Int.toNat_mul, Int.reduceToNat, a_gdp, a_cell, and_self, and_true, true_and, Nat.zero_add]
theorem sm_one (f : Nat → Int) (s : Nat) : ∀ n, sm (fun j => (if j = s then 1 else 0) * f j) n = if s < n then f s else 0 := by
  intro n
  induction n with
  | zero => rw [sm_0, if_neg (by omega)]
  | succ n ih =>
    rw [sm_s, ih]
    by_cases c : n = s
    · subst c
      rw [if_neg (by omega), if_pos rfl, if_pos (by omega), Int.one_mul, Int.zero_add]
    · rw [if_neg c, Int.zero_mul, Int.add_zero]
      by_cases d : s < n
      · rw [if_pos d, if_pos (by omega)]
      · rw [if_neg d, if_neg (by omega)]
theorem FI_begin {t : Int} {o : Nat → Int} {nx : Nat → Nat → Nat} {s : Nat} (hs : s ≤ 12) {W0 W : g_M} (h1 : ∀ a, a ≠ 12 → a ≠ 13 → W a = W0 a) (h2 : ∀ j, j < 12 → W 12 j = if j = s then 1 else 0) : FI t o nx s W0 0 (if s = 12 then 1 else 0) W := by
  refine ⟨h1, fun m => ?_⟩
  rw [Nat.add_zero, sm_cg (f := fun j => W 12 j * cN t o nx m j) (g := fun j => (if j = s then 1 else 0) * cN t o nx m j) 12 (fun i hi => by rw [h2 i hi]), sm_one]
  by_cases c : s = 12
  · subst c; rw [if_neg (by omega), if_pos rfl, Int.one_mul, Int.zero_add]
  · rw [if_pos (by omega), if_neg c, Int.zero_mul, Int.add_zero]
/-! the greatest common divisor -/
theorem cmp_0 {y : Int} (h0 : 0 ≤ y) (h1 : y < 9223372036854775808) : (gs (g_cmp y 0) = 0) ↔ y = 0 := by
  unfold g_cmp
  rw [L_id (by omega) h1, L_id (by omega) (by omega)]
  by_cases c : (0 : Int) < y
  · rw [if_pos c]
    exact ⟨fun h => by rw [gsc_1] at h; omega, fun h => by omega⟩
  · rw [if_neg c, if_pos (by omega)]
    exact ⟨fun h => by omega, fun h => by rw [gs_id (by omega) (by omega)]⟩
theorem lrem_nn {x y : Int} (h0 : 0 ≤ x ∧ x < 9223372036854775808) (h1 : 0 < y ∧ y < 9223372036854775808) : g_lrem x y = x % y := by
  unfold g_lrem
  rw [L_id (by omega) (by omega), L_id (by omega) (by omega), Int.tmod_eq_emod_of_nonneg h0.1]
theorem gcd_step {a b : Int} {i : Nat} {F : Nat} (ha : 0 ≤ a ∧ a < 9223372036854775808) (hb : 0 < b ∧ b < 9223372036854775808) (hi : i < 100) : m_X0_commonDivisor_L3 (F + 1) a b i = m_X0_commonDivisor_L3 F b (a % b) ((i + 1 : Nat) : Int) ∧ m_X9_divisor_L6 (F + 1) a b = m_X9_divisor_L6 F b (a % b) := by
  have c := cmp_0 (y := b) (by omega) hb.2
  have l := L_id (x := b) (by omega) hb.2
  rw [m_X0_commonDivisor_L3, m_X9_divisor_L6, if_neg (by rw [gs_id (by omega) (by omega), gs_id (by omega) (by omega)]; omega), if_neg (fun z => by have := c.1 z; omega), if_neg (fun z => by have := c.1 z; omega), lrem_nn ha hb, Int.natCast_add, Int.natCast_one, g_gd_pos (by rw [l]; omega), g_gd_pos (by rw [l]; omega)]
  simp only [nm_eq, true_and]
theorem gcd_end {a : Int} {i F : Nat} (hi : i < 100) : m_X0_commonDivisor_L3 (F + 1) a 0 i = some a ∧ m_X9_divisor_L6 (F + 1) a 0 = some a := by
  have c := (cmp_0 (y := 0) (by omega) (by omega)).2 rfl
  rw [m_X0_commonDivisor_L3, m_X9_divisor_L6, if_neg (by rw [gs_id (by omega) (by omega), gs_id (by omega) (by omega)]; omega), if_pos c, if_pos c]
  exact ⟨rfl, rfl⟩
theorem gcd_both : ∀ (n : Nat) (a b : Int) (i F G : Nat), 0 ≤ a ∧ a < 2147483648 → 0 ≤ b ∧ b < (2 : Int) ^ n → b < 2147483648 → i + 2 * n < 99 → 2 * n + 1 < F → 2 * n + 1 < G → (0 < a ∨ 0 < b) → ∃ d : Int, 0 < d ∧ d < 2147483648 ∧ m_X0_commonDivisor_L3 F a b i = some d ∧ m_X9_divisor_L6 G a b = some d := by
  intro n
  induction n with
  | zero =>
    intro a b i F G ha hb hb2 hi hF hG hp
    have e : (2 : Int) ^ 0 = 1 := rfl
    obtain rfl : b = 0 := by omega
    obtain ⟨F, rfl⟩ : ∃ u, F = u + 1 := ⟨F - 1, by omega⟩
    obtain ⟨G, rfl⟩ : ∃ u, G = u + 1 := ⟨G - 1, by omega⟩
    exact ⟨a, by omega, by omega, (gcd_end (by omega)).1, (gcd_end (i := i) (by omega)).2⟩
  | succ n ih =>
    intro a b i F G ha hb hb2 hi hF hG hp
    obtain ⟨F, rfl⟩ : ∃ u, F = u + 1 + 1 := ⟨F - 2, by omega⟩
    obtain ⟨G, rfl⟩ : ∃ u, G = u + 1 + 1 := ⟨G - 2, by omega⟩
    by_cases c : b = 0
    · subst c
      exact ⟨a, by omega, by omega, (gcd_end (by omega)).1, (gcd_end (i := i) (by omega)).2⟩
    · have s1 := gcd_step (a := a) (b := b) (i := i) (F := F + 1) (by omega) (by omega) (by omega)
      have s2 := gcd_step (a := a) (b := b) (i := i) (F := G + 1) (by omega) (by omega) (by omega)
      rw [s1.1, s2.2]
      have r0 := Int.emod_nonneg a c
      have r1 := Int.emod_lt_of_pos a (show 0 < b by omega)
      generalize a % b = r at r0 r1
      by_cases d : r = 0
      · subst d
        exact ⟨b, by omega, by omega, (gcd_end (by omega)).1, (gcd_end (i := i) (by omega)).2⟩
      · have s3 := gcd_step (a := b) (b := r) (i := i + 1) (F := F) (by omega) (by omega) (by omega)
        have s4 := gcd_step (a := b) (b := r) (i := i + 1) (F := G) (by omega) (by omega) (by omega)
        rw [s3.1, s4.2]
        have q0 := Int.emod_nonneg b d
        have q1 := Int.emod_lt_of_pos b (show 0 < r by omega)
        have q2 := Int.emod_add_mul_ediv b r
        have q3 : 1 ≤ b / r := by
          rw [Int.le_ediv_iff_mul_le (by omega)]
          omega
        have q4 : r * 1 ≤ r * (b / r) := Int.mul_le_mul_of_nonneg_left q3 (by omega)
        have e : (2 : Int) ^ (n + 1) = 2 * 2 ^ n := by rw [Int.pow_succ, Int.mul_comm]
        generalize b % r = r2 at *
        generalize r * (b / r) = z at *
        exact ih r r2 (i + 1 + 1) F G (by omega) (by omega) (by omega) (by omega) (by omega) (by omega) (by omega)
