/-! the roster: the class places -/
theorem p_place {k : Nat} {M0 M : g_M} {p : Nat} {A : Nat → Nat} {y : Nat → Int} (hP : Pri (wF (M0 9)) k p A y) (hp : p < 8) (hl : LkB (M0 9)) (hA : ∀ q, q < p → M0 78 q = (A q : Int)) (hws : WS k M0 p A y M) (hB : ∀ q e, q < p → e < 5 → M 80 (A q) - wF (M0 9) q (A q) + wF (M0 9) q e ≤ M 80 e) (h79 : ∀ e, e < 5 → M0 79 e = (occ A e p : Int)) (hk8 : k ≤ 8) {m : Nat} (hm : m < 5) (hroom : occ A m p < k) (hbest : ∀ e, e < 5 → occ A e p < k → M 80 e ≤ M 80 m) : Ok (m_X5_place p m M) (fun M' => (∀ a, a ≠ 78 → a ≠ 79 → a ≠ 80 → a ≠ 81 → M' a = M0 a) ∧ ∃ A' y', Pri (wF (M0 9)) k (p + 1) A' y' ∧ (∀ q, q < p + 1 → M' 78 q = (A' q : Int)) ∧ ∀ e, e < 5 → M' 79 e = (occ A' e (p + 1) : Int)) := by
  obtain ⟨w1, ⟨R, w2⟩, w3⟩ := hws
  have e79 : M 79 m = (occ A m p : Int) := by rw [w1 79 (by omega) (by omega)]; exact h79 m hm
  obtain ⟨M1, hM1⟩ : ∃ M1, M1 = g_wr M 79 m ((occ A m p : Int) + 1) := ⟨_, rfl⟩
  have a1 : ∀ a, a ≠ 79 → M1 a = M a := fun a ha => by rw [hM1, a_cell _ ha]
  have a2 : ∀ e, e < 5 → M1 79 e = ((occ A e p + if e = m then 1 else 0 : Nat) : Int) := by
    intro e he
    rw [hM1]
    by_cases z : e = m
    · subst z; rw [wr_at, if_pos rfl]; rfl
    · rw [a_ne _ (by omega), if_neg z, w1 79 (by omega) (by omega)]; exact h79 e he
  unfold m_X5_place
  simp (disch := omega) only [↓reduceIte, ↓nm_eq, ↓jn_eq, ↓c_within, ↓c_isIn, ↓c_isScene, ↓c_isPlace, ↓c_isCue, ↓c_isDigit, ↓d_isScene, ↓d_isAny, ↓ta_pb1, ↓ta_pb0, ↓ta_pb1', ↓ta_pb0', ta_lt, ta_nlt, ta_le, ta_nle, ta_eq, ta_neq, ta_nne, ta_ne, gs_id, a_gd01, a_gdT, or_true, true_or, bd_some, bW_sm, a_gd, a_ne, a_rd, Int.toNat_natCast, Int.toNat_add, Int.toNat_mul, Int.reduceToNat, a_gdp, a_cell, and_self, and_true, true_and, e79]
  rw [← hM1]
  clear hM1
  refine Ok_for 5 (fun f i (s : Int × g_M) => m_X5_place_L15 p _ f s.1 i s.2) (fun i s => ∃ (c : Nat) (A' : Nat → Nat), s.1 = (c : Int) ∧ Way (wF (M0 9)) p A A' y (M 80) R m c i ∧ (∀ a, a ≠ 78 → s.2 a = M1 a) ∧ ∀ q, q < p → s.2 78 q = (A' q : Int)) (fun f s h => ?_) (fun i f s hi h kk => ?_) 0 g_fuel ((m : Int), M1) (by omega) (by unfold g_fuel; omega) ⟨m, A, rfl, Way_0 hP hB hm, fun a _ => rfl, fun q hq => ?_⟩
  · obtain ⟨c, A', -, h2, -⟩ := h
    have := Way_lt h2
    omega
  · obtain ⟨x, V⟩ := s
    obtain ⟨c, A', h1, h2, h3, h4⟩ := h
    dsimp only at h1 h3 h4
    subst h1
    have kk' : ∀ (c' : Nat) (V' : g_M) (A'' : Nat → Nat), Way (wF (M0 9)) p A A'' y (M 80) R m c' (i + 1) → (∀ a, a ≠ 78 → V' a = M1 a) → (∀ q, q < p → V' 78 q = (A'' q : Int)) → Ok (m_X5_place_L15 p (fun (x26 : Int) (M27 : g_M) => some (g_wr M27 78 p x26)) f c' ((i : Int) + 1) V') (fun M' => (∀ a, a ≠ 78 → a ≠ 79 → a ≠ 80 → a ≠ 81 → M' a = M0 a) ∧ ∃ A' y', Pri (wF (M0 9)) k (p + 1) A' y' ∧ (∀ q, q < p + 1 → M' 78 q = (A' q : Int)) ∧ ∀ e, e < 5 → M' 79 e = (occ A' e (p + 1) : Int)) := fun c' V' A'' a b d => kk ((c' : Int), V') ⟨c', A'', rfl, a, b, d⟩
    clear kk
    have hc5 := h2.1
    have e81 : V 81 c = M 81 c := by rw [h3 81 (by omega), a1 81 (by omega)]
    show Ok (m_X5_place_L15 p _ (f + 1) (c : Int) _ V) _
    rw [m_X5_place_L15]
    rcases (w2 c hc5).2 with ⟨g, -⟩ | ⟨q, g1, g2, -⟩
    · simp (disch := omega) only [↓reduceIte, ↓nm_eq, ↓jn_eq, ↓c_within, ↓c_isIn, ↓c_isScene, ↓c_isPlace, ↓c_isCue, ↓c_isDigit, ↓d_isScene, ↓d_isAny, ↓ta_pb1, ↓ta_pb0, ↓ta_pb1', ↓ta_pb0', ta_lt, ta_nlt, ta_le, ta_nle, ta_eq, ta_neq, ta_nne, ta_ne, gs_id, a_gd01, a_gdT, or_true, true_or, bd_some, bW_sm, a_gd, a_ne, a_rd, Int.toNat_natCast, Int.toNat_add, Int.toNat_mul, Int.reduceToNat, a_gdp, a_cell, and_self, and_true, true_and, e81, g]
      obtain ⟨n1, n2⟩ := Way_end hP w2 hp (fun e he => (wF_b hl hp he).1) w3 hm hroom hbest h2 g
      refine Ok_some ⟨fun a b1 b2 b3 b4 => ?_, upN A' p c, prN y (M 80) m, n1, fun q hq => ?_, fun e he => ?_⟩
      · rw [a_cell _ b1, h3 a b1, a1 a b2, w1 a b3 b4]
      · by_cases z : q = p
        · subst z; rw [wr_at, upN_at]
        · rw [a_ne _ (by omega), upN_ne _ _ z]; exact h4 q (by omega)
      · rw [a_ne _ (by omega), h3 79 (by omega), a2 e he, n2 e he]
    · obtain ⟨s1, s2, s3, s4⟩ := Way_step hP w2 hB h2 g2
      have e78 : V 78 q = (A q : Int) := by rw [h4 q s1, s2]
      simp (disch := omega) only [↓reduceIte, ↓nm_eq, ↓jn_eq, ↓c_within, ↓c_isIn, ↓c_isScene, ↓c_isPlace, ↓c_isCue, ↓c_isDigit, ↓d_isScene, ↓d_isAny, ↓ta_pb1, ↓ta_pb0, ↓ta_pb1', ↓ta_pb0', ta_lt, ta_nlt, ta_le, ta_nle, ta_eq, ta_neq, ta_nne, ta_ne, gs_id, a_gd01, a_gdT, or_true, true_or, bd_some, bW_sm, a_gd, a_ne, a_rd, Int.toNat_natCast, Int.toNat_add, Int.toNat_mul, Int.reduceToNat, a_gdp, a_cell, and_self, and_true, true_and, e81, g2, e78]
      refine kk' (A q) (g_wr V 78 q c) _ s4 (fun a ha => by rw [a_cell _ ha]; exact h3 a ha) (fun x hx => ?_)
      by_cases z : x = q
      · subst z; rw [wr_at, upN_at]
      · rw [a_ne _ (by omega), upN_ne _ _ z]; exact h4 x hx
  · show M1 78 q = _
    rw [a1 78 (by omega), w1 78 (by omega) (by omega)]
    exact hA q hq
theorem p_assign {M : g_M} {k P : Nat} (hk : 1 ≤ k ∧ k ≤ 8) (hP : P ≤ 8) (hPk : P ≤ 5 * k) (h7 : M 1 7 = P) (hl : LkB (M 9)) : Ok (m_X5_assign k M) (fun M' => (∀ a, a ≠ 78 → a ≠ 79 → a ≠ 80 → a ≠ 81 → M' a = M a) ∧ ∃ A y, Pri (wF (M 9)) k P A y ∧ ∀ q, q < P → M' 78 q = (A q : Int)) := by
  unfold m_X5_assign
  have key : ∀ kc : g_M → Option g_M, m_X5_assign_L2 k kc g_fuel 0 M = kc (cpF M 79 0 (fun _ => 0) 5) := by
    intro kc
    refine cp_loop (fun f i M => m_X5_assign_L2 k kc f i M) 79 0 5 (fun _ => 0) M _ (fun f => ?_) (fun i f hi => ?_) g_fuel (by unfold g_fuel; omega)
    · show m_X5_assign_L2 k kc (f + 1) _ _ = _
      rw [m_X5_assign_L2]
      simp (disch := omega) only [↓reduceIte, ↓nm_eq, ↓jn_eq, ↓c_within, ↓c_isIn, ↓c_isScene, ↓c_isPlace, ↓c_isCue, ↓c_isDigit, ↓d_isScene, ↓d_isAny, ↓ta_pb1, ↓ta_pb0, ↓ta_pb1', ↓ta_pb0', ta_lt, ta_nlt, ta_le, ta_nle, ta_eq, ta_neq, ta_nne, ta_ne, gs_id, a_gd01, a_gdT, or_true, true_or, bd_some, bW_sm, a_gd, a_ne, a_rd, Int.toNat_natCast, Int.toNat_add, Int.toNat_mul, Int.reduceToNat, a_gdp, a_cell, and_self, and_true, true_and]
    · show m_X5_assign_L2 k kc (f + 1) _ _ = m_X5_assign_L2 k kc f _ _
      rw [m_X5_assign_L2]
      simp (disch := omega) only [↓reduceIte, ↓nm_eq, ↓jn_eq, ↓c_within, ↓c_isIn, ↓c_isScene, ↓c_isPlace, ↓c_isCue, ↓c_isDigit, ↓d_isScene, ↓d_isAny, ↓ta_pb1, ↓ta_pb0, ↓ta_pb1', ↓ta_pb0', ta_lt, ta_nlt, ta_le, ta_nle, ta_eq, ta_neq, ta_nne, ta_ne, gs_id, a_gd01, a_gdT, or_true, true_or, bd_some, bW_sm, a_gd, a_ne, a_rd, Int.toNat_natCast, Int.toNat_add, Int.toNat_mul, Int.reduceToNat, a_gdp, a_cell, and_self, and_true, true_and, Nat.zero_add]
  rw [nm_eq, key, nm_eq]
  refine Ok_for P (fun f i V => m_X5_assign_L22 k f i V) (fun i V => (∀ a, a ≠ 78 → a ≠ 79 → a ≠ 80 → a ≠ 81 → V a = M a) ∧ ∃ A y, Pri (wF (M 9)) k i A y ∧ (∀ q, q < i → V 78 q = (A q : Int)) ∧ ∀ e, e < 5 → V 79 e = (occ A e i : Int)) (fun f V h => ?_) (fun i f V hi h kk => ?_) 0 g_fuel _ (by omega) (by unfold g_fuel; omega) ⟨fun a b1 b2 b3 b4 => cpF_cell _ _ b2, fun _ => 0, fun _ => 0, ⟨⟨fun q hq => by omega, fun e he => Nat.zero_le _⟩, fun e he => ⟨Int.le_refl _, by show (0 : Int) ≤ _; omega⟩, fun e he _ => rfl, fun q e hq => by omega⟩, fun q hq => by omega, fun e he => by rw [cpF_in _ _ (by omega)]; rfl⟩
  · obtain ⟨v1, A, y, v2, v3, v4⟩ := h
    show Ok (m_X5_assign_L22 k (f + 1) _ V) _
    have e7 : V 1 7 = P := by rw [v1 1 (by omega) (by omega) (by omega) (by omega)]; exact h7
    rw [m_X5_assign_L22]
    simp (disch := omega) only [↓reduceIte, ↓nm_eq, ↓jn_eq, ↓c_within, ↓c_isIn, ↓c_isScene, ↓c_isPlace, ↓c_isCue, ↓c_isDigit, ↓d_isScene, ↓d_isAny, ↓ta_pb1, ↓ta_pb0, ↓ta_pb1', ↓ta_pb0', ta_lt, ta_nlt, ta_le, ta_nle, ta_eq, ta_neq, ta_nne, ta_ne, gs_id, a_gd01, a_gdT, or_true, true_or, bd_some, bW_sm, a_gd, a_ne, a_rd, Int.toNat_natCast, Int.toNat_add, Int.toNat_mul, Int.reduceToNat, a_gdp, a_cell, and_self, and_true, true_and, e7]
    exact Ok_some ⟨v1, A, y, v2, v3⟩
  · obtain ⟨v1, A, y, v2, v3, v4⟩ := h
    show Ok (m_X5_assign_L22 k (f + 1) _ V) _
    have e7 : V 1 7 = P := by rw [v1 1 (by omega) (by omega) (by omega) (by omega)]; exact h7
    have e9 : V 9 = M 9 := v1 9 (by omega) (by omega) (by omega) (by omega)
    rw [← e9] at v2 hl
    rw [m_X5_assign_L22, if_neg (by rw [e7, gs_id (by omega) (by omega), gs_id (by omega) (by omega)]; omega)]
    refine Ok_bind (p_places v2 (by omega) hl v3) (fun V1 h1 => ?_)
    obtain ⟨ws, hb⟩ := h1
    have bb := WS_b v2 (by omega) hl ws
    obtain ⟨m, e, m1, m2, m3⟩ := p_bestRoom (M := V1) hk v2.1 (by omega) (fun e he => by rw [ws.1 79 (by omega) (by omega)]; exact v4 e he) bb
    rw [e, bd_some]
    refine Ok_bind (p_place v2 (by omega) hl v3 ws hb v4 hk.2 m1 m2 m3) (fun V2 h2 => ?_)
    obtain ⟨f1, A', y', f2, f3, f4⟩ := h2
    rw [nm_eq]
    rw [e9] at f2
    exact kk V2 ⟨fun a b1 b2 b3 b4 => (f1 a b1 b2 b3 b4).trans (v1 a b1 b2 b3 b4), A', y', f2, f3, f4⟩
theorem p_together {M : g_M} {P : Nat} (hP : P ≤ 8) (h7 : M 1 7 = P) (hl : LkB (M 9)) {A : Nat → Nat} (h5 : ∀ q, q < P → A q < 5) (hA : ∀ q, q < P → M 78 q = (A q : Int)) : m_X5_likesTogether M = some (sm (fun q => M 9 (q * 5 + A q)) P) := by
  unfold m_X5_likesTogether
  rw [nm_eq, nm_eq]
  refine loop_F (fun F i (a : Int) => m_X5_likesTogether_L4 M F a i) P (fun i => sm (fun q => M 9 (q * 5 + A q)) i) _ (fun F => ?_) (fun i F hi => ?_) P 0 g_fuel (by omega) (by unfold g_fuel; omega)
  · show m_X5_likesTogether_L4 M (F + 1) _ _ = _
    rw [m_X5_likesTogether_L4]
    simp (disch := omega) only [↓reduceIte, ↓nm_eq, ↓jn_eq, ↓c_within, ↓c_isIn, ↓c_isScene, ↓c_isPlace, ↓c_isCue, ↓c_isDigit, ↓d_isScene, ↓d_isAny, ↓ta_pb1, ↓ta_pb0, ↓ta_pb1', ↓ta_pb0', ta_lt, ta_nlt, ta_le, ta_nle, ta_eq, ta_neq, ta_nne, ta_ne, gs_id, a_gd01, a_gdT, or_true, true_or, bd_some, bW_sm, a_gd, a_ne, a_rd, Int.toNat_natCast, Int.toNat_add, Int.toNat_mul, Int.reduceToNat, a_gdp, a_cell, and_self, and_true, true_and, h7]
  · show m_X5_likesTogether_L4 M (F + 1) _ _ = m_X5_likesTogether_L4 M F (sm (fun q => M 9 (q * 5 + A q)) (i + 1)) _
    rw [sm_s, m_X5_likesTogether_L4]
    have a := h5 i hi
    have b := hA i hi
    generalize sm (fun q => M 9 (q * 5 + A q)) i = S
    generalize A i = u at *
    simp (disch := omega) only [↓reduceIte, ↓nm_eq, ↓jn_eq, ↓c_within, ↓c_isIn, ↓c_isScene, ↓c_isPlace, ↓c_isCue, ↓c_isDigit, ↓d_isScene, ↓d_isAny, ↓ta_pb1, ↓ta_pb0, ↓ta_pb1', ↓ta_pb0', ta_lt, ta_nlt, ta_le, ta_nle, ta_eq, ta_neq, ta_nne, ta_ne, gs_id, a_gd01, a_gdT, or_true, true_or, bd_some, bW_sm, a_gd, a_ne, a_rd, Int.toNat_natCast, Int.toNat_add, Int.toNat_mul, Int.reduceToNat, a_gdp, a_cell, and_self, and_true, true_and, h7, b, Int.natCast_add, Int.natCast_one]
/-! rows as numbers -/
def nv (s : Nat → Nat) : Nat → Nat
  | 0 => 0
  | p + 1 => 5 * nv s p + s p
theorem nv_cg {s t : Nat → Nat} : ∀ p, (∀ q, q < p → s q = t q) → nv s p = nv t p := by
  intro p
  induction p with
  | zero => exact fun _ => rfl
  | succ p ih =>
    intro h
    show 5 * nv s p + s p = 5 * nv t p + t p
    rw [ih (fun q hq => h q (by omega)), h p (by omega)]
theorem nv_lt {s t : Nat → Nat} {j : Nat} (h : ∀ q, q < j → s q = t q) (hj : s j < t j) : ∀ d, (∀ q, q < j + 1 + d → s q < 5) → nv s (j + 1 + d) < nv t (j + 1 + d) := by
  intro d
  induction d with
  | zero =>
    intro _
    show 5 * nv s j + s j < 5 * nv t j + t j
    rw [nv_cg j h]
    omega
  | succ d ih =>
    intro h5
    have a := ih (fun q hq => h5 q (by omega))
    have b := h5 (j + 1 + d) (by omega)
    show 5 * nv s (j + 1 + d) + s (j + 1 + d) < 5 * nv t (j + 1 + d) + t (j + 1 + d)
    omega
theorem nv_inj {s t : Nat → Nat} : ∀ p, (∀ q, q < p → s q < 5) → (∀ q, q < p → t q < 5) → nv s p = nv t p → ∀ q, q < p → s q = t q := by
  intro p
  induction p with
  | zero => intro _ _ _ q hq; omega
  | succ p ih =>
    intro hs ht h q hq
    have a := hs p (by omega)
    have b := ht p (by omega)
    have h' : 5 * nv s p + s p = 5 * nv t p + t p := h
    by_cases c : q = p
    · subst c; omega
    · exact ih (fun q hq => hs q (by omega)) (fun q hq => ht q (by omega)) (by omega) q (by omega)
theorem nv_max {s : Nat → Nat} : ∀ p, (∀ q, q < p → s q < 5) → nv s p + 1 ≤ 5 ^ p := by
  intro p
  induction p with
  | zero => intro _; exact Nat.le_refl _
  | succ p ih =>
    intro h
    have a := ih (fun q hq => h q (by omega))
    have b := h p (by omega)
    show 5 * nv s p + s p + 1 ≤ 5 ^ (p + 1)
    rw [Nat.pow_succ]
    omega
/-- where two rows of evenings part: which comes first -/
theorem nv_part {s t : Nat → Nat} {p : Nat} (hs : ∀ q, q < p → s q < 5) (ht : ∀ q, q < p → t q < 5) (h : nv s p < nv t p) : ∃ j, j < p ∧ (∀ q, q < j → s q = t q) ∧ s j < t j := by
  have ex : ∃ j, j < p ∧ s j ≠ t j := by
    apply Classical.byContradiction
    intro no
    have := nv_cg (s := s) (t := t) p (fun q hq => Classical.byContradiction fun z => no ⟨q, hq, z⟩)
    omega
  obtain ⟨j0, hj0, h0⟩ := ex
  obtain ⟨j, hj, ⟨h1, h2⟩, h3⟩ := least (p := fun j => j < p ∧ s j ≠ t j) j0 ⟨hj0, h0⟩
  have eq : ∀ q, q < j → s q = t q := fun q hq => Classical.byContradiction fun z => h3 q hq ⟨by omega, z⟩
  refine ⟨j, h1, eq, ?_⟩
  by_cases c : s j < t j
  · exact c
  · have := nv_lt (s := t) (t := s) (j := j) (fun q hq => (eq q hq).symm) (by omega) (p - (j + 1)) (fun q hq => ht q (by omega))
    rw [show j + 1 + (p - (j + 1)) = p by omega] at this
    omega
def c5 (P : Nat) : Nat := 5 ^ (8 - P)
theorem c5_s {p : Nat} (h : p < 8) : c5 p = 5 * c5 (p + 1) := by
  unfold c5
  rw [show 8 - p = (8 - (p + 1)) + 1 by omega, Nat.pow_succ]
  omega
theorem c5_lt {p : Nat} (h : p < 8) : x_lt p = (c5 (p + 1) : Int) := by
  have : p = 0 ∨ p = 1 ∨ p = 2 ∨ p = 3 ∨ p = 4 ∨ p = 5 ∨ p = 6 ∨ p = 7 := by omega
  rcases this with rfl | rfl | rfl | rfl | rfl | rfl | rfl | rfl <;> rfl
/-- what a row weighs: its likes first, then that it comes early -/
theorem w_sum (lk : Nat → Int) (A : Nat → Nat) : ∀ P, P ≤ 8 → sm (fun q => wF lk q (A q)) P = sm (fun q => lk (q * 5 + A q)) P * 390625 - ((c5 P * nv A P : Nat) : Int) := by
  intro P
  induction P with
  | zero => intro _; rfl
  | succ P ih =>
    intro h
    rw [sm_s, sm_s, ih (by omega)]
    have e1 : wF lk P (A P) = lk (P * 5 + A P) * 390625 - (A P : Int) * x_lt P := rfl
    have e2 : nv A (P + 1) = 5 * nv A P + A P := rfl
    have e3 : c5 P * nv A P = c5 (P + 1) * (5 * nv A P) := by rw [c5_s (show P < 8 by omega), Nat.mul_comm 5, Nat.mul_assoc]
    have e4 : (A P : Int) * (c5 (P + 1) : Int) = ((c5 (P + 1) * A P : Nat) : Int) := by rw [Int.natCast_mul, Int.mul_comm]
    rw [e1, e2, c5_lt (show P < 8 by omega), e4, e3, Nat.mul_add, Int.natCast_add, Int.add_mul]
    omega
/-- the row that none outweighs is the one -/
theorem w_one {lk : Nat → Int} {P : Nat} (hP : P ≤ 8) {A B : Nat → Nat} (hA : ∀ q, q < P → A q < 5) (hB : ∀ q, q < P → B q < 5) (h1 : sm (fun q => wF lk q (B q)) P ≤ sm (fun q => wF lk q (A q)) P) (h2 : sm (fun q => lk (q * 5 + A q)) P < sm (fun q => lk (q * 5 + B q)) P ∨ (sm (fun q => lk (q * 5 + A q)) P = sm (fun q => lk (q * 5 + B q)) P ∧ nv B P ≤ nv A P)) : ∀ q, q < P → A q = B q := by
  rw [w_sum lk A P hP, w_sum lk B P hP] at h1
  have mA := nv_max P hA
  have mB := nv_max P hB
  have cp : c5 P * 5 ^ P = 390625 := by
    unfold c5
    rw [← Nat.pow_add, show 8 - P + P = 8 by omega]
  have c1 : 1 ≤ c5 P := Nat.pos_of_ne_zero (fun z => by rw [z] at cp; omega)
  have bA : c5 P * (nv A P + 1) ≤ 390625 := by rw [← cp]; exact Nat.mul_le_mul_left _ mA
  have bB : c5 P * (nv B P + 1) ≤ 390625 := by rw [← cp]; exact Nat.mul_le_mul_left _ mB
  rw [Nat.mul_add] at bA bB
  rcases h2 with h2 | ⟨h2, h3⟩
  · omega
  · rw [h2] at h1
    have le : c5 P * nv A P ≤ c5 P * nv B P := by omega
    have le2 : nv A P ≤ nv B P := Nat.le_of_mul_le_mul_left le (by omega)
    exact nv_inj P hA hB (by omega)
