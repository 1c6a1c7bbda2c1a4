/-! the seventh row -/
theorem st_33 : x_step_33 Rel := by
  intro n Mx Mm hr hn
  obtain ⟨P, T, S, E, C, F, hP, hT, hU, hS, hE, hC, hF, hsn, htd, hkd, hpl, hro, hod, hos, hsv, -⟩ := Rel_RF hr
  obtain ⟨v, hv⟩ : ∃ v : Nat, Mx 1 13 = v := ⟨(Mx 1 13).toNat, by omega⟩
  have hm : Mm 1 142 = v := by omega
  have hl : v < 4096 := by omega
  have pcb : 0 ≤ pc v ∧ pc v ≤ 12 := by unfold pc; omega
  obtain ⟨e1, e2⟩ := of_decide_eq_true (all_of sure_all hl)
  obtain ⟨r, hr1⟩ := Option.isSome_iff_exists.mp e2
  have k1 : m_X8_sure Mx = some r := by
    unfold m_X8_sure m_X6_onlyScene
    rw [nm_eq, nm_eq, only_M, hv, fuel_le (fun f (s : g_M × Int × Int) => m_X6_onlyScene_L4 s.1 f s.2.1 s.2.2) only_mono 14 g_fuel (fun _ _ => (v : Int), -1, 0) r (by unfold g_fuel; omega) hr1]
    rfl
  have k2 : m_X9_sure Mm = some r := by
    unfold m_X9_sure
    rw [hr1] at e1
    simp (disch := omega) only [↓reduceIte, ↓nm_eq, ↓jn_eq, ↓c_within, ↓c_isIn, ↓c_isScene, ↓c_isPlace, ↓c_isCue, ↓c_isDigit, ↓d_isScene, ↓d_isAny, ↓ta_pb1, ↓ta_pb0, ↓ta_pb1', ↓ta_pb0', ta_lt, ta_nlt, ta_le, ta_nle, ta_eq, ta_neq, ta_nne, ta_ne, gs_id, a_gd01, a_gdT, or_true, true_or, bd_some, bW_sm, a_gd, a_ne, a_rd, Int.toNat_natCast, Int.toNat_add, Int.toNat_mul, Int.reduceToNat, a_gdp, a_cell, and_self, and_true, true_and, hm, q_bits hl]
    by_cases c : pc v = 1
    · rw [if_pos c] at e1
      have e3 := fuel_le (fun f (s : g_M × Int) => m_X9_sure_L19 s.1 f s.2) sure_mono 14 g_fuel (fun _ _ => (v : Int), 0) r (by unfold g_fuel; omega) e1.symm
      dsimp only at e3
      rw [if_pos c, sure_M, hm]
      exact e3
    · rw [if_neg c] at e1
      rw [if_neg c]
      exact e1.symm
  exact ⟨r, r, Mx, Mm, ⟨k1, rfl⟩, ⟨k2, rfl⟩, rfl, st_same hr⟩
theorem and4095 (x : Int) : 0 ≤ g_and x 4095 ∧ g_and x 4095 ≤ 4095 := by
  have e : (gI x &&& gI 4095).toBitVec.toNat ≤ 4095 := by
    show ((gI x).toBitVec &&& (gI 4095).toBitVec).toNat ≤ 4095
    rw [BitVec.toNat_and, show (gI 4095).toBitVec.toNat = 4095 from rfl]
    exact Nat.and_le_right
  have f : g_and x 4095 = ((gI x &&& gI 4095).toBitVec.toNat : Int) := by
    show (gI x &&& gI 4095).toBitVec.toInt = _
    rw [BitVec.toInt_eq_toNat_of_lt (by omega)]
  rw [f]
  omega
/-- SCENES behind one, by its first n cues, set beside -/
def orc (nx : Nat → Nat → Int) (s : Nat) : Nat → Int → Int
  | 0, a => a
  | n + 1, a => g_or (orc nx s n a) (g_shl 1 (nx s n))
def ors (nx : Nat → Nat → Int) (p : Nat → Prop) [DecidablePred p] : Nat → Int
  | 0 => 0
  | n + 1 => if p n then orc nx n 4 (ors nx p n) else ors nx p n
theorem ors_t {nx : Nat → Nat → Int} {p : Nat → Prop} [DecidablePred p] {n : Nat} (h : p n) : ors nx p (n + 1) = orc nx n 4 (ors nx p n) := if_pos h
theorem ors_f {nx : Nat → Nat → Int} {p : Nat → Prop} [DecidablePred p] {n : Nat} (h : ¬ p n) : ors nx p (n + 1) = ors nx p n := if_neg h
theorem p_mayBe {M : g_M} {v s : Nat} (hv : M 1 13 = v) (h1 : v < 2147483648) (hs : s < 31) : m_X6_mayBe s M = some (pb (v >>> s % 2 = 1)) ∧ m_X9_has v s = some (pb (v >>> s % 2 = 1)) := by
  have e : g_and ((v >>> s : Nat) : Int) 1 = ((v >>> s % 2 : Nat) : Int) := by
    have hh : v >>> s < 2147483648 := by
      have : v >>> s ≤ v := Nat.shiftRight_le v s
      omega
    have := and_nat (x := v >>> s) (y := 1) hh (by omega)
    rw [Nat.and_one_is_mod] at this
    exact this
  unfold m_X6_mayBe m_X9_has
  rw [hv, shr_nat h1 hs, e]
  have h2 : v >>> s % 2 = 0 ∨ v >>> s % 2 = 1 := by omega
  rcases h2 with h | h
  · rw [h, pb_f (by omega)]
    exact ⟨by simp (disch := omega) only [↓reduceIte, ↓nm_eq, ↓jn_eq, ↓c_within, ↓c_isIn, ↓c_isScene, ↓c_isPlace, ↓c_isCue, ↓c_isDigit, ↓d_isScene, ↓d_isAny, ↓ta_pb1, ↓ta_pb0, ↓ta_pb1', ↓ta_pb0', ta_lt, ta_nlt, ta_le, ta_nle, ta_eq, ta_neq, ta_nne, ta_ne, gs_id, a_gd01, a_gdT, or_true, true_or, bd_some, bW_sm, a_gd, a_ne, a_rd, Int.toNat_natCast, Int.toNat_add, Int.toNat_mul, Int.reduceToNat, a_gdp, a_cell, and_self, and_true, true_and, Int.ofNat_zero], by simp (disch := omega) only [↓reduceIte, ↓nm_eq, ↓jn_eq, ↓c_within, ↓c_isIn, ↓c_isScene, ↓c_isPlace, ↓c_isCue, ↓c_isDigit, ↓d_isScene, ↓d_isAny, ↓ta_pb1, ↓ta_pb0, ↓ta_pb1', ↓ta_pb0', ta_lt, ta_nlt, ta_le, ta_nle, ta_eq, ta_neq, ta_nne, ta_ne, gs_id, a_gd01, a_gdT, or_true, true_or, bd_some, bW_sm, a_gd, a_ne, a_rd, Int.toNat_natCast, Int.toNat_add, Int.toNat_mul, Int.reduceToNat, a_gdp, a_cell, and_self, and_true, true_and]⟩
  · rw [h, pb_t rfl]
    exact ⟨by simp (disch := omega) only [↓reduceIte, ↓nm_eq, ↓jn_eq, ↓c_within, ↓c_isIn, ↓c_isScene, ↓c_isPlace, ↓c_isCue, ↓c_isDigit, ↓d_isScene, ↓d_isAny, ↓ta_pb1, ↓ta_pb0, ↓ta_pb1', ↓ta_pb0', ta_lt, ta_nlt, ta_le, ta_nle, ta_eq, ta_neq, ta_nne, ta_ne, gs_id, a_gd01, a_gdT, or_true, true_or, bd_some, bW_sm, a_gd, a_ne, a_rd, Int.toNat_natCast, Int.toNat_add, Int.toNat_mul, Int.reduceToNat, a_gdp, a_cell, and_self, and_true, true_and], by simp (disch := omega) only [↓reduceIte, ↓nm_eq, ↓jn_eq, ↓c_within, ↓c_isIn, ↓c_isScene, ↓c_isPlace, ↓c_isCue, ↓c_isDigit, ↓d_isScene, ↓d_isAny, ↓ta_pb1, ↓ta_pb0, ↓ta_pb1', ↓ta_pb0', ta_lt, ta_nlt, ta_le, ta_nle, ta_eq, ta_neq, ta_nne, ta_ne, gs_id, a_gd01, a_gdT, or_true, true_or, bd_some, bW_sm, a_gd, a_ne, a_rd, Int.toNat_natCast, Int.toNat_add, Int.toNat_mul, Int.reduceToNat, a_gdp, a_cell, and_self, and_true, true_and]⟩
theorem nxF_nat {nw td : Nat → Int} (h1 : ∀ s : Nat, s < 12 → 0 ≤ nw (16 + s) ∧ nw (16 + s) ≤ 12) (h2 : ∀ i : Nat, i < 48 → 0 ≤ td i ∧ td i ≤ 12) {s c : Nat} (hs : s ≤ 12) (hc : c ≤ 3) : ∃ u : Nat, nxF nw td s c = u ∧ u ≤ 12 := by
  have := nxF_lt h1 h2 hs hc
  exact ⟨(nxF nw td s c).toNat, by omega, by omega⟩
theorem p_watch34 (x21 : Int) (M : g_M) (k : Int → Option (Int × g_M)) {s : Nat} (hs : s ≤ 12) (a : Int) : m_X6_watch_L34 x21 s M k g_fuel a 0 = k (orc (nxF (M 2) (M 4)) s 4 a) := by
  refine loop_F (fun f i a => m_X6_watch_L34 x21 s M k f a i) 4 (fun i => orc (nxF (M 2) (M 4)) s i a) _ (fun f => ?_) (fun i f hi => ?_) 4 0 g_fuel (by omega) (by unfold g_fuel; omega)
  · show m_X6_watch_L34 x21 s M k (f + 1) _ _ = _
    rw [m_X6_watch_L34]
    simp (disch := omega) only [↓reduceIte, ↓nm_eq, ↓jn_eq, ↓c_within, ↓c_isIn, ↓c_isScene, ↓c_isPlace, ↓c_isCue, ↓c_isDigit, ↓d_isScene, ↓d_isAny, ↓ta_pb1, ↓ta_pb0, ↓ta_pb1', ↓ta_pb0', ta_lt, ta_nlt, ta_le, ta_nle, ta_eq, ta_neq, ta_nne, ta_ne, gs_id, a_gd01, a_gdT, or_true, true_or, bd_some, bW_sm, a_gd, a_ne, a_rd, Int.toNat_natCast, Int.toNat_add, Int.toNat_mul, Int.reduceToNat, a_gdp, a_cell, and_self, and_true, true_and]
  · show m_X6_watch_L34 x21 s M k (f + 1) _ _ = m_X6_watch_L34 x21 s M k f (g_or _ _) _
    rw [m_X6_watch_L34]
    simp (disch := omega) only [↓reduceIte, ↓nm_eq, ↓jn_eq, ↓c_within, ↓c_isIn, ↓c_isScene, ↓c_isPlace, ↓c_isCue, ↓c_isDigit, ↓d_isScene, ↓d_isAny, ↓ta_pb1, ↓ta_pb0, ↓ta_pb1', ↓ta_pb0', ta_lt, ta_nlt, ta_le, ta_nle, ta_eq, ta_neq, ta_nne, ta_ne, gs_id, a_gd01, a_gdT, or_true, true_or, bd_some, bW_sm, a_gd, a_ne, a_rd, Int.toNat_natCast, Int.toNat_add, Int.toNat_mul, Int.reduceToNat, a_gdp, a_cell, and_self, and_true, true_and, p_after (M := M) (s := s) (c := i) hs (by omega), Int.natCast_add, Int.natCast_one]
theorem p_watch4 {x13 : Int} (hx : 0 ≤ x13 ∧ x13 ≤ 3) (M : g_M) (k : Int → Option (Int × g_M)) {v : Nat} (hv : M 1 13 = v) (hl : v < 4096) (hk : ∀ s : Nat, s < 12 → 0 ≤ M 5 s ∧ M 5 s ≤ 3) : m_X6_watch_L4 x13 M k g_fuel 0 0 = k (ors (nxF (M 2) (M 4)) (fun s => v >>> s % 2 = 1 ∧ M 5 s = x13) 12) := by
  refine loop_F (fun f i a => m_X6_watch_L4 x13 M k f a i) 12 (fun i => ors (nxF (M 2) (M 4)) (fun s => v >>> s % 2 = 1 ∧ M 5 s = x13) i) _ (fun f => ?_) (fun i f hi => ?_) 12 0 g_fuel (by omega) (by unfold g_fuel; omega)
  · show m_X6_watch_L4 x13 M k (f + 1) _ _ = _
    rw [m_X6_watch_L4]
    simp (disch := omega) only [↓reduceIte, ↓nm_eq, ↓jn_eq, ↓c_within, ↓c_isIn, ↓c_isScene, ↓c_isPlace, ↓c_isCue, ↓c_isDigit, ↓d_isScene, ↓d_isAny, ↓ta_pb1, ↓ta_pb0, ↓ta_pb1', ↓ta_pb0', ta_lt, ta_nlt, ta_le, ta_nle, ta_eq, ta_neq, ta_nne, ta_ne, gs_id, a_gd01, a_gdT, or_true, true_or, bd_some, bW_sm, a_gd, a_ne, a_rd, Int.toNat_natCast, Int.toNat_add, Int.toNat_mul, Int.reduceToNat, a_gdp, a_cell, and_self, and_true, true_and]
  · show m_X6_watch_L4 x13 M k (f + 1) _ _ = m_X6_watch_L4 x13 M k f (ors (nxF (M 2) (M 4)) (fun s => v >>> s % 2 = 1 ∧ M 5 s = x13) (i + 1)) _
    rw [m_X6_watch_L4]
    have h5 := hk i hi
    have hm := (p_mayBe (M := M) (s := i) hv (by omega) (by omega)).1
    by_cases c : v >>> i % 2 = 1
    · by_cases d : M 5 i = x13
      · rw [ors_t (p := fun s => v >>> s % 2 = 1 ∧ M 5 s = x13) ⟨c, d⟩]
        generalize ors (nxF (M 2) (M 4)) (fun s => v >>> s % 2 = 1 ∧ M 5 s = x13) i = A
        simp (disch := omega) only [↓reduceIte, ↓nm_eq, ↓jn_eq, ↓c_within, ↓c_isIn, ↓c_isScene, ↓c_isPlace, ↓c_isCue, ↓c_isDigit, ↓d_isScene, ↓d_isAny, ↓ta_pb1, ↓ta_pb0, ↓ta_pb1', ↓ta_pb0', ta_lt, ta_nlt, ta_le, ta_nle, ta_eq, ta_neq, ta_nne, ta_ne, gs_id, a_gd01, a_gdT, or_true, true_or, bd_some, bW_sm, a_gd, a_ne, a_rd, Int.toNat_natCast, Int.toNat_add, Int.toNat_mul, Int.reduceToNat, a_gdp, a_cell, and_self, and_true, true_and, ↓bd_eq hm, p_watch34, Int.natCast_add, Int.natCast_one]
      · rw [ors_f (p := fun s => v >>> s % 2 = 1 ∧ M 5 s = x13) (fun z => d z.2)]
        generalize ors (nxF (M 2) (M 4)) (fun s => v >>> s % 2 = 1 ∧ M 5 s = x13) i = A
        simp (disch := omega) only [↓reduceIte, ↓nm_eq, ↓jn_eq, ↓c_within, ↓c_isIn, ↓c_isScene, ↓c_isPlace, ↓c_isCue, ↓c_isDigit, ↓d_isScene, ↓d_isAny, ↓ta_pb1, ↓ta_pb0, ↓ta_pb1', ↓ta_pb0', ta_lt, ta_nlt, ta_le, ta_nle, ta_eq, ta_neq, ta_nne, ta_ne, gs_id, a_gd01, a_gdT, or_true, true_or, bd_some, bW_sm, a_gd, a_ne, a_rd, Int.toNat_natCast, Int.toNat_add, Int.toNat_mul, Int.reduceToNat, a_gdp, a_cell, and_self, and_true, true_and, ↓bd_eq hm, Int.natCast_add, Int.natCast_one]
    · rw [ors_f (p := fun s => v >>> s % 2 = 1 ∧ M 5 s = x13) (fun z => c z.1)]
      generalize ors (nxF (M 2) (M 4)) (fun s => v >>> s % 2 = 1 ∧ M 5 s = x13) i = A
      simp (disch := omega) only [↓reduceIte, ↓nm_eq, ↓jn_eq, ↓c_within, ↓c_isIn, ↓c_isScene, ↓c_isPlace, ↓c_isCue, ↓c_isDigit, ↓d_isScene, ↓d_isAny, ↓ta_pb1, ↓ta_pb0, ↓ta_pb1', ↓ta_pb0', ta_lt, ta_nlt, ta_le, ta_nle, ta_eq, ta_neq, ta_nne, ta_ne, gs_id, a_gd01, a_gdT, or_true, true_or, bd_some, bW_sm, a_gd, a_ne, a_rd, Int.toNat_natCast, Int.toNat_add, Int.toNat_mul, Int.reduceToNat, a_gdp, a_cell, and_self, and_true, true_and, ↓bd_eq hm, Int.natCast_add, Int.natCast_one]
theorem q_look50 {x20 : Int} (hx : 0 ≤ x20 ∧ x20 ≤ 3) (W : g_M) (k : Int → Option (Int × g_M)) {nw td kd : Nat → Int} {v : Nat} (hv : W 1 142 = v) (hl : v < 4096) (h1 : ∀ s : Nat, s < 12 → W 1 (22 + s) = nw (16 + s)) (h2 : ∀ i : Nat, i < 48 → W 1 (66 + i) = td i) (hk : ∀ s : Nat, s < 12 → 0 ≤ kd s ∧ kd s ≤ 3 ∧ W 1 (114 + s) = kd s) {s : Nat} (hs : s < 12) (a : Int) : m_X9_look_L50 x20 s W k g_fuel a 0 = k (if v >>> s % 2 = 1 ∧ kd s = x20 then orc (nxF nw td) s 4 a else a) := by
  obtain ⟨k1, k2, k3⟩ := hk s hs
  have hm : m_X9_has v s = some (pb (v >>> s % 2 = 1)) := (p_mayBe (M := fun _ _ => (v : Int)) (s := s) (v := v) rfl (by omega) (by omega)).2
  by_cases hc : v >>> s % 2 = 1 ∧ kd s = x20
  · rw [if_pos hc]
    obtain ⟨c, d⟩ := hc
    refine loop_F (fun f i a => m_X9_look_L50 x20 s W k f a i) 4 (fun i => orc (nxF nw td) s i a) _ (fun f => ?_) (fun i f hi => ?_) 4 0 g_fuel (by omega) (by unfold g_fuel; omega)
    · show m_X9_look_L50 x20 s W k (f + 1) _ _ = _
      rw [m_X9_look_L50]
      simp (disch := omega) only [↓reduceIte, ↓nm_eq, ↓jn_eq, ↓c_within, ↓c_isIn, ↓c_isScene, ↓c_isPlace, ↓c_isCue, ↓c_isDigit, ↓d_isScene, ↓d_isAny, ↓ta_pb1, ↓ta_pb0, ↓ta_pb1', ↓ta_pb0', ta_lt, ta_nlt, ta_le, ta_nle, ta_eq, ta_neq, ta_nne, ta_ne, gs_id, a_gd01, a_gdT, or_true, true_or, bd_some, bW_sm, a_gd, a_ne, a_rd, Int.toNat_natCast, Int.toNat_add, Int.toNat_mul, Int.reduceToNat, a_gdp, a_cell, and_self, and_true, true_and]
    · show m_X9_look_L50 x20 s W k (f + 1) _ _ = m_X9_look_L50 x20 s W k f (g_or _ _) _
      rw [m_X9_look_L50]
      simp (disch := omega) only [↓reduceIte, ↓nm_eq, ↓jn_eq, ↓c_within, ↓c_isIn, ↓c_isScene, ↓c_isPlace, ↓c_isCue, ↓c_isDigit, ↓d_isScene, ↓d_isAny, ↓ta_pb1, ↓ta_pb0, ↓ta_pb1', ↓ta_pb0', ta_lt, ta_nlt, ta_le, ta_nle, ta_eq, ta_neq, ta_nne, ta_ne, gs_id, a_gd01, a_gdT, or_true, true_or, bd_some, bW_sm, a_gd, a_ne, a_rd, Int.toNat_natCast, Int.toNat_add, Int.toNat_mul, Int.reduceToNat, a_gdp, a_cell, and_self, and_true, true_and, hv, ↓bd_eq hm, k3, q_nextOf (W := W) h1 h2 (s := s) (c := i) (by omega) (by omega), Int.natCast_add, Int.natCast_one]
  · rw [if_neg hc]
    refine loop_F (fun f i a => m_X9_look_L50 x20 s W k f a i) 4 (fun i => a) _ (fun f => ?_) (fun i f hi => ?_) 4 0 g_fuel (by omega) (by unfold g_fuel; omega)
    · show m_X9_look_L50 x20 s W k (f + 1) _ _ = _
      rw [m_X9_look_L50]
      simp (disch := omega) only [↓reduceIte, ↓nm_eq, ↓jn_eq, ↓c_within, ↓c_isIn, ↓c_isScene, ↓c_isPlace, ↓c_isCue, ↓c_isDigit, ↓d_isScene, ↓d_isAny, ↓ta_pb1, ↓ta_pb0, ↓ta_pb1', ↓ta_pb0', ta_lt, ta_nlt, ta_le, ta_nle, ta_eq, ta_neq, ta_nne, ta_ne, gs_id, a_gd01, a_gdT, or_true, true_or, bd_some, bW_sm, a_gd, a_ne, a_rd, Int.toNat_natCast, Int.toNat_add, Int.toNat_mul, Int.reduceToNat, a_gdp, a_cell, and_self, and_true, true_and]
    · show m_X9_look_L50 x20 s W k (f + 1) _ _ = m_X9_look_L50 x20 s W k f _ _
      rw [m_X9_look_L50]
      by_cases c : v >>> s % 2 = 1
      · have d : ¬ kd s = x20 := fun z => hc ⟨c, z⟩
        simp (disch := omega) only [↓reduceIte, ↓nm_eq, ↓jn_eq, ↓c_within, ↓c_isIn, ↓c_isScene, ↓c_isPlace, ↓c_isCue, ↓c_isDigit, ↓d_isScene, ↓d_isAny, ↓ta_pb1, ↓ta_pb0, ↓ta_pb1', ↓ta_pb0', ta_lt, ta_nlt, ta_le, ta_nle, ta_eq, ta_neq, ta_nne, ta_ne, gs_id, a_gd01, a_gdT, or_true, true_or, bd_some, bW_sm, a_gd, a_ne, a_rd, Int.toNat_natCast, Int.toNat_add, Int.toNat_mul, Int.reduceToNat, a_gdp, a_cell, and_self, and_true, true_and, hv, ↓bd_eq hm, k3, Int.natCast_add, Int.natCast_one]
      · simp (disch := omega) only [↓reduceIte, ↓nm_eq, ↓jn_eq, ↓c_within, ↓c_isIn, ↓c_isScene, ↓c_isPlace, ↓c_isCue, ↓c_isDigit, ↓d_isScene, ↓d_isAny, ↓ta_pb1, ↓ta_pb0, ↓ta_pb1', ↓ta_pb0', ta_lt, ta_nlt, ta_le, ta_nle, ta_eq, ta_neq, ta_nne, ta_ne, gs_id, a_gd01, a_gdT, or_true, true_or, bd_some, bW_sm, a_gd, a_ne, a_rd, Int.toNat_natCast, Int.toNat_add, Int.toNat_mul, Int.reduceToNat, a_gdp, a_cell, and_self, and_true, true_and, hv, ↓bd_eq hm, k3, Int.natCast_add, Int.natCast_one]
theorem q_look41 {x14 : Int} (hx : 0 ≤ x14 ∧ x14 ≤ 3) (W : g_M) (k : Int → Option (Int × g_M)) {nw td kd : Nat → Int} {v : Nat} (hv : W 1 142 = v) (hl : v < 4096) (h1 : ∀ s : Nat, s < 12 → W 1 (22 + s) = nw (16 + s)) (h2 : ∀ i : Nat, i < 48 → W 1 (66 + i) = td i) (hk : ∀ s : Nat, s < 12 → 0 ≤ kd s ∧ kd s ≤ 3 ∧ W 1 (114 + s) = kd s) : m_X9_look_L41 x14 W k g_fuel 0 0 = k (ors (nxF nw td) (fun s => v >>> s % 2 = 1 ∧ kd s = x14) 12) := by
  refine loop_F (fun f i a => m_X9_look_L41 x14 W k f a i) 12 (fun i => ors (nxF nw td) (fun s => v >>> s % 2 = 1 ∧ kd s = x14) i) _ (fun f => ?_) (fun i f hi => ?_) 12 0 g_fuel (by omega) (by unfold g_fuel; omega)
  · show m_X9_look_L41 x14 W k (f + 1) _ _ = _
    rw [m_X9_look_L41]
    simp (disch := omega) only [↓reduceIte, ↓nm_eq, ↓jn_eq, ↓c_within, ↓c_isIn, ↓c_isScene, ↓c_isPlace, ↓c_isCue, ↓c_isDigit, ↓d_isScene, ↓d_isAny, ↓ta_pb1, ↓ta_pb0, ↓ta_pb1', ↓ta_pb0', ta_lt, ta_nlt, ta_le, ta_nle, ta_eq, ta_neq, ta_nne, ta_ne, gs_id, a_gd01, a_gdT, or_true, true_or, bd_some, bW_sm, a_gd, a_ne, a_rd, Int.toNat_natCast, Int.toNat_add, Int.toNat_mul, Int.reduceToNat, a_gdp, a_cell, and_self, and_true, true_and]
  · show m_X9_look_L41 x14 W k (f + 1) _ _ = m_X9_look_L41 x14 W k f (ors (nxF nw td) (fun s => v >>> s % 2 = 1 ∧ kd s = x14) (i + 1)) _
    rw [m_X9_look_L41, if_neg (by rw [gs_id (by omega) (by omega), gs_id (by omega) (by omega)]; omega), nm_eq, q_look50 hx W _ hv hl h1 h2 hk hi, nm_eq, Int.natCast_add]
    rfl
theorem RF_know {M W : g_M} (H : RF M W) {v : Int} (hv : 0 ≤ v ∧ v ≤ 4095) : RF (g_wr M 1 13 v) (g_wr W 1 142 v) := by
  obtain ⟨P, T, S, E, C, F, hP, hT, hU, hS, hE, hC, hF, hsn, htd, hkd, hpl, hro, hod, hos, hsv, hlk, hfe, hst⟩ := H
  unfold RF
  rw [a_cell _ (show 2 ≠ 1 by omega), a_cell _ (show 3 ≠ 1 by omega), a_cell _ (show 4 ≠ 1 by omega), a_cell _ (show 5 ≠ 1 by omega), a_cell _ (show 6 ≠ 1 by omega), a_cell _ (show 7 ≠ 1 by omega), a_cell _ (show 8 ≠ 1 by omega), a_cell _ (show 9 ≠ 1 by omega), a_cell _ (show 10 ≠ 1 by omega), a_cell _ (show 11 ≠ 1 by omega)]
  have ne : ∀ b : Nat, b ≠ 142 → g_wr W 1 142 v 1 b = W 1 b := fun b hb => a_ne _ (by omega)
  have nx : ∀ b : Nat, b ≠ 13 → g_wr M 1 13 v 1 b = M 1 b := fun b hb => a_ne _ (by omega)
  exact ⟨P, T, S, E, C, F, ⟨hP.1, by rw [nx _ (by omega)]; exact hP.2.1, by rw [ne _ (by omega)]; exact hP.2.2⟩, ⟨hT.1, by rw [nx _ (by omega)]; exact hT.2.1, by rw [ne _ (by omega)]; exact hT.2.2⟩, ⟨by rw [nx _ (by omega)]; exact hU.1, by rw [nx _ (by omega)]; exact hU.2.1, by rw [ne _ (by omega), nx _ (by omega)]; exact hU.2.2⟩, ⟨hS.1, by rw [nx _ (by omega)]; exact hS.2.1, by rw [ne _ (by omega)]; exact hS.2.2⟩, ⟨hE.1, by rw [nx _ (by omega)]; exact hE.2⟩, ⟨hC.1, by rw [nx _ (by omega)]; exact hC.2.1, by rw [ne _ (by omega)]; exact hC.2.2⟩, ⟨hF.1, by rw [nx _ (by omega)]; exact hF.2.1, by rw [ne _ (by omega)]; exact hF.2.2⟩, R_snap_cg hsn (fun j hj => ne _ (by omega)) (fun q i hq hi => ne _ (by omega)) (fun i hi => ne _ (by omega)), (fun i hi => by rw [ne _ (by omega)]; exact htd i hi), (fun t ht => by rw [ne _ (by omega)]; exact hkd t ht), (fun q hq => by rw [ne _ (by omega), ne _ (by omega)]; exact hpl q hq), (fun i hi => by rw [ne _ (by omega)]; exact hro i hi), (fun c hc => by rw [ne _ (by omega)]; exact hod c hc), hos, ⟨by rw [wr_at]; exact hv.1, by rw [wr_at]; exact hv.2, by rw [wr_at, wr_at]⟩, (fun i hi => by rw [ne _ (by omega)]; exact hlk i hi), (fun i hi => by rw [ne _ (by omega), ne _ (by omega)]; exact hfe i hi), (fun k hk => R_step_cg (by omega) hP.1 (hst k hk) (fun j a b => ne _ (by omega)) (fun q hq => ne _ (by omega)))⟩
theorem Rel_know {n : Nat} {Mx Mm : g_M} (hr : Rel n Mx Mm) {v : Int} (hv : 0 ≤ v ∧ v ≤ 4095) : Rel (n + 1) (g_wr Mx 1 13 v) (g_wr Mm 1 142 v) := Rel_mk hr ⟨fun k hk => a_cell _ (by omega), fun j hj => a_ne _ (by omega), a_ne _ (by omega)⟩ (Fm_wr1 _ _ _) (Rel_c hr (a_cell _ (by omega))).1 (Rel_c hr (a_cell _ (by omega))).2 (RF_know (Rel_RF hr) hv)
theorem RF_kd {M W : g_M} (H : RF M W) : ∀ s : Nat, s < 12 → 0 ≤ M 5 s ∧ M 5 s ≤ 3 ∧ W 1 (114 + s) = M 5 s := by
  obtain ⟨P, T, S, E, C, F, hP, hT, hU, hS, hE, hC, hF, hsn, htd, hkd, -⟩ := H
  exact hkd
theorem RF_kn {M W : g_M} (H : RF M W) : ∃ v : Nat, v < 4096 ∧ M 1 13 = v ∧ W 1 142 = v := by
  obtain ⟨P, T, S, E, C, F, hP, hT, hU, hS, hE, hC, hF, hsn, htd, hkd, hpl, hro, hod, hos, hsv, -⟩ := H
  exact ⟨(M 1 13).toNat, by omega, by omega, by omega⟩
theorem st_32 : x_step_32 Rel := by
  intro n Mx Mm hr hn a1 h1
  obtain ⟨i1, j1⟩ := h1
  have H := Rel_RF hr
  obtain ⟨v, hl, hv1, hv2⟩ := RF_kn H
  obtain ⟨g1, g2⟩ := RF_lead H
  have hk := RF_kd H
  by_cases e : a1 = -1
  · refine ⟨4095, 4095, _, _, ?_, ?_, rfl, Rel_know hr (v := 4095) (by omega)⟩
    · unfold m_X8_look; simp (disch := omega) only [↓reduceIte, ↓nm_eq, ↓jn_eq, ↓c_within, ↓c_isIn, ↓c_isScene, ↓c_isPlace, ↓c_isCue, ↓c_isDigit, ↓d_isScene, ↓d_isAny, ↓ta_pb1, ↓ta_pb0, ↓ta_pb1', ↓ta_pb0', ta_lt, ta_nlt, ta_le, ta_nle, ta_eq, ta_neq, ta_nne, ta_ne, gs_id, a_gd01, a_gdT, or_true, true_or, bd_some, bW_sm, a_gd, a_ne, a_rd, Int.toNat_natCast, Int.toNat_add, Int.toNat_mul, Int.reduceToNat, a_gdp, a_cell, and_self, and_true, true_and]
    · unfold m_X9_look; simp (disch := omega) only [↓reduceIte, ↓nm_eq, ↓jn_eq, ↓c_within, ↓c_isIn, ↓c_isScene, ↓c_isPlace, ↓c_isCue, ↓c_isDigit, ↓d_isScene, ↓d_isAny, ↓ta_pb1, ↓ta_pb0, ↓ta_pb1', ↓ta_pb0', ta_lt, ta_nlt, ta_le, ta_nle, ta_eq, ta_neq, ta_nne, ta_ne, gs_id, a_gd01, a_gdT, or_true, true_or, bd_some, bW_sm, a_gd, a_ne, a_rd, Int.toNat_natCast, Int.toNat_add, Int.toNat_mul, Int.reduceToNat, a_gdp, a_cell, and_self, and_true, true_and]
  by_cases c : 0 ≤ a1 ∧ a1 ≤ 3
  · obtain ⟨w, hw⟩ : ∃ w, w = ors (nxF (Mx 2) (Mx 4)) (fun s => v >>> s % 2 = 1 ∧ Mx 5 s = a1) 12 := ⟨_, rfl⟩
    refine ⟨g_and w 4095, g_and w 4095, _, _, ?_, ?_, rfl, Rel_know hr (and4095 w)⟩
    · unfold m_X8_look m_X6_watch
      simp (disch := omega) only [↓reduceIte, ↓nm_eq, ↓jn_eq, ↓c_within, ↓c_isIn, ↓c_isScene, ↓c_isPlace, ↓c_isCue, ↓c_isDigit, ↓d_isScene, ↓d_isAny, ↓ta_pb1, ↓ta_pb0, ↓ta_pb1', ↓ta_pb0', ta_lt, ta_nlt, ta_le, ta_nle, ta_eq, ta_neq, ta_nne, ta_ne, gs_id, a_gd01, a_gdT, or_true, true_or, bd_some, bW_sm, a_gd, a_ne, a_rd, Int.toNat_natCast, Int.toNat_add, Int.toNat_mul, Int.reduceToNat, a_gdp, a_cell, and_self, and_true, true_and, p_watch4 c Mx _ hv1 hl (fun s hs => ⟨(hk s hs).1, (hk s hs).2.1⟩), ← hw]
    · unfold m_X9_look
      simp (disch := omega) only [↓reduceIte, ↓nm_eq, ↓jn_eq, ↓c_within, ↓c_isIn, ↓c_isScene, ↓c_isPlace, ↓c_isCue, ↓c_isDigit, ↓d_isScene, ↓d_isAny, ↓ta_pb1, ↓ta_pb0, ↓ta_pb1', ↓ta_pb0', ta_lt, ta_nlt, ta_le, ta_nle, ta_eq, ta_neq, ta_nne, ta_ne, gs_id, a_gd01, a_gdT, or_true, true_or, bd_some, bW_sm, a_gd, a_ne, a_rd, Int.toNat_natCast, Int.toNat_add, Int.toNat_mul, Int.reduceToNat, a_gdp, a_cell, and_self, and_true, true_and, q_look41 c Mm _ hv2 hl (fun s hs => (g1 s hs).2.2) (fun i hi => (g2 i hi).2.2) hk, ← hw]
  · refine ⟨-2, -2, Mx, Mm, ?_, ?_, rfl, st_same hr⟩
    · unfold m_X8_look; simp (disch := omega) only [↓reduceIte, ↓nm_eq, ↓jn_eq, ↓c_within, ↓c_isIn, ↓c_isScene, ↓c_isPlace, ↓c_isCue, ↓c_isDigit, ↓d_isScene, ↓d_isAny, ↓ta_pb1, ↓ta_pb0, ↓ta_pb1', ↓ta_pb0', ta_lt, ta_nlt, ta_le, ta_nle, ta_eq, ta_neq, ta_nne, ta_ne, gs_id, a_gd01, a_gdT, or_true, true_or, bd_some, bW_sm, a_gd, a_ne, a_rd, Int.toNat_natCast, Int.toNat_add, Int.toNat_mul, Int.reduceToNat, a_gdp, a_cell, and_self, and_true, true_and]
    · unfold m_X9_look; simp (disch := omega) only [↓reduceIte, ↓nm_eq, ↓jn_eq, ↓c_within, ↓c_isIn, ↓c_isScene, ↓c_isPlace, ↓c_isCue, ↓c_isDigit, ↓d_isScene, ↓d_isAny, ↓ta_pb1, ↓ta_pb0, ↓ta_pb1', ↓ta_pb0', ta_lt, ta_nlt, ta_le, ta_nle, ta_eq, ta_neq, ta_nne, ta_ne, gs_id, a_gd01, a_gdT, or_true, true_or, bd_some, bW_sm, a_gd, a_ne, a_rd, Int.toNat_natCast, Int.toNat_add, Int.toNat_mul, Int.reduceToNat, a_gdp, a_cell, and_self, and_true, true_and]
