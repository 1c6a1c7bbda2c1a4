/-! the roster: the class -/
def wF (lk : Nat → Int) (q e : Nat) : Int := lk (q * 5 + e) * 390625 - (e : Int) * x_lt q
def LkB (lk : Nat → Int) : Prop := ∀ i, i < 40 → 0 ≤ lk i ∧ lk i ≤ 99
theorem lt_b {q : Nat} (hq : q < 8) : 1 ≤ x_lt q ∧ x_lt q ≤ 78125 := by
  have : q = 0 ∨ q = 1 ∨ q = 2 ∨ q = 3 ∨ q = 4 ∨ q = 5 ∨ q = 6 ∨ q = 7 := by omega
  rcases this with rfl | rfl | rfl | rfl | rfl | rfl | rfl | rfl <;> exact ⟨by decide, by decide⟩
theorem wF_b {lk : Nat → Int} (h : LkB lk) {q e : Nat} (hq : q < 8) (he : e < 5) : -312500 ≤ wF lk q e ∧ wF lk q e ≤ 38671875 := by
  have a := h (q * 5 + e) (by omega)
  have b := lt_b hq
  unfold wF
  have c0 : 0 ≤ (e : Int) * x_lt q := Int.mul_nonneg (by omega) (by omega)
  have c1 : (e : Int) * x_lt q ≤ 4 * 78125 := Int.mul_le_mul (by omega) b.2 (by omega) (by omega)
  omega
theorem p_weight {M : g_M} {q e : Nat} (hq : q < 8) (he : e < 5) : m_X5_weight q e M = some (wF (M 9) q e) := by
  unfold m_X5_weight wF
  simp (disch := omega) only [↓reduceIte, ↓nm_eq, ↓jn_eq, ↓c_within, ↓c_isIn, ↓c_isScene, ↓c_isPlace, ↓c_isCue, ↓c_isDigit, ↓d_isScene, ↓d_isAny, ↓ta_pb1, ↓ta_pb0, ↓ta_pb1', ↓ta_pb0', ta_lt, ta_nlt, ta_le, ta_nle, ta_eq, ta_neq, ta_nne, ta_ne, gs_id, a_gd01, a_gdT, or_true, true_or, bd_some, bW_sm, a_gd, a_ne, a_rd, Int.toNat_natCast, Int.toNat_add, Int.toNat_mul, Int.reduceToNat, a_gdp, a_cell, and_self, and_true, true_and]
def WS (k : Nat) (M0 : g_M) (p : Nat) (A : Nat → Nat) (y : Nat → Int) (M : g_M) : Prop := (∀ a, a ≠ 80 → a ≠ 81 → M a = M0 a) ∧ (∃ R, Won (wF (M0 9)) p A (M 80) (M 81) R) ∧ ∀ e, e < 5 → M 80 e - y e ≤ 38671875
theorem WS_b {k : Nat} {M0 : g_M} {p : Nat} {A : Nat → Nat} {y : Nat → Int} {M : g_M} (hP : Pri (wF (M0 9)) k p A y) (hp : p < 8) (hl : LkB (M0 9)) (h : WS k M0 p A y M) : ∀ e, e < 5 → -312500 ≤ M 80 e ∧ M 80 e ≤ 360000000 := by
  intro e he
  obtain ⟨-, ⟨R, h2⟩, h3⟩ := h
  have a := (h2 e he).1
  have b := h3 e he
  have c := (hP.2.1 e he).2
  have d := (wF_b hl hp he).1
  omega
theorem wr2_80 (M : g_M) (e : Nat) (v u : Int) : g_wr (g_wr M 80 e v) 81 e u 80 = upI (M 80) e v := by
  rw [a_cell _ (by omega), wr_self]
  rfl
theorem wr2_81 (M : g_M) (e : Nat) (v u : Int) : g_wr (g_wr M 80 e v) 81 e u 81 = upI (M 81) e u := by
  rw [wr_self, a_cell _ (by omega)]
  rfl
theorem p_moves {k : Nat} {M0 : g_M} {p : Nat} {A : Nat → Nat} {y : Nat → Int} (hP : Pri (wF (M0 9)) k p A y) (hp : p < 8) (hl : LkB (M0 9)) (hA : ∀ q, q < p → M0 78 q = (A q : Int)) {F : Nat → Prop} {m : Nat} (hm : m < 5) {D : Nat → Int} {M : g_M} (h : WS k M0 p A y M) (hf : Fast (wF (M0 9)) p A y F m D (M 80)) {q : Nat} (hq : q < p) : Ok (m_X5_weighMoves q M) (fun M' => WS k M0 p A y M' ∧ Fast (wF (M0 9)) p A y F m D (M' 80) ∧ (∀ e, e < 5 → M 80 e ≤ M' 80 e) ∧ ∀ e, e < 5 → M' 80 (A q) - wF (M0 9) q (A q) + wF (M0 9) q e ≤ M' 80 e) := by
  have hAq := hP.1.1 q hq
  have e78 : M 78 q = (A q : Int) := by rw [h.1 78 (by omega) (by omega)]; exact hA q hq
  have e9 : M 9 = M0 9 := h.1 9 (by omega) (by omega)
  have wl := wF_b hl (show q < 8 by omega) hAq
  have bl := WS_b hP hp hl h (A q) hAq
  have pw : ∀ V : g_M, V 9 = M0 9 → ∀ e : Nat, e < 5 → m_X5_weight q e V = some (wF (M0 9) q e) := fun V hV e he => by rw [p_weight (by omega) he, hV]
  have lp : Ok (m_X5_weighMoves_L24 q (A q) (M 80 (A q) - wF (M0 9) q (A q)) g_fuel 0 M) (fun M' => WS k M0 p A y M' ∧ Fast (wF (M0 9)) p A y F m D (M' 80) ∧ (∀ e, e < 5 → M 80 e ≤ M' 80 e) ∧ ∀ e, e < 5 → M' 80 (A q) - wF (M0 9) q (A q) + wF (M0 9) q e ≤ M' 80 e) := by
    refine Ok_for 5 (fun f i V => m_X5_weighMoves_L24 q (A q) (M 80 (A q) - wF (M0 9) q (A q)) f i V) (fun i V => WS k M0 p A y V ∧ Fast (wF (M0 9)) p A y F m D (V 80) ∧ (∀ e, e < 5 → M 80 e ≤ V 80 e) ∧ V 80 (A q) = M 80 (A q) ∧ ∀ e, e < i → V 80 (A q) - wF (M0 9) q (A q) + wF (M0 9) q e ≤ V 80 e) (fun f V hh => ?_) (fun i f V hi hh kk => ?_) 0 g_fuel M (by omega) (by unfold g_fuel; omega) ⟨h, hf, fun e _ => Int.le_refl _, rfl, fun e he => by omega⟩
    · obtain ⟨v1, v2, v3, v4, v5⟩ := hh
      show Ok (m_X5_weighMoves_L24 q (A q) _ (f + 1) _ V) _
      rw [m_X5_weighMoves_L24]
      simp (disch := omega) only [↓reduceIte, ↓nm_eq, ↓jn_eq, ↓c_within, ↓c_isIn, ↓c_isScene, ↓c_isPlace, ↓c_isCue, ↓c_isDigit, ↓d_isScene, ↓d_isAny, ↓ta_pb1, ↓ta_pb0, ↓ta_pb1', ↓ta_pb0', ta_lt, ta_nlt, ta_le, ta_nle, ta_eq, ta_neq, ta_nne, ta_ne, gs_id, a_gd01, a_gdT, or_true, true_or, bd_some, bW_sm, a_gd, a_ne, a_rd, Int.toNat_natCast, Int.toNat_add, Int.toNat_mul, Int.reduceToNat, a_gdp, a_cell, and_self, and_true, true_and]
      exact Ok_some ⟨v1, v2, v3, v5⟩
    · obtain ⟨v1, v2, v3, v4, v5⟩ := hh
      show Ok (m_X5_weighMoves_L24 q (A q) _ (f + 1) _ V) _
      have wi := wF_b hl (show q < 8 by omega) hi
      have bi := WS_b hP hp hl v1 i hi
      have pwi := pw V (v1.1 9 (by omega) (by omega)) i hi
      rw [m_X5_weighMoves_L24]
      by_cases c1 : i = A q
      · simp (disch := omega) only [↓reduceIte, ↓nm_eq, ↓jn_eq, ↓c_within, ↓c_isIn, ↓c_isScene, ↓c_isPlace, ↓c_isCue, ↓c_isDigit, ↓d_isScene, ↓d_isAny, ↓ta_pb1, ↓ta_pb0, ↓ta_pb1', ↓ta_pb0', ta_lt, ta_nlt, ta_le, ta_nle, ta_eq, ta_neq, ta_nne, ta_ne, gs_id, a_gd01, a_gdT, or_true, true_or, bd_some, bW_sm, a_gd, a_ne, a_rd, Int.toNat_natCast, Int.toNat_add, Int.toNat_mul, Int.reduceToNat, a_gdp, a_cell, and_self, and_true, true_and]
        refine kk V ⟨v1, v2, v3, v4, fun e he => ?_⟩
        by_cases z : e = i
        · rw [z, c1]; omega
        · exact v5 e (by omega)
      · by_cases c2 : M 80 (A q) - wF (M0 9) q (A q) + wF (M0 9) q i ≤ V 80 i
        · simp (disch := omega) only [↓reduceIte, ↓nm_eq, ↓jn_eq, ↓c_within, ↓c_isIn, ↓c_isScene, ↓c_isPlace, ↓c_isCue, ↓c_isDigit, ↓d_isScene, ↓d_isAny, ↓ta_pb1, ↓ta_pb0, ↓ta_pb1', ↓ta_pb0', ta_lt, ta_nlt, ta_le, ta_nle, ta_eq, ta_neq, ta_nne, ta_ne, gs_id, a_gd01, a_gdT, or_true, true_or, bd_some, bW_sm, a_gd, a_ne, a_rd, Int.toNat_natCast, Int.toNat_add, Int.toNat_mul, Int.reduceToNat, a_gdp, a_cell, and_self, and_true, true_and, pwi]
          refine kk V ⟨v1, v2, v3, v4, fun e he => ?_⟩
          by_cases z : e = i
          · rw [z, v4]; exact c2
          · exact v5 e (by omega)
        · simp (disch := omega) only [↓reduceIte, ↓nm_eq, ↓jn_eq, ↓c_within, ↓c_isIn, ↓c_isScene, ↓c_isPlace, ↓c_isCue, ↓c_isDigit, ↓d_isScene, ↓d_isAny, ↓ta_pb1, ↓ta_pb0, ↓ta_pb1', ↓ta_pb0', ta_lt, ta_nlt, ta_le, ta_nle, ta_eq, ta_neq, ta_nne, ta_ne, gs_id, a_gd01, a_gdT, or_true, true_or, bd_some, bW_sm, a_gd, a_ne, a_rd, Int.toNat_natCast, Int.toNat_add, Int.toNat_mul, Int.reduceToNat, a_gdp, a_cell, and_self, and_true, true_and, pwi]
          have hv : V 80 i < V 80 (A q) - wF (M0 9) q (A q) + wF (M0 9) q i := by rw [v4]; omega
          obtain ⟨w1, ⟨R, w2⟩, w3⟩ := v1
          obtain ⟨R', w4⟩ := Won_up w2 hP.1.1 hq hi c1 hv
          have f4 := Fast_up hP hm v2 hq hi c1 hv
          rw [v4] at w4 f4
          have g := hP.2.2.2 q i hq hi
          have b2 := w3 (A q) hAq
          refine kk _ ⟨⟨fun a ha hb => by rw [a_cell _ hb, a_cell _ ha]; exact w1 a ha hb, ⟨R', by rw [wr2_80, wr2_81]; exact w4⟩, fun e he => ?_⟩, by rw [wr2_80]; exact f4, fun e he => ?_, ?_, fun e he => ?_⟩
          · rw [wr2_80]
            by_cases z : e = i
            · subst z; rw [upI_at]; omega
            · rw [upI_ne _ _ z]; exact w3 e he
          · rw [wr2_80]
            by_cases z : e = i
            · subst z; rw [upI_at]; have := v3 e he; omega
            · rw [upI_ne _ _ z]; exact v3 e he
          · rw [wr2_80, upI_ne _ _ (fun z => c1 z.symm)]; exact v4
          · rw [wr2_80, upI_ne _ _ (show A q ≠ i from fun z => c1 z.symm), v4]
            by_cases z : e = i
            · subst z; rw [upI_at]; exact Int.le_refl _
            · rw [upI_ne _ _ z]; have := v5 e (by omega); rw [v4] at this; exact this
  unfold m_X5_weighMoves
  simp (disch := omega) only [↓reduceIte, ↓nm_eq, ↓jn_eq, ↓c_within, ↓c_isIn, ↓c_isScene, ↓c_isPlace, ↓c_isCue, ↓c_isDigit, ↓d_isScene, ↓d_isAny, ↓ta_pb1, ↓ta_pb0, ↓ta_pb1', ↓ta_pb0', ta_lt, ta_nlt, ta_le, ta_nle, ta_eq, ta_neq, ta_nne, ta_ne, gs_id, a_gd01, a_gdT, or_true, true_or, bd_some, bW_sm, a_gd, a_ne, a_rd, Int.toNat_natCast, Int.toNat_add, Int.toNat_mul, Int.reduceToNat, a_gdp, a_cell, and_self, and_true, true_and, e78, pw M e9 (A q) hAq]
  exact lp
theorem p_places {k : Nat} {M0 : g_M} {p : Nat} {A : Nat → Nat} {y : Nat → Int} (hP : Pri (wF (M0 9)) k p A y) (hp : p < 8) (hl : LkB (M0 9)) (hA : ∀ q, q < p → M0 78 q = (A q : Int)) : Ok (m_X5_weighPlaces p M0) (fun M' => WS k M0 p A y M' ∧ ∀ q e, q < p → e < 5 → M' 80 (A q) - wF (M0 9) q (A q) + wF (M0 9) q e ≤ M' 80 e) := by
  unfold m_X5_weighPlaces
  obtain ⟨V, hV⟩ : ∃ V : Nat → Int, V = fun e => wF (M0 9) p e := ⟨_, rfl⟩
  have key : ∀ kc : g_M → Option g_M, m_X5_weighPlaces_L2 p kc g_fuel 0 M0 = kc (cpF (cpF M0 80 0 V 5) 81 0 (fun _ => -1) 5) := by
    intro kc
    have lp := loop_F (fun f i M => m_X5_weighPlaces_L2 p kc f i M) 5 (fun i => cpF (cpF M0 80 0 V i) 81 0 (fun _ => -1) i) (kc (cpF (cpF M0 80 0 V 5) 81 0 (fun _ => -1) 5)) (fun f => ?_) (fun i f hi => ?_) 5 0 g_fuel (by omega) (by unfold g_fuel; omega)
    · rw [cpF_0, cpF_0] at lp
      exact lp
    · show m_X5_weighPlaces_L2 p kc (f + 1) _ _ = _
      rw [m_X5_weighPlaces_L2]
      simp (disch := omega) only [↓reduceIte, ↓nm_eq, ↓jn_eq, ↓c_within, ↓c_isIn, ↓c_isScene, ↓c_isPlace, ↓c_isCue, ↓c_isDigit, ↓d_isScene, ↓d_isAny, ↓ta_pb1, ↓ta_pb0, ↓ta_pb1', ↓ta_pb0', ta_lt, ta_nlt, ta_le, ta_nle, ta_eq, ta_neq, ta_nne, ta_ne, gs_id, a_gd01, a_gdT, or_true, true_or, bd_some, bW_sm, a_gd, a_ne, a_rd, Int.toNat_natCast, Int.toNat_add, Int.toNat_mul, Int.reduceToNat, a_gdp, a_cell, and_self, and_true, true_and]
    · show m_X5_weighPlaces_L2 p kc (f + 1) _ _ = m_X5_weighPlaces_L2 p kc f _ (cpF (cpF M0 80 0 V (i + 1)) 81 0 (fun _ => -1) (i + 1))
      have c1 : cpF (cpF M0 80 0 V (i + 1)) 81 0 (fun _ => -1) (i + 1) = g_wr (g_wr (cpF (cpF M0 80 0 V i) 81 0 (fun _ => -1) i) 80 i (V i)) 81 i (-1) := by
        rw [cpF_wr_comm _ _ _ (by omega), ← cpF_succ, ← cpF_succ, Nat.zero_add]
      have pw : m_X5_weight p i (cpF (cpF M0 80 0 V i) 81 0 (fun _ => -1) i) = some (V i) := by
        rw [p_weight hp hi, cpF_cell _ _ (by omega), cpF_cell _ _ (by omega), hV]
      rw [c1, m_X5_weighPlaces_L2]
      generalize cpF (cpF M0 80 0 V i) 81 0 (fun _ => -1) i = B at pw ⊢
      simp (disch := omega) only [↓reduceIte, ↓nm_eq, ↓jn_eq, ↓c_within, ↓c_isIn, ↓c_isScene, ↓c_isPlace, ↓c_isCue, ↓c_isDigit, ↓d_isScene, ↓d_isAny, ↓ta_pb1, ↓ta_pb0, ↓ta_pb1', ↓ta_pb0', ta_lt, ta_nlt, ta_le, ta_nle, ta_eq, ta_neq, ta_nne, ta_ne, gs_id, a_gd01, a_gdT, or_true, true_or, bd_some, bW_sm, a_gd, a_ne, a_rd, Int.toNat_natCast, Int.toNat_add, Int.toNat_mul, Int.reduceToNat, a_gdp, a_cell, and_self, and_true, true_and, pw, Int.natCast_add, Int.natCast_one]
  rw [nm_eq, key, nm_eq]
  obtain ⟨M1, hM1⟩ : ∃ M1, M1 = cpF (cpF M0 80 0 V 5) 81 0 (fun _ => -1) 5 := ⟨_, rfl⟩
  have a1 : ∀ a, a ≠ 80 → a ≠ 81 → M1 a = M0 a := fun a ha hb => by rw [hM1, cpF_cell _ _ hb, cpF_cell _ _ ha]
  have a2 : ∀ e, e < 5 → M1 80 e = wF (M0 9) p e := fun e he => by rw [hM1, cpF_cell _ _ (by omega), cpF_in _ _ (by omega), hV, Nat.sub_zero]
  have a3 : ∀ e, e < 5 → M1 81 e = -1 := fun e he => by rw [hM1, cpF_in _ _ (by omega)]
  rw [← hM1]
  clear hM1 key hV
  have ws : WS k M0 p A y M1 := by
    refine ⟨a1, ⟨fun _ => 0, fun e he => ?_⟩, fun e he => ?_⟩
    · rw [a2 e he, a3 e he]
      exact ⟨Int.le_refl _, Or.inl ⟨rfl, rfl⟩⟩
    · rw [a2 e he]
      have b := (wF_b hl hp he).2
      have c := (hP.2.1 e he).1
      omega
  have h := Ok_for (Q := fun M' => WS k M0 p A y M' ∧ ∀ q e, q < p → e < 5 → M' 80 (A q) - wF (M0 9) q (A q) + wF (M0 9) q e ≤ M' 80 e) 5 (fun f i V => m_X5_weighPlaces_L34 p f i V) (fun i V => 1 ≤ i ∧ WS k M0 p A y V ∧ Rnd (wF (M0 9)) p A y (i - 1) (V 80)) (fun f V hh => ?_) (fun i f V hi hh kk => ?_) 1 g_fuel M1 (by omega) (by unfold g_fuel; omega) ⟨Nat.le_refl _, ws, Rnd_0 _ _ _ _ _⟩
  · exact h
  · obtain ⟨v0, v1, v2⟩ := hh
    show Ok (m_X5_weighPlaces_L34 p (f + 1) _ V) _
    rw [m_X5_weighPlaces_L34]
    simp (disch := omega) only [↓reduceIte, ↓nm_eq, ↓jn_eq, ↓c_within, ↓c_isIn, ↓c_isScene, ↓c_isPlace, ↓c_isCue, ↓c_isDigit, ↓d_isScene, ↓d_isAny, ↓ta_pb1, ↓ta_pb0, ↓ta_pb1', ↓ta_pb0', ta_lt, ta_nlt, ta_le, ta_nle, ta_eq, ta_neq, ta_nne, ta_ne, gs_id, a_gd01, a_gdT, or_true, true_or, bd_some, bW_sm, a_gd, a_ne, a_rd, Int.toNat_natCast, Int.toNat_add, Int.toNat_mul, Int.reduceToNat, a_gdp, a_cell, and_self, and_true, true_and]
    exact Ok_some ⟨v1, Rnd_4 hP v2⟩
  · obtain ⟨v0, v1, v2⟩ := hh
    show Ok (m_X5_weighPlaces_L34 p (f + 1) _ V) _
    obtain ⟨F, m, hm, hc, hf⟩ := Rnd_begin v2
    rw [m_X5_weighPlaces_L34, if_neg (by rw [gs_id (by omega) (by omega), gs_id (by omega) (by omega)]; omega), nm_eq]
    refine Ok_for p (fun f' j U => m_X5_weighPlaces_L41 p i _ f' j U) (fun j U => WS k M0 p A y U ∧ Fast (wF (M0 9)) p A y F m (V 80) (U 80) ∧ ∀ q e, q < j → e < 5 → A q = m → U 80 m - wF (M0 9) q m + wF (M0 9) q e ≤ U 80 e) (fun f' U hu => ?_) (fun j f' U hj hu kk' => ?_) 0 g_fuel V (by omega) (by unfold g_fuel; omega) ⟨v1, hf, fun q e hq => by omega⟩
    · obtain ⟨u1, u2, u3⟩ := hu
      show Ok (m_X5_weighPlaces_L41 p i _ (f' + 1) _ U) _
      rw [m_X5_weighPlaces_L41]
      simp (disch := omega) only [↓reduceIte, ↓nm_eq, ↓jn_eq, ↓c_within, ↓c_isIn, ↓c_isScene, ↓c_isPlace, ↓c_isCue, ↓c_isDigit, ↓d_isScene, ↓d_isAny, ↓ta_pb1, ↓ta_pb0, ↓ta_pb1', ↓ta_pb0', ta_lt, ta_nlt, ta_le, ta_nle, ta_eq, ta_neq, ta_nne, ta_ne, gs_id, a_gd01, a_gdT, or_true, true_or, bd_some, bW_sm, a_gd, a_ne, a_rd, Int.toNat_natCast, Int.toNat_add, Int.toNat_mul, Int.reduceToNat, a_gdp, a_cell, and_self, and_true, true_and]
      refine kk U ⟨by omega, u1, ?_⟩
      have := Rnd_end (show i - 1 < 5 by omega) hm hc u2 (fun q e hq he h => u3 q e hq he h)
      rw [show i + 1 - 1 = i - 1 + 1 by omega]
      exact this
    · obtain ⟨u1, u2, u3⟩ := hu
      show Ok (m_X5_weighPlaces_L41 p i _ (f' + 1) _ U) _
      rw [m_X5_weighPlaces_L41, if_neg (by rw [gs_id (by omega) (by omega), gs_id (by omega) (by omega)]; omega)]
      refine Ok_bind (p_moves hP hp hl hA hm u1 u2 hj) (fun T ht => ?_)
      obtain ⟨t1, t2, t3, t4⟩ := ht
      rw [nm_eq]
      refine kk' T ⟨t1, t2, fun q e hq he h => ?_⟩
      by_cases z : q = j
      · subst z
        have := t4 e he
        rw [h] at this
        exact this
      · have a := u3 q e (by omega) he h
        have b := t3 e he
        have c1 := u2.1 m hm (Or.inr rfl)
        have c2 := t2.1 m hm (Or.inr rfl)
        omega
theorem p_bestRoom {k : Nat} {A : Nat → Nat} {p : Nat} {M : g_M} (hk : 1 ≤ k ∧ k ≤ 8) (hA : Fea k p A) (hpk : p < 5 * k) (h79 : ∀ e, e < 5 → M 79 e = (occ A e p : Int)) (hb : ∀ e, e < 5 → -312500 ≤ M 80 e ∧ M 80 e ≤ 360000000) : ∃ m : Nat, m_X5_bestWithRoom k M = some (m : Int) ∧ m < 5 ∧ occ A m p < k ∧ ∀ e, e < 5 → occ A e p < k → M 80 e ≤ M 80 m := by
  have ex : ∃ e, e < 5 ∧ occ A e p < k := by
    apply Classical.byContradiction
    intro no
    have s := occ_sum A p hA.1
    have g : ∀ e, e < 5 → k ≤ occ A e p := fun e he => Classical.byContradiction fun z => no ⟨e, he, by omega⟩
    rw [sm_s, sm_s, sm_s, sm_s, sm_s, sm_0] at s
    have g0 := g 0 (by omega)
    have g1 := g 1 (by omega)
    have g2 := g 2 (by omega)
    have g3 := g 3 (by omega)
    have g4 := g 4 (by omega)
    omega
  have key : Ok (m_X5_bestWithRoom_L4 k M (fun x24 => some (g_max 0 x24)) g_fuel (-1) 0) (fun r => ∃ m : Nat, r = (m : Int) ∧ m < 5 ∧ occ A m p < k ∧ ∀ e, e < 5 → occ A e p < k → M 80 e ≤ M 80 m) := by
    refine Ok_for 5 (fun f i (x : Int) => m_X5_bestWithRoom_L4 k M (fun x24 => some (g_max 0 x24)) f x i) (fun i x => (x = -1 ∧ ∀ e, e < i → ¬ occ A e p < k) ∨ ∃ m : Nat, x = (m : Int) ∧ m < i ∧ occ A m p < k ∧ ∀ e, e < i → occ A e p < k → M 80 e ≤ M 80 m) (fun f x h => ?_) (fun i f x hi h kk => ?_) 0 g_fuel (-1) (by omega) (by unfold g_fuel; omega) (Or.inl ⟨rfl, fun e he => by omega⟩)
    · show Ok (m_X5_bestWithRoom_L4 k M _ (f + 1) x _) _
      rw [m_X5_bestWithRoom_L4]
      rcases h with ⟨rfl, h⟩ | ⟨m, rfl, h1, h2, h3⟩
      · obtain ⟨e, he, h'⟩ := ex
        exact absurd h' (h e he)
      · simp (disch := omega) only [↓reduceIte, ↓nm_eq, ↓jn_eq, ↓c_within, ↓c_isIn, ↓c_isScene, ↓c_isPlace, ↓c_isCue, ↓c_isDigit, ↓d_isScene, ↓d_isAny, ↓ta_pb1, ↓ta_pb0, ↓ta_pb1', ↓ta_pb0', ta_lt, ta_nlt, ta_le, ta_nle, ta_eq, ta_neq, ta_nne, ta_ne, gs_id, a_gd01, a_gdT, or_true, true_or, bd_some, bW_sm, a_gd, a_ne, a_rd, Int.toNat_natCast, Int.toNat_add, Int.toNat_mul, Int.reduceToNat, a_gdp, a_cell, and_self, and_true, true_and, g_max_of]
        by_cases c : (0 : Int) < m
        · rw [if_pos c]; exact Ok_some ⟨m, rfl, h1, h2, h3⟩
        · rw [if_neg c]; exact Ok_some ⟨m, by omega, h1, h2, h3⟩
    · have kk' : ∀ x' : Int, ((x' = -1 ∧ ∀ e, e < i + 1 → ¬ occ A e p < k) ∨ ∃ m : Nat, x' = (m : Int) ∧ m < i + 1 ∧ occ A m p < k ∧ ∀ e, e < i + 1 → occ A e p < k → M 80 e ≤ M 80 m) → Ok (m_X5_bestWithRoom_L4 k M (fun x24 => some (g_max 0 x24)) f x' ((i : Int) + 1)) (fun r => ∃ m : Nat, r = (m : Int) ∧ m < 5 ∧ occ A m p < k ∧ ∀ e, e < 5 → occ A e p < k → M 80 e ≤ M 80 m) := kk
      clear kk ex
      show Ok (m_X5_bestWithRoom_L4 k M _ (f + 1) x _) _
      have e79 := h79 i hi
      have oi := hA.2 i hi
      have bi := hb i hi
      rw [m_X5_bestWithRoom_L4]
      by_cases c : occ A i p < k
      · rcases h with ⟨rfl, h⟩ | ⟨m, rfl, h1, h2, h3⟩
        · simp (disch := omega) only [↓reduceIte, ↓nm_eq, ↓jn_eq, ↓c_within, ↓c_isIn, ↓c_isScene, ↓c_isPlace, ↓c_isCue, ↓c_isDigit, ↓d_isScene, ↓d_isAny, ↓ta_pb1, ↓ta_pb0, ↓ta_pb1', ↓ta_pb0', ta_lt, ta_nlt, ta_le, ta_nle, ta_eq, ta_neq, ta_nne, ta_ne, gs_id, a_gd01, a_gdT, or_true, true_or, bd_some, bW_sm, a_gd, a_ne, a_rd, Int.toNat_natCast, Int.toNat_add, Int.toNat_mul, Int.reduceToNat, a_gdp, a_cell, and_self, and_true, true_and, e79]
          refine kk' i (Or.inr ⟨i, rfl, by omega, c, fun e he ho => ?_⟩)
          by_cases z : e = i
          · subst z; exact Int.le_refl _
          · exact absurd ho (h e (by omega))
        · have bm := hb m (by omega)
          by_cases d : M 80 i ≤ M 80 m
          · simp (disch := omega) only [↓reduceIte, ↓nm_eq, ↓jn_eq, ↓c_within, ↓c_isIn, ↓c_isScene, ↓c_isPlace, ↓c_isCue, ↓c_isDigit, ↓d_isScene, ↓d_isAny, ↓ta_pb1, ↓ta_pb0, ↓ta_pb1', ↓ta_pb0', ta_lt, ta_nlt, ta_le, ta_nle, ta_eq, ta_neq, ta_nne, ta_ne, gs_id, a_gd01, a_gdT, or_true, true_or, bd_some, bW_sm, a_gd, a_ne, a_rd, Int.toNat_natCast, Int.toNat_add, Int.toNat_mul, Int.reduceToNat, a_gdp, a_cell, and_self, and_true, true_and, e79]
            refine kk' m (Or.inr ⟨m, rfl, by omega, h2, fun e he ho => ?_⟩)
            by_cases z : e = i
            · subst z; exact d
            · exact h3 e (by omega) ho
          · simp (disch := omega) only [↓reduceIte, ↓nm_eq, ↓jn_eq, ↓c_within, ↓c_isIn, ↓c_isScene, ↓c_isPlace, ↓c_isCue, ↓c_isDigit, ↓d_isScene, ↓d_isAny, ↓ta_pb1, ↓ta_pb0, ↓ta_pb1', ↓ta_pb0', ta_lt, ta_nlt, ta_le, ta_nle, ta_eq, ta_neq, ta_nne, ta_ne, gs_id, a_gd01, a_gdT, or_true, true_or, bd_some, bW_sm, a_gd, a_ne, a_rd, Int.toNat_natCast, Int.toNat_add, Int.toNat_mul, Int.reduceToNat, a_gdp, a_cell, and_self, and_true, true_and, e79]
            refine kk' i (Or.inr ⟨i, rfl, by omega, c, fun e he ho => ?_⟩)
            by_cases z : e = i
            · subst z; exact Int.le_refl _
            · have := h3 e (by omega) ho; omega
      · have stay : Ok (m_X5_bestWithRoom_L4 k M (fun x24 => some (g_max 0 x24)) f x ((i : Int) + 1)) (fun r => ∃ m : Nat, r = (m : Int) ∧ m < 5 ∧ occ A m p < k ∧ ∀ e, e < 5 → occ A e p < k → M 80 e ≤ M 80 m) := by
          rcases h with ⟨rfl, h⟩ | ⟨m, rfl, h1, h2, h3⟩
          · refine kk' (-1) (Or.inl ⟨rfl, fun e he => ?_⟩)
            by_cases z : e = i
            · subst z; exact c
            · exact h e (by omega)
          · refine kk' m (Or.inr ⟨m, rfl, by omega, h2, fun e he ho => ?_⟩)
            by_cases z : e = i
            · subst z; exact absurd ho c
            · exact h3 e (by omega) ho
        clear h kk'
        simp (disch := omega) only [↓reduceIte, ↓nm_eq, ↓jn_eq, ↓c_within, ↓c_isIn, ↓c_isScene, ↓c_isPlace, ↓c_isCue, ↓c_isDigit, ↓d_isScene, ↓d_isAny, ↓ta_pb1, ↓ta_pb0, ↓ta_pb1', ↓ta_pb0', ta_lt, ta_nlt, ta_le, ta_nle, ta_eq, ta_neq, ta_nne, ta_ne, gs_id, a_gd01, a_gdT, or_true, true_or, bd_some, bW_sm, a_gd, a_ne, a_rd, Int.toNat_natCast, Int.toNat_add, Int.toNat_mul, Int.reduceToNat, a_gdp, a_cell, and_self, and_true, true_and, e79]
        exact stay
  obtain ⟨r, e, m, rfl, h⟩ := key
  refine ⟨m, ?_, h⟩
  unfold m_X5_bestWithRoom
  rw [nm_eq, nm_eq]
  exact e
