/-! text (step 5) -/
theorem cp0_ne (M : g_M) {k0 k1 n a : Nat} (h : a ≠ k1) : g_cp M k0 0 k1 0 n a = M a := funext fun b => if_neg (fun z => h z.1)
theorem cp0_at (M : g_M) {k0 k1 n b : Nat} (h : b < n) : g_cp M k0 0 k1 0 n k1 b = M k0 b := by
  unfold g_cp
  rw [if_pos ⟨rfl, by omega, by omega⟩]
  rw [show 0 + (b - 0) = b by omega]
theorem c_copy {t : Nat} {M : g_M} (ht : 40 < t) : ∃ M', m_X7_copy t 25 M = some M' ∧ (∀ a, a < t ∨ t + 5 < a → M' a = M a) ∧ M' t 6 = M 25 6 ∧ (∀ y, y < 300 → M' (t + 1) y = M 26 y) ∧ (∀ y, y < 3 → M' (t + 2) y = M 27 y) ∧ (∀ y, y < 3 → M' (t + 3) y = M 28 y) ∧ (∀ y, y < 24 → M' (t + 4) y = M 29 y) ∧ ∀ y, y < 72 → M' (t + 5) y = M 30 y := by
  have e300 : gs 300 = 300 := gs_id (by omega) (by omega)
  have e3 : gs 3 = 3 := gs_id (by omega) (by omega)
  have e24 : gs 24 = 24 := gs_id (by omega) (by omega)
  have e72 : gs 72 = 72 := gs_id (by omega) (by omega)
  have e0 := gs0_eq
  obtain ⟨M1, h1⟩ : ∃ M1, M1 = g_cp M 26 0 (t + 1) 0 300 := ⟨_, rfl⟩
  obtain ⟨M2, h2⟩ : ∃ M2, M2 = g_wr M1 t 1 (M1 25 1) := ⟨_, rfl⟩
  obtain ⟨M3, h3⟩ : ∃ M3, M3 = g_cp M2 27 0 (t + 2) 0 3 := ⟨_, rfl⟩
  obtain ⟨M4, h4⟩ : ∃ M4, M4 = g_cp M3 28 0 (t + 3) 0 3 := ⟨_, rfl⟩
  obtain ⟨M5, h5⟩ : ∃ M5, M5 = g_cp M4 29 0 (t + 4) 0 24 := ⟨_, rfl⟩
  obtain ⟨M6, h6⟩ : ∃ M6, M6 = g_cp M5 30 0 (t + 5) 0 72 := ⟨_, rfl⟩
  obtain ⟨M7, h7⟩ : ∃ M7, M7 = g_wr M6 t 6 (M6 25 6) := ⟨_, rfl⟩
  have k : ∀ a, a < t ∨ t + 5 < a → M1 a = M a ∧ M2 a = M a ∧ M3 a = M a ∧ M4 a = M a ∧ M5 a = M a ∧ M6 a = M a ∧ M7 a = M a := by
    intro a ha
    have a1 : M1 a = M a := by rw [h1]; exact cp0_ne _ (by omega)
    have a2 : M2 a = M a := by rw [h2, a_cell _ (by omega)]; exact a1
    have a3 : M3 a = M a := by rw [h3, cp0_ne _ (by omega)]; exact a2
    have a4 : M4 a = M a := by rw [h4, cp0_ne _ (by omega)]; exact a3
    have a5 : M5 a = M a := by rw [h5, cp0_ne _ (by omega)]; exact a4
    have a6 : M6 a = M a := by rw [h6, cp0_ne _ (by omega)]; exact a5
    exact ⟨a1, a2, a3, a4, a5, a6, by rw [h7, a_cell _ (by omega)]; exact a6⟩
  refine ⟨M7, ?_, fun a ha => (k a ha).2.2.2.2.2.2, ?_, fun y hy => ?_, fun y hy => ?_, fun y hy => ?_, fun y hy => ?_, fun y hy => ?_⟩
  · unfold m_X7_copy
    rw [e0, e300, e3, e24, e72, a_gdp (by omega), nm_eq]
    show g_nm (g_wr (g_cp M 26 0 (t + 1) 0 300) t 1 (g_cp M 26 0 (t + 1) 0 300 25 1)) _ = _
    rw [← h1, nm_eq, ← h2, a_gdp (by omega), nm_eq]
    show g_gd _ (g_nm (g_cp (g_cp M2 27 0 (t + 2) 0 3) 28 0 (t + 3) 0 3) _) = _
    rw [← h3, ← h4, a_gdp (by omega), nm_eq, a_gdp (by omega), nm_eq]
    show g_gd _ (g_nm (g_cp (g_cp M4 29 0 (t + 4) 0 24) 30 0 (t + 5) 0 72) _) = _
    rw [← h5, ← h6, a_gdp (by omega), nm_eq, nm_eq, ← h7]
  · rw [h7, wr_at, (k 25 (by omega)).2.2.2.2.2.1]
  · rw [h7, a_cell _ (by omega), h6, cp0_ne _ (by omega), h5, cp0_ne _ (by omega), h4, cp0_ne _ (by omega), h3, cp0_ne _ (by omega), h2, a_cell _ (by omega), h1, cp0_at _ hy]
  · rw [h7, a_cell _ (by omega), h6, cp0_ne _ (by omega), h5, cp0_ne _ (by omega), h4, cp0_ne _ (by omega), h3, cp0_at _ hy, (k 27 (by omega)).2.1]
  · rw [h7, a_cell _ (by omega), h6, cp0_ne _ (by omega), h5, cp0_ne _ (by omega), h4, cp0_at _ hy, (k 28 (by omega)).2.2.1]
  · rw [h7, a_cell _ (by omega), h6, cp0_ne _ (by omega), h5, cp0_at _ hy, (k 29 (by omega)).2.2.2.1]
  · rw [h7, a_cell _ (by omega), h6, cp0_at _ hy, (k 30 (by omega)).2.2.2.2.1]
theorem R_film_T {X nw st td kd pl ro od lk fw fg A X' A' : Nat → Int} {T : Nat} (H : R_film X nw st td kd pl ro od lk fw fg A) (h8 : X 8 = T) (hT : T < 4) (x : ∀ j, j ≠ 8 → X' j = X j) (x8 : X' 8 = ((T + 1 : Nat) : Int)) (e : ∀ j, j ≠ 1 → A' j = A j) (a1 : A' 1 = ((T + 1 : Nat) : Int)) : R_film X' nw st td kd pl ro od lk fw fg A' := by
  obtain ⟨P, T0, S, E, C, F, hP, hT0, hU, hS, hE, hC, hF, hsn, htd, hkd, hpl, hro, hod, hos, hsv, hlk, hfe, hst⟩ := H
  have hP8 := hP.1
  have hS30 := hS.1
  refine ⟨P, T + 1, S, E, C, F, ⟨hP.1, by rw [x 7 (by omega)]; exact hP.2.1, by rw [e 0 (by omega)]; exact hP.2.2⟩, ⟨by omega, x8, a1⟩, ⟨by rw [x 9 (by omega)]; exact hU.1, ?_, by rw [e 2 (by omega), x 9 (by omega)]; exact hU.2.2⟩, ⟨hS.1, by rw [x 3 (by omega)]; exact hS.2.1, by rw [e 3 (by omega)]; exact hS.2.2⟩, ⟨hE.1, by rw [x 2 (by omega)]; exact hE.2⟩, ⟨hC.1, by rw [x 11 (by omega)]; exact hC.2.1, by rw [e 4 (by omega)]; exact hC.2.2⟩, ⟨hF.1, by rw [x 17 (by omega)]; exact hF.2.1, by rw [e 5 (by omega)]; exact hF.2.2⟩, R_snap_cg hsn (fun j hj => e _ (by omega)) (fun q i hq hi => e _ (by omega)) (fun i hi => e _ (by omega)), fun i hi => by rw [e _ (by omega)]; exact htd i hi, fun i hi => by rw [e _ (by omega)]; exact hkd i hi, fun q hq => by rw [e _ (by omega), e _ (by omega)]; exact hpl q hq, fun i hi => by rw [e _ (by omega)]; exact hro i hi, fun i hi => by rw [e _ (by omega)]; exact hod i hi, hos, ⟨by rw [x 13 (by omega)]; exact hsv.1, by rw [x 13 (by omega)]; exact hsv.2.1, by rw [e _ (by omega), x 13 (by omega)]; exact hsv.2.2⟩, fun i hi => by rw [e _ (by omega)]; exact hlk i hi, fun i hi => by rw [e _ (by omega), e _ (by omega)]; exact hfe i hi, fun k hk => R_step_cg (by omega) hP8 (hst k hk) (fun j h1 h2 => e _ (by omega)) (fun q hq => e _ (by omega))⟩
  rw [x 9 (by omega)]
  have h1 := hU.2.1
  have h2 := hT0.2.1
  omega
theorem R_text_of {L Z s q T c w n O : Nat} {N : Int} {b : Nat → Int} {M W : g_M} (h : TI L Z b s q T N c w n O M W) {C : Nat → Nat → Int} {B : Nat → Int} (c0 : C 0 6 = M 25 6) (c1 : ∀ y, y < 300 → C 1 y = M 26 y) (c2 : ∀ y, y < 3 → C 2 y = M 27 y) (c3 : ∀ y, y < 3 → C 3 y = M 28 y) (c4 : ∀ y, y < 24 → C 4 y = M 29 y) (c5 : ∀ y, y < 72 → C 5 y = M 30 y) (hB : ∀ j, B j = W 3 (Z + j)) : R_text C B := by
  obtain ⟨hs, hP, ⟨x1, x2, x3, x4⟩, ⟨y1, y2, y3, y4, y5, y6⟩, z1, z2⟩ := h
  have s300 := (PS_300 hs hP).1
  refine ⟨n, x4, by rw [c0]; exact x3, by rw [hB]; exact y6, fun k hk => ?_, fun l hl => ?_⟩
  · refine R_clause_cg (z1 k hk) (c4 k (by omega)) (fun j hj => c5 _ (by omega)) (fun j hj => ?_)
    show B (1 + 4 * k + j) = W 3 (Z + 1 + 4 * k + j)
    rw [hB, show Z + (1 + 4 * k + j) = Z + 1 + 4 * k + j by omega]
  · rcases (z2 l hl).1 with ⟨e1, e2, e3⟩ | ⟨k, i, j, i', j', e1, e2, e3, e4, e5, e6, e7, e8, e9, e10⟩
    · refine Or.inl ⟨by rw [c2 l hl]; exact e1, by rw [c3 l hl]; exact e2, fun k hk => ?_⟩
      rw [hB, show Z + (1 + 4 * k) = Z + 1 + 4 * k by omega]
      exact e3 k hk
    · refine Or.inr ⟨k, i, j, i', j', e1, by rw [hB, show Z + (1 + 4 * k) = Z + 1 + 4 * k by omega]; exact e2, fun y hy => by rw [hB, show Z + (1 + 4 * y) = Z + 1 + 4 * y by omega]; exact e3 y hy, by rw [c2 l hl]; exact e4, by rw [c3 l hl]; exact e5, by omega, by rw [hB, show Z + (1 + 4 * k + 1) = Z + 1 + 4 * k + 1 by omega]; exact e7, by rw [hB, show Z + (1 + 4 * k + 2) = Z + 1 + 4 * k + 2 by omega]; exact e8, by omega, RS_cg e10 (fun y y1 y2 => c1 y (by omega)) (fun y y1 y2 => ?_)⟩
      show B (97 + y) = W 3 (Z + 97 + y)
      rw [hB, show Z + (97 + y) = Z + 97 + y by omega]
/-- a text of the reference is read in its own row alone -/
theorem R_text_cgB {C : Nat → Nat → Int} {B B' : Nat → Int} (h : R_text C B) (e : ∀ j, j < 705 → B' j = B j) : R_text C B' := by
  obtain ⟨n, h1, h2, h3, h4, h5⟩ := h
  refine ⟨n, h1, h2, by rw [e 0 (by omega)]; exact h3, fun k hk => R_clause_cg (h4 k hk) rfl (fun _ _ => rfl) (fun j hj => e _ (by omega)), fun l hl => ?_⟩
  rcases h5 l hl with ⟨e1, e2, e3⟩ | ⟨k, i, j, i', j', e1, e2, e3, e4, e5, e6, e7, e8, e9, e10⟩
  · exact Or.inl ⟨e1, e2, fun k hk => by rw [e _ (by omega)]; exact e3 k hk⟩
  · exact Or.inr ⟨k, i, j, i', j', e1, by rw [e _ (by omega)]; exact e2, fun y hy => by rw [e _ (by omega)]; exact e3 y hy, e4, e5, e6, by rw [e _ (by omega)]; exact e7, by rw [e _ (by omega)]; exact e8, e9, RS_cg e10 (fun _ _ _ => rfl) (fun y y1 y2 => e _ (by omega))⟩
theorem textOf_t {T : Nat} {M : g_M} (hT : T < 4) : m_X3_textOf (T : Int) M = some (41 + 6 * T) := by
  unfold m_X3_textOf
  simp (disch := omega) only [↓reduceIte, ↓nm_eq, ↓jn_eq, ↓c_within, ↓c_isIn, ↓c_isScene, ↓c_isPlace, ↓c_isCue, ↓c_isDigit, ↓d_isScene, ↓d_isAny, ↓ta_pb1, ↓ta_pb0, ↓ta_pb1', ↓ta_pb0', ta_lt, ta_nlt, ta_le, ta_nle, ta_eq, ta_neq, ta_nne, ta_ne, gs_id, a_gd01, a_gdT, or_true, true_or, bd_some, bW_sm, a_gd, a_ne, a_rd, Int.toNat_natCast, Int.toNat_add, Int.toNat_mul, Int.reduceToNat, a_gdp, a_cell, and_self, and_true, true_and]
  rfl
theorem st_5 : x_step_5 Rel := by
  intro n Mx Mm hr hn
  have hr0 := hr
  obtain ⟨hf, hi, hle, ⟨⟨L, l1, l2, l3, l4⟩, ⟨l5, l6, l7⟩, l8, l9, l10⟩, ⟨c1, ⟨c2, c3⟩, c4, c5⟩, htx, hb⟩ := hr
  obtain ⟨T, hT4, hx8, ha1⟩ : ∃ T : Nat, T ≤ 4 ∧ Mx 1 8 = T ∧ Mm 1 1 = T := by
    obtain ⟨P, T, S, E, C, F, -, ⟨t1, t2, t3⟩, -⟩ := hf
    exact ⟨T, t1, t2, t3⟩
  have g11 : (gs 1).toNat = 1 := by rw [gs_id (by omega) (by omega)]; rfl
  by_cases cT : T = 4
  · refine ⟨-1, -1, Mx, Mm, ?_, ?_, rfl, Rel_mono hr0⟩
    · unfold m_X8_text
      rw [hx8, cT]
      exact if_pos (Int.le_refl _)
    · unfold m_X9_text
      rw [a_gd (by omega) (by omega) (by omega), g11, ha1, cT]
      exact if_neg (fun z => z rfl)
  have hT : T < 4 := by omega
  have hs : SC L (Mx 24) := ⟨l1, fun i hi => ⟨(l4 i hi).1, (l4 i hi).2.1⟩⟩
  have ncl : ¬ gs 4 ≤ gs (Mx 1 8) := by rw [hx8, gs_id (by omega) (by omega), gs_id (by omega) (by omega)]; omega
  have nrf : gs (Mm 1 1) ≠ gs 4 := by rw [ha1, gs_id (by omega) (by omega), gs_id (by omega) (by omega)]; omega
  rcases text_read (b := Mx 24) hT hs l2 l3 (fun i hi => ⟨rfl, (l4 i hi).2.2⟩) ha1 with ⟨M', W', s', q', N', c', w', n', O', r1, r2, ti, ⟨k1, k2, k3, k4, k5⟩, f3, f4⟩ | ⟨M', W', e, r1, r2, ⟨⟨b1, b2, b3, b4, b5, b6⟩, k1, k2, k3, k4, k5⟩⟩
  · obtain ⟨M1, hM1⟩ : ∃ M1, M1 = g_wr M' 23 2 0 := ⟨_, rfl⟩
    rw [← hM1] at r1
    have m1a : ∀ a, a ≠ 23 → M1 a = M' a := fun a h => by rw [hM1, a_cell _ h]
    obtain ⟨M2, e2, d1, d2, d3, d4, d5, d6, d7⟩ := c_copy (t := 41 + 6 * T) (M := M1) (by omega)
    have m28 : M2 1 8 = T := by rw [d1 1 (by omega), m1a 1 (by omega), k1 1 (by omega)]; exact hx8
    have m18 : M1 1 8 = T := by rw [m1a 1 (by omega), k1 1 (by omega)]; exact hx8
    obtain ⟨M3, hM3⟩ : ∃ M3, M3 = g_wr M2 1 8 ((T : Int) + 1) := ⟨_, rfl⟩
    obtain ⟨W3, hW3⟩ : ∃ W3, W3 = g_wr (g_wr (g_wr (g_wr W' 0 5 0) 0 6 (-1)) 0 4 0) 1 1 ((T : Int) + 1) := ⟨_, rfl⟩
    have w11 : W' 1 1 = T := by rw [k3 1 (by omega) (by omega) (by omega)]; exact ha1
    refine ⟨(T : Int) + 1 - 1, (T : Int) + 1 - 1, M3, W3, ?_, ?_, rfl, ?_⟩
    · unfold m_X8_text
      rw [if_neg ncl, bW_eq r1, if_pos gs1_ne, m18, bd_eq (textOf_t hT), a_gdp (by unfold xT; omega), bd_eq e2, nm_eq, m28, ← hM3, hM3, wr_at]
    · have i5 : g_wr W' 0 5 0 0 5 = 0 := wr_at _ _ _ _
      have j5 : g_wr (g_wr (g_wr W' 0 5 0) 0 6 (-1)) 0 4 0 0 5 = 0 := by rw [a_ne _ (by omega), a_ne _ (by omega), wr_at]
      have j1 : g_wr (g_wr (g_wr W' 0 5 0) 0 6 (-1)) 0 4 0 1 1 = T := by rw [a_cell _ (by omega), a_cell _ (by omega), a_cell _ (by omega)]; exact w11
      unfold m_X9_text
      rw [a_gd (by omega) (by omega) (by omega), g11, if_pos nrf, jn_eq, bW_eq r2, nm_eq, i5, if_neg (fun z => z gs0_eq)]
      show g_nm (g_wr (g_wr W' 0 5 0) 0 6 (-1)) _ = _
      rw [nm_eq, nm_eq, j5, if_pos gs0_eq, a_gd (by omega) (by omega) (by omega), a_gd (by omega) (by omega) (by omega), j1, nm_eq, ← hW3, a_gd (by omega) (by omega) (by omega), hW3, wr_at]
    · have m3a : ∀ a, a ≠ 1 → M3 a = M2 a := fun a h => by rw [hM3, a_cell _ h]
      have m3x : ∀ a, 2 ≤ a → a ≤ 22 → M3 a = Mx a := fun a h1 h2 => by rw [m3a a (by omega), d1 a (by omega), m1a a (by omega), k1 a (by omega)]
      have m31 : ∀ j, j ≠ 8 → M3 1 j = Mx 1 j := fun j hj => by rw [hM3, a_ne _ (by omega), d1 1 (by omega), m1a 1 (by omega), k1 1 (by omega)]
      have m318 : M3 1 8 = ((T + 1 : Nat) : Int) := by rw [hM3, wr_at]; omega
      have w3a : ∀ a, a ≠ 0 → a ≠ 1 → W3 a = W' a := fun a h h' => by rw [hW3, a_cell _ h', a_cell _ h, a_cell _ h, a_cell _ h]
      have w31 : ∀ j, j ≠ 1 → W3 1 j = Mm 1 j := fun j hj => by rw [hW3, a_ne _ (by omega), a_cell _ (by omega), a_cell _ (by omega), a_cell _ (by omega), k3 1 (by omega) (by omega) (by omega)]
      have w311 : W3 1 1 = ((T + 1 : Nat) : Int) := by rw [hW3, wr_at]; omega
      have w30 : ∀ j, 20 ≤ j → W3 0 j = Mm 0 j := fun j hj => by rw [hW3, a_cell _ (by omega), a_ne _ (by omega), a_ne _ (by omega), a_ne _ (by omega), k4 j (by omega)]
      have m323 : ∀ j, M3 23 j = M1 23 j := fun j => by rw [m3a 23 (by omega), d1 23 (by omega)]
      refine ⟨?_, ?_, ?_, ⟨⟨0, by omega, ?_, ?_, fun i hi => by omega⟩, ⟨?_, ?_, ?_⟩, ?_, ?_, ?_⟩, ⟨?_, ⟨?_, ?_⟩, ?_, ?_⟩, fun t ht => ?_, fun j hj => ?_⟩
      · rw [m3x 2 (by omega) (by omega), m3x 3 (by omega) (by omega), m3x 4 (by omega) (by omega), m3x 5 (by omega) (by omega), m3x 6 (by omega) (by omega), m3x 7 (by omega) (by omega), m3x 8 (by omega) (by omega), m3x 9 (by omega) (by omega), m3x 10 (by omega) (by omega), m3x 11 (by omega) (by omega)]
        exact R_film_T hf hx8 hT m31 m318 w31 w311
      · rw [m3x 12 (by omega) (by omega), m3x 13 (by omega) (by omega), m3x 14 (by omega) (by omega), m3x 15 (by omega) (by omega), m3x 16 (by omega) (by omega), m3x 17 (by omega) (by omega), m3x 18 (by omega) (by omega), m3x 19 (by omega) (by omega), m3x 20 (by omega) (by omega), m3x 21 (by omega) (by omega), m3x 22 (by omega) (by omega), w3a 2 (by omega) (by omega), k3 2 (by omega) (by omega) (by omega)]
        exact hi
      · rw [m3x 12 (by omega) (by omega), m318]
        omega
      · rw [m323, hM1]; exact wr_at _ _ _ _
      · rw [hW3, a_cell _ (by omega)]; exact wr_at _ _ _ _
      · rw [m323, hM1, a_ne _ (by omega), f3]; omega
      · rw [m323, hM1, a_ne _ (by omega), f3]; omega
      · rw [m323, hM1, a_ne _ (by omega), f3, hW3, a_cell _ (by omega), a_ne _ (by omega), a_ne _ (by omega), wr_at]
      · rw [m323, hM1, a_ne _ (by omega), f4]; omega
      · rw [m323, hM1, a_ne _ (by omega), f4]; omega
      · rw [m323, hM1, a_ne _ (by omega), f4, hW3, a_cell _ (by omega), a_ne _ (by omega), wr_at]
      · rw [w30 23 (by omega)]; exact c1
      · rw [w30 24 (by omega)]; exact c2
      · rw [w30 24 (by omega)]; omega
      · rw [w30 25 (by omega)]; exact c4
      · rw [w30 25 (by omega)]; omega
      · rw [m318] at ht
        rw [w3a 3 (by omega) (by omega)]
        by_cases z : t = T
        · subst z
          exact R_text_of ti (by show M3 (41 + 6 * t + 0) 6 = M' 25 6; rw [Nat.add_zero, m3a _ (by omega), d2, m1a 25 (by omega)]) (fun y hy => by show M3 (41 + 6 * t + 1) y = M' 26 y; rw [m3a _ (by omega), d3 y hy, m1a 26 (by omega)]) (fun y hy => by show M3 (41 + 6 * t + 2) y = M' 27 y; rw [m3a _ (by omega), d4 y hy, m1a 27 (by omega)]) (fun y hy => by show M3 (41 + 6 * t + 3) y = M' 28 y; rw [m3a _ (by omega), d5 y hy, m1a 28 (by omega)]) (fun y hy => by show M3 (41 + 6 * t + 4) y = M' 29 y; rw [m3a _ (by omega), d6 y hy, m1a 29 (by omega)]) (fun y hy => by show M3 (41 + 6 * t + 5) y = M' 30 y; rw [m3a _ (by omega), d7 y hy, m1a 30 (by omega)]) (fun j => rfl)
        · have ht2 : (t : Int) < Mx 1 8 := by rw [hx8]; omega
          refine R_text_cgB (R_text_cg (htx t ht2) (fun i hi => ?_)) (fun j hj => k5 _ (by omega))
          show M3 (41 + 6 * t + i) = Mx (41 + 6 * t + i)
          rw [m3a _ (by omega), d1 _ (by omega), m1a _ (by omega), k1 _ (by omega)]
      · rw [m3a 37 (by omega), m3a 38 (by omega), d1 37 (by omega), d1 38 (by omega), m1a 37 (by omega), m1a 38 (by omega), k1 37 (by omega), k1 38 (by omega)]
        exact hb j hj
  · obtain ⟨M1, hM1⟩ : ∃ M1, M1 = g_wr M' 23 2 0 := ⟨_, rfl⟩
    rw [← hM1] at r1
    have m1a : ∀ a, a ≠ 23 → M1 a = M' a := fun a h => by rw [hM1, a_cell _ h]
    obtain ⟨W3, hW3⟩ : ∃ W3, W3 = g_wr (g_wr (g_wr W' 0 5 e) 0 6 (W' 0 8)) 0 4 0 := ⟨_, rfl⟩
    have ge : ¬ gs e = 0 := by rw [gs_id (by omega) (by omega)]; omega
    refine ⟨-1, -1, M1, W3, ?_, ?_, rfl, ?_⟩
    · unfold m_X8_text
      rw [if_neg ncl, bW_eq r1, if_neg (fun z => z gs0_eq)]
    · have i5 : g_wr W' 0 5 e 0 5 = e := wr_at _ _ _ _
      have i8 : g_wr W' 0 5 e 0 8 = W' 0 8 := a_ne _ (by omega)
      have j5 : g_wr (g_wr (g_wr W' 0 5 e) 0 6 (W' 0 8)) 0 4 0 0 5 = e := by rw [a_ne _ (by omega), a_ne _ (by omega), wr_at]
      unfold m_X9_text
      rw [a_gd (by omega) (by omega) (by omega), g11, if_pos nrf, jn_eq, bW_eq r2, nm_eq, i5, if_pos ge, i8]
      show g_nm (g_wr (g_wr W' 0 5 e) 0 6 (W' 0 8)) _ = _
      rw [nm_eq, nm_eq, j5, if_neg ge, ← hW3]
    · have m3x : ∀ a, 1 ≤ a → a ≤ 22 → M1 a = Mx a := fun a h1 h2 => by rw [m1a a (by omega), k1 a (by omega)]
      have w3a : ∀ a, a ≠ 0 → W3 a = W' a := fun a h => by rw [hW3, a_cell _ h, a_cell _ h, a_cell _ h]
      have w30 : ∀ j, 20 ≤ j → W3 0 j = Mm 0 j := fun j hj => by rw [hW3, a_ne _ (by omega), a_ne _ (by omega), a_ne _ (by omega), k4 j (by omega)]
      refine ⟨?_, ?_, ?_, ⟨⟨0, by omega, ?_, ?_, fun i hi => by omega⟩, ⟨?_, ?_, ?_⟩, ?_, ?_, ?_⟩, ⟨?_, ⟨?_, ?_⟩, ?_, ?_⟩, fun t ht => ?_, fun j hj => ?_⟩
      · rw [m3x 1 (by omega) (by omega), m3x 2 (by omega) (by omega), m3x 3 (by omega) (by omega), m3x 4 (by omega) (by omega), m3x 5 (by omega) (by omega), m3x 6 (by omega) (by omega), m3x 7 (by omega) (by omega), m3x 8 (by omega) (by omega), m3x 9 (by omega) (by omega), m3x 10 (by omega) (by omega), m3x 11 (by omega) (by omega), w3a 1 (by omega), k3 1 (by omega) (by omega) (by omega)]
        exact hf
      · rw [m3x 12 (by omega) (by omega), m3x 13 (by omega) (by omega), m3x 14 (by omega) (by omega), m3x 15 (by omega) (by omega), m3x 16 (by omega) (by omega), m3x 17 (by omega) (by omega), m3x 18 (by omega) (by omega), m3x 19 (by omega) (by omega), m3x 20 (by omega) (by omega), m3x 21 (by omega) (by omega), m3x 22 (by omega) (by omega), w3a 2 (by omega), k3 2 (by omega) (by omega) (by omega)]
        exact hi
      · rw [m3x 12 (by omega) (by omega), m3x 1 (by omega) (by omega)]
        exact hle
      · rw [hM1]; exact wr_at _ _ _ _
      · rw [hW3]; exact wr_at _ _ _ _
      · rw [hM1, a_ne _ (by omega), b1]; omega
      · rw [hM1, a_ne _ (by omega), b1]; omega
      · rw [hM1, a_ne _ (by omega), b1, hW3, a_ne _ (by omega), a_ne _ (by omega), wr_at]
      · rw [hM1, a_ne _ (by omega), b2]; omega
      · rw [hM1, a_ne _ (by omega), b2]; omega
      · rw [hM1, a_ne _ (by omega), b2, hW3, a_ne _ (by omega), wr_at]
      · rw [w30 23 (by omega)]; exact c1
      · rw [w30 24 (by omega)]; exact c2
      · rw [w30 24 (by omega)]; omega
      · rw [w30 25 (by omega)]; exact c4
      · rw [w30 25 (by omega)]; omega
      · rw [m3x 1 (by omega) (by omega), hx8] at ht
        rw [w3a 3 (by omega)]
        have ht2 : (t : Int) < Mx 1 8 := by rw [hx8]; exact ht
        refine R_text_cgB (R_text_cg (htx t ht2) (fun i hi => ?_)) (fun j hj => k5 _ (by omega))
        show M1 (41 + 6 * t + i) = Mx (41 + 6 * t + i)
        rw [m1a _ (by omega), k1 _ (by omega)]
      · rw [m1a 37 (by omega), m1a 38 (by omega), k1 37 (by omega), k1 38 (by omega)]
        exact hb j hj
