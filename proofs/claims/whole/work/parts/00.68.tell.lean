/-! steps that tell something -/
theorem st_38 : x_step_38 Rel := by
  intro n Mx Mm hr hn a1 a2 h1 h2
  have hr0 := hr
  obtain ⟨⟨P, T, S, E, C, F, hP, hT, hU, hS, hE, hC, hF, hsn, htd, hkd, hpl, hro, hod, hos, hsv, hlk, hfe, hst⟩, -⟩ := hr
  have hP1 := hP.1
  have hP2 := hP.2.1
  have hP3 := hP.2.2
  have hS1 := hS.1
  have hS2 := hS.2.1
  have hS3 := hS.2.2
  have hC1 := hC.1
  have hC2 := hC.2.1
  have hC3 := hC.2.2
  have hF1 := hF.1
  have hF2 := hF.2.1
  have hF3 := hF.2.2
  have i1 := h1.1
  have j1 := h1.2
  have i2 := h2.1
  have j2 := h2.2
  by_cases e0 : a1 = -1
  · refine ⟨0, 0, g_wr Mx 1 17 0, g_wr Mm 1 5 0, ?_, ?_, rfl, ?_⟩
    · simp (disch := omega) only [↓reduceIte, ↓g_nm, ↓g_jn, ↓c_within, ↓c_isIn, ↓c_isScene, ↓c_isPlace, ↓c_isCue, ↓c_isDigit, ↓d_isScene, ↓d_isAny, ↓ta_pb1, ↓ta_pb0, ↓ta_pb1', ↓ta_pb0', ta_lt, ta_nlt, ta_le, ta_nle, ta_eq, ta_neq, ta_nne, ta_ne, gs_id, a_gd01, a_gdT, or_true, true_or, Option.bind_some, bW_some, a_gd, a_ne, a_rd, Int.toNat_natCast, m_X8_felt]
    · simp (disch := omega) only [↓reduceIte, ↓g_nm, ↓g_jn, ↓c_within, ↓c_isIn, ↓c_isScene, ↓c_isPlace, ↓c_isCue, ↓c_isDigit, ↓d_isScene, ↓d_isAny, ↓ta_pb1, ↓ta_pb0, ↓ta_pb1', ↓ta_pb0', ta_lt, ta_nlt, ta_le, ta_nle, ta_eq, ta_neq, ta_nne, ta_ne, gs_id, a_gd01, a_gdT, or_true, true_or, Option.bind_some, bW_some, a_gd, a_ne, a_rd, Int.toNat_natCast, m_X9_felt, show Int.toNat 5 = 5 from rfl]
    · skip
      obtain ⟨Mx', ex⟩ : ∃ M, M = g_wr Mx 1 (17) (0) := ⟨_, rfl⟩
      obtain ⟨Mm', em⟩ : ∃ M, M = g_wr Mm 1 (5) (0) := ⟨_, rfl⟩
      rw [← ex, ← em]
      have cx : ∀ a : Nat, a ≠ 1 → Mx' a = Mx a := fun a ha => by rw [ex]; simp (disch := omega) only [a_cell]
      have cm : ∀ a : Nat, a ≠ 1 → Mm' a = Mm a := fun a ha => by rw [em]; simp (disch := omega) only [a_cell]
      have ne : ∀ b : Nat, b ≠ 5 → Mm' 1 b = Mm 1 b := fun b hb => by rw [em]; simp (disch := omega) only [a_ne]
      have at0 : Mm' 1 (5) = 0 := by rw [em]; simp (disch := omega) only [a_rd, a_ne]
      have nx : ∀ b : Nat, b ≠ 17 → Mx' 1 b = Mx 1 b := fun b hb => by rw [ex]; simp (disch := omega) only [a_ne]
      have xt0 : Mx' 1 (17) = 0 := by rw [ex]; simp (disch := omega) only [a_rd, a_ne]
      clear ex em
      refine Rel_wr hr0 (k := 1) (by omega) (fun a ha => cx a (by omega)) (nx 8 (by omega)) cm ?_
      rw [cx 2 (by omega), cx 3 (by omega), cx 4 (by omega), cx 5 (by omega), cx 6 (by omega), cx 7 (by omega), cx 8 (by omega), cx 9 (by omega), cx 10 (by omega), cx 11 (by omega)]
      exact ⟨P, T, S, E, C, 0, ⟨hP.1, by rw [nx _ (by omega)]; exact hP.2.1, by rw [ne _ (by omega)]; exact hP.2.2⟩, ⟨hT.1, by rw [nx _ (by omega)]; exact hT.2.1, by rw [ne _ (by omega)]; exact hT.2.2⟩, ⟨by rw [nx _ (by omega)]; exact hU.1, by rw [nx _ (by omega)]; exact hU.2.1, by rw [ne _ (by omega), nx _ (by omega)]; exact hU.2.2⟩, ⟨hS.1, by rw [nx _ (by omega)]; exact hS.2.1, by rw [ne _ (by omega)]; exact hS.2.2⟩, ⟨hE.1, by rw [nx _ (by omega)]; exact hE.2⟩, ⟨hC.1, by rw [nx _ (by omega)]; exact hC.2.1, by rw [ne _ (by omega)]; exact hC.2.2⟩, ⟨by omega, xt0, at0⟩, R_snap_cg hsn (fun j hj => ne _ (by omega)) (fun q i hq hi => ne _ (by omega)) (fun i hi => ne _ (by omega)), (fun i hi => by rw [ne _ (by omega)]; exact htd i hi), (fun t ht => by rw [ne _ (by omega)]; exact hkd t ht), (fun q hq => by rw [ne _ (by omega), ne _ (by omega)]; exact hpl q hq), (fun i hi => by rw [ne _ (by omega)]; exact hro i hi), (fun c hc => by rw [ne _ (by omega)]; exact hod c hc), hos, ⟨by rw [nx _ (by omega)]; exact hsv.1, by rw [nx _ (by omega)]; exact hsv.2.1, by rw [ne _ (by omega), nx _ (by omega)]; exact hsv.2.2⟩, (fun i hi => by rw [ne _ (by omega)]; exact hlk i hi), (fun i hi => absurd hi (by omega)), (fun k hk => R_step_cg (by omega) hP.1 (hst k hk) (fun j a b => ne _ (by omega)) (fun q hq => ne _ (by omega)))⟩
  · by_cases c1 : 0 ≤ a1 ∧ a1 < P
    · by_cases c2 : 0 ≤ a2 ∧ a2 ≤ 99
      · by_cases c3 : F < 8
        · refine ⟨((F + 1 : Nat) : Int), ((F + 1 : Nat) : Int), g_wr (g_wr (g_wr Mx 10 (F) (a1)) 11 (F) (a2)) 1 (17) (((F + 1 : Nat) : Int)), g_wr (g_wr (g_wr Mm 1 (183 + 2 * F) (a1)) 1 (183 + 2 * F + 1) (a2)) 1 (5) (((F + 1 : Nat) : Int)), ?_, ?_, rfl, ?_⟩
          · simp (disch := omega) only [↓reduceIte, ↓g_nm, ↓g_jn, ↓c_within, ↓c_isIn, ↓c_isScene, ↓c_isPlace, ↓c_isCue, ↓c_isDigit, ↓d_isScene, ↓d_isAny, ↓ta_pb1, ↓ta_pb0, ↓ta_pb1', ↓ta_pb0', ta_lt, ta_nlt, ta_le, ta_nle, ta_eq, ta_neq, ta_nne, ta_ne, gs_id, a_gd01, a_gdT, or_true, true_or, Option.bind_some, bW_some, a_gd, a_ne, a_rd, Int.toNat_natCast, m_X8_felt, ↓bd_eq (a_isPerson hP2 ⟨i1, j1⟩ hP1), hF2, Int.natCast_add, Int.natCast_one]
          · simp (disch := omega) only [↓reduceIte, ↓g_nm, ↓g_jn, ↓c_within, ↓c_isIn, ↓c_isScene, ↓c_isPlace, ↓c_isCue, ↓c_isDigit, ↓d_isScene, ↓d_isAny, ↓ta_pb1, ↓ta_pb0, ↓ta_pb1', ↓ta_pb0', ta_lt, ta_nlt, ta_le, ta_nle, ta_eq, ta_neq, ta_nne, ta_ne, gs_id, a_gd01, a_gdT, or_true, true_or, Option.bind_some, bW_some, a_gd, a_ne, a_rd, Int.toNat_natCast, m_X9_felt, ↓bd_eq (b_isPerson hP3 ⟨i1, j1⟩ hP1), hF3, show Int.toNat 5 = 5 from rfl, Int.natCast_add, Int.natCast_one, show (183 + 2 * (F : Int)).toNat = 183 + 2 * F by omega, show (183 + 2 * (F : Int) + 1).toNat = 183 + 2 * F + 1 by omega]
          · skip
            obtain ⟨Mx', ex⟩ : ∃ M, M = g_wr (g_wr (g_wr Mx 10 (F) (a1)) 11 (F) (a2)) 1 (17) (((F + 1 : Nat) : Int)) := ⟨_, rfl⟩
            obtain ⟨Mm', em⟩ : ∃ M, M = g_wr (g_wr (g_wr Mm 1 (183 + 2 * F) (a1)) 1 (183 + 2 * F + 1) (a2)) 1 (5) (((F + 1 : Nat) : Int)) := ⟨_, rfl⟩
            rw [← ex, ← em]
            have cx : ∀ a : Nat, a ≠ 1 ∧ a ≠ 10 ∧ a ≠ 11 → Mx' a = Mx a := fun a ha => by rw [ex]; simp (disch := omega) only [a_cell]
            have cm : ∀ a : Nat, a ≠ 1 → Mm' a = Mm a := fun a ha => by rw [em]; simp (disch := omega) only [a_cell]
            have ne : ∀ b : Nat, b ≠ 183 + 2 * F ∧ b ≠ 183 + 2 * F + 1 ∧ b ≠ 5 → Mm' 1 b = Mm 1 b := fun b hb => by rw [em]; simp (disch := omega) only [a_ne]
            have at0 : Mm' 1 (183 + 2 * F) = a1 := by rw [em]; simp (disch := omega) only [a_rd, a_ne]
            have at1 : Mm' 1 (183 + 2 * F + 1) = a2 := by rw [em]; simp (disch := omega) only [a_rd, a_ne]
            have at2 : Mm' 1 (5) = ((F + 1 : Nat) : Int) := by rw [em]; simp (disch := omega) only [a_rd, a_ne]
            have nx : ∀ b : Nat, b ≠ 17 → Mx' 1 b = Mx 1 b := fun b hb => by rw [ex]; simp (disch := omega) only [a_ne]
            have n10 : ∀ b : Nat, b ≠ F → Mx' 10 b = Mx 10 b := fun b hb => by rw [ex]; simp (disch := omega) only [a_ne]
            have n11 : ∀ b : Nat, b ≠ F → Mx' 11 b = Mx 11 b := fun b hb => by rw [ex]; simp (disch := omega) only [a_ne]
            have xt0 : Mx' 10 (F) = a1 := by rw [ex]; simp (disch := omega) only [a_rd, a_ne]
            have xt1 : Mx' 11 (F) = a2 := by rw [ex]; simp (disch := omega) only [a_rd, a_ne]
            have xt2 : Mx' 1 (17) = ((F + 1 : Nat) : Int) := by rw [ex]; simp (disch := omega) only [a_rd, a_ne]
            clear ex em
            refine Rel_wr hr0 (k := 1) (by omega) (fun a ha => cx a (by omega)) (nx 8 (by omega)) cm ?_
            rw [cx 2 (by omega), cx 3 (by omega), cx 4 (by omega), cx 5 (by omega), cx 6 (by omega), cx 7 (by omega), cx 8 (by omega), cx 9 (by omega)]
            have hnew : ∀ i : Nat, i < F + 1 → 0 ≤ Mx' 10 i ∧ Mx' 10 i < P ∧ Mm' 1 (183 + 2 * i) = Mx' 10 i ∧ 0 ≤ Mx' 11 i ∧ Mx' 11 i ≤ 99 ∧ Mm' 1 (183 + 2 * i + 1) = Mx' 11 i := by
              intro i hi
              by_cases e : i = F
              · subst e
                rw [at0, at1, xt0, xt1]
                exact ⟨c1.1, c1.2, rfl, c2.1, c2.2, rfl⟩
              · rw [ne _ (by omega), ne _ (by omega), n10 _ (by omega), n11 _ (by omega)]
                exact hfe i (by omega)
            exact ⟨P, T, S, E, C, F + 1, ⟨hP.1, by rw [nx _ (by omega)]; exact hP.2.1, by rw [ne _ (by omega)]; exact hP.2.2⟩, ⟨hT.1, by rw [nx _ (by omega)]; exact hT.2.1, by rw [ne _ (by omega)]; exact hT.2.2⟩, ⟨by rw [nx _ (by omega)]; exact hU.1, by rw [nx _ (by omega)]; exact hU.2.1, by rw [ne _ (by omega), nx _ (by omega)]; exact hU.2.2⟩, ⟨hS.1, by rw [nx _ (by omega)]; exact hS.2.1, by rw [ne _ (by omega)]; exact hS.2.2⟩, ⟨hE.1, by rw [nx _ (by omega)]; exact hE.2⟩, ⟨hC.1, by rw [nx _ (by omega)]; exact hC.2.1, by rw [ne _ (by omega)]; exact hC.2.2⟩, ⟨by omega, xt2, at2⟩, R_snap_cg hsn (fun j hj => ne _ (by omega)) (fun q i hq hi => ne _ (by omega)) (fun i hi => ne _ (by omega)), (fun i hi => by rw [ne _ (by omega)]; exact htd i hi), (fun t ht => by rw [ne _ (by omega)]; exact hkd t ht), (fun q hq => by rw [ne _ (by omega), ne _ (by omega)]; exact hpl q hq), (fun i hi => by rw [ne _ (by omega)]; exact hro i hi), (fun c hc => by rw [ne _ (by omega)]; exact hod c hc), hos, ⟨by rw [nx _ (by omega)]; exact hsv.1, by rw [nx _ (by omega)]; exact hsv.2.1, by rw [ne _ (by omega), nx _ (by omega)]; exact hsv.2.2⟩, (fun i hi => by rw [ne _ (by omega)]; exact hlk i hi), hnew, (fun k hk => R_step_cg (by omega) hP.1 (hst k hk) (fun j a b => ne _ (by omega)) (fun q hq => ne _ (by omega)))⟩
        · refine ⟨-2, -2, Mx, Mm, ?_, ?_, rfl, st_same hr0⟩
          · simp (disch := omega) only [↓reduceIte, ↓g_nm, ↓g_jn, ↓c_within, ↓c_isIn, ↓c_isScene, ↓c_isPlace, ↓c_isCue, ↓c_isDigit, ↓d_isScene, ↓d_isAny, ↓ta_pb1, ↓ta_pb0, ↓ta_pb1', ↓ta_pb0', ta_lt, ta_nlt, ta_le, ta_nle, ta_eq, ta_neq, ta_nne, ta_ne, gs_id, a_gd01, a_gdT, or_true, true_or, Option.bind_some, bW_some, a_gd, a_ne, a_rd, Int.toNat_natCast, m_X8_felt, ↓bd_eq (a_isPerson hP2 ⟨i1, j1⟩ hP1), hF2]
          · simp (disch := omega) only [↓reduceIte, ↓g_nm, ↓g_jn, ↓c_within, ↓c_isIn, ↓c_isScene, ↓c_isPlace, ↓c_isCue, ↓c_isDigit, ↓d_isScene, ↓d_isAny, ↓ta_pb1, ↓ta_pb0, ↓ta_pb1', ↓ta_pb0', ta_lt, ta_nlt, ta_le, ta_nle, ta_eq, ta_neq, ta_nne, ta_ne, gs_id, a_gd01, a_gdT, or_true, true_or, Option.bind_some, bW_some, a_gd, a_ne, a_rd, Int.toNat_natCast, m_X9_felt, ↓bd_eq (b_isPerson hP3 ⟨i1, j1⟩ hP1), hF3, show Int.toNat 5 = 5 from rfl]
      · refine ⟨-2, -2, Mx, Mm, ?_, ?_, rfl, st_same hr0⟩
        · simp (disch := omega) only [↓reduceIte, ↓g_nm, ↓g_jn, ↓c_within, ↓c_isIn, ↓c_isScene, ↓c_isPlace, ↓c_isCue, ↓c_isDigit, ↓d_isScene, ↓d_isAny, ↓ta_pb1, ↓ta_pb0, ↓ta_pb1', ↓ta_pb0', ta_lt, ta_nlt, ta_le, ta_nle, ta_eq, ta_neq, ta_nne, ta_ne, gs_id, a_gd01, a_gdT, or_true, true_or, Option.bind_some, bW_some, a_gd, a_ne, a_rd, Int.toNat_natCast, m_X8_felt, ↓bd_eq (a_isPerson hP2 ⟨i1, j1⟩ hP1)]
        · simp (disch := omega) only [↓reduceIte, ↓g_nm, ↓g_jn, ↓c_within, ↓c_isIn, ↓c_isScene, ↓c_isPlace, ↓c_isCue, ↓c_isDigit, ↓d_isScene, ↓d_isAny, ↓ta_pb1, ↓ta_pb0, ↓ta_pb1', ↓ta_pb0', ta_lt, ta_nlt, ta_le, ta_nle, ta_eq, ta_neq, ta_nne, ta_ne, gs_id, a_gd01, a_gdT, or_true, true_or, Option.bind_some, bW_some, a_gd, a_ne, a_rd, Int.toNat_natCast, m_X9_felt, ↓bd_eq (b_isPerson hP3 ⟨i1, j1⟩ hP1)]
    · refine ⟨-2, -2, Mx, Mm, ?_, ?_, rfl, st_same hr0⟩
      · simp (disch := omega) only [↓reduceIte, ↓g_nm, ↓g_jn, ↓c_within, ↓c_isIn, ↓c_isScene, ↓c_isPlace, ↓c_isCue, ↓c_isDigit, ↓d_isScene, ↓d_isAny, ↓ta_pb1, ↓ta_pb0, ↓ta_pb1', ↓ta_pb0', ta_lt, ta_nlt, ta_le, ta_nle, ta_eq, ta_neq, ta_nne, ta_ne, gs_id, a_gd01, a_gdT, or_true, true_or, Option.bind_some, bW_some, a_gd, a_ne, a_rd, Int.toNat_natCast, m_X8_felt, ↓bd_eq (a_isPerson hP2 ⟨i1, j1⟩ hP1)]
      · simp (disch := omega) only [↓reduceIte, ↓g_nm, ↓g_jn, ↓c_within, ↓c_isIn, ↓c_isScene, ↓c_isPlace, ↓c_isCue, ↓c_isDigit, ↓d_isScene, ↓d_isAny, ↓ta_pb1, ↓ta_pb0, ↓ta_pb1', ↓ta_pb0', ta_lt, ta_nlt, ta_le, ta_nle, ta_eq, ta_neq, ta_nne, ta_ne, gs_id, a_gd01, a_gdT, or_true, true_or, Option.bind_some, bW_some, a_gd, a_ne, a_rd, Int.toNat_natCast, m_X9_felt, ↓bd_eq (b_isPerson hP3 ⟨i1, j1⟩ hP1)]
theorem st_26 : x_step_26 Rel := by
  intro n Mx Mm hr hn a1 a2 a3 a4 h1 h2 h3 h4
  have hr0 := hr
  obtain ⟨⟨P, T, S, E, C, F, hP, hT, hU, hS, hE, hC, hF, hsn, htd, hkd, hpl, hro, hod, hos, hsv, hlk, hfe, hst⟩, -⟩ := hr
  have hP1 := hP.1
  have hP2 := hP.2.1
  have hP3 := hP.2.2
  have hS1 := hS.1
  have hS2 := hS.2.1
  have hS3 := hS.2.2
  have hC1 := hC.1
  have hC2 := hC.2.1
  have hC3 := hC.2.2
  have hF1 := hF.1
  have hF2 := hF.2.1
  have hF3 := hF.2.2
  have i1 := h1.1
  have j1 := h1.2
  have i2 := h2.1
  have j2 := h2.2
  have i3 := h3.1
  have j3 := h3.2
  have i4 := h4.1
  have j4 := h4.2
  by_cases c1 : 0 ≤ a1 ∧ a1 ≤ 10
  rotate_left
  · refine ⟨0, 0, Mx, Mm, ?_, ?_, rfl, st_same hr0⟩
    · simp (disch := omega) only [↓reduceIte, ↓g_nm, ↓g_jn, ↓c_within, ↓c_isIn, ↓c_isScene, ↓c_isPlace, ↓c_isCue, ↓c_isDigit, ↓d_isScene, ↓d_isAny, ↓ta_pb1, ↓ta_pb0, ↓ta_pb1', ↓ta_pb0', ta_lt, ta_nlt, ta_le, ta_nle, ta_eq, ta_neq, ta_nne, ta_ne, gs_id, a_gd01, a_gdT, or_true, true_or, Option.bind_some, bW_some, a_gd, a_ne, a_rd, Int.toNat_natCast, m_X8_weigh]
    · simp (disch := omega) only [↓reduceIte, ↓g_nm, ↓g_jn, ↓c_within, ↓c_isIn, ↓c_isScene, ↓c_isPlace, ↓c_isCue, ↓c_isDigit, ↓d_isScene, ↓d_isAny, ↓ta_pb1, ↓ta_pb0, ↓ta_pb1', ↓ta_pb0', ta_lt, ta_nlt, ta_le, ta_nle, ta_eq, ta_neq, ta_nne, ta_ne, gs_id, a_gd01, a_gdT, or_true, true_or, Option.bind_some, bW_some, a_gd, a_ne, a_rd, Int.toNat_natCast, m_X9_weigh]
  by_cases c2 : 0 ≤ a2 ∧ a2 ≤ 10
  rotate_left
  · refine ⟨0, 0, Mx, Mm, ?_, ?_, rfl, st_same hr0⟩
    · simp (disch := omega) only [↓reduceIte, ↓g_nm, ↓g_jn, ↓c_within, ↓c_isIn, ↓c_isScene, ↓c_isPlace, ↓c_isCue, ↓c_isDigit, ↓d_isScene, ↓d_isAny, ↓ta_pb1, ↓ta_pb0, ↓ta_pb1', ↓ta_pb0', ta_lt, ta_nlt, ta_le, ta_nle, ta_eq, ta_neq, ta_nne, ta_ne, gs_id, a_gd01, a_gdT, or_true, true_or, Option.bind_some, bW_some, a_gd, a_ne, a_rd, Int.toNat_natCast, m_X8_weigh]
    · simp (disch := omega) only [↓reduceIte, ↓g_nm, ↓g_jn, ↓c_within, ↓c_isIn, ↓c_isScene, ↓c_isPlace, ↓c_isCue, ↓c_isDigit, ↓d_isScene, ↓d_isAny, ↓ta_pb1, ↓ta_pb0, ↓ta_pb1', ↓ta_pb0', ta_lt, ta_nlt, ta_le, ta_nle, ta_eq, ta_neq, ta_nne, ta_ne, gs_id, a_gd01, a_gdT, or_true, true_or, Option.bind_some, bW_some, a_gd, a_ne, a_rd, Int.toNat_natCast, m_X9_weigh]
  by_cases c3 : 0 ≤ a3 ∧ a3 ≤ 10
  rotate_left
  · refine ⟨0, 0, Mx, Mm, ?_, ?_, rfl, st_same hr0⟩
    · simp (disch := omega) only [↓reduceIte, ↓g_nm, ↓g_jn, ↓c_within, ↓c_isIn, ↓c_isScene, ↓c_isPlace, ↓c_isCue, ↓c_isDigit, ↓d_isScene, ↓d_isAny, ↓ta_pb1, ↓ta_pb0, ↓ta_pb1', ↓ta_pb0', ta_lt, ta_nlt, ta_le, ta_nle, ta_eq, ta_neq, ta_nne, ta_ne, gs_id, a_gd01, a_gdT, or_true, true_or, Option.bind_some, bW_some, a_gd, a_ne, a_rd, Int.toNat_natCast, m_X8_weigh]
    · simp (disch := omega) only [↓reduceIte, ↓g_nm, ↓g_jn, ↓c_within, ↓c_isIn, ↓c_isScene, ↓c_isPlace, ↓c_isCue, ↓c_isDigit, ↓d_isScene, ↓d_isAny, ↓ta_pb1, ↓ta_pb0, ↓ta_pb1', ↓ta_pb0', ta_lt, ta_nlt, ta_le, ta_nle, ta_eq, ta_neq, ta_nne, ta_ne, gs_id, a_gd01, a_gdT, or_true, true_or, Option.bind_some, bW_some, a_gd, a_ne, a_rd, Int.toNat_natCast, m_X9_weigh]
  by_cases c4 : 0 ≤ a4 ∧ a4 ≤ 10
  rotate_left
  · refine ⟨0, 0, Mx, Mm, ?_, ?_, rfl, st_same hr0⟩
    · simp (disch := omega) only [↓reduceIte, ↓g_nm, ↓g_jn, ↓c_within, ↓c_isIn, ↓c_isScene, ↓c_isPlace, ↓c_isCue, ↓c_isDigit, ↓d_isScene, ↓d_isAny, ↓ta_pb1, ↓ta_pb0, ↓ta_pb1', ↓ta_pb0', ta_lt, ta_nlt, ta_le, ta_nle, ta_eq, ta_neq, ta_nne, ta_ne, gs_id, a_gd01, a_gdT, or_true, true_or, Option.bind_some, bW_some, a_gd, a_ne, a_rd, Int.toNat_natCast, m_X8_weigh]
    · simp (disch := omega) only [↓reduceIte, ↓g_nm, ↓g_jn, ↓c_within, ↓c_isIn, ↓c_isScene, ↓c_isPlace, ↓c_isCue, ↓c_isDigit, ↓d_isScene, ↓d_isAny, ↓ta_pb1, ↓ta_pb0, ↓ta_pb1', ↓ta_pb0', ta_lt, ta_nlt, ta_le, ta_nle, ta_eq, ta_neq, ta_nne, ta_ne, gs_id, a_gd01, a_gdT, or_true, true_or, Option.bind_some, bW_some, a_gd, a_ne, a_rd, Int.toNat_natCast, m_X9_weigh]
  by_cases c5 : a1 + a2 + a3 + a4 = 10
  rotate_left
  · refine ⟨0, 0, Mx, Mm, ?_, ?_, rfl, st_same hr0⟩
    · simp (disch := omega) only [↓reduceIte, ↓g_nm, ↓g_jn, ↓c_within, ↓c_isIn, ↓c_isScene, ↓c_isPlace, ↓c_isCue, ↓c_isDigit, ↓d_isScene, ↓d_isAny, ↓ta_pb1, ↓ta_pb0, ↓ta_pb1', ↓ta_pb0', ta_lt, ta_nlt, ta_le, ta_nle, ta_eq, ta_neq, ta_nne, ta_ne, gs_id, a_gd01, a_gdT, or_true, true_or, Option.bind_some, bW_some, a_gd, a_ne, a_rd, Int.toNat_natCast, m_X8_weigh]
    · simp (disch := omega) only [↓reduceIte, ↓g_nm, ↓g_jn, ↓c_within, ↓c_isIn, ↓c_isScene, ↓c_isPlace, ↓c_isCue, ↓c_isDigit, ↓d_isScene, ↓d_isAny, ↓ta_pb1, ↓ta_pb0, ↓ta_pb1', ↓ta_pb0', ta_lt, ta_nlt, ta_le, ta_nle, ta_eq, ta_neq, ta_nne, ta_ne, gs_id, a_gd01, a_gdT, or_true, true_or, Option.bind_some, bW_some, a_gd, a_ne, a_rd, Int.toNat_natCast, m_X9_weigh]
  refine ⟨1, 1, g_wr (g_wr (g_wr (g_wr Mx 8 (0) (a1)) 8 (1) (a2)) 8 (2) (a3)) 8 (3) (a4), g_wr (g_wr (g_wr (g_wr Mm 1 (138) (a1)) 1 (139) (a2)) 1 (140) (a3)) 1 (141) (a4), ?_, ?_, rfl, ?_⟩
  · simp (disch := omega) only [↓reduceIte, ↓g_nm, ↓g_jn, ↓c_within, ↓c_isIn, ↓c_isScene, ↓c_isPlace, ↓c_isCue, ↓c_isDigit, ↓d_isScene, ↓d_isAny, ↓ta_pb1, ↓ta_pb0, ↓ta_pb1', ↓ta_pb0', ta_lt, ta_nlt, ta_le, ta_nle, ta_eq, ta_neq, ta_nne, ta_ne, gs_id, a_gd01, a_gdT, or_true, true_or, Option.bind_some, bW_some, a_gd, a_ne, a_rd, Int.toNat_natCast, m_X8_weigh, show Int.toNat 0 = 0 from rfl, show Int.toNat 1 = 1 from rfl, show Int.toNat 2 = 2 from rfl, show Int.toNat 3 = 3 from rfl, show Int.toNat 138 = 138 from rfl, show Int.toNat 139 = 139 from rfl, show Int.toNat 140 = 140 from rfl, show Int.toNat 141 = 141 from rfl]
  · simp (disch := omega) only [↓reduceIte, ↓g_nm, ↓g_jn, ↓c_within, ↓c_isIn, ↓c_isScene, ↓c_isPlace, ↓c_isCue, ↓c_isDigit, ↓d_isScene, ↓d_isAny, ↓ta_pb1, ↓ta_pb0, ↓ta_pb1', ↓ta_pb0', ta_lt, ta_nlt, ta_le, ta_nle, ta_eq, ta_neq, ta_nne, ta_ne, gs_id, a_gd01, a_gdT, or_true, true_or, Option.bind_some, bW_some, a_gd, a_ne, a_rd, Int.toNat_natCast, m_X9_weigh, show Int.toNat 0 = 0 from rfl, show Int.toNat 1 = 1 from rfl, show Int.toNat 2 = 2 from rfl, show Int.toNat 3 = 3 from rfl, show Int.toNat 138 = 138 from rfl, show Int.toNat 139 = 139 from rfl, show Int.toNat 140 = 140 from rfl, show Int.toNat 141 = 141 from rfl]
  · skip
    obtain ⟨Mx', ex⟩ : ∃ M, M = g_wr (g_wr (g_wr (g_wr Mx 8 (0) (a1)) 8 (1) (a2)) 8 (2) (a3)) 8 (3) (a4) := ⟨_, rfl⟩
    obtain ⟨Mm', em⟩ : ∃ M, M = g_wr (g_wr (g_wr (g_wr Mm 1 (138) (a1)) 1 (139) (a2)) 1 (140) (a3)) 1 (141) (a4) := ⟨_, rfl⟩
    rw [← ex, ← em]
    have cx : ∀ a : Nat, a ≠ 8 → Mx' a = Mx a := fun a ha => by rw [ex]; simp (disch := omega) only [a_cell]
    have cm : ∀ a : Nat, a ≠ 1 → Mm' a = Mm a := fun a ha => by rw [em]; simp (disch := omega) only [a_cell]
    have ne : ∀ b : Nat, b ≠ 138 ∧ b ≠ 139 ∧ b ≠ 140 ∧ b ≠ 141 → Mm' 1 b = Mm 1 b := fun b hb => by rw [em]; simp (disch := omega) only [a_ne]
    have at0 : Mm' 1 (138) = a1 := by rw [em]; simp (disch := omega) only [a_rd, a_ne]
    have at1 : Mm' 1 (139) = a2 := by rw [em]; simp (disch := omega) only [a_rd, a_ne]
    have at2 : Mm' 1 (140) = a3 := by rw [em]; simp (disch := omega) only [a_rd, a_ne]
    have at3 : Mm' 1 (141) = a4 := by rw [em]; simp (disch := omega) only [a_rd, a_ne]
    have n8 : ∀ b : Nat, b ≠ 0 ∧ b ≠ 1 ∧ b ≠ 2 ∧ b ≠ 3 → Mx' 8 b = Mx 8 b := fun b hb => by rw [ex]; simp (disch := omega) only [a_ne]
    have xt0 : Mx' 8 (0) = a1 := by rw [ex]; simp (disch := omega) only [a_rd, a_ne]
    have xt1 : Mx' 8 (1) = a2 := by rw [ex]; simp (disch := omega) only [a_rd, a_ne]
    have xt2 : Mx' 8 (2) = a3 := by rw [ex]; simp (disch := omega) only [a_rd, a_ne]
    have xt3 : Mx' 8 (3) = a4 := by rw [ex]; simp (disch := omega) only [a_rd, a_ne]
    clear ex em
    refine Rel_wr hr0 (k := 1) (by omega) (fun a ha => cx a (by omega)) (by rw [cx 1 (by omega)]) cm ?_
    rw [cx 1 (by omega), cx 2 (by omega), cx 3 (by omega), cx 4 (by omega), cx 5 (by omega), cx 6 (by omega), cx 7 (by omega), cx 9 (by omega), cx 10 (by omega), cx 11 (by omega)]
    have hnew : ∀ c : Nat, c < 4 → 0 ≤ Mx' 8 c ∧ Mx' 8 c ≤ 10 ∧ Mm' 1 (138 + c) = Mx' 8 c := by
      intro c hc
      have h : c = 0 ∨ c = 1 ∨ c = 2 ∨ c = 3 := by omega
      rcases h with rfl | rfl | rfl | rfl
      · rw [xt0]; exact ⟨c1.1, c1.2, at0⟩
      · rw [xt1]; exact ⟨c2.1, c2.2, at1⟩
      · rw [xt2]; exact ⟨c3.1, c3.2, at2⟩
      · rw [xt3]; exact ⟨c4.1, c4.2, at3⟩
    exact ⟨P, T, S, E, C, F, ⟨hP.1, hP.2.1, by rw [ne _ (by omega)]; exact hP.2.2⟩, ⟨hT.1, hT.2.1, by rw [ne _ (by omega)]; exact hT.2.2⟩, ⟨hU.1, hU.2.1, by rw [ne _ (by omega)]; exact hU.2.2⟩, ⟨hS.1, hS.2.1, by rw [ne _ (by omega)]; exact hS.2.2⟩, ⟨hE.1, hE.2⟩, ⟨hC.1, hC.2.1, by rw [ne _ (by omega)]; exact hC.2.2⟩, ⟨hF.1, hF.2.1, by rw [ne _ (by omega)]; exact hF.2.2⟩, R_snap_cg hsn (fun j hj => ne _ (by omega)) (fun q i hq hi => ne _ (by omega)) (fun i hi => ne _ (by omega)), (fun i hi => by rw [ne _ (by omega)]; exact htd i hi), (fun t ht => by rw [ne _ (by omega)]; exact hkd t ht), (fun q hq => by rw [ne _ (by omega), ne _ (by omega)]; exact hpl q hq), (fun i hi => by rw [ne _ (by omega)]; exact hro i hi), hnew, by rw [xt0, xt1, xt2, xt3]; omega, ⟨hsv.1, hsv.2.1, by rw [ne _ (by omega)]; exact hsv.2.2⟩, (fun i hi => by rw [ne _ (by omega)]; exact hlk i hi), (fun i hi => by rw [ne _ (by omega), ne _ (by omega)]; exact hfe i hi), (fun k hk => R_step_cg (by omega) hP.1 (hst k hk) (fun j a b => ne _ (by omega)) (fun q hq => ne _ (by omega)))⟩
