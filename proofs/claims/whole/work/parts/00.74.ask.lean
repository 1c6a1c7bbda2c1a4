/-! asking -/
theorem st_43 : x_step_43 Rel := by
  intro n Mx Mm hr hn
  have hr0 := hr
  obtain ⟨⟨P, T, S, E, C, F, hP, hT, hU, hS, hE, hC, hF, hsn, htd, hkd, hpl, hro, hod, hos, hsv, hlk, hfe, hst⟩, -⟩ := hr
  have hP1 := hP.1
  have hP2 := hP.2.1
  have hP3 := hP.2.2
  have hS1 := hS.1
  have hS2 := hS.2.1
  have hS3 := hS.2.2
  have hC1 := hC.1
  have hC2 := hC.2.1
  have hC3 := hC.2.2
  have hF1 := hF.1
  have hF2 := hF.2.1
  have hF3 := hF.2.2
  obtain ⟨D, d1, d2, d3, ⟨d4, d5, d6⟩, ⟨d7, d8, d9⟩, d10, d11, d12, d13, d14⟩ := hsn
  obtain ⟨v, -, k1, k2⟩ := p_front (M := Mx) (W := Mm) hP1 hP2 hP3 (fun q hq => by have := d13 q hq; exact ⟨this.1, this.2.1, this.2.2.1⟩) (fun q hq => by have := hpl q hq; exact ⟨this.1, this.2.1, this.2.2.1⟩)
  exact ⟨v, v, Mx, Mm, ⟨by unfold m_X8_front; rw [k1]; rfl, rfl⟩, ⟨k2, rfl⟩, rfl, st_same hr0⟩
theorem st_17 : x_step_17 Rel := by
  intro n Mx Mm hr hn a1 h1
  have hr0 := hr
  have g1 := gs_id h1.1 h1.2
  obtain ⟨⟨P, T, S, E, C, F, hP, hT, hU, hS, hE, hC, hF, hsn, htd, hkd, hpl, hro, hod, hos, hsv, hlk, hfe, hst⟩, -⟩ := hr
  have hP1 := hP.1
  have hP2 := hP.2.1
  have hP3 := hP.2.2
  have hS1 := hS.1
  have hS2 := hS.2.1
  have hS3 := hS.2.2
  have hC1 := hC.1
  have hC2 := hC.2.1
  have hC3 := hC.2.2
  have hF1 := hF.1
  have hF2 := hF.2.1
  have hF3 := hF.2.2
  obtain ⟨D, d1, d2, d3, ⟨d4, d5, d6⟩, ⟨d7, d8, d9⟩, d10, d11, d12, d13, d14⟩ := hsn
  have key : ∃ r, m_X8_is a1 Mx = some r ∧ m_X9_is a1 Mm = some r := by
    obtain ⟨v, -, k1, k2⟩ := p_seen (M := Mx) (W := Mm) hP1 hP2 hP3 (fun q hq => by have := d13 q hq; exact ⟨this.1, this.2.1, this.2.2.1⟩)
    by_cases c0 : a1 = 0
    · exact ⟨Mx 2 41, by simp (disch := omega) only [↓reduceIte, ↓g_nm, ↓g_jn, ↓c_within, ↓c_isIn, ↓c_isScene, ↓c_isPlace, ↓c_isCue, ↓c_isDigit, ↓d_isScene, ↓d_isAny, ↓ta_pb1, ↓ta_pb0, ↓ta_pb1', ↓ta_pb0', ta_lt, ta_nlt, ta_le, ta_nle, ta_eq, ta_neq, ta_nne, ta_ne, gs_id, a_gd01, a_gdT, or_true, true_or, Option.bind_some, bW_some, a_gd, a_ne, a_rd, Int.toNat_natCast, m_X8_is, show Int.toNat 0 = 0 from rfl, show Int.toNat 4 = 4 from rfl, show Int.toNat 6 = 6 from rfl, show Int.toNat 7 = 7 from rfl, show Int.toNat 8 = 8 from rfl, show Int.toNat 9 = 9 from rfl, show Int.toNat 41 = 41 from rfl, show Int.toNat 42 = 42 from rfl, show Int.toNat 40 = 40 from rfl], by simp (disch := omega) only [↓reduceIte, ↓g_nm, ↓g_jn, ↓c_within, ↓c_isIn, ↓c_isScene, ↓c_isPlace, ↓c_isCue, ↓c_isDigit, ↓d_isScene, ↓d_isAny, ↓ta_pb1, ↓ta_pb0, ↓ta_pb1', ↓ta_pb0', ta_lt, ta_nlt, ta_le, ta_nle, ta_eq, ta_neq, ta_nne, ta_ne, gs_id, a_gd01, a_gdT, or_true, true_or, Option.bind_some, bW_some, a_gd, a_ne, a_rd, Int.toNat_natCast, m_X9_is, show Int.toNat 0 = 0 from rfl, show Int.toNat 4 = 4 from rfl, show Int.toNat 6 = 6 from rfl, show Int.toNat 7 = 7 from rfl, show Int.toNat 8 = 8 from rfl, show Int.toNat 9 = 9 from rfl, show Int.toNat 41 = 41 from rfl, show Int.toNat 42 = 42 from rfl, show Int.toNat 40 = 40 from rfl]; rw [d2]; exact congrArg some d3⟩
    · by_cases c1 : a1 = 1
      · exact ⟨Mx 2 42, by simp (disch := omega) only [↓reduceIte, ↓g_nm, ↓g_jn, ↓c_within, ↓c_isIn, ↓c_isScene, ↓c_isPlace, ↓c_isCue, ↓c_isDigit, ↓d_isScene, ↓d_isAny, ↓ta_pb1, ↓ta_pb0, ↓ta_pb1', ↓ta_pb0', ta_lt, ta_nlt, ta_le, ta_nle, ta_eq, ta_neq, ta_nne, ta_ne, gs_id, a_gd01, a_gdT, or_true, true_or, Option.bind_some, bW_some, a_gd, a_ne, a_rd, Int.toNat_natCast, m_X8_is, show Int.toNat 0 = 0 from rfl, show Int.toNat 4 = 4 from rfl, show Int.toNat 6 = 6 from rfl, show Int.toNat 7 = 7 from rfl, show Int.toNat 8 = 8 from rfl, show Int.toNat 9 = 9 from rfl, show Int.toNat 41 = 41 from rfl, show Int.toNat 42 = 42 from rfl, show Int.toNat 40 = 40 from rfl], by simp (disch := omega) only [↓reduceIte, ↓g_nm, ↓g_jn, ↓c_within, ↓c_isIn, ↓c_isScene, ↓c_isPlace, ↓c_isCue, ↓c_isDigit, ↓d_isScene, ↓d_isAny, ↓ta_pb1, ↓ta_pb0, ↓ta_pb1', ↓ta_pb0', ta_lt, ta_nlt, ta_le, ta_nle, ta_eq, ta_neq, ta_nne, ta_ne, gs_id, a_gd01, a_gdT, or_true, true_or, Option.bind_some, bW_some, a_gd, a_ne, a_rd, Int.toNat_natCast, m_X9_is, show Int.toNat 0 = 0 from rfl, show Int.toNat 4 = 4 from rfl, show Int.toNat 6 = 6 from rfl, show Int.toNat 7 = 7 from rfl, show Int.toNat 8 = 8 from rfl, show Int.toNat 9 = 9 from rfl, show Int.toNat 41 = 41 from rfl, show Int.toNat 42 = 42 from rfl, show Int.toNat 40 = 40 from rfl]; exact congrArg some d6⟩
      · by_cases c2 : a1 = 2
        · exact ⟨v, by simp (disch := omega) only [↓reduceIte, ↓g_nm, ↓g_jn, ↓c_within, ↓c_isIn, ↓c_isScene, ↓c_isPlace, ↓c_isCue, ↓c_isDigit, ↓d_isScene, ↓d_isAny, ↓ta_pb1, ↓ta_pb0, ↓ta_pb1', ↓ta_pb0', ta_lt, ta_nlt, ta_le, ta_nle, ta_eq, ta_neq, ta_nne, ta_ne, gs_id, a_gd01, a_gdT, or_true, true_or, Option.bind_some, bW_some, a_gd, a_ne, a_rd, Int.toNat_natCast, m_X8_is, k1, show Int.toNat 0 = 0 from rfl, show Int.toNat 4 = 4 from rfl, show Int.toNat 6 = 6 from rfl, show Int.toNat 7 = 7 from rfl, show Int.toNat 8 = 8 from rfl, show Int.toNat 9 = 9 from rfl, show Int.toNat 41 = 41 from rfl, show Int.toNat 42 = 42 from rfl, show Int.toNat 40 = 40 from rfl], by simp (disch := omega) only [↓reduceIte, ↓g_nm, ↓g_jn, ↓c_within, ↓c_isIn, ↓c_isScene, ↓c_isPlace, ↓c_isCue, ↓c_isDigit, ↓d_isScene, ↓d_isAny, ↓ta_pb1, ↓ta_pb0, ↓ta_pb1', ↓ta_pb0', ta_lt, ta_nlt, ta_le, ta_nle, ta_eq, ta_neq, ta_nne, ta_ne, gs_id, a_gd01, a_gdT, or_true, true_or, Option.bind_some, bW_some, a_gd, a_ne, a_rd, Int.toNat_natCast, m_X9_is, k2, show Int.toNat 0 = 0 from rfl, show Int.toNat 4 = 4 from rfl, show Int.toNat 6 = 6 from rfl, show Int.toNat 7 = 7 from rfl, show Int.toNat 8 = 8 from rfl, show Int.toNat 9 = 9 from rfl, show Int.toNat 41 = 41 from rfl, show Int.toNat 42 = 42 from rfl, show Int.toNat 40 = 40 from rfl]⟩
        · by_cases c3 : a1 = 3
          · exact ⟨Mx 2 40, by simp (disch := omega) only [↓reduceIte, ↓g_nm, ↓g_jn, ↓c_within, ↓c_isIn, ↓c_isScene, ↓c_isPlace, ↓c_isCue, ↓c_isDigit, ↓d_isScene, ↓d_isAny, ↓ta_pb1, ↓ta_pb0, ↓ta_pb1', ↓ta_pb0', ta_lt, ta_nlt, ta_le, ta_nle, ta_eq, ta_neq, ta_nne, ta_ne, gs_id, a_gd01, a_gdT, or_true, true_or, Option.bind_some, bW_some, a_gd, a_ne, a_rd, Int.toNat_natCast, m_X8_is, show Int.toNat 0 = 0 from rfl, show Int.toNat 4 = 4 from rfl, show Int.toNat 6 = 6 from rfl, show Int.toNat 7 = 7 from rfl, show Int.toNat 8 = 8 from rfl, show Int.toNat 9 = 9 from rfl, show Int.toNat 41 = 41 from rfl, show Int.toNat 42 = 42 from rfl, show Int.toNat 40 = 40 from rfl], by simp (disch := omega) only [↓reduceIte, ↓g_nm, ↓g_jn, ↓c_within, ↓c_isIn, ↓c_isScene, ↓c_isPlace, ↓c_isCue, ↓c_isDigit, ↓d_isScene, ↓d_isAny, ↓ta_pb1, ↓ta_pb0, ↓ta_pb1', ↓ta_pb0', ta_lt, ta_nlt, ta_le, ta_nle, ta_eq, ta_neq, ta_nne, ta_ne, gs_id, a_gd01, a_gdT, or_true, true_or, Option.bind_some, bW_some, a_gd, a_ne, a_rd, Int.toNat_natCast, m_X9_is, show Int.toNat 0 = 0 from rfl, show Int.toNat 4 = 4 from rfl, show Int.toNat 6 = 6 from rfl, show Int.toNat 7 = 7 from rfl, show Int.toNat 8 = 8 from rfl, show Int.toNat 9 = 9 from rfl, show Int.toNat 41 = 41 from rfl, show Int.toNat 42 = 42 from rfl, show Int.toNat 40 = 40 from rfl]; exact congrArg some d9⟩
          · exact ⟨-2, by simp (disch := omega) only [↓reduceIte, ↓g_nm, ↓g_jn, ↓c_within, ↓c_isIn, ↓c_isScene, ↓c_isPlace, ↓c_isCue, ↓c_isDigit, ↓d_isScene, ↓d_isAny, ↓ta_pb1, ↓ta_pb0, ↓ta_pb1', ↓ta_pb0', ta_lt, ta_nlt, ta_le, ta_nle, ta_eq, ta_neq, ta_nne, ta_ne, gs_id, a_gd01, a_gdT, or_true, true_or, Option.bind_some, bW_some, a_gd, a_ne, a_rd, Int.toNat_natCast, m_X8_is, show Int.toNat 0 = 0 from rfl, show Int.toNat 4 = 4 from rfl, show Int.toNat 6 = 6 from rfl, show Int.toNat 7 = 7 from rfl, show Int.toNat 8 = 8 from rfl, show Int.toNat 9 = 9 from rfl, show Int.toNat 41 = 41 from rfl, show Int.toNat 42 = 42 from rfl, show Int.toNat 40 = 40 from rfl], by simp (disch := omega) only [↓reduceIte, ↓g_nm, ↓g_jn, ↓c_within, ↓c_isIn, ↓c_isScene, ↓c_isPlace, ↓c_isCue, ↓c_isDigit, ↓d_isScene, ↓d_isAny, ↓ta_pb1, ↓ta_pb0, ↓ta_pb1', ↓ta_pb0', ta_lt, ta_nlt, ta_le, ta_nle, ta_eq, ta_neq, ta_nne, ta_ne, gs_id, a_gd01, a_gdT, or_true, true_or, Option.bind_some, bW_some, a_gd, a_ne, a_rd, Int.toNat_natCast, m_X9_is, show Int.toNat 0 = 0 from rfl, show Int.toNat 4 = 4 from rfl, show Int.toNat 6 = 6 from rfl, show Int.toNat 7 = 7 from rfl, show Int.toNat 8 = 8 from rfl, show Int.toNat 9 = 9 from rfl, show Int.toNat 41 = 41 from rfl, show Int.toNat 42 = 42 from rfl, show Int.toNat 40 = 40 from rfl]⟩
  obtain ⟨r, k1, k2⟩ := key
  exact ⟨r, r, Mx, Mm, ⟨k1, rfl⟩, ⟨k2, rfl⟩, rfl, st_same hr0⟩
theorem p_book {Mx Mm : g_M} {D : Nat} (hD : D ≤ 9999) (d2 : Mx 2 41 = D) (d10 : Mm 1 9 = ((min 30 D : Nat) : Int)) (d14 : R_book D (Mx 2) (fun i => Mm 1 (3349 + i))) (a1 a2 : Int) (h1 : -2147483648 ≤ a1 ∧ a1 < 2147483648) (h2 : -2147483648 ≤ a2 ∧ a2 < 2147483648) : ∃ r, m_X8_book a1 a2 Mx = some r ∧ m_X9_book a1 a2 Mm = some r := by
  obtain ⟨i1, j1⟩ := h1
  obtain ⟨i2, j2⟩ := h2
  have hw := p_written (M := Mx) d2 hD
  obtain ⟨m, hm⟩ : ∃ m, m = min 30 D := ⟨_, rfl⟩
  rw [← hm] at hw d10
  by_cases e : a1 = -1
  · exact ⟨m, by simp (disch := omega) only [↓reduceIte, ↓g_nm, ↓g_jn, ↓c_within, ↓c_isIn, ↓c_isScene, ↓c_isPlace, ↓c_isCue, ↓c_isDigit, ↓d_isScene, ↓d_isAny, ↓ta_pb1, ↓ta_pb0, ↓ta_pb1', ↓ta_pb0', ta_lt, ta_nlt, ta_le, ta_nle, ta_eq, ta_neq, ta_nne, ta_ne, gs_id, a_gd01, a_gdT, or_true, true_or, Option.bind_some, bW_some, a_gd, a_ne, a_rd, Int.toNat_natCast, m_X8_book, hw, show Int.toNat 0 = 0 from rfl, show Int.toNat 4 = 4 from rfl, show Int.toNat 6 = 6 from rfl, show Int.toNat 7 = 7 from rfl, show Int.toNat 8 = 8 from rfl, show Int.toNat 9 = 9 from rfl, show Int.toNat 41 = 41 from rfl, show Int.toNat 42 = 42 from rfl, show Int.toNat 40 = 40 from rfl], by simp (disch := omega) only [↓reduceIte, ↓g_nm, ↓g_jn, ↓c_within, ↓c_isIn, ↓c_isScene, ↓c_isPlace, ↓c_isCue, ↓c_isDigit, ↓d_isScene, ↓d_isAny, ↓ta_pb1, ↓ta_pb0, ↓ta_pb1', ↓ta_pb0', ta_lt, ta_nlt, ta_le, ta_nle, ta_eq, ta_neq, ta_nne, ta_ne, gs_id, a_gd01, a_gdT, or_true, true_or, Option.bind_some, bW_some, a_gd, a_ne, a_rd, Int.toNat_natCast, m_X9_book, d10, show Int.toNat 0 = 0 from rfl, show Int.toNat 4 = 4 from rfl, show Int.toNat 6 = 6 from rfl, show Int.toNat 7 = 7 from rfl, show Int.toNat 8 = 8 from rfl, show Int.toNat 9 = 9 from rfl, show Int.toNat 41 = 41 from rfl, show Int.toNat 42 = 42 from rfl, show Int.toNat 40 = 40 from rfl]⟩
  · by_cases c : 0 ≤ a1 ∧ a1 < m
    rotate_left
    · exact ⟨-2, by simp (disch := omega) only [↓reduceIte, ↓g_nm, ↓g_jn, ↓c_within, ↓c_isIn, ↓c_isScene, ↓c_isPlace, ↓c_isCue, ↓c_isDigit, ↓d_isScene, ↓d_isAny, ↓ta_pb1, ↓ta_pb0, ↓ta_pb1', ↓ta_pb0', ta_lt, ta_nlt, ta_le, ta_nle, ta_eq, ta_neq, ta_nne, ta_ne, gs_id, a_gd01, a_gdT, or_true, true_or, Option.bind_some, bW_some, a_gd, a_ne, a_rd, Int.toNat_natCast, m_X8_book, hw, show Int.toNat 0 = 0 from rfl, show Int.toNat 4 = 4 from rfl, show Int.toNat 6 = 6 from rfl, show Int.toNat 7 = 7 from rfl, show Int.toNat 8 = 8 from rfl, show Int.toNat 9 = 9 from rfl, show Int.toNat 41 = 41 from rfl, show Int.toNat 42 = 42 from rfl, show Int.toNat 40 = 40 from rfl], by simp (disch := omega) only [↓reduceIte, ↓g_nm, ↓g_jn, ↓c_within, ↓c_isIn, ↓c_isScene, ↓c_isPlace, ↓c_isCue, ↓c_isDigit, ↓d_isScene, ↓d_isAny, ↓ta_pb1, ↓ta_pb0, ↓ta_pb1', ↓ta_pb0', ta_lt, ta_nlt, ta_le, ta_nle, ta_eq, ta_neq, ta_nne, ta_ne, gs_id, a_gd01, a_gdT, or_true, true_or, Option.bind_some, bW_some, a_gd, a_ne, a_rd, Int.toNat_natCast, m_X9_book, d10, show Int.toNat 0 = 0 from rfl, show Int.toNat 4 = 4 from rfl, show Int.toNat 6 = 6 from rfl, show Int.toNat 7 = 7 from rfl, show Int.toNat 8 = 8 from rfl, show Int.toNat 9 = 9 from rfl, show Int.toNat 41 = 41 from rfl, show Int.toNat 42 = 42 from rfl, show Int.toNat 40 = 40 from rfl]⟩
    · obtain ⟨i, rfl⟩ : ∃ i : Nat, a1 = i := ⟨a1.toNat, by omega⟩
      obtain ⟨b1, b2, ⟨b3, b4⟩, b5, b6, b7⟩ := d14 i (by omega)
      dsimp only at b1 b2
      rw [← hm] at b1 b2 b3 b4 b5 b6 b7
      obtain ⟨t, ht⟩ : ∃ t, t = D - m + i := ⟨_, rfl⟩
      rw [← ht] at b1 b2 b3 b4 b5 b6 b7
      have et : (D : Int) - m + i = t := by omega
      have em : (t : Int) % 30 = ((t % 30 : Nat) : Int) := by omega
      obtain ⟨u, hu⟩ : ∃ u, u = t % 30 := ⟨_, rfl⟩
      rw [← hu] at em b2 b3 b4 b5 b6 b7
      have eu : u < 30 := by omega
      have r1 : (43 + (u : Int)).toNat = 43 + u := by omega
      have r2 : (73 + (u : Int)).toNat = 73 + u := by omega
      have r3 : (103 + (u : Int)).toNat = 103 + u := by omega
      have r4 : (3349 + 2 * (i : Int)).toNat = 3349 + 2 * i := by omega
      have r5 : (3349 + 2 * (i : Int) + 1).toNat = 3349 + (2 * i + 1) := by omega
      by_cases c0 : a2 = 0
      · exact ⟨t, by simp (disch := omega) only [↓reduceIte, ↓g_nm, ↓g_jn, ↓c_within, ↓c_isIn, ↓c_isScene, ↓c_isPlace, ↓c_isCue, ↓c_isDigit, ↓d_isScene, ↓d_isAny, ↓ta_pb1, ↓ta_pb0, ↓ta_pb1', ↓ta_pb0', ta_lt, ta_nlt, ta_le, ta_nle, ta_eq, ta_neq, ta_nne, ta_ne, gs_id, a_gd01, a_gdT, or_true, true_or, Option.bind_some, bW_some, a_gd, a_ne, a_rd, Int.toNat_natCast, m_X8_book, hw, d2, et, show Int.toNat 0 = 0 from rfl, show Int.toNat 4 = 4 from rfl, show Int.toNat 6 = 6 from rfl, show Int.toNat 7 = 7 from rfl, show Int.toNat 8 = 8 from rfl, show Int.toNat 9 = 9 from rfl, show Int.toNat 41 = 41 from rfl, show Int.toNat 42 = 42 from rfl, show Int.toNat 40 = 40 from rfl], by simp (disch := omega) only [↓reduceIte, ↓g_nm, ↓g_jn, ↓c_within, ↓c_isIn, ↓c_isScene, ↓c_isPlace, ↓c_isCue, ↓c_isDigit, ↓d_isScene, ↓d_isAny, ↓ta_pb1, ↓ta_pb0, ↓ta_pb1', ↓ta_pb0', ta_lt, ta_nlt, ta_le, ta_nle, ta_eq, ta_neq, ta_nne, ta_ne, gs_id, a_gd01, a_gdT, or_true, true_or, Option.bind_some, bW_some, a_gd, a_ne, a_rd, Int.toNat_natCast, m_X9_book, d10, r4, r5, b1, b2, show Int.toNat 0 = 0 from rfl, show Int.toNat 4 = 4 from rfl, show Int.toNat 6 = 6 from rfl, show Int.toNat 7 = 7 from rfl, show Int.toNat 8 = 8 from rfl, show Int.toNat 9 = 9 from rfl, show Int.toNat 41 = 41 from rfl, show Int.toNat 42 = 42 from rfl, show Int.toNat 40 = 40 from rfl]⟩
      · by_cases c1 : a2 = 1
        · exact ⟨Mx 2 (43 + u), by simp (disch := omega) only [↓reduceIte, ↓g_nm, ↓g_jn, ↓c_within, ↓c_isIn, ↓c_isScene, ↓c_isPlace, ↓c_isCue, ↓c_isDigit, ↓d_isScene, ↓d_isAny, ↓ta_pb1, ↓ta_pb0, ↓ta_pb1', ↓ta_pb0', ta_lt, ta_nlt, ta_le, ta_nle, ta_eq, ta_neq, ta_nne, ta_ne, gs_id, a_gd01, a_gdT, or_true, true_or, Option.bind_some, bW_some, a_gd, a_ne, a_rd, Int.toNat_natCast, m_X8_book, hw, d2, et, a_gdp, g_rem_nn, em, r1, show Int.toNat 0 = 0 from rfl, show Int.toNat 4 = 4 from rfl, show Int.toNat 6 = 6 from rfl, show Int.toNat 7 = 7 from rfl, show Int.toNat 8 = 8 from rfl, show Int.toNat 9 = 9 from rfl, show Int.toNat 41 = 41 from rfl, show Int.toNat 42 = 42 from rfl, show Int.toNat 40 = 40 from rfl], by simp (disch := omega) only [↓reduceIte, ↓g_nm, ↓g_jn, ↓c_within, ↓c_isIn, ↓c_isScene, ↓c_isPlace, ↓c_isCue, ↓c_isDigit, ↓d_isScene, ↓d_isAny, ↓ta_pb1, ↓ta_pb0, ↓ta_pb1', ↓ta_pb0', ta_lt, ta_nlt, ta_le, ta_nle, ta_eq, ta_neq, ta_nne, ta_ne, gs_id, a_gd01, a_gdT, or_true, true_or, Option.bind_some, bW_some, a_gd, a_ne, a_rd, Int.toNat_natCast, m_X9_book, d10, r4, r5, b1, b2, a_gdp, g_div_nn, show Int.toNat 0 = 0 from rfl, show Int.toNat 4 = 4 from rfl, show Int.toNat 6 = 6 from rfl, show Int.toNat 7 = 7 from rfl, show Int.toNat 8 = 8 from rfl, show Int.toNat 9 = 9 from rfl, show Int.toNat 41 = 41 from rfl, show Int.toNat 42 = 42 from rfl, show Int.toNat 40 = 40 from rfl]; apply congrArg; omega⟩
        · by_cases c2 : a2 = 2
          · exact ⟨Mx 2 (73 + u), by simp (disch := omega) only [↓reduceIte, ↓g_nm, ↓g_jn, ↓c_within, ↓c_isIn, ↓c_isScene, ↓c_isPlace, ↓c_isCue, ↓c_isDigit, ↓d_isScene, ↓d_isAny, ↓ta_pb1, ↓ta_pb0, ↓ta_pb1', ↓ta_pb0', ta_lt, ta_nlt, ta_le, ta_nle, ta_eq, ta_neq, ta_nne, ta_ne, gs_id, a_gd01, a_gdT, or_true, true_or, Option.bind_some, bW_some, a_gd, a_ne, a_rd, Int.toNat_natCast, m_X8_book, hw, d2, et, a_gdp, g_rem_nn, em, r2, show Int.toNat 0 = 0 from rfl, show Int.toNat 4 = 4 from rfl, show Int.toNat 6 = 6 from rfl, show Int.toNat 7 = 7 from rfl, show Int.toNat 8 = 8 from rfl, show Int.toNat 9 = 9 from rfl, show Int.toNat 41 = 41 from rfl, show Int.toNat 42 = 42 from rfl, show Int.toNat 40 = 40 from rfl], by simp (disch := omega) only [↓reduceIte, ↓g_nm, ↓g_jn, ↓c_within, ↓c_isIn, ↓c_isScene, ↓c_isPlace, ↓c_isCue, ↓c_isDigit, ↓d_isScene, ↓d_isAny, ↓ta_pb1, ↓ta_pb0, ↓ta_pb1', ↓ta_pb0', ta_lt, ta_nlt, ta_le, ta_nle, ta_eq, ta_neq, ta_nne, ta_ne, gs_id, a_gd01, a_gdT, or_true, true_or, Option.bind_some, bW_some, a_gd, a_ne, a_rd, Int.toNat_natCast, m_X9_book, d10, r4, r5, b1, b2, a_gdp, g_div_nn, g_rem_nn, show Int.toNat 0 = 0 from rfl, show Int.toNat 4 = 4 from rfl, show Int.toNat 6 = 6 from rfl, show Int.toNat 7 = 7 from rfl, show Int.toNat 8 = 8 from rfl, show Int.toNat 9 = 9 from rfl, show Int.toNat 41 = 41 from rfl, show Int.toNat 42 = 42 from rfl, show Int.toNat 40 = 40 from rfl]; apply congrArg; omega⟩
          · by_cases c3 : a2 = 3
            · exact ⟨Mx 2 (103 + u), by simp (disch := omega) only [↓reduceIte, ↓g_nm, ↓g_jn, ↓c_within, ↓c_isIn, ↓c_isScene, ↓c_isPlace, ↓c_isCue, ↓c_isDigit, ↓d_isScene, ↓d_isAny, ↓ta_pb1, ↓ta_pb0, ↓ta_pb1', ↓ta_pb0', ta_lt, ta_nlt, ta_le, ta_nle, ta_eq, ta_neq, ta_nne, ta_ne, gs_id, a_gd01, a_gdT, or_true, true_or, Option.bind_some, bW_some, a_gd, a_ne, a_rd, Int.toNat_natCast, m_X8_book, hw, d2, et, a_gdp, g_rem_nn, em, r3, show Int.toNat 0 = 0 from rfl, show Int.toNat 4 = 4 from rfl, show Int.toNat 6 = 6 from rfl, show Int.toNat 7 = 7 from rfl, show Int.toNat 8 = 8 from rfl, show Int.toNat 9 = 9 from rfl, show Int.toNat 41 = 41 from rfl, show Int.toNat 42 = 42 from rfl, show Int.toNat 40 = 40 from rfl], by simp (disch := omega) only [↓reduceIte, ↓g_nm, ↓g_jn, ↓c_within, ↓c_isIn, ↓c_isScene, ↓c_isPlace, ↓c_isCue, ↓c_isDigit, ↓d_isScene, ↓d_isAny, ↓ta_pb1, ↓ta_pb0, ↓ta_pb1', ↓ta_pb0', ta_lt, ta_nlt, ta_le, ta_nle, ta_eq, ta_neq, ta_nne, ta_ne, gs_id, a_gd01, a_gdT, or_true, true_or, Option.bind_some, bW_some, a_gd, a_ne, a_rd, Int.toNat_natCast, m_X9_book, d10, r4, r5, b1, b2, a_gdp, g_div_nn, g_rem_nn, show Int.toNat 0 = 0 from rfl, show Int.toNat 4 = 4 from rfl, show Int.toNat 6 = 6 from rfl, show Int.toNat 7 = 7 from rfl, show Int.toNat 8 = 8 from rfl, show Int.toNat 9 = 9 from rfl, show Int.toNat 41 = 41 from rfl, show Int.toNat 42 = 42 from rfl, show Int.toNat 40 = 40 from rfl]; apply congrArg; omega⟩
            · exact ⟨-2, by simp (disch := omega) only [↓reduceIte, ↓g_nm, ↓g_jn, ↓c_within, ↓c_isIn, ↓c_isScene, ↓c_isPlace, ↓c_isCue, ↓c_isDigit, ↓d_isScene, ↓d_isAny, ↓ta_pb1, ↓ta_pb0, ↓ta_pb1', ↓ta_pb0', ta_lt, ta_nlt, ta_le, ta_nle, ta_eq, ta_neq, ta_nne, ta_ne, gs_id, a_gd01, a_gdT, or_true, true_or, Option.bind_some, bW_some, a_gd, a_ne, a_rd, Int.toNat_natCast, m_X8_book, hw, d2, et, show Int.toNat 0 = 0 from rfl, show Int.toNat 4 = 4 from rfl, show Int.toNat 6 = 6 from rfl, show Int.toNat 7 = 7 from rfl, show Int.toNat 8 = 8 from rfl, show Int.toNat 9 = 9 from rfl, show Int.toNat 41 = 41 from rfl, show Int.toNat 42 = 42 from rfl, show Int.toNat 40 = 40 from rfl], by simp (disch := omega) only [↓reduceIte, ↓g_nm, ↓g_jn, ↓c_within, ↓c_isIn, ↓c_isScene, ↓c_isPlace, ↓c_isCue, ↓c_isDigit, ↓d_isScene, ↓d_isAny, ↓ta_pb1, ↓ta_pb0, ↓ta_pb1', ↓ta_pb0', ta_lt, ta_nlt, ta_le, ta_nle, ta_eq, ta_neq, ta_nne, ta_ne, gs_id, a_gd01, a_gdT, or_true, true_or, Option.bind_some, bW_some, a_gd, a_ne, a_rd, Int.toNat_natCast, m_X9_book, d10, r4, r5, b1, b2, show Int.toNat 0 = 0 from rfl, show Int.toNat 4 = 4 from rfl, show Int.toNat 6 = 6 from rfl, show Int.toNat 7 = 7 from rfl, show Int.toNat 8 = 8 from rfl, show Int.toNat 9 = 9 from rfl, show Int.toNat 41 = 41 from rfl, show Int.toNat 42 = 42 from rfl, show Int.toNat 40 = 40 from rfl]⟩
theorem st_18 : x_step_18 Rel := by
  intro n Mx Mm hr hn a1 a2 h1 h2
  have hr0 := hr
  obtain ⟨⟨P, T, S, E, C, F, hP, hT, hU, hS, hE, hC, hF, hsn, htd, hkd, hpl, hro, hod, hos, hsv, hlk, hfe, hst⟩, -⟩ := hr
  have hP1 := hP.1
  have hP2 := hP.2.1
  have hP3 := hP.2.2
  have hS1 := hS.1
  have hS2 := hS.2.1
  have hS3 := hS.2.2
  have hC1 := hC.1
  have hC2 := hC.2.1
  have hC3 := hC.2.2
  have hF1 := hF.1
  have hF2 := hF.2.1
  have hF3 := hF.2.2
  obtain ⟨D, d1, d2, d3, ⟨d4, d5, d6⟩, ⟨d7, d8, d9⟩, d10, d11, d12, d13, d14⟩ := hsn
  obtain ⟨r, k1, k2⟩ := p_book d1 d2 d10 d14 a1 a2 h1 h2
  exact ⟨r, r, Mx, Mm, ⟨k1, rfl⟩, ⟨k2, rfl⟩, rfl, st_same hr0⟩
theorem st_40 : x_step_40 Rel := by
  intro n Mx Mm hr hn
  have hr0 := hr
  obtain ⟨⟨P, T, S, E, C, F, hP, hT, hU, hS, hE, hC, hF, hsn, htd, hkd, hpl, hro, hod, hos, hsv, hlk, hfe, hst⟩, -⟩ := hr
  have hP1 := hP.1
  have hP2 := hP.2.1
  have hP3 := hP.2.2
  have hS1 := hS.1
  have hS2 := hS.2.1
  have hS3 := hS.2.2
  have hC1 := hC.1
  have hC2 := hC.2.1
  have hC3 := hC.2.2
  have hF1 := hF.1
  have hF2 := hF.2.1
  have hF3 := hF.2.2
  obtain ⟨D, d1, d2, d3, ⟨d4, d5, d6⟩, ⟨d7, d8, d9⟩, d10, d11, d12, d13, d14⟩ := hsn
  have h := loop_2 (fun f i s => m_X8_gladdest_L4 Mx f s i) (fun f i s => m_X9_gladdest_L4 Mm f s i) P (fun i s t => s = t ∧ -1 ≤ s ∧ s < (P : Int)) (fun a b => a = b) ?_ ?_ P 0 (-1) (-1) g_fuel g_fuel (by omega) (by unfold g_fuel; omega) (by unfold g_fuel; omega) ⟨rfl, by omega, by omega⟩
  · obtain ⟨a, b, e1, e2, rfl⟩ := h
    exact ⟨a, a, Mx, Mm, ⟨e1, rfl⟩, ⟨e2, rfl⟩, rfl, st_same hr0⟩
  · rintro s t ⟨rfl, v1, v2⟩
    refine ⟨s, s, fun f => ?_, fun f => ?_, rfl⟩
    · show m_X8_gladdest_L4 Mx (f + 1) s P = _
      rw [m_X8_gladdest_L4]
      simp (disch := omega) only [↓reduceIte, ↓g_nm, ↓g_jn, ↓c_within, ↓c_isIn, ↓c_isScene, ↓c_isPlace, ↓c_isCue, ↓c_isDigit, ↓d_isScene, ↓d_isAny, ↓ta_pb1, ↓ta_pb0, ↓ta_pb1', ↓ta_pb0', ta_lt, ta_nlt, ta_le, ta_nle, ta_eq, ta_neq, ta_nne, ta_ne, gs_id, a_gd01, a_gdT, or_true, true_or, Option.bind_some, bW_some, a_gd, a_ne, a_rd, Int.toNat_natCast, hP2]
    · show m_X9_gladdest_L4 Mm (f + 1) s P = _
      rw [m_X9_gladdest_L4]
      simp (disch := omega) only [↓reduceIte, ↓g_nm, ↓g_jn, ↓c_within, ↓c_isIn, ↓c_isScene, ↓c_isPlace, ↓c_isCue, ↓c_isDigit, ↓d_isScene, ↓d_isAny, ↓ta_pb1, ↓ta_pb0, ↓ta_pb1', ↓ta_pb0', ta_lt, ta_nlt, ta_le, ta_nle, ta_eq, ta_neq, ta_nne, ta_ne, gs_id, a_gd01, a_gdT, or_true, true_or, Option.bind_some, bW_some, a_gd, a_ne, a_rd, Int.toNat_natCast, hP3, show Int.toNat 0 = 0 from rfl]
  · rintro i s t hi ⟨rfl, v1, v2⟩
    obtain ⟨r1, r2, r3, r4, r5, r6⟩ := d13 i hi
    dsimp only at r6
    have E : ∀ u : Nat, u = s → s ≠ -1 → Mm 1 (34 + 4 * u + 1) = Mx 2 (8 + u) ∧ 0 ≤ Mx 2 (8 + u) ∧ Mx 2 (8 + u) ≤ 99 := by
      intro u hu hs
      obtain ⟨q1, q2, q3, q4, q5, q6⟩ := d13 u (by omega)
      exact ⟨q6, q4, q5⟩
    by_cases c : s = -1
    · refine ⟨i, i, fun f => ?_, fun f => ?_, rfl, by omega, by omega⟩
      · show m_X8_gladdest_L4 Mx (f + 1) s i = m_X8_gladdest_L4 Mx f _ _
        rw [m_X8_gladdest_L4]
        simp (disch := omega) only [↓reduceIte, ↓g_nm, ↓g_jn, ↓c_within, ↓c_isIn, ↓c_isScene, ↓c_isPlace, ↓c_isCue, ↓c_isDigit, ↓d_isScene, ↓d_isAny, ↓ta_pb1, ↓ta_pb0, ↓ta_pb1', ↓ta_pb0', ta_lt, ta_nlt, ta_le, ta_nle, ta_eq, ta_neq, ta_nne, ta_ne, gs_id, a_gd01, a_gdT, or_true, true_or, Option.bind_some, bW_some, a_gd, a_ne, a_rd, Int.toNat_natCast, hP2, Int.natCast_add, Int.natCast_one]
      · show m_X9_gladdest_L4 Mm (f + 1) s i = m_X9_gladdest_L4 Mm f _ _
        rw [m_X9_gladdest_L4]
        simp (disch := omega) only [↓reduceIte, ↓g_nm, ↓g_jn, ↓c_within, ↓c_isIn, ↓c_isScene, ↓c_isPlace, ↓c_isCue, ↓c_isDigit, ↓d_isScene, ↓d_isAny, ↓ta_pb1, ↓ta_pb0, ↓ta_pb1', ↓ta_pb0', ta_lt, ta_nlt, ta_le, ta_nle, ta_eq, ta_neq, ta_nne, ta_ne, gs_id, a_gd01, a_gdT, or_true, true_or, Option.bind_some, bW_some, a_gd, a_ne, a_rd, Int.toNat_natCast, hP3, show Int.toNat 0 = 0 from rfl, Int.natCast_add, Int.natCast_one]
    · obtain ⟨u, hu⟩ : ∃ u : Nat, s = u := ⟨s.toNat, by omega⟩
      subst hu
      obtain ⟨w1, w2, w3⟩ := E u rfl c
      by_cases d : Mx 2 (8 + i) ≤ Mx 2 (8 + u)
      · refine ⟨u, u, fun f => ?_, fun f => ?_, rfl, by omega, by omega⟩
        · show m_X8_gladdest_L4 Mx (f + 1) u i = m_X8_gladdest_L4 Mx f _ _
          rw [m_X8_gladdest_L4]
          simp (disch := omega) only [↓reduceIte, ↓g_nm, ↓g_jn, ↓c_within, ↓c_isIn, ↓c_isScene, ↓c_isPlace, ↓c_isCue, ↓c_isDigit, ↓d_isScene, ↓d_isAny, ↓ta_pb1, ↓ta_pb0, ↓ta_pb1', ↓ta_pb0', ta_lt, ta_nlt, ta_le, ta_nle, ta_eq, ta_neq, ta_nne, ta_ne, gs_id, a_gd01, a_gdT, or_true, true_or, Option.bind_some, bW_some, a_gd, a_ne, a_rd, Int.toNat_natCast, hP2, show (8 + (i : Int)).toNat = 8 + i by omega, show (8 + (u : Int)).toNat = 8 + u by omega, Int.natCast_add, Int.natCast_one]
        · show m_X9_gladdest_L4 Mm (f + 1) u i = m_X9_gladdest_L4 Mm f _ _
          rw [m_X9_gladdest_L4]
          simp (disch := omega) only [↓reduceIte, ↓g_nm, ↓g_jn, ↓c_within, ↓c_isIn, ↓c_isScene, ↓c_isPlace, ↓c_isCue, ↓c_isDigit, ↓d_isScene, ↓d_isAny, ↓ta_pb1, ↓ta_pb0, ↓ta_pb1', ↓ta_pb0', ta_lt, ta_nlt, ta_le, ta_nle, ta_eq, ta_neq, ta_nne, ta_ne, gs_id, a_gd01, a_gdT, or_true, true_or, Option.bind_some, bW_some, a_gd, a_ne, a_rd, Int.toNat_natCast, hP3, show Int.toNat 0 = 0 from rfl, ↓bd_eq (p_get (i : Int) 1 Mm (34 + 4 * i + 1) (by omega) (by omega)), ↓bd_eq (p_get (u : Int) 1 Mm (34 + 4 * u + 1) (by omega) (by omega)), w1, r6, Int.natCast_add, Int.natCast_one]
      · refine ⟨i, i, fun f => ?_, fun f => ?_, rfl, by omega, by omega⟩
        · show m_X8_gladdest_L4 Mx (f + 1) u i = m_X8_gladdest_L4 Mx f _ _
          rw [m_X8_gladdest_L4]
          simp (disch := omega) only [↓reduceIte, ↓g_nm, ↓g_jn, ↓c_within, ↓c_isIn, ↓c_isScene, ↓c_isPlace, ↓c_isCue, ↓c_isDigit, ↓d_isScene, ↓d_isAny, ↓ta_pb1, ↓ta_pb0, ↓ta_pb1', ↓ta_pb0', ta_lt, ta_nlt, ta_le, ta_nle, ta_eq, ta_neq, ta_nne, ta_ne, gs_id, a_gd01, a_gdT, or_true, true_or, Option.bind_some, bW_some, a_gd, a_ne, a_rd, Int.toNat_natCast, hP2, show (8 + (i : Int)).toNat = 8 + i by omega, show (8 + (u : Int)).toNat = 8 + u by omega, Int.natCast_add, Int.natCast_one]
        · show m_X9_gladdest_L4 Mm (f + 1) u i = m_X9_gladdest_L4 Mm f _ _
          rw [m_X9_gladdest_L4]
          simp (disch := omega) only [↓reduceIte, ↓g_nm, ↓g_jn, ↓c_within, ↓c_isIn, ↓c_isScene, ↓c_isPlace, ↓c_isCue, ↓c_isDigit, ↓d_isScene, ↓d_isAny, ↓ta_pb1, ↓ta_pb0, ↓ta_pb1', ↓ta_pb0', ta_lt, ta_nlt, ta_le, ta_nle, ta_eq, ta_neq, ta_nne, ta_ne, gs_id, a_gd01, a_gdT, or_true, true_or, Option.bind_some, bW_some, a_gd, a_ne, a_rd, Int.toNat_natCast, hP3, show Int.toNat 0 = 0 from rfl, ↓bd_eq (p_get (i : Int) 1 Mm (34 + 4 * i + 1) (by omega) (by omega)), ↓bd_eq (p_get (u : Int) 1 Mm (34 + 4 * u + 1) (by omega) (by omega)), w1, r6, Int.natCast_add, Int.natCast_one]
theorem st_41 : x_step_41 Rel := by
  intro n Mx Mm hr hn
  have hr0 := hr
  obtain ⟨⟨P, T, S, E, C, F, hP, hT, hU, hS, hE, hC, hF, hsn, htd, hkd, hpl, hro, hod, hos, hsv, hlk, hfe, hst⟩, -⟩ := hr
  have hP1 := hP.1
  have hP2 := hP.2.1
  have hP3 := hP.2.2
  have hS1 := hS.1
  have hS2 := hS.2.1
  have hS3 := hS.2.2
  have hC1 := hC.1
  have hC2 := hC.2.1
  have hC3 := hC.2.2
  have hF1 := hF.1
  have hF2 := hF.2.1
  have hF3 := hF.2.2
  obtain ⟨D, d1, d2, d3, ⟨d4, d5, d6⟩, ⟨d7, d8, d9⟩, d10, d11, d12, d13, d14⟩ := hsn
  have h := loop_2 (fun f i s => m_X8_often_L4 Mx f s i) (fun f i s => m_X9_often_L4 Mm f s i) 12 (fun i s t => s = t ∧ 0 ≤ s ∧ s < 12) (fun a b => a = b) ?_ ?_ 11 1 0 0 g_fuel g_fuel (by omega) (by unfold g_fuel; omega) (by unfold g_fuel; omega) ⟨rfl, by omega, by omega⟩
  · obtain ⟨a, b, e1, e2, rfl⟩ := h
    exact ⟨a, a, Mx, Mm, ⟨e1, rfl⟩, ⟨e2, rfl⟩, rfl, st_same hr0⟩
  · rintro s t ⟨rfl, v1, v2⟩
    refine ⟨s, s, fun f => ?_, fun f => ?_, rfl⟩
    · show m_X8_often_L4 Mx (f + 1) s ((12 : Nat) : Int) = _
      rw [m_X8_often_L4]
      simp (disch := omega) only [↓reduceIte, ↓g_nm, ↓g_jn, ↓c_within, ↓c_isIn, ↓c_isScene, ↓c_isPlace, ↓c_isCue, ↓c_isDigit, ↓d_isScene, ↓d_isAny, ↓ta_pb1, ↓ta_pb0, ↓ta_pb1', ↓ta_pb0', ta_lt, ta_nlt, ta_le, ta_nle, ta_eq, ta_neq, ta_nne, ta_ne, gs_id, a_gd01, a_gdT, or_true, true_or, Option.bind_some, bW_some, a_gd, a_ne, a_rd, Int.toNat_natCast, ]
    · show m_X9_often_L4 Mm (f + 1) s ((12 : Nat) : Int) = _
      rw [m_X9_often_L4]
      simp (disch := omega) only [↓reduceIte, ↓g_nm, ↓g_jn, ↓c_within, ↓c_isIn, ↓c_isScene, ↓c_isPlace, ↓c_isCue, ↓c_isDigit, ↓d_isScene, ↓d_isAny, ↓ta_pb1, ↓ta_pb0, ↓ta_pb1', ↓ta_pb0', ta_lt, ta_nlt, ta_le, ta_nle, ta_eq, ta_neq, ta_nne, ta_ne, gs_id, a_gd01, a_gdT, or_true, true_or, Option.bind_some, bW_some, a_gd, a_ne, a_rd, Int.toNat_natCast, ]
  · rintro i s t hi ⟨rfl, v1, v2⟩
    obtain ⟨r1, r2, r3⟩ := d11 i hi
    obtain ⟨u, hu⟩ : ∃ u : Nat, s = u := ⟨s.toNat, by omega⟩
    subst hu
    obtain ⟨w1, w2, w3⟩ := d11 u (by omega)
    dsimp only at r3 w3
    have z1 : (10 + (i : Int)).toNat = 6 + (4 + i) := by omega
    have z2 : (10 + (u : Int)).toNat = 6 + (4 + u) := by omega
    have z3 : (28 + (i : Int)).toNat = 28 + i := by omega
    have z4 : (28 + (u : Int)).toNat = 28 + u := by omega
    by_cases d : Mx 2 (28 + i) ≤ Mx 2 (28 + u)
    · refine ⟨u, u, fun f => ?_, fun f => ?_, rfl, by omega, by omega⟩
      · show m_X8_often_L4 Mx (f + 1) u i = m_X8_often_L4 Mx f _ _
        rw [m_X8_often_L4]
        simp (disch := omega) only [↓reduceIte, ↓g_nm, ↓g_jn, ↓c_within, ↓c_isIn, ↓c_isScene, ↓c_isPlace, ↓c_isCue, ↓c_isDigit, ↓d_isScene, ↓d_isAny, ↓ta_pb1, ↓ta_pb0, ↓ta_pb1', ↓ta_pb0', ta_lt, ta_nlt, ta_le, ta_nle, ta_eq, ta_neq, ta_nne, ta_ne, gs_id, a_gd01, a_gdT, or_true, true_or, Option.bind_some, bW_some, a_gd, a_ne, a_rd, Int.toNat_natCast, z3, z4, Int.natCast_add, Int.natCast_one]
      · show m_X9_often_L4 Mm (f + 1) u i = m_X9_often_L4 Mm f _ _
        rw [m_X9_often_L4]
        simp (disch := omega) only [↓reduceIte, ↓g_nm, ↓g_jn, ↓c_within, ↓c_isIn, ↓c_isScene, ↓c_isPlace, ↓c_isCue, ↓c_isDigit, ↓d_isScene, ↓d_isAny, ↓ta_pb1, ↓ta_pb0, ↓ta_pb1', ↓ta_pb0', ta_lt, ta_nlt, ta_le, ta_nle, ta_eq, ta_neq, ta_nne, ta_ne, gs_id, a_gd01, a_gdT, or_true, true_or, Option.bind_some, bW_some, a_gd, a_ne, a_rd, Int.toNat_natCast, z1, z2, r3, w3, Int.natCast_add, Int.natCast_one]
    · refine ⟨i, i, fun f => ?_, fun f => ?_, rfl, by omega, by omega⟩
      · show m_X8_often_L4 Mx (f + 1) u i = m_X8_often_L4 Mx f _ _
        rw [m_X8_often_L4]
        simp (disch := omega) only [↓reduceIte, ↓g_nm, ↓g_jn, ↓c_within, ↓c_isIn, ↓c_isScene, ↓c_isPlace, ↓c_isCue, ↓c_isDigit, ↓d_isScene, ↓d_isAny, ↓ta_pb1, ↓ta_pb0, ↓ta_pb1', ↓ta_pb0', ta_lt, ta_nlt, ta_le, ta_nle, ta_eq, ta_neq, ta_nne, ta_ne, gs_id, a_gd01, a_gdT, or_true, true_or, Option.bind_some, bW_some, a_gd, a_ne, a_rd, Int.toNat_natCast, z3, z4, Int.natCast_add, Int.natCast_one]
      · show m_X9_often_L4 Mm (f + 1) u i = m_X9_often_L4 Mm f _ _
        rw [m_X9_often_L4]
        simp (disch := omega) only [↓reduceIte, ↓g_nm, ↓g_jn, ↓c_within, ↓c_isIn, ↓c_isScene, ↓c_isPlace, ↓c_isCue, ↓c_isDigit, ↓d_isScene, ↓d_isAny, ↓ta_pb1, ↓ta_pb0, ↓ta_pb1', ↓ta_pb0', ta_lt, ta_nlt, ta_le, ta_nle, ta_eq, ta_neq, ta_nne, ta_ne, gs_id, a_gd01, a_gdT, or_true, true_or, Option.bind_some, bW_some, a_gd, a_ne, a_rd, Int.toNat_natCast, z1, z2, r3, w3, Int.natCast_add, Int.natCast_one]
theorem p_canMend {M : g_M} {s : Nat} (hs : s < 12) (h1 : 0 ≤ M 2 (16 + s) ∧ M 2 (16 + s) ≤ 12) (h2 : 0 ≤ M 4 (s * 4) ∧ M 4 (s * 4) ≤ 12) : m_X2_canMend s M = some (pb (M 2 (16 + s) ≠ M 4 (s * 4))) := by
  unfold m_X2_canMend
  obtain ⟨i1, j1⟩ := h1
  obtain ⟨i2, j2⟩ := h2
  by_cases c : M 2 (16 + s) = M 4 (s * 4)
  · simp (disch := omega) only [↓reduceIte, ↓g_nm, ↓g_jn, ↓c_within, ↓c_isIn, ↓c_isScene, ↓c_isPlace, ↓c_isCue, ↓c_isDigit, ↓d_isScene, ↓d_isAny, ↓ta_pb1, ↓ta_pb0, ↓ta_pb1', ↓ta_pb0', ta_lt, ta_nlt, ta_le, ta_nle, ta_eq, ta_neq, ta_nne, ta_ne, gs_id, a_gd01, a_gdT, or_true, true_or, Option.bind_some, bW_some, a_gd, a_ne, a_rd, Int.toNat_natCast, show (16 + (s : Int)).toNat = 16 + s by omega, show ((s : Int) * 4).toNat = s * 4 by omega]
    rw [pb_f (fun z => z)]
  · simp (disch := omega) only [↓reduceIte, ↓g_nm, ↓g_jn, ↓c_within, ↓c_isIn, ↓c_isScene, ↓c_isPlace, ↓c_isCue, ↓c_isDigit, ↓d_isScene, ↓d_isAny, ↓ta_pb1, ↓ta_pb0, ↓ta_pb1', ↓ta_pb0', ta_lt, ta_nlt, ta_le, ta_nle, ta_eq, ta_neq, ta_nne, ta_ne, gs_id, a_gd01, a_gdT, or_true, true_or, Option.bind_some, bW_some, a_gd, a_ne, a_rd, Int.toNat_natCast, show (16 + (s : Int)).toNat = 16 + s by omega, show ((s : Int) * 4).toNat = s * 4 by omega]
    rw [pb_t trivial]
theorem q_canMend {W : g_M} {nw td : Nat → Int} {s : Nat} (hs : s < 12) (h1 : 0 ≤ nw (16 + s) ∧ nw (16 + s) ≤ 12 ∧ W 1 (22 + s) = nw (16 + s)) (h2 : 0 ≤ td (s * 4) ∧ td (s * 4) ≤ 12 ∧ W 1 (66 + s * 4) = td (s * 4)) : m_X9_canMend s W = some (pb (nw (16 + s) ≠ td (s * 4))) := by
  unfold m_X9_canMend
  obtain ⟨i1, j1, k1⟩ := h1
  obtain ⟨i2, j2, k2⟩ := h2
  by_cases c : nw (16 + s) = td (s * 4)
  · simp (disch := omega) only [↓reduceIte, ↓g_nm, ↓g_jn, ↓c_within, ↓c_isIn, ↓c_isScene, ↓c_isPlace, ↓c_isCue, ↓c_isDigit, ↓d_isScene, ↓d_isAny, ↓ta_pb1, ↓ta_pb0, ↓ta_pb1', ↓ta_pb0', ta_lt, ta_nlt, ta_le, ta_nle, ta_eq, ta_neq, ta_nne, ta_ne, gs_id, a_gd01, a_gdT, or_true, true_or, Option.bind_some, bW_some, a_gd, a_ne, a_rd, Int.toNat_natCast, show (22 + (s : Int)).toNat = 22 + s by omega, show (66 + 4 * (s : Int)).toNat = 66 + s * 4 by omega, k1, k2]
    rw [pb_f (fun z => z)]
  · simp (disch := omega) only [↓reduceIte, ↓g_nm, ↓g_jn, ↓c_within, ↓c_isIn, ↓c_isScene, ↓c_isPlace, ↓c_isCue, ↓c_isDigit, ↓d_isScene, ↓d_isAny, ↓ta_pb1, ↓ta_pb0, ↓ta_pb1', ↓ta_pb0', ta_lt, ta_nlt, ta_le, ta_nle, ta_eq, ta_neq, ta_nne, ta_ne, gs_id, a_gd01, a_gdT, or_true, true_or, Option.bind_some, bW_some, a_gd, a_ne, a_rd, Int.toNat_natCast, show (22 + (s : Int)).toNat = 22 + s by omega, show (66 + 4 * (s : Int)).toNat = 66 + s * 4 by omega, k1, k2]
    rw [pb_t trivial]
theorem st_42 : x_step_42 Rel := by
  intro n Mx Mm hr hn
  have hr0 := hr
  obtain ⟨⟨P, T, S, E, C, F, hP, hT, hU, hS, hE, hC, hF, hsn, htd, hkd, hpl, hro, hod, hos, hsv, hlk, hfe, hst⟩, -⟩ := hr
  have hP1 := hP.1
  have hP2 := hP.2.1
  have hP3 := hP.2.2
  have hS1 := hS.1
  have hS2 := hS.2.1
  have hS3 := hS.2.2
  have hC1 := hC.1
  have hC2 := hC.2.1
  have hC3 := hC.2.2
  have hF1 := hF.1
  have hF2 := hF.2.1
  have hF3 := hF.2.2
  obtain ⟨D, d1, d2, d3, ⟨d4, d5, d6⟩, ⟨d7, d8, d9⟩, d10, d11, d12, d13, d14⟩ := hsn
  have h := loop_2 (fun f i s => m_X8_changed_L4 Mx f s i) (fun f i s => m_X9_changed_L4 Mm f s i) 12 (fun i s t => s = t ∧ ∃ v : Nat, v < 2 ^ 12 ∧ s = (v : Int)) (fun a b => a = b) ?_ ?_ 12 0 0 0 g_fuel g_fuel (by omega) (by unfold g_fuel; omega) (by unfold g_fuel; omega) ⟨rfl, 0, by omega, rfl⟩
  · obtain ⟨a, b, e1, e2, rfl⟩ := h
    exact ⟨a, a, Mx, Mm, ⟨e1, rfl⟩, ⟨e2, rfl⟩, rfl, st_same hr0⟩
  · rintro s t ⟨rfl, v, hv, rfl⟩
    refine ⟨v, v, fun f => ?_, fun f => ?_, rfl⟩
    · show m_X8_changed_L4 Mx (f + 1) v ((12 : Nat) : Int) = _
      rw [m_X8_changed_L4]
      simp (disch := omega) only [↓reduceIte, ↓g_nm, ↓g_jn, ↓c_within, ↓c_isIn, ↓c_isScene, ↓c_isPlace, ↓c_isCue, ↓c_isDigit, ↓d_isScene, ↓d_isAny, ↓ta_pb1, ↓ta_pb0, ↓ta_pb1', ↓ta_pb0', ta_lt, ta_nlt, ta_le, ta_nle, ta_eq, ta_neq, ta_nne, ta_ne, gs_id, a_gd01, a_gdT, or_true, true_or, Option.bind_some, bW_some, a_gd, a_ne, a_rd, Int.toNat_natCast, ]
    · show m_X9_changed_L4 Mm (f + 1) v ((12 : Nat) : Int) = _
      rw [m_X9_changed_L4]
      simp (disch := omega) only [↓reduceIte, ↓g_nm, ↓g_jn, ↓c_within, ↓c_isIn, ↓c_isScene, ↓c_isPlace, ↓c_isCue, ↓c_isDigit, ↓d_isScene, ↓d_isAny, ↓ta_pb1, ↓ta_pb0, ↓ta_pb1', ↓ta_pb0', ta_lt, ta_nlt, ta_le, ta_nle, ta_eq, ta_neq, ta_nne, ta_ne, gs_id, a_gd01, a_gdT, or_true, true_or, Option.bind_some, bW_some, a_gd, a_ne, a_rd, Int.toNat_natCast, ]
  · rintro i s t hi ⟨rfl, v, hv, rfl⟩
    obtain ⟨r1, r2, r3⟩ := d12 i hi
    obtain ⟨w1, w2, w3⟩ := htd (i * 4) (by omega)
    have k1 := p_canMend (M := Mx) hi ⟨r1, r2⟩ ⟨w1, w2⟩
    have k2 := q_canMend (W := Mm) hi ⟨r1, r2, by rw [← r3]; exact congrArg (Mm 1) (by omega)⟩ ⟨w1, w2, w3⟩
    by_cases c : Mx 2 (16 + i) ≠ Mx 4 (i * 4)
    · obtain ⟨y, hy, hy2⟩ := or_bit i hv (by omega) (by omega)
      refine ⟨y, y, fun f => ?_, fun f => ?_, rfl, y, hy2, rfl⟩
      · show m_X8_changed_L4 Mx (f + 1) v i = m_X8_changed_L4 Mx f _ _
        rw [m_X8_changed_L4]
        simp (disch := omega) only [↓reduceIte, ↓g_nm, ↓g_jn, ↓c_within, ↓c_isIn, ↓c_isScene, ↓c_isPlace, ↓c_isCue, ↓c_isDigit, ↓d_isScene, ↓d_isAny, ↓ta_pb1, ↓ta_pb0, ↓ta_pb1', ↓ta_pb0', ta_lt, ta_nlt, ta_le, ta_nle, ta_eq, ta_neq, ta_nne, ta_ne, gs_id, a_gd01, a_gdT, or_true, true_or, Option.bind_some, bW_some, a_gd, a_ne, a_rd, Int.toNat_natCast, ↓bd_eq k1, hy, Int.natCast_add, Int.natCast_one]
      · show m_X9_changed_L4 Mm (f + 1) v i = m_X9_changed_L4 Mm f _ _
        rw [m_X9_changed_L4]
        simp (disch := omega) only [↓reduceIte, ↓g_nm, ↓g_jn, ↓c_within, ↓c_isIn, ↓c_isScene, ↓c_isPlace, ↓c_isCue, ↓c_isDigit, ↓d_isScene, ↓d_isAny, ↓ta_pb1, ↓ta_pb0, ↓ta_pb1', ↓ta_pb0', ta_lt, ta_nlt, ta_le, ta_nle, ta_eq, ta_neq, ta_nne, ta_ne, gs_id, a_gd01, a_gdT, or_true, true_or, Option.bind_some, bW_some, a_gd, a_ne, a_rd, Int.toNat_natCast, ↓bd_eq k2, hy, Int.natCast_add, Int.natCast_one]
    · have hz := or_0 (x := v) (by omega)
      refine ⟨v, v, fun f => ?_, fun f => ?_, rfl, v, hv, rfl⟩
      · show m_X8_changed_L4 Mx (f + 1) v i = m_X8_changed_L4 Mx f _ _
        rw [m_X8_changed_L4]
        simp (disch := omega) only [↓reduceIte, ↓g_nm, ↓g_jn, ↓c_within, ↓c_isIn, ↓c_isScene, ↓c_isPlace, ↓c_isCue, ↓c_isDigit, ↓d_isScene, ↓d_isAny, ↓ta_pb1, ↓ta_pb0, ↓ta_pb1', ↓ta_pb0', ta_lt, ta_nlt, ta_le, ta_nle, ta_eq, ta_neq, ta_nne, ta_ne, gs_id, a_gd01, a_gdT, or_true, true_or, Option.bind_some, bW_some, a_gd, a_ne, a_rd, Int.toNat_natCast, ↓bd_eq k1, Int.natCast_add, Int.natCast_one]
      · show m_X9_changed_L4 Mm (f + 1) v i = m_X9_changed_L4 Mm f _ _
        rw [m_X9_changed_L4]
        simp (disch := omega) only [↓reduceIte, ↓g_nm, ↓g_jn, ↓c_within, ↓c_isIn, ↓c_isScene, ↓c_isPlace, ↓c_isCue, ↓c_isDigit, ↓d_isScene, ↓d_isAny, ↓ta_pb1, ↓ta_pb0, ↓ta_pb1', ↓ta_pb0', ta_lt, ta_nlt, ta_le, ta_nle, ta_eq, ta_neq, ta_nne, ta_ne, gs_id, a_gd01, a_gdT, or_true, true_or, Option.bind_some, bW_some, a_gd, a_ne, a_rd, Int.toNat_natCast, ↓bd_eq k2, hz, Int.natCast_add, Int.natCast_one]
theorem st_21 : x_step_21 Rel := by
  intro n Mx Mm hr hn a1 a2 h1 h2
  have hr0 := hr
  obtain ⟨⟨P, T, S, E, C, F, hP, hT, hU, hS, hE, hC, hF, hsn, htd, hkd, hpl, hro, hod, hos, hsv, hlk, hfe, hst⟩, -⟩ := hr
  have hP1 := hP.1
  have hP2 := hP.2.1
  have hP3 := hP.2.2
  have hS1 := hS.1
  have hS2 := hS.2.1
  have hS3 := hS.2.2
  have hC1 := hC.1
  have hC2 := hC.2.1
  have hC3 := hC.2.2
  have hF1 := hF.1
  have hF2 := hF.2.1
  have hF3 := hF.2.2
  obtain ⟨D, d1, d2, d3, ⟨d4, d5, d6⟩, ⟨d7, d8, d9⟩, d10, d11, d12, d13, d14⟩ := hsn
  obtain ⟨i1, j1⟩ := h1
  obtain ⟨i2, j2⟩ := h2
  by_cases c1 : 0 ≤ a1 ∧ a1 ≤ 12
  rotate_left
  · exact ⟨-1, -1, Mx, Mm, ⟨by simp (disch := omega) only [↓reduceIte, ↓g_nm, ↓g_jn, ↓c_within, ↓c_isIn, ↓c_isScene, ↓c_isPlace, ↓c_isCue, ↓c_isDigit, ↓d_isScene, ↓d_isAny, ↓ta_pb1, ↓ta_pb0, ↓ta_pb1', ↓ta_pb0', ta_lt, ta_nlt, ta_le, ta_nle, ta_eq, ta_neq, ta_nne, ta_ne, gs_id, a_gd01, a_gdT, or_true, true_or, Option.bind_some, bW_some, a_gd, a_ne, a_rd, Int.toNat_natCast, m_X8_run], rfl⟩, ⟨by simp (disch := omega) only [↓reduceIte, ↓g_nm, ↓g_jn, ↓c_within, ↓c_isIn, ↓c_isScene, ↓c_isPlace, ↓c_isCue, ↓c_isDigit, ↓d_isScene, ↓d_isAny, ↓ta_pb1, ↓ta_pb0, ↓ta_pb1', ↓ta_pb0', ta_lt, ta_nlt, ta_le, ta_nle, ta_eq, ta_neq, ta_nne, ta_ne, gs_id, a_gd01, a_gdT, or_true, true_or, Option.bind_some, bW_some, a_gd, a_ne, a_rd, Int.toNat_natCast, m_X9_run], rfl⟩, rfl, st_same hr0⟩
  by_cases c2 : 0 ≤ a2 ∧ a2 ≤ C
  rotate_left
  · exact ⟨-1, -1, Mx, Mm, ⟨by simp (disch := omega) only [↓reduceIte, ↓g_nm, ↓g_jn, ↓c_within, ↓c_isIn, ↓c_isScene, ↓c_isPlace, ↓c_isCue, ↓c_isDigit, ↓d_isScene, ↓d_isAny, ↓ta_pb1, ↓ta_pb0, ↓ta_pb1', ↓ta_pb0', ta_lt, ta_nlt, ta_le, ta_nle, ta_eq, ta_neq, ta_nne, ta_ne, gs_id, a_gd01, a_gdT, or_true, true_or, Option.bind_some, bW_some, a_gd, a_ne, a_rd, Int.toNat_natCast, m_X8_run, hC2], rfl⟩, ⟨by simp (disch := omega) only [↓reduceIte, ↓g_nm, ↓g_jn, ↓c_within, ↓c_isIn, ↓c_isScene, ↓c_isPlace, ↓c_isCue, ↓c_isDigit, ↓d_isScene, ↓d_isAny, ↓ta_pb1, ↓ta_pb0, ↓ta_pb1', ↓ta_pb0', ta_lt, ta_nlt, ta_le, ta_nle, ta_eq, ta_neq, ta_nne, ta_ne, gs_id, a_gd01, a_gdT, or_true, true_or, Option.bind_some, bW_some, a_gd, a_ne, a_rd, Int.toNat_natCast, m_X9_run, hC3, show Int.toNat 4 = 4 from rfl], rfl⟩, rfl, st_same hr0⟩
  obtain ⟨k, rfl⟩ : ∃ k : Nat, a2 = k := ⟨a2.toNat, by omega⟩
  have h := loop_2 (fun f i s => m_X8_run_L29 k Mx f s i) (fun f i s => m_X9_run_L28 k Mm f s i) k (fun i s t => s = t ∧ 0 ≤ s ∧ s ≤ 12) (fun a b => a = b) ?_ ?_ k 0 a1 a1 g_fuel g_fuel (by omega) (by unfold g_fuel; omega) (by unfold g_fuel; omega) ⟨rfl, c1.1, c1.2⟩
  · obtain ⟨a, b, e1, e2, rfl⟩ := h
    refine ⟨a, a, Mx, Mm, ⟨?_, rfl⟩, ⟨?_, rfl⟩, rfl, st_same hr0⟩
    · simp (disch := omega) only [↓reduceIte, ↓g_nm, ↓g_jn, ↓c_within, ↓c_isIn, ↓c_isScene, ↓c_isPlace, ↓c_isCue, ↓c_isDigit, ↓d_isScene, ↓d_isAny, ↓ta_pb1, ↓ta_pb0, ↓ta_pb1', ↓ta_pb0', ta_lt, ta_nlt, ta_le, ta_nle, ta_eq, ta_neq, ta_nne, ta_ne, gs_id, a_gd01, a_gdT, or_true, true_or, Option.bind_some, bW_some, a_gd, a_ne, a_rd, Int.toNat_natCast, m_X8_run, hC2]
      exact e1
    · simp (disch := omega) only [↓reduceIte, ↓g_nm, ↓g_jn, ↓c_within, ↓c_isIn, ↓c_isScene, ↓c_isPlace, ↓c_isCue, ↓c_isDigit, ↓d_isScene, ↓d_isAny, ↓ta_pb1, ↓ta_pb0, ↓ta_pb1', ↓ta_pb0', ta_lt, ta_nlt, ta_le, ta_nle, ta_eq, ta_neq, ta_nne, ta_ne, gs_id, a_gd01, a_gdT, or_true, true_or, Option.bind_some, bW_some, a_gd, a_ne, a_rd, Int.toNat_natCast, m_X9_run, hC3, show Int.toNat 4 = 4 from rfl]
      exact e2
  · rintro s t ⟨rfl, v1, v2⟩
    refine ⟨s, s, fun f => ?_, fun f => ?_, rfl⟩
    · show m_X8_run_L29 k Mx (f + 1) s k = _
      rw [m_X8_run_L29]
      simp (disch := omega) only [↓reduceIte, ↓g_nm, ↓g_jn, ↓c_within, ↓c_isIn, ↓c_isScene, ↓c_isPlace, ↓c_isCue, ↓c_isDigit, ↓d_isScene, ↓d_isAny, ↓ta_pb1, ↓ta_pb0, ↓ta_pb1', ↓ta_pb0', ta_lt, ta_nlt, ta_le, ta_nle, ta_eq, ta_neq, ta_nne, ta_ne, gs_id, a_gd01, a_gdT, or_true, true_or, Option.bind_some, bW_some, a_gd, a_ne, a_rd, Int.toNat_natCast, ]
    · show m_X9_run_L28 k Mm (f + 1) s k = _
      rw [m_X9_run_L28]
      simp (disch := omega) only [↓reduceIte, ↓g_nm, ↓g_jn, ↓c_within, ↓c_isIn, ↓c_isScene, ↓c_isPlace, ↓c_isCue, ↓c_isDigit, ↓d_isScene, ↓d_isAny, ↓ta_pb1, ↓ta_pb0, ↓ta_pb1', ↓ta_pb0', ta_lt, ta_nlt, ta_le, ta_nle, ta_eq, ta_neq, ta_nne, ta_ne, gs_id, a_gd01, a_gdT, or_true, true_or, Option.bind_some, bW_some, a_gd, a_ne, a_rd, Int.toNat_natCast, ]
  · rintro i s t hi ⟨rfl, v1, v2⟩
    obtain ⟨u, hu⟩ : ∃ u : Nat, s = u := ⟨s.toNat, by omega⟩
    subst hu
    obtain ⟨r1, r2, r3⟩ := hro i (by omega)
    obtain ⟨c, hc⟩ : ∃ c : Nat, Mx 7 i = c := ⟨(Mx 7 i).toNat, by omega⟩
    have k1 := p_after (M := Mx) (s := u) (c := c) (by omega) (by omega)
    have k2 := q_nextOf (W := Mm) (nw := Mx 2) (td := Mx 4) (fun s hs => by rw [← (d12 s hs).2.2]; exact congrArg (Mm 1) (by omega)) (fun i hi => (htd i hi).2.2) (s := u) (c := c) (by omega) (by omega)
    have k3 := nxF_lt (nw := Mx 2) (td := Mx 4) (fun s hs => ⟨(d12 s hs).1, (d12 s hs).2.1⟩) (fun i hi => ⟨(htd i hi).1, (htd i hi).2.1⟩) (s := u) (c := c) (by omega) (by omega)
    refine ⟨nxF (Mx 2) (Mx 4) u c, nxF (Mx 2) (Mx 4) u c, fun f => ?_, fun f => ?_, rfl, k3⟩
    · show m_X8_run_L29 k Mx (f + 1) u i = m_X8_run_L29 k Mx f _ _
      rw [m_X8_run_L29]
      simp (disch := omega) only [↓reduceIte, ↓g_nm, ↓g_jn, ↓c_within, ↓c_isIn, ↓c_isScene, ↓c_isPlace, ↓c_isCue, ↓c_isDigit, ↓d_isScene, ↓d_isAny, ↓ta_pb1, ↓ta_pb0, ↓ta_pb1', ↓ta_pb0', ta_lt, ta_nlt, ta_le, ta_nle, ta_eq, ta_neq, ta_nne, ta_ne, gs_id, a_gd01, a_gdT, or_true, true_or, Option.bind_some, bW_some, a_gd, a_ne, a_rd, Int.toNat_natCast, hc, ↓bd_eq k1, Int.natCast_add, Int.natCast_one]
    · show m_X9_run_L28 k Mm (f + 1) u i = m_X9_run_L28 k Mm f _ _
      rw [m_X9_run_L28]
      simp (disch := omega) only [↓reduceIte, ↓g_nm, ↓g_jn, ↓c_within, ↓c_isIn, ↓c_isScene, ↓c_isPlace, ↓c_isCue, ↓c_isDigit, ↓d_isScene, ↓d_isAny, ↓ta_pb1, ↓ta_pb0, ↓ta_pb1', ↓ta_pb0', ta_lt, ta_nlt, ta_le, ta_nle, ta_eq, ta_neq, ta_nne, ta_ne, gs_id, a_gd01, a_gdT, or_true, true_or, Option.bind_some, bW_some, a_gd, a_ne, a_rd, Int.toNat_natCast, show (126 + (i : Int)).toNat = 126 + i by omega, r3, hc, Int.natCast_add, Int.natCast_one]
      rw [k2]
      rfl
