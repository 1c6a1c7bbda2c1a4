/-! steps that tell one thing -/
theorem p_isIn' {a b c : Int} (ha : gs a = a) (hb : gs b = b) (hc : gs c = c) : m_X9_isIn a b c = some (pb (b ≤ a ∧ a ≤ c)) := p_isIn ha hb hc
theorem g_wr_ne' {M : g_M} {k j : Nat} {v : Int} {a b : Nat} (h : a ≠ k ∨ b ≠ j) : g_wr M k j v a b = M a b := by
  unfold g_wr
  rw [if_neg (fun z => by omega)]
theorem p_isText {a : Int} {M : g_M} (ha : gs a = a) {T : Nat} (h8 : M 1 8 = T) (hT : T ≤ 4) : m_X1_isText a M = some (pb (0 ≤ a ∧ a < T)) := by
  simp only [m_X1_isText, g_jn, ha, h8, gs_nat (n := T) (by omega)]
  by_cases h1 : a < 0
  · rw [if_pos h1, pb_f (by omega)]
  · rw [if_neg h1]
    by_cases h2 : (T : Int) ≤ a
    · rw [if_pos h2, pb_f (by omega)]
    · rw [if_neg h2, pb_t (by omega)]
theorem st_7 : x_step_7 Rel := by
  intro n Mx Mm hr hn a1 h1
  have g1 := gs_id h1.1 h1.2
  have hr0 := hr
  obtain ⟨⟨P, T, S, E, C, F, hP, hT, hU, hS, hE, hC, hF, hsn, htd, hkd, hpl, hro, hod, hos, hsv, hlk, hfe, hst⟩, -⟩ := hr
  have eT : gs ((T : Int) - 1) = (T : Int) - 1 := gs_id (by omega) (by omega)
  have key : m_X9_by a1 Mm = if -1 ≤ a1 ∧ a1 ≤ (T : Int) - 1 then some (1, g_wr Mm 1 2 a1) else some (0, Mm) := by
    unfold m_X9_by
    rw [g_gd_pos (g_ix_of (by omega) (by omega) (by decide)), gsc_1]
    rw [show (Int.toNat 1) = 1 from rfl, hT.2.2, p_isIn' g1 gsc_m1 eT]
    simp only [Option.bind_some, pb_gs]
    by_cases c : -1 ≤ a1 ∧ a1 ≤ (T : Int) - 1
    · rw [pb_t c, if_pos (by decide), if_pos c, g_gd_pos (g_ix_of (by omega) (by omega) (by decide)), gsc_2]
      rfl
    · rw [pb_f c, if_neg (by decide), if_neg c]
  by_cases c : -1 ≤ a1 ∧ a1 ≤ (T : Int) - 1
  · refine ⟨1, 1, g_wr Mx 1 9 a1, g_wr Mm 1 2 a1, ?_, by rw [key, if_pos c], rfl, ?_⟩
    · simp only [m_X8_by, g_jn, g_nm, g1, gsc_m1]
      by_cases e : a1 = -1
      · rw [if_pos e]
      · rw [if_neg e, p_isText g1 hT.2.1 hT.1]
        simp only [Option.bind_some, pb_gs]
        rw [pb_t (by omega), if_pos (by decide)]
    · refine Rel_wr hr0 (k := 1) (by omega) (fun a ha => wr_cell _ _ _ _ _ (by omega)) (g_wr_ne' (by omega)) (fun a ha => wr_cell _ _ _ _ _ ha) ?_
      rw [wr_self, wr_cell _ 1 _ _ 2 (by omega), wr_cell _ 1 _ _ 3 (by omega), wr_cell _ 1 _ _ 4 (by omega), wr_cell _ 1 _ _ 5 (by omega), wr_cell _ 1 _ _ 6 (by omega), wr_cell _ 1 _ _ 7 (by omega), wr_cell _ 1 _ _ 8 (by omega), wr_cell _ 1 _ _ 9 (by omega), wr_cell _ 1 _ _ 10 (by omega), wr_cell _ 1 _ _ 11 (by omega), wr_self]
      generalize hA : (fun b => if b = 2 then a1 else Mm 1 b) = A'
      generalize hB : (fun b => if b = 9 then a1 else Mx 1 b) = X'
      have ne : ∀ b : Nat, b ≠ 2 → A' b = Mm 1 b := fun b hb => by rw [← hA]; exact if_neg hb
      have at1 : A' 2 = a1 := by rw [← hA]; exact if_pos rfl
      have nx : ∀ b : Nat, b ≠ 9 → X' b = Mx 1 b := fun b hb => by rw [← hB]; exact if_neg hb
      have at2 : X' 9 = a1 := by rw [← hB]; exact if_pos rfl
      exact ⟨P, T, S, E, C, F, ⟨hP.1, by rw [nx _ (by omega)]; exact hP.2.1, by rw [ne _ (by omega)]; exact hP.2.2⟩, ⟨hT.1, by rw [nx _ (by omega)]; exact hT.2.1, by rw [ne _ (by omega)]; exact hT.2.2⟩, ⟨by rw [at2]; exact c.1, by rw [at2]; omega, by rw [at1, at2]⟩, ⟨hS.1, by rw [nx _ (by omega)]; exact hS.2.1, by rw [ne _ (by omega)]; exact hS.2.2⟩, ⟨hE.1, by rw [nx _ (by omega)]; exact hE.2⟩, ⟨hC.1, by rw [nx _ (by omega)]; exact hC.2.1, by rw [ne _ (by omega)]; exact hC.2.2⟩, ⟨hF.1, by rw [nx _ (by omega)]; exact hF.2.1, by rw [ne _ (by omega)]; exact hF.2.2⟩, R_snap_cg hsn (fun j hj => ne _ (by omega)) (fun q i hq hi => ne _ (by omega)) (fun i hi => ne _ (by omega)), (fun i hi => by rw [ne _ (by omega)]; exact htd i hi), (fun t ht => by rw [ne _ (by omega)]; exact hkd t ht), (fun q hq => by rw [ne _ (by omega), ne _ (by omega)]; exact hpl q hq), (fun i hi => by rw [ne _ (by omega)]; exact hro i hi), (fun c hc => by rw [ne _ (by omega)]; exact hod c hc), hos, ⟨by rw [nx _ (by omega)]; exact hsv.1, by rw [nx _ (by omega)]; exact hsv.2.1, by rw [ne _ (by omega), nx _ (by omega)]; exact hsv.2.2⟩, (fun i hi => by rw [ne _ (by omega)]; exact hlk i hi), (fun i hi => by rw [ne _ (by omega), ne _ (by omega)]; exact hfe i hi), (fun k hk => R_step_cg (by omega) hP.1 (hst k hk) (fun j a b => ne _ (by omega)) (fun q hq => ne _ (by omega)))⟩
  · refine ⟨0, 0, Mx, Mm, ?_, by rw [key, if_neg c], rfl, st_same hr0⟩
    simp only [m_X8_by, g_jn, g_nm, g1, gsc_m1]
    rw [if_neg (by omega), p_isText g1 hT.2.1 hT.1]
    simp only [Option.bind_some, pb_gs]
    rw [pb_f (by omega), if_neg (by decide)]
theorem st_36 : x_step_36 Rel := by
  intro n Mx Mm hr hn a1 a2 a3 h1 h2 h3
  have g1 := gs_id h1.1 h1.2
  have g2 := gs_id h2.1 h2.2
  have g3 := gs_id h3.1 h3.2
  have hr0 := hr
  by_cases c1 : 0 ≤ a1 ∧ a1 ≤ 7
  · by_cases c2 : 0 ≤ a2 ∧ a2 ≤ 4
    · by_cases c3 : 0 ≤ a3 ∧ a3 ≤ 99
      · obtain ⟨q, rfl⟩ : ∃ q : Nat, a1 = q := ⟨a1.toNat, by omega⟩
        obtain ⟨d, rfl⟩ : ∃ d : Nat, a2 = d := ⟨a2.toNat, by omega⟩
        refine ⟨1, 1, g_wr Mx 9 (q * 5 + d) a3, g_wr Mm 1 (143 + (q * 5 + d)) a3, ?_, ?_, rfl, ?_⟩
        · unfold m_X8_likes
          rw [p_within g1 gsc_0 gsc_7, p_within g2 gsc_0 gsc_4, p_within g3 gsc_0 gsc_99, pb_t c1, pb_t c2, pb_t c3]
          simp only [Option.bind_some, gsc_1]
          rw [if_neg (by decide), if_neg (by decide), if_pos (by decide), g_gd_pos (g_ix_of (by omega) (by omega) (by decide))]
          simp only [g_nm]
          rw [gs_rd (x := (q : Int) * 5 + d) (k := q * 5 + d) (by omega) (by omega)]
        · unfold m_X9_likes
          rw [p_isIn g1 gsc_0 gsc_7, p_isIn g2 gsc_0 gsc_4, p_isIn g3 gsc_0 gsc_99, pb_t c1, pb_t c2, pb_t c3]
          simp only [Option.bind_some, gsc_1]
          rw [if_neg (by decide), if_neg (by decide), if_pos (by decide), g_gd_pos (g_ix_of (by omega) (by omega) (by decide))]
          simp only [g_nm]
          rw [gs_rd (x := (143 + (5 * (q : Int))) + d) (k := 143 + (q * 5 + d)) (by omega) (by omega)]
        · refine Rel_wr hr0 (k := 9) (by omega) (fun a ha => wr_cell _ _ _ _ _ (by omega)) (by rw [wr_cell _ _ _ _ _ (by omega)]) (fun a ha => wr_cell _ _ _ _ _ ha) ?_
          rw [wr_cell _ 9 _ _ 1 (by omega), wr_cell _ 9 _ _ 2 (by omega), wr_cell _ 9 _ _ 3 (by omega), wr_cell _ 9 _ _ 4 (by omega), wr_cell _ 9 _ _ 5 (by omega), wr_cell _ 9 _ _ 6 (by omega), wr_cell _ 9 _ _ 7 (by omega), wr_cell _ 9 _ _ 8 (by omega), wr_self, wr_cell _ 9 _ _ 10 (by omega), wr_cell _ 9 _ _ 11 (by omega), wr_self]
          obtain ⟨⟨P, T, S, E, C, F, hP, hT, hU, hS, hE, hC, hF, hsn, htd, hkd, hpl, hro, hod, hos, hsv, hlk, hfe, hst⟩, -⟩ := hr
          have hqd : q * 5 + d < 40 := by omega
          generalize q * 5 + d = j at hqd ⊢
          generalize hA : (fun b => if b = 143 + j then a3 else Mm 1 b) = A'
          generalize hB : (fun b => if b = j then a3 else Mx 9 b) = B'
          have ne : ∀ b : Nat, b ≠ 143 + j → A' b = Mm 1 b := fun b hb => by rw [← hA]; exact if_neg hb
          have at1 : A' (143 + j) = a3 := by rw [← hA]; exact if_pos rfl
          have nb : ∀ b : Nat, b ≠ j → B' b = Mx 9 b := fun b hb => by rw [← hB]; exact if_neg hb
          have at2 : B' j = a3 := by rw [← hB]; exact if_pos rfl
          have hnew : ∀ i : Nat, i < 40 → 0 ≤ B' i ∧ B' i ≤ 99 ∧ A' (143 + i) = B' i := by
            intro i hi
            by_cases e : i = j
            · subst e
              rw [at1, at2]
              exact ⟨c3.1, c3.2, rfl⟩
            · rw [nb i e, ne _ (by omega)]
              exact hlk i hi
          exact ⟨P, T, S, E, C, F, ⟨hP.1, hP.2.1, by rw [ne _ (by omega)]; exact hP.2.2⟩, ⟨hT.1, hT.2.1, by rw [ne _ (by omega)]; exact hT.2.2⟩, ⟨hU.1, hU.2.1, by rw [ne _ (by omega)]; exact hU.2.2⟩, ⟨hS.1, hS.2.1, by rw [ne _ (by omega)]; exact hS.2.2⟩, ⟨hE.1, hE.2⟩, ⟨hC.1, hC.2.1, by rw [ne _ (by omega)]; exact hC.2.2⟩, ⟨hF.1, hF.2.1, by rw [ne _ (by omega)]; exact hF.2.2⟩, R_snap_cg hsn (fun j hj => ne _ (by omega)) (fun q i hq hi => ne _ (by omega)) (fun i hi => ne _ (by omega)), (fun i hi => by rw [ne _ (by omega)]; exact htd i hi), (fun t ht => by rw [ne _ (by omega)]; exact hkd t ht), (fun q hq => by rw [ne _ (by omega), ne _ (by omega)]; exact hpl q hq), (fun i hi => by rw [ne _ (by omega)]; exact hro i hi), (fun c hc => by rw [ne _ (by omega)]; exact hod c hc), hos, ⟨hsv.1, hsv.2.1, by rw [ne _ (by omega)]; exact hsv.2.2⟩, hnew, (fun i hi => by rw [ne _ (by omega), ne _ (by omega)]; exact hfe i hi), (fun k hk => R_step_cg (by omega) hP.1 (hst k hk) (fun j a b => ne _ (by omega)) (fun q hq => ne _ (by omega)))⟩
      · refine ⟨0, 0, Mx, Mm, ?_, ?_, rfl, st_same hr0⟩
        · unfold m_X8_likes
          rw [p_within g1 gsc_0 gsc_7, p_within g2 gsc_0 gsc_4, p_within g3 gsc_0 gsc_99, pb_t c1, pb_t c2, pb_f c3]
          simp only [Option.bind_some, gsc_1, gsc_0]
          rw [if_neg (by decide), if_neg (by decide), if_neg (by decide)]
        · unfold m_X9_likes
          rw [p_isIn g1 gsc_0 gsc_7, p_isIn g2 gsc_0 gsc_4, p_isIn g3 gsc_0 gsc_99, pb_t c1, pb_t c2, pb_f c3]
          simp only [Option.bind_some, gsc_1, gsc_0]
          rw [if_neg (by decide), if_neg (by decide), if_neg (by decide)]
    · refine ⟨0, 0, Mx, Mm, ?_, ?_, rfl, st_same hr0⟩
      · unfold m_X8_likes
        rw [p_within g1 gsc_0 gsc_7, p_within g2 gsc_0 gsc_4, pb_t c1, pb_f c2]
        simp only [Option.bind_some, gsc_1, gsc_0]
        rw [if_neg (by decide), if_pos (by decide)]
      · unfold m_X9_likes
        rw [p_isIn g1 gsc_0 gsc_7, p_isIn g2 gsc_0 gsc_4, pb_t c1, pb_f c2]
        simp only [Option.bind_some, gsc_1, gsc_0]
        rw [if_neg (by decide), if_pos (by decide)]
  · refine ⟨0, 0, Mx, Mm, ?_, ?_, rfl, st_same hr0⟩
    · unfold m_X8_likes
      rw [p_within g1 gsc_0 gsc_7, pb_f c1]
      simp only [Option.bind_some, gsc_0]
      rw [if_pos (by decide)]
    · unfold m_X9_likes
      rw [p_isIn g1 gsc_0 gsc_7, pb_f c1]
      simp only [Option.bind_some, gsc_0]
      rw [if_pos (by decide)]
