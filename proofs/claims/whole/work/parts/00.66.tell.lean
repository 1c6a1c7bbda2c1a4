/-! steps that tell one thing -/
theorem st_4 : x_step_4 Rel := by
  intro n Mx Mm hr hn a1 h1
  have g1 := gs_id h1.1 h1.2
  obtain ⟨hf, hi, hle, ⟨⟨L, l1, l2, l3, l4⟩, ⟨l5, l6, l7⟩, l8, l9, l10⟩, hc, htx, hb⟩ := id hr
  have gL : gs (L : Int) = L := gs_nat (by omega)
  by_cases c : 0 ≤ a1 ∧ a1 ≤ (L : Int)
  · obtain ⟨k, rfl⟩ : ∃ k : Nat, a1 = k := ⟨a1.toNat, by omega⟩
    refine ⟨(k : Int), (k : Int), g_wr Mx 23 2 k, g_wr Mm 0 4 k, ?_, ?_, rfl, ?_⟩
    · unfold m_X8_end
      rw [l2, p_within g1 gsc_0 gL, pb_t c]
      simp only [Option.bind_some, gsc_1, g_nm]
      rw [if_pos (by decide)]
    · unfold m_X9_end
      rw [l3, p_isIn g1 gsc_0 gL, pb_t c]
      simp only [Option.bind_some, gsc_1, g_nm]
      rw [if_pos (by decide)]
    · have w1 : ∀ a, a ≠ 23 → g_wr Mx 23 2 (k : Int) a = Mx a := fun a ha => wr_cell _ _ _ _ _ ha
      have w2 : ∀ a, a ≠ 0 → g_wr Mm 0 4 (k : Int) a = Mm a := fun a ha => wr_cell _ _ _ _ _ ha
      refine ⟨?_, ?_, ?_, ⟨⟨k, by omega, wr_at _ _ _ _, wr_at _ _ _ _, ?_⟩, ?_, ?_⟩, ?_, ?_, ?_⟩
      · rw [w1 1 (by omega), w1 2 (by omega), w1 3 (by omega), w1 4 (by omega), w1 5 (by omega), w1 6 (by omega), w1 7 (by omega), w1 8 (by omega), w1 9 (by omega), w1 10 (by omega), w1 11 (by omega), w2 1 (by omega)]
        exact hf
      · rw [w1 12 (by omega), w1 13 (by omega), w1 14 (by omega), w1 15 (by omega), w1 16 (by omega), w1 17 (by omega), w1 18 (by omega), w1 19 (by omega), w1 20 (by omega), w1 21 (by omega), w1 22 (by omega), w2 2 (by omega)]
        exact hi
      · rw [w1 12 (by omega), w1 1 (by omega)]; exact hle
      · rw [w1 24 (by omega), w2 4 (by omega)]
        intro i hi2
        exact l4 i (by omega)
      · rw [g_wr_ne' (M := Mx) (b := 3) (by omega), g_wr_ne' (M := Mm) (b := 5) (by omega)]
        exact ⟨l5, l6, l7⟩
      · rw [g_wr_ne' (M := Mx) (b := 4) (by omega), g_wr_ne' (M := Mm) (b := 6) (by omega)]
        exact ⟨l8, l9, l10⟩
      · refine R_cnt_mono ?_
        obtain ⟨c1, c2, c3, c4⟩ := hc
        refine ⟨?_, ?_, ?_, ?_⟩
        · rw [g_wr_ne' (b := 23) (by omega)]; exact c1
        · rw [g_wr_ne' (b := 24) (by omega)]; exact c2
        · rw [g_wr_ne' (b := 25) (by omega)]; exact c3
        · rw [g_wr_ne' (b := 25) (by omega)]; exact c4
      · intro t h
        rw [w1 1 (by omega)] at h
        have e : (fun i => g_wr Mx 23 2 (k : Int) (41 + 6 * t + i)) = fun i => Mx (41 + 6 * t + i) := funext fun i => w1 _ (by omega)
        rw [e, w2 3 (by omega)]
        exact htx t h
      · intro j hj
        rw [w1 37 (by omega), w1 38 (by omega)]
        exact hb j hj
  · refine ⟨-1, -1, Mx, Mm, ?_, ?_, rfl, st_same hr⟩
    · unfold m_X8_end
      rw [l2, p_within g1 gsc_0 gL, pb_f c]
      simp only [Option.bind_some, gsc_0]
      rw [if_neg (by decide)]
    · unfold m_X9_end
      rw [l3, p_isIn g1 gsc_0 gL, pb_f c]
      simp only [Option.bind_some, gsc_0]
      rw [if_neg (by decide)]
theorem st_20 : x_step_20 Rel := by
  intro n Mx Mm hr hn a1 h1
  have g1 := gs_id h1.1 h1.2
  have hr0 := hr
  obtain ⟨⟨P, T, S, E, C, F, hP, hT, hU, hS, hE, hC, hF, hsn, htd, hkd, hpl, hro, hod, hos, hsv, hlk, hfe, hst⟩, -⟩ := hr
  have gC : gs (C : Int) = C := gs_nat (by omega)
  by_cases e0 : a1 = -1
  · refine ⟨0, 0, g_wr Mx 1 11 0, g_wr Mm 1 4 0, ?_, ?_, rfl, ?_⟩
    · simp only [m_X8_cue, g1, gsc_m1, g_nm]
      rw [if_neg (by omega)]
    · simp only [m_X9_cue, g1, gsc_m1, gsc_4, g_nm]
      rw [if_neg (by omega), g_gd_pos (g_ix_of (by omega) (by omega) (by decide))]
      rfl
    · refine Rel_wr hr0 (k := 1) (by omega) (fun a ha => wr_cell _ _ _ _ _ (by omega)) (g_wr_ne' (by omega)) (fun a ha => wr_cell _ _ _ _ _ ha) ?_
      rw [wr_self, wr_cell _ 1 _ _ 2 (by omega), wr_cell _ 1 _ _ 3 (by omega), wr_cell _ 1 _ _ 4 (by omega), wr_cell _ 1 _ _ 5 (by omega), wr_cell _ 1 _ _ 6 (by omega), wr_cell _ 1 _ _ 7 (by omega), wr_cell _ 1 _ _ 8 (by omega), wr_cell _ 1 _ _ 9 (by omega), wr_cell _ 1 _ _ 10 (by omega), wr_cell _ 1 _ _ 11 (by omega), wr_self]
      generalize hA : (fun b => if b = 4 then (0 : Int) else Mm 1 b) = A'
      generalize hB : (fun b => if b = 11 then (0 : Int) else Mx 1 b) = X'
      have ne : ∀ b : Nat, b ≠ 4 → A' b = Mm 1 b := fun b hb => by rw [← hA]; exact if_neg hb
      have at1 : A' 4 = 0 := by rw [← hA]; exact if_pos rfl
      have nx : ∀ b : Nat, b ≠ 11 → X' b = Mx 1 b := fun b hb => by rw [← hB]; exact if_neg hb
      have at2 : X' 11 = 0 := by rw [← hB]; exact if_pos rfl
      exact ⟨P, T, S, E, 0, F, ⟨hP.1, by rw [nx _ (by omega)]; exact hP.2.1, by rw [ne _ (by omega)]; exact hP.2.2⟩, ⟨hT.1, by rw [nx _ (by omega)]; exact hT.2.1, by rw [ne _ (by omega)]; exact hT.2.2⟩, ⟨by rw [nx _ (by omega)]; exact hU.1, by rw [nx _ (by omega)]; exact hU.2.1, by rw [ne _ (by omega), nx _ (by omega)]; exact hU.2.2⟩, ⟨hS.1, by rw [nx _ (by omega)]; exact hS.2.1, by rw [ne _ (by omega)]; exact hS.2.2⟩, ⟨hE.1, by rw [nx _ (by omega)]; exact hE.2⟩, ⟨by omega, at2, at1⟩, ⟨hF.1, by rw [nx _ (by omega)]; exact hF.2.1, by rw [ne _ (by omega)]; exact hF.2.2⟩, R_snap_cg hsn (fun j hj => ne _ (by omega)) (fun q i hq hi => ne _ (by omega)) (fun i hi => ne _ (by omega)), (fun i hi => by rw [ne _ (by omega)]; exact htd i hi), (fun t ht => by rw [ne _ (by omega)]; exact hkd t ht), (fun q hq => by rw [ne _ (by omega), ne _ (by omega)]; exact hpl q hq), (fun i hi => absurd hi (by omega)), (fun c hc => by rw [ne _ (by omega)]; exact hod c hc), hos, ⟨by rw [nx _ (by omega)]; exact hsv.1, by rw [nx _ (by omega)]; exact hsv.2.1, by rw [ne _ (by omega), nx _ (by omega)]; exact hsv.2.2⟩, (fun i hi => by rw [ne _ (by omega)]; exact hlk i hi), (fun i hi => by rw [ne _ (by omega), ne _ (by omega)]; exact hfe i hi), (fun k hk => R_step_cg (by omega) hP.1 (hst k hk) (fun j a b => ne _ (by omega)) (fun q hq => ne _ (by omega)))⟩
  · by_cases c1 : 0 ≤ a1 ∧ a1 ≤ 3
    · by_cases c2 : C < 12
      · refine ⟨((C + 1 : Nat) : Int), ((C + 1 : Nat) : Int), g_wr (g_wr Mx 7 C a1) 1 11 ((C + 1 : Nat) : Int), g_wr (g_wr Mm 1 (126 + C) a1) 1 4 ((C + 1 : Nat) : Int), ?_, ?_, rfl, ?_⟩
        · simp only [m_X8_cue, g1, gsc_m1, g_nm, p_isCue g1, Option.bind_some, hC.2.1, gC, gsc_12, pb_t c1, gsc_1]
          rw [if_pos e0, if_neg (by decide), if_pos (by omega), g_gd_pos (g_ix_of (by omega) (by omega) (by decide))]
          rw [g_wr_ne' (k := 7) (by omega), hC.2.1, wr_at]
          rfl
        · simp only [m_X9_cue, g1, gsc_m1, gsc_4, g_nm, p_isIn g1 gsc_0 gsc_3, Option.bind_some, pb_t c1, gsc_1, show Int.toNat 4 = 4 from rfl, hC.2.2, gC, gsc_12]
          rw [if_pos e0, if_neg (by decide), g_gd_pos (g_ix_of (by omega) (by omega) (by decide)), if_pos (by omega), g_gd_pos (g_ix_of (by omega) (by omega) (by decide)), g_gd_pos (g_ix_of (by omega) (by omega) (by decide))]
          rw [gs_rd (x := 126 + (C : Int)) (k := 126 + C) (by omega) (by omega)]
          rw [g_gd_pos (g_ix_of (by omega) (by omega) (by decide)), g_gd_pos (g_ix_of (by omega) (by omega) (by decide)), g_gd_pos (g_ix_of (by omega) (by omega) (by decide))]
          rw [g_wr_ne' (k := 1) (j := 126 + C) (by omega), hC.2.2, wr_at]
          rfl
        · refine Rel_wr hr0 (k := 7) (by omega) (fun a ha => by rw [wr_cell _ _ _ _ _ (by omega), wr_cell _ _ _ _ _ (by omega)]) (by rw [g_wr_ne' (by omega), g_wr_ne' (by omega)]) (fun a ha => by rw [wr_cell _ _ _ _ _ ha, wr_cell _ _ _ _ _ ha]) ?_
          rw [wr_self, wr_cell _ 1 _ _ 2 (by omega), wr_cell _ 1 _ _ 3 (by omega), wr_cell _ 1 _ _ 4 (by omega), wr_cell _ 1 _ _ 5 (by omega), wr_cell _ 1 _ _ 6 (by omega), wr_cell _ 1 _ _ 7 (by omega), wr_cell _ 1 _ _ 8 (by omega), wr_cell _ 1 _ _ 9 (by omega), wr_cell _ 1 _ _ 10 (by omega), wr_cell _ 1 _ _ 11 (by omega), wr_self, wr_cell _ 7 _ _ 1 (by omega), wr_cell _ 7 _ _ 2 (by omega), wr_cell _ 7 _ _ 3 (by omega), wr_cell _ 7 _ _ 4 (by omega), wr_cell _ 7 _ _ 5 (by omega), wr_cell _ 7 _ _ 6 (by omega), wr_self, wr_cell _ 7 _ _ 8 (by omega), wr_cell _ 7 _ _ 9 (by omega), wr_cell _ 7 _ _ 10 (by omega), wr_cell _ 7 _ _ 11 (by omega), wr_self]
          generalize hA : (fun b => if b = 4 then ((C + 1 : Nat) : Int) else (fun b => if b = 126 + C then a1 else Mm 1 b) b) = A'
          generalize hB : (fun b => if b = 11 then ((C + 1 : Nat) : Int) else Mx 1 b) = X'
          generalize hD : (fun b => if b = C then a1 else Mx 7 b) = B'
          have ne : ∀ b : Nat, b ≠ 4 ∧ b ≠ 126 + C → A' b = Mm 1 b := fun b hb => by rw [← hA]; exact (if_neg hb.1).trans (if_neg hb.2)
          have at1 : A' 4 = ((C + 1 : Nat) : Int) := by rw [← hA]; exact if_pos rfl
          have at3 : A' (126 + C) = a1 := by rw [← hA]; exact (if_neg (by omega)).trans (if_pos rfl)
          have nx : ∀ b : Nat, b ≠ 11 → X' b = Mx 1 b := fun b hb => by rw [← hB]; exact if_neg hb
          have at2 : X' 11 = ((C + 1 : Nat) : Int) := by rw [← hB]; exact if_pos rfl
          have nb : ∀ b : Nat, b ≠ C → B' b = Mx 7 b := fun b hb => by rw [← hD]; exact if_neg hb
          have at4 : B' C = a1 := by rw [← hD]; exact if_pos rfl
          have hnew : ∀ i : Nat, i < C + 1 → 0 ≤ B' i ∧ B' i ≤ 3 ∧ A' (126 + i) = B' i := by
            intro i hi
            by_cases e : i = C
            · subst e
              rw [at3, at4]
              exact ⟨c1.1, c1.2, rfl⟩
            · rw [nb i e, ne _ (by omega)]
              exact hro i (by omega)
          exact ⟨P, T, S, E, C + 1, F, ⟨hP.1, by rw [nx _ (by omega)]; exact hP.2.1, by rw [ne _ (by omega)]; exact hP.2.2⟩, ⟨hT.1, by rw [nx _ (by omega)]; exact hT.2.1, by rw [ne _ (by omega)]; exact hT.2.2⟩, ⟨by rw [nx _ (by omega)]; exact hU.1, by rw [nx _ (by omega)]; exact hU.2.1, by rw [ne _ (by omega), nx _ (by omega)]; exact hU.2.2⟩, ⟨hS.1, by rw [nx _ (by omega)]; exact hS.2.1, by rw [ne _ (by omega)]; exact hS.2.2⟩, ⟨hE.1, by rw [nx _ (by omega)]; exact hE.2⟩, ⟨by omega, at2, at1⟩, ⟨hF.1, by rw [nx _ (by omega)]; exact hF.2.1, by rw [ne _ (by omega)]; exact hF.2.2⟩, R_snap_cg hsn (fun j hj => ne _ (by omega)) (fun q i hq hi => ne _ (by omega)) (fun i hi => ne _ (by omega)), (fun i hi => by rw [ne _ (by omega)]; exact htd i hi), (fun t ht => by rw [ne _ (by omega)]; exact hkd t ht), (fun q hq => by rw [ne _ (by omega), ne _ (by omega)]; exact hpl q hq), hnew, (fun c hc => by rw [ne _ (by omega)]; exact hod c hc), hos, ⟨by rw [nx _ (by omega)]; exact hsv.1, by rw [nx _ (by omega)]; exact hsv.2.1, by rw [ne _ (by omega), nx _ (by omega)]; exact hsv.2.2⟩, (fun i hi => by rw [ne _ (by omega)]; exact hlk i hi), (fun i hi => by rw [ne _ (by omega), ne _ (by omega)]; exact hfe i hi), (fun k hk => R_step_cg (by omega) hP.1 (hst k hk) (fun j a b => ne _ (by omega)) (fun q hq => ne _ (by omega)))⟩
      · refine ⟨-2, -2, Mx, Mm, ?_, ?_, rfl, st_same hr0⟩
        · simp only [m_X8_cue, g1, gsc_m1, g_nm, p_isCue g1, Option.bind_some, hC.2.1, gC, gsc_12, pb_t c1, gsc_1]
          rw [if_pos e0, if_neg (by decide), if_neg (by omega)]
        · simp only [m_X9_cue, g1, gsc_m1, gsc_4, g_nm, p_isIn g1 gsc_0 gsc_3, Option.bind_some, pb_t c1, gsc_1, show Int.toNat 4 = 4 from rfl, hC.2.2, gC, gsc_12]
          rw [if_pos e0, if_neg (by decide), g_gd_pos (g_ix_of (by omega) (by omega) (by decide)), if_neg (by omega)]
    · refine ⟨-2, -2, Mx, Mm, ?_, ?_, rfl, st_same hr0⟩
      · simp only [m_X8_cue, g1, gsc_m1, g_nm, p_isCue g1, Option.bind_some, pb_f c1, gsc_0]
        rw [if_pos e0, if_pos (by decide)]
      · simp only [m_X9_cue, g1, gsc_m1, g_nm, p_isIn g1 gsc_0 gsc_3, Option.bind_some, pb_f c1, gsc_0]
        rw [if_pos e0, if_pos (by decide)]
