/-! steps that tell one thing -/
theorem st_1 : x_step_1 Rel := by
  intro n Mx Mm hr hn a1 a2 h1 h2
  have g1 := gs_id h1.1 h1.2
  have g2 := gs_id h2.1 h2.2
  by_cases c1 : 0 ≤ a1 ∧ a1 ≤ 11
  · by_cases c2 : 0 ≤ a2 ∧ a2 ≤ 3
    · obtain ⟨s, rfl⟩ : ∃ s : Nat, a1 = s := ⟨a1.toNat, by omega⟩
      have hs : s < 12 := by omega
      refine ⟨1, 1, g_wr Mx 5 s a2, g_wr Mm 1 (114 + s) a2, ?_, ?_, rfl, ?_⟩
      · unfold m_X8_kind
        rw [p_isScene g1, p_within g2 gsc_0 gsc_3, pb_t c1, pb_t c2]
        simp only [Option.bind_some, gsc_1, g1]
        rw [if_neg (by decide), if_pos (by decide), g_gd_pos (g_ix_of c1.1 (by omega) (by decide))]
        rfl
      · unfold m_X9_kind
        rw [q_isScene g1, p_isIn g2 gsc_0 gsc_3, pb_t c1, pb_t c2]
        simp only [Option.bind_some, gsc_1]
        rw [if_neg (by decide), if_pos (by decide), g_gd_pos (g_ix_of (by omega) (by omega) (by decide))]
        simp only [g_nm]
        rw [gs_rd (x := 114 + (s : Int)) (k := 114 + s) (by omega) (by omega)]
      · refine Rel_wr hr (k := 5) (by omega) (fun a ha => wr_cell _ _ _ _ _ (by omega)) (by rw [wr_cell _ _ _ _ _ (by omega)]) (fun a ha => wr_cell _ _ _ _ _ ha) ?_
        rw [wr_cell _ 5 _ _ 1 (by omega), wr_cell _ 5 _ _ 2 (by omega), wr_cell _ 5 _ _ 3 (by omega), wr_cell _ 5 _ _ 4 (by omega), wr_self, wr_cell _ 5 _ _ 6 (by omega), wr_cell _ 5 _ _ 7 (by omega), wr_cell _ 5 _ _ 8 (by omega), wr_cell _ 5 _ _ 9 (by omega), wr_cell _ 5 _ _ 10 (by omega), wr_cell _ 5 _ _ 11 (by omega), wr_self]
        obtain ⟨⟨P, T, S, E, C, F, hP, hT, hU, hS, hE, hC, hF, hsn, htd, hkd, hpl, hro, hod, hos, hsv, hlk, hfe, hst⟩, -⟩ := hr
        generalize hA : (fun b => if b = 114 + s then a2 else Mm 1 b) = A'
        generalize hB : (fun b => if b = s then a2 else Mx 5 b) = B'
        have ne : ∀ b : Nat, b ≠ 114 + s → A' b = Mm 1 b := fun b hb => by rw [← hA]; exact if_neg hb
        have at1 : A' (114 + s) = a2 := by rw [← hA]; exact if_pos rfl
        have nb : ∀ b : Nat, b ≠ s → B' b = Mx 5 b := fun b hb => by rw [← hB]; exact if_neg hb
        have at2 : B' s = a2 := by rw [← hB]; exact if_pos rfl
        refine ⟨P, T, S, E, C, F, ⟨hP.1, hP.2.1, by rw [ne _ (by omega)]; exact hP.2.2⟩, ⟨hT.1, hT.2.1, by rw [ne _ (by omega)]; exact hT.2.2⟩, ⟨hU.1, hU.2.1, by rw [ne _ (by omega)]; exact hU.2.2⟩, ⟨hS.1, hS.2.1, by rw [ne _ (by omega)]; exact hS.2.2⟩, hE, ⟨hC.1, hC.2.1, by rw [ne _ (by omega)]; exact hC.2.2⟩, ⟨hF.1, hF.2.1, by rw [ne _ (by omega)]; exact hF.2.2⟩, R_snap_cg hsn (fun j hj => ne _ (by omega)) (fun q i hq hi => ne _ (by omega)) (fun i hi => ne _ (by omega)), fun i hi => ?_, fun t ht => ?_, fun q hq => ?_, fun i hi => ?_, fun c hc => ?_, hos, ⟨hsv.1, hsv.2.1, by rw [ne _ (by omega)]; exact hsv.2.2⟩, fun i hi => ?_, fun i hi => ?_, fun k hk => R_step_cg (by omega) hP.1 (hst k hk) (fun j a b => ne _ (by omega)) (fun q hq => ne _ (by omega))⟩
        · rw [ne _ (by omega)]; exact htd i hi
        · by_cases e : t = s
          · subst e
            rw [at1, at2]
            exact ⟨c2.1, c2.2, rfl⟩
          · rw [nb t e, ne _ (by omega)]
            exact hkd t ht
        · rw [ne _ (by omega), ne _ (by omega)]; exact hpl q hq
        · rw [ne _ (by omega)]; exact hro i hi
        · rw [ne _ (by omega)]; exact hod c hc
        · rw [ne _ (by omega)]; exact hlk i hi
        · rw [ne _ (by omega), ne _ (by omega)]; exact hfe i hi
    · refine ⟨0, 0, Mx, Mm, ?_, ?_, rfl, st_same hr⟩
      · unfold m_X8_kind
        rw [p_isScene g1, p_within g2 gsc_0 gsc_3, pb_t c1, pb_f c2]
        simp only [Option.bind_some, gsc_1, gsc_0]
        rw [if_neg (by decide), if_neg (by decide)]
      · unfold m_X9_kind
        rw [q_isScene g1, p_isIn g2 gsc_0 gsc_3, pb_t c1, pb_f c2]
        simp only [Option.bind_some, gsc_1, gsc_0]
        rw [if_neg (by decide), if_neg (by decide)]
  · refine ⟨0, 0, Mx, Mm, ?_, ?_, rfl, st_same hr⟩
    · unfold m_X8_kind
      rw [p_isScene g1, pb_f c1]
      simp only [Option.bind_some, gsc_0]
      rw [if_pos (by decide)]
    · unfold m_X9_kind
      rw [q_isScene g1, pb_f c1]
      simp only [Option.bind_some, gsc_0]
      rw [if_pos (by decide)]
