/-! odds, ways: the steps -/
theorem RF_odds {M W : g_M} (H : RF M W) : (∀ c : Nat, c < 4 → 0 ≤ M 8 c ∧ M 8 c ≤ 10 ∧ W 1 (138 + c) = M 8 c) ∧ M 8 0 + M 8 1 + M 8 2 + M 8 3 = 10 := by
  obtain ⟨P, T, S, E, C, F, hP, hT, hU, hS, hE, hC, hF, hsn, htd, hkd, hpl, hro, hod, hos, -⟩ := H
  exact ⟨hod, hos⟩
theorem st_35 : x_step_35 Rel := by
  intro n Mx Mm hr hn a1 a2 h1 h2
  obtain ⟨i1, j1⟩ := h1
  obtain ⟨i2, j2⟩ := h2
  by_cases c1 : 0 ≤ a1 ∧ a1 ≤ 12
  rotate_left
  · refine ⟨-1, -1, Mx, Mm, ?_, ?_, rfl, st_same hr⟩
    · unfold m_X8_ways; simp (disch := omega) only [↓reduceIte, ↓nm_eq, ↓jn_eq, ↓c_within, ↓c_isIn, ↓c_isScene, ↓c_isPlace, ↓c_isCue, ↓c_isDigit, ↓d_isScene, ↓d_isAny, ↓ta_pb1, ↓ta_pb0, ↓ta_pb1', ↓ta_pb0', ta_lt, ta_nlt, ta_le, ta_nle, ta_eq, ta_neq, ta_nne, ta_ne, gs_id, a_gd01, a_gdT, or_true, true_or, bd_some, bW_sm, a_gd, a_ne, a_rd, Int.toNat_natCast, Int.toNat_add, Int.toNat_mul, Int.reduceToNat, a_gdp, a_cell, and_self, and_true, true_and]
    · unfold m_X9_ways; simp (disch := omega) only [↓reduceIte, ↓nm_eq, ↓jn_eq, ↓c_within, ↓c_isIn, ↓c_isScene, ↓c_isPlace, ↓c_isCue, ↓c_isDigit, ↓d_isScene, ↓d_isAny, ↓ta_pb1, ↓ta_pb0, ↓ta_pb1', ↓ta_pb0', ta_lt, ta_nlt, ta_le, ta_nle, ta_eq, ta_neq, ta_nne, ta_ne, gs_id, a_gd01, a_gdT, or_true, true_or, bd_some, bW_sm, a_gd, a_ne, a_rd, Int.toNat_natCast, Int.toNat_add, Int.toNat_mul, Int.reduceToNat, a_gdp, a_cell, and_self, and_true, true_and]
  by_cases c2 : 0 ≤ a2 ∧ a2 ≤ 12
  rotate_left
  · refine ⟨-1, -1, Mx, Mm, ?_, ?_, rfl, st_same hr⟩
    · unfold m_X8_ways; simp (disch := omega) only [↓reduceIte, ↓nm_eq, ↓jn_eq, ↓c_within, ↓c_isIn, ↓c_isScene, ↓c_isPlace, ↓c_isCue, ↓c_isDigit, ↓d_isScene, ↓d_isAny, ↓ta_pb1, ↓ta_pb0, ↓ta_pb1', ↓ta_pb0', ta_lt, ta_nlt, ta_le, ta_nle, ta_eq, ta_neq, ta_nne, ta_ne, gs_id, a_gd01, a_gdT, or_true, true_or, bd_some, bW_sm, a_gd, a_ne, a_rd, Int.toNat_natCast, Int.toNat_add, Int.toNat_mul, Int.reduceToNat, a_gdp, a_cell, and_self, and_true, true_and]
    · unfold m_X9_ways; simp (disch := omega) only [↓reduceIte, ↓nm_eq, ↓jn_eq, ↓c_within, ↓c_isIn, ↓c_isScene, ↓c_isPlace, ↓c_isCue, ↓c_isDigit, ↓d_isScene, ↓d_isAny, ↓ta_pb1, ↓ta_pb0, ↓ta_pb1', ↓ta_pb0', ta_lt, ta_nlt, ta_le, ta_nle, ta_eq, ta_neq, ta_nne, ta_ne, gs_id, a_gd01, a_gdT, or_true, true_or, bd_some, bW_sm, a_gd, a_ne, a_rd, Int.toNat_natCast, Int.toNat_add, Int.toNat_mul, Int.reduceToNat, a_gdp, a_cell, and_self, and_true, true_and]
  obtain ⟨s, rfl⟩ : ∃ s : Nat, a1 = s := ⟨a1.toNat, by omega⟩
  obtain ⟨k, rfl⟩ : ∃ k : Nat, a2 = k := ⟨a2.toNat, by omega⟩
  have H := Rel_RF hr
  obtain ⟨b1, b2, hnx⟩ := ND_of H
  have hx := Nx_of H
  have sv := Sv_of Mx b1 b2
  generalize ND (Mx 2) (Mx 4) = nx at *
  obtain ⟨M1, e1, m1, m2, m3⟩ := p_count (M := Mx) 0 (fun _ => 1) nx
  have sv1 : Sv nx M1 := fun s c hs hc => by rw [m2]; exact sv s c hs hc
  have kx : ∃ M', (∀ a, a ≠ 68 → a ≠ 72 → a ≠ 73 → M' a = Mx a) ∧ m_X8_ways s k Mx = some (cN 0 (fun _ => 1) nx k s, M') := by
    obtain ⟨M', f1, f2⟩ := p_ways6 s hnx sv1 m3 (fun M47 => g_gd (g_ix s 13) (some ((M47 72 (gs s).toNat), M47))) (n := k) (by omega)
    refine ⟨M', fun a h1 h2 h3 => (f1.1 a h2 h3).trans (m1 a h1 h2), ?_⟩
    have e := f1.2 s (by omega)
    have inner : m_X0_waysJust s k Mx = some (cN 0 (fun _ => 1) nx k s, M') := by
      unfold m_X0_waysJust
      rw [e1, bd_some, nm_eq]
      refine f2.trans ?_
      simp (disch := omega) only [↓reduceIte, ↓nm_eq, ↓jn_eq, ↓c_within, ↓c_isIn, ↓c_isScene, ↓c_isPlace, ↓c_isCue, ↓c_isDigit, ↓d_isScene, ↓d_isAny, ↓ta_pb1, ↓ta_pb0, ↓ta_pb1', ↓ta_pb0', ta_lt, ta_nlt, ta_le, ta_nle, ta_eq, ta_neq, ta_nne, ta_ne, gs_id, a_gd01, a_gdT, or_true, true_or, bd_some, bW_sm, a_gd, a_ne, a_rd, Int.toNat_natCast, Int.toNat_add, Int.toNat_mul, Int.reduceToNat, a_gdp, a_cell, and_self, and_true, true_and, e]
    unfold m_X8_ways
    simp (disch := omega) only [↓reduceIte, ↓nm_eq, ↓jn_eq, ↓c_within, ↓c_isIn, ↓c_isScene, ↓c_isPlace, ↓c_isCue, ↓c_isDigit, ↓d_isScene, ↓d_isAny, ↓ta_pb1, ↓ta_pb0, ↓ta_pb1', ↓ta_pb0', ta_lt, ta_nlt, ta_le, ta_nle, ta_eq, ta_neq, ta_nne, ta_ne, gs_id, a_gd01, a_gdT, or_true, true_or, bd_some, bW_sm, a_gd, a_ne, a_rd, Int.toNat_natCast, Int.toNat_add, Int.toNat_mul, Int.reduceToNat, a_gdp, a_cell, and_self, and_true, true_and, inner]
  have ky : ∃ W', (∀ a, a ≠ 12 → a ≠ 13 → W' a = Mm a) ∧ m_X9_ways s k Mm = some (cN 0 (fun _ => 1) nx k s, W') := by
    have bg := q_begin Mm (s := s) (by omega)
    obtain ⟨W1, hW1⟩ : ∃ W1, W1 = g_wr (cpF Mm 12 0 (fun j => if j = s then 1 else 0) 13) 12 12 0 := ⟨_, rfl⟩
    have fi := FI_begin (t := 0) (o := fun _ => 1) (nx := nx) (s := s) (by omega) (W0 := Mm) (W := W1) (fun a h1 h2 => by rw [hW1, a_cell _ h1, cpF_cell _ _ h1]) (fun j hj => by rw [hW1, a_ne _ (by omega), cpF_in _ _ (by omega), Nat.sub_zero])
    have key : Ok (m_X9_ways_L45 k g_fuel (if s = 12 then 1 else 0) 0 W1) (fun r => r.1 = cN 0 (fun _ => 1) nx k s ∧ ∀ a, a ≠ 12 → a ≠ 13 → r.2 a = Mm a) := by
      refine Ok_for k (fun F i (a : Int × g_M) => m_X9_ways_L45 k F a.1 i a.2) (fun i a => FI 0 (fun _ => 1) nx s Mm i a.1 a.2) (fun F a h => ?_) (fun i F a hi h kk => ?_) 0 g_fuel (_, W1) (by omega) (by unfold g_fuel; omega) fi
      · obtain ⟨U, V⟩ := a
        show Ok (m_X9_ways_L45 k (F + 1) U _ V) _
        rw [m_X9_ways_L45]
        simp (disch := omega) only [↓reduceIte, ↓nm_eq, ↓jn_eq, ↓c_within, ↓c_isIn, ↓c_isScene, ↓c_isPlace, ↓c_isCue, ↓c_isDigit, ↓d_isScene, ↓d_isAny, ↓ta_pb1, ↓ta_pb0, ↓ta_pb1', ↓ta_pb0', ta_lt, ta_nlt, ta_le, ta_nle, ta_eq, ta_neq, ta_nne, ta_ne, gs_id, a_gd01, a_gdT, or_true, true_or, bd_some, bW_sm, a_gd, a_ne, a_rd, Int.toNat_natCast, Int.toNat_add, Int.toNat_mul, Int.reduceToNat, a_gdp, a_cell, and_self, and_true, true_and]
        exact Ok_some ⟨(FI_0 h).symm, h.1⟩
      · obtain ⟨U, V⟩ := a
        show Ok (m_X9_ways_L45 k (F + 1) U _ V) _
        rw [m_X9_ways_L45, if_neg (by rw [gs_id (by omega) (by omega), gs_id (by omega) (by omega)]; omega)]
        refine Ok_bW (q_goOn hnx hx (o := fun _ => 1) (fun V _ c hc => ⟨by decide, by decide, fun _ => rfl, fun z => absurd rfl z⟩) (Or.inl rfl) V (h.1 1 (by omega) (by omega))) (fun A V' hA => ?_)
        rw [nm_eq, nm_eq]
        have st := FI_step h hA.1 hA.2
        rw [Int.zero_mul, Int.zero_add] at st
        exact kk (A, V') st
    obtain ⟨⟨r, W'⟩, e, e2, e3⟩ := key
    refine ⟨W', e3, ?_⟩
    dsimp only at e2
    unfold m_X9_ways
    simp (disch := omega) only [↓reduceIte, ↓nm_eq, ↓jn_eq, ↓c_within, ↓c_isIn, ↓c_isScene, ↓c_isPlace, ↓c_isCue, ↓c_isDigit, ↓d_isScene, ↓d_isAny, ↓ta_pb1, ↓ta_pb0, ↓ta_pb1', ↓ta_pb0', ta_lt, ta_nlt, ta_le, ta_nle, ta_eq, ta_neq, ta_nne, ta_ne, gs_id, a_gd01, a_gdT, or_true, true_or, bd_some, bW_sm, a_gd, a_ne, a_rd, Int.toNat_natCast, Int.toNat_add, Int.toNat_mul, Int.reduceToNat, a_gdp, a_cell, and_self, and_true, true_and, bg, cpF_in]
    rw [← hW1, show (12 - 0 : Nat) = 12 from rfl]
    have eif : (if (12 : Nat) = s then (1 : Int) else 0) = if s = 12 then 1 else 0 := by
      by_cases c : s = 12
      · rw [if_pos c, if_pos c.symm]
      · rw [if_neg c, if_neg (fun z => c z.symm)]
    rw [eif, e, e2]
  obtain ⟨M', f1, f2⟩ := kx
  obtain ⟨W', g1, g2⟩ := ky
  exact ⟨_, _, M', W', f2, g2, rfl, Rel_scr hr (fun a ha => f1 a (by omega) (by omega) (by omega)) (fun a ha => g1 a (by omega) (by omega))⟩
theorem pow10_le : ∀ n, n ≤ 9 → (1 : Int) ≤ 10 ^ n ∧ (10 : Int) ^ n ≤ 1000000000 := by
  intro n hn
  have : n = 0 ∨ n = 1 ∨ n = 2 ∨ n = 3 ∨ n = 4 ∨ n = 5 ∨ n = 6 ∨ n = 7 ∨ n = 8 ∨ n = 9 := by omega
  rcases this with rfl | rfl | rfl | rfl | rfl | rfl | rfl | rfl | rfl | rfl <;> exact ⟨by decide, by decide⟩
theorem cN_e10 (o : Nat → Int) (nx : Nat → Nat → Nat) : ∀ k, cN 10 o nx k 12 = (10 : Int) ^ k := by
  intro k
  induction k with
  | zero => rfl
  | succ k ih => rw [cN_e, ih, Int.pow_succ, Int.mul_comm]
theorem st_25 : x_step_25 Rel := by
  intro n Mx Mm hr hn a1 a2 z h1 h2 hz
  obtain ⟨i1, j1⟩ := h1
  obtain ⟨i2, j2⟩ := h2
  by_cases c1 : 0 ≤ a1 ∧ a1 ≤ 12
  rotate_left
  · refine ⟨-1, -1, Mx, Mm, ?_, ?_, rfl, st_same hr⟩
    · unfold m_X8_odds; simp (disch := omega) only [↓reduceIte, ↓nm_eq, ↓jn_eq, ↓c_within, ↓c_isIn, ↓c_isScene, ↓c_isPlace, ↓c_isCue, ↓c_isDigit, ↓d_isScene, ↓d_isAny, ↓ta_pb1, ↓ta_pb0, ↓ta_pb1', ↓ta_pb0', ta_lt, ta_nlt, ta_le, ta_nle, ta_eq, ta_neq, ta_nne, ta_ne, gs_id, a_gd01, a_gdT, or_true, true_or, bd_some, bW_sm, a_gd, a_ne, a_rd, Int.toNat_natCast, Int.toNat_add, Int.toNat_mul, Int.reduceToNat, a_gdp, a_cell, and_self, and_true, true_and]
    · unfold m_X9_odds; simp (disch := omega) only [↓reduceIte, ↓nm_eq, ↓jn_eq, ↓c_within, ↓c_isIn, ↓c_isScene, ↓c_isPlace, ↓c_isCue, ↓c_isDigit, ↓d_isScene, ↓d_isAny, ↓ta_pb1, ↓ta_pb0, ↓ta_pb1', ↓ta_pb0', ta_lt, ta_nlt, ta_le, ta_nle, ta_eq, ta_neq, ta_nne, ta_ne, gs_id, a_gd01, a_gdT, or_true, true_or, bd_some, bW_sm, a_gd, a_ne, a_rd, Int.toNat_natCast, Int.toNat_add, Int.toNat_mul, Int.reduceToNat, a_gdp, a_cell, and_self, and_true, true_and]
  by_cases c2 : 0 ≤ a2 ∧ a2 ≤ 9
  rotate_left
  · refine ⟨-1, -1, Mx, Mm, ?_, ?_, rfl, st_same hr⟩
    · unfold m_X8_odds; simp (disch := omega) only [↓reduceIte, ↓nm_eq, ↓jn_eq, ↓c_within, ↓c_isIn, ↓c_isScene, ↓c_isPlace, ↓c_isCue, ↓c_isDigit, ↓d_isScene, ↓d_isAny, ↓ta_pb1, ↓ta_pb0, ↓ta_pb1', ↓ta_pb0', ta_lt, ta_nlt, ta_le, ta_nle, ta_eq, ta_neq, ta_nne, ta_ne, gs_id, a_gd01, a_gdT, or_true, true_or, bd_some, bW_sm, a_gd, a_ne, a_rd, Int.toNat_natCast, Int.toNat_add, Int.toNat_mul, Int.reduceToNat, a_gdp, a_cell, and_self, and_true, true_and]
    · unfold m_X9_odds; simp (disch := omega) only [↓reduceIte, ↓nm_eq, ↓jn_eq, ↓c_within, ↓c_isIn, ↓c_isScene, ↓c_isPlace, ↓c_isCue, ↓c_isDigit, ↓d_isScene, ↓d_isAny, ↓ta_pb1, ↓ta_pb0, ↓ta_pb1', ↓ta_pb0', ta_lt, ta_nlt, ta_le, ta_nle, ta_eq, ta_neq, ta_nne, ta_ne, gs_id, a_gd01, a_gdT, or_true, true_or, bd_some, bW_sm, a_gd, a_ne, a_rd, Int.toNat_natCast, Int.toNat_add, Int.toNat_mul, Int.reduceToNat, a_gdp, a_cell, and_self, and_true, true_and]
  obtain ⟨s, rfl⟩ : ∃ s : Nat, a1 = s := ⟨a1.toNat, by omega⟩
  obtain ⟨k, rfl⟩ : ∃ k : Nat, a2 = k := ⟨a2.toNat, by omega⟩
  have H := Rel_RF hr
  obtain ⟨od1, od2⟩ := RF_odds H
  obtain ⟨b1, b2, hnx⟩ := ND_of H
  have hx := Nx_of H
  have sv := Sv_of Mx b1 b2
  generalize ND (Mx 2) (Mx 4) = nx at *
  obtain ⟨o, ho⟩ : ∃ o : Nat → Int, o = Mx 8 := ⟨_, rfl⟩
  obtain ⟨M1, e1, m1, m2, m3⟩ := p_count (M := Mx) 10 o nx
  have sv1 : Sv nx M1 := fun s c hs hc => by rw [m2]; exact sv s c hs hc
  obtain ⟨p1, p2⟩ := pow10_le k (by omega)
  obtain ⟨u1, u2⟩ := cN_b o nx (fun c hc => by rw [ho]; exact (od1 c hc).1) (by rw [ho]; exact od2) hnx k s (by omega)
  have e12 := cN_e10 o nx k
  obtain ⟨d, d1, d2, d3, d4⟩ := gcd_both 31 (cN 10 o nx k s) (cN 10 o nx k 12) 0 g_fuel g_fuel (by omega) (by rw [e12]; exact ⟨by omega, Int.lt_of_le_of_lt p2 (by decide)⟩) (by omega) (by omega) (by unfold g_fuel; omega) (by unfold g_fuel; omega) (by omega)
  have dl : gl d = d := L_id (by omega) (by omega)
  have dc : ¬ gs (g_cmp d 0) = 0 := fun z => by have := (cmp_0 (y := d) (by omega) (by omega)).1 z; omega
  obtain ⟨r, hr0⟩ : ∃ r, r = if z = 0 then g_ldiv (cN 10 o nx k s) d else g_ldiv (cN 10 o nx k 12) d := ⟨_, rfl⟩
  have kx : ∃ M', (∀ a, a ≠ 68 → a ≠ 72 → a ≠ 73 → M' a = Mx a) ∧ m_X8_odds s k z Mx = some (r, M') := by
    obtain ⟨M', f1, f2⟩ := p_odds10 s z hnx sv1 (fun c hc => by rw [m1 8 (by omega) (by omega), ho]; exact ⟨rfl, (od1 c hc).1, (od1 c hc).2.1⟩) m3 (fun (x56 : Int) (M57 : g_M) => g_gd (g_ix s 13) ((m_X0_commonDivisor (M57 72 (gs s).toNat) x56).bind (fun x58 => g_nm x58 (fun x59 => if gs (g_cmp x59 0) ≠ 0 then (if gs z = 0 then (g_gd (g_ix s 13) (g_gd (gl x59 ≠ 0) (some ((g_ldiv (M57 72 (gs s).toNat) x59), M57)))) else (g_gd (gl x59 ≠ 0) (some ((g_ldiv x56 x59), M57)))) else (some ((-1), M57)))))) (n := k) (by omega)
    refine ⟨M', fun a h1 h2 h3 => (f1.1 a h2 h3).trans (m1 a h1 h2), ?_⟩
    have e := f1.2 s (by omega)
    have cd : m_X0_commonDivisor (cN 10 o nx k s) (cN 10 o nx k 12) = some d := by
      unfold m_X0_commonDivisor
      rw [nm_eq]
      exact d3
    have inner : m_X0_oddsWithin s k z Mx = some (r, M') := by
      unfold m_X0_oddsWithin
      rw [e1, bd_some, nm_eq, nm_eq]
      refine f2.trans ?_
      rw [g_gd_pos (g_ix_of (by omega) (by omega) (by omega)), show (gs (s : Int)).toNat = s by rw [gs_id (by omega) (by omega)]; omega, e, cd, bd_some, nm_eq, if_pos dc]
      rcases hz with rfl | rfl
      · rw [if_pos rfl] at hr0
        rw [if_pos (by rw [gs_id (by omega) (by omega)]), g_gd_pos (g_ix_of (by omega) (by omega) (by omega)), g_gd_pos (by rw [dl]; omega), hr0]
      · rw [if_neg (by decide)] at hr0
        rw [if_neg (by rw [gs_id (by omega) (by omega)]; omega), g_gd_pos (by rw [dl]; omega), hr0]
    unfold m_X8_odds
    simp (disch := omega) only [↓reduceIte, ↓nm_eq, ↓jn_eq, ↓c_within, ↓c_isIn, ↓c_isScene, ↓c_isPlace, ↓c_isCue, ↓c_isDigit, ↓d_isScene, ↓d_isAny, ↓ta_pb1, ↓ta_pb0, ↓ta_pb1', ↓ta_pb0', ta_lt, ta_nlt, ta_le, ta_nle, ta_eq, ta_neq, ta_nne, ta_ne, gs_id, a_gd01, a_gdT, or_true, true_or, bd_some, bW_sm, a_gd, a_ne, a_rd, Int.toNat_natCast, Int.toNat_add, Int.toNat_mul, Int.reduceToNat, a_gdp, a_cell, and_self, and_true, true_and, inner]
  have ky : ∃ W', (∀ a, a ≠ 12 → a ≠ 13 → W' a = Mm a) ∧ m_X9_odds s k z Mm = some (r, W') := by
    have bg := q_begin Mm (s := s) (by omega)
    obtain ⟨W1, hW1⟩ : ∃ W1, W1 = cpF Mm 12 0 (fun j => if j = s then 1 else 0) 13 := ⟨_, rfl⟩
    have fi := FI_begin (t := 10) (o := o) (nx := nx) (s := s) (by omega) (W0 := Mm) (W := W1) (fun a h1 h2 => by rw [hW1, cpF_cell _ _ h1]) (fun j hj => by rw [hW1, cpF_in _ _ (by omega), Nat.sub_zero])
    have key : ∀ kc : Int → Int → g_M → Option (Int × g_M), (∀ V, (∀ a, a ≠ 12 → a ≠ 13 → V a = Mm a) → Ok (kc (cN 10 o nx k s) (cN 10 o nx k 12) V) (fun q => q.1 = r ∧ ∀ a, a ≠ 12 → a ≠ 13 → q.2 a = Mm a)) → Ok (m_X9_odds_L41 k z kc g_fuel (if s = 12 then 1 else 0) 1 0 W1) (fun q => q.1 = r ∧ ∀ a, a ≠ 12 → a ≠ 13 → q.2 a = Mm a) := by
      intro kc hk
      refine Ok_for k (fun F i (a : Int × Int × g_M) => m_X9_odds_L41 k z kc F a.1 a.2.1 i a.2.2) (fun i a => FI 10 o nx s Mm i a.1 a.2.2 ∧ a.2.1 = cN 10 o nx i 12) (fun F a h => ?_) (fun i F a hi h kk => ?_) 0 g_fuel (_, 1, W1) (by omega) (by unfold g_fuel; omega) ⟨fi, rfl⟩
      · obtain ⟨U, A, V⟩ := a
        obtain ⟨h, hA⟩ := h
        dsimp only at hA
        show Ok (m_X9_odds_L41 k z kc (F + 1) U A _ V) _
        rw [m_X9_odds_L41]
        simp (disch := omega) only [↓reduceIte, ↓nm_eq, ↓jn_eq, ↓c_within, ↓c_isIn, ↓c_isScene, ↓c_isPlace, ↓c_isCue, ↓c_isDigit, ↓d_isScene, ↓d_isAny, ↓ta_pb1, ↓ta_pb0, ↓ta_pb1', ↓ta_pb0', ta_lt, ta_nlt, ta_le, ta_nle, ta_eq, ta_neq, ta_nne, ta_ne, gs_id, a_gd01, a_gdT, or_true, true_or, bd_some, bW_sm, a_gd, a_ne, a_rd, Int.toNat_natCast, Int.toNat_add, Int.toNat_mul, Int.reduceToNat, a_gdp, a_cell, and_self, and_true, true_and]
        have q : cN 10 o nx k s = U := FI_0 h
        rw [← q, hA]
        exact hk V h.1
      · obtain ⟨U, A, V⟩ := a
        obtain ⟨h, hA⟩ := h
        dsimp only at hA
        show Ok (m_X9_odds_L41 k z kc (F + 1) U A _ V) _
        rw [m_X9_odds_L41, if_neg (by rw [gs_id (by omega) (by omega), gs_id (by omega) (by omega)]; omega)]
        refine Ok_bW (q_goOn hnx hx (o := o) (fun V' hV c hc => ?_) (Or.inr rfl) V (h.1 1 (by omega) (by omega))) (fun B V' hB => ?_)
        · have q := od1 c hc
          rw [ho, hV]
          exact ⟨q.1, q.2.1, fun z => by omega, fun _ => q.2.2⟩
        · rw [nm_eq, nm_eq, nm_eq]
          exact kk (10 * U + B, A * 10, V') ⟨FI_step h hB.1 hB.2, by show A * 10 = _; rw [cN_e, hA, Int.mul_comm]⟩
    have key2 : Ok (m_X9_odds s k z Mm) (fun q => q.1 = r ∧ ∀ a, a ≠ 12 → a ≠ 13 → q.2 a = Mm a) := by
      unfold m_X9_odds
      simp (disch := omega) only [↓reduceIte, ↓nm_eq, ↓jn_eq, ↓c_within, ↓c_isIn, ↓c_isScene, ↓c_isPlace, ↓c_isCue, ↓c_isDigit, ↓d_isScene, ↓d_isAny, ↓ta_pb1, ↓ta_pb0, ↓ta_pb1', ↓ta_pb0', ta_lt, ta_nlt, ta_le, ta_nle, ta_eq, ta_neq, ta_nne, ta_ne, gs_id, a_gd01, a_gdT, or_true, true_or, bd_some, bW_sm, a_gd, a_ne, a_rd, Int.toNat_natCast, Int.toNat_add, Int.toNat_mul, Int.reduceToNat, a_gdp, a_cell, and_self, and_true, true_and, bg, cpF_in]
      have eif : (if (12 - 0 : Nat) = s then (1 : Int) else 0) = if s = 12 then 1 else 0 := by
        by_cases c : s = 12
        · rw [if_pos c, if_pos c.symm]
        · rw [if_neg c, if_neg (fun z => c z.symm)]
      rw [← hW1, eif]
      refine key _ (fun V hV => ?_)
      have cd : m_X9_divisor (cN 10 o nx k s) (cN 10 o nx k 12) = some d := by
        unfold m_X9_divisor
        rw [nm_eq, nm_eq]
        exact d4
      rw [cd]
      rcases hz with rfl | rfl
      · rw [if_pos rfl] at hr0
        rw [if_pos rfl, bd_some, g_gd_pos (by rw [dl]; omega), hr0]
        exact Ok_some ⟨rfl, hV⟩
      · rw [if_neg (by decide)] at hr0
        rw [if_neg (by decide), bd_some, g_gd_pos (by rw [dl]; omega), hr0]
        exact Ok_some ⟨rfl, hV⟩
    obtain ⟨⟨r', W'⟩, e, e2, e3⟩ := key2
    dsimp only at e2
    exact ⟨W', e3, by rw [e, e2]⟩
  obtain ⟨M', f1, f2⟩ := kx
  obtain ⟨W', g1, g2⟩ := ky
  exact ⟨_, _, M', W', f2, g2, rfl, Rel_scr hr (fun a ha => f1 a (by omega) (by omega) (by omega)) (fun a ha => g1 a (by omega) (by omega))⟩
