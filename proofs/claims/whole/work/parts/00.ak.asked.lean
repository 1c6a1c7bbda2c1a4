/-! ASK, not: both -/
theorem c_wrong (e : Int) (M : g_M) : m_X4_wrong e M = some (0, g_wr (g_wr M 23 3 e) 23 4 (M 23 6)) := by
  unfold m_X4_wrong
  simp (disch := omega) only [↓reduceIte, ↓nm_eq, ↓jn_eq, ↓c_within, ↓c_isIn, ↓c_isScene, ↓c_isPlace, ↓c_isCue, ↓c_isDigit, ↓d_isScene, ↓d_isAny, ↓ta_pb1, ↓ta_pb0, ↓ta_pb1', ↓ta_pb0', ta_lt, ta_nlt, ta_le, ta_nle, ta_eq, ta_neq, ta_nne, ta_ne, gs_id, a_gd01, a_gdT, or_true, true_or, bd_some, bW_sm, a_gd, a_ne, a_rd, Int.toNat_natCast, Int.toNat_add, Int.toNat_mul, Int.reduceToNat, a_gdp, a_cell, and_self, and_true, true_and]
theorem c_pass1 {M M' : g_M} {T : Nat} (h : M 23 7 = T) (e : m_X4_advance M = some M') : m_X4_pass T M = some (1, M') := by
  unfold m_X4_pass
  rw [h, if_pos rfl, bd_eq e]
theorem c_pass0 {M : g_M} {T w : Nat} (h : M 23 7 = T) (hT : T < 100) (hw : w < 100) (hn : T ≠ w) : m_X4_pass w M = some (0, g_wr (g_wr M 23 3 1) 23 4 (M 23 6)) := by
  have e := c_wrong 1 M
  unfold m_X4_pass
  simp (disch := omega) only [↓reduceIte, ↓nm_eq, ↓jn_eq, ↓c_within, ↓c_isIn, ↓c_isScene, ↓c_isPlace, ↓c_isCue, ↓c_isDigit, ↓d_isScene, ↓d_isAny, ↓ta_pb1, ↓ta_pb0, ↓ta_pb1', ↓ta_pb0', ta_lt, ta_nlt, ta_le, ta_nle, ta_eq, ta_neq, ta_nne, ta_ne, gs_id, a_gd01, a_gdT, or_true, true_or, bd_some, bW_sm, a_gd, a_ne, a_rd, Int.toNat_natCast, Int.toNat_add, Int.toNat_mul, Int.reduceToNat, a_gdp, a_cell, and_self, and_true, true_and, h, e]
theorem bW_01 {r : Option (Int × g_M)} {x : Int} {M : g_M} (h : r = some (x, M)) (hx : x = 0 ∨ x = 1) : g_bW r (fun x M => g_gd (x = 0 ∨ x = 1) (some (x, M))) = some (x, M) := by
  rw [bW_eq h, a_gdp hx]
section
variable {rc : Nat → Int → g_M → Option (Int × g_M)} {d : Int} {M : g_M}
theorem ask_not {T : Nat} {x : Int} {M1 : g_M} (h7 : M 23 7 = T) (hT : T = 18) (h : rc 7 d M = some (x, M1)) (hx : x = 0 ∨ x = 1) : m_X4_readAsk rc d M = some (x, M1) := by
  unfold m_X4_readAsk
  subst hT
  rw [h7, if_neg (fun z => z rfl), bW_01 h hx]
theorem ask_0 {T : Nat} {M1 : g_M} (h7 : M 23 7 = T) (h100 : T < 100) (hT : T ≠ 18) (h : rc 0 d M = some (0, M1)) : m_X4_readAsk rc d M = some (0, M1) := by
  unfold m_X4_readAsk
  simp (disch := omega) only [↓reduceIte, ↓nm_eq, ↓jn_eq, ↓c_within, ↓c_isIn, ↓c_isScene, ↓c_isPlace, ↓c_isCue, ↓c_isDigit, ↓d_isScene, ↓d_isAny, ↓ta_pb1, ↓ta_pb0, ↓ta_pb1', ↓ta_pb0', ta_lt, ta_nlt, ta_le, ta_nle, ta_eq, ta_neq, ta_nne, ta_ne, gs_id, a_gd01, a_gdT, or_true, true_or, bd_some, bW_sm, a_gd, a_ne, a_rd, Int.toNat_natCast, Int.toNat_add, Int.toNat_mul, Int.reduceToNat, a_gdp, a_cell, and_self, and_true, true_and, h7, h]
theorem ask_1 {T T1 : Nat} {M1 : g_M} (h7 : M 23 7 = T) (h100 : T < 100) (hT : T ≠ 18) (h : rc 0 d M = some (1, M1)) (h1 : M1 23 7 = T1) (h101 : T1 < 100) (hn : ¬ (50 ≤ T1 ∧ T1 ≤ 53) ∧ T1 ≠ 62 ∧ T1 ≠ 63) : m_X4_readAsk rc d M = some (0, g_wr (g_wr M1 23 3 1) 23 4 (M1 23 6)) := by
  have e := c_wrong 1 M1
  unfold m_X4_readAsk
  simp (disch := omega) only [↓reduceIte, ↓nm_eq, ↓jn_eq, ↓c_within, ↓c_isIn, ↓c_isScene, ↓c_isPlace, ↓c_isCue, ↓c_isDigit, ↓d_isScene, ↓d_isAny, ↓ta_pb1, ↓ta_pb0, ↓ta_pb1', ↓ta_pb0', ta_lt, ta_nlt, ta_le, ta_nle, ta_eq, ta_neq, ta_nne, ta_ne, gs_id, a_gd01, a_gdT, or_true, true_or, bd_some, bW_sm, a_gd, a_ne, a_rd, Int.toNat_natCast, Int.toNat_add, Int.toNat_mul, Int.reduceToNat, a_gdp, a_cell, and_self, and_true, true_and, h7, h, h1, e]
theorem ask_go {T T1 : Nat} {x : Int} {M1 M2 M3 M4 : g_M} (h7 : M 23 7 = T) (h100 : T < 100) (hT : T ≠ 18) (h : rc 0 d M = some (1, M1)) (h1 : M1 23 7 = T1) (h101 : T1 < 100) (hr : (50 ≤ T1 ∧ T1 ≤ 53) ∨ T1 = 62 ∨ T1 = 63) (h2 : m_X4_advance M1 = some M2) (h3 : rc 0 d M2 = some (x, M3)) (hx : x = 0 ∨ x = 1) (h4 : m_X7_put 25 T1 0 M3 = some M4) : m_X4_readAsk rc d M = some (x, M4) := by
  unfold m_X4_readAsk
  rcases hr with a | a | a
  · simp (disch := omega) only [↓reduceIte, ↓nm_eq, ↓jn_eq, ↓c_within, ↓c_isIn, ↓c_isScene, ↓c_isPlace, ↓c_isCue, ↓c_isDigit, ↓d_isScene, ↓d_isAny, ↓ta_pb1, ↓ta_pb0, ↓ta_pb1', ↓ta_pb0', ta_lt, ta_nlt, ta_le, ta_nle, ta_eq, ta_neq, ta_nne, ta_ne, gs_id, a_gd01, a_gdT, or_true, true_or, bd_some, bW_sm, a_gd, a_ne, a_rd, Int.toNat_natCast, Int.toNat_add, Int.toNat_mul, Int.reduceToNat, a_gdp, a_cell, and_self, and_true, true_and, h7, h, h1, h2, h3, h4]
  · subst a
    simp (disch := omega) only [↓reduceIte, ↓nm_eq, ↓jn_eq, ↓c_within, ↓c_isIn, ↓c_isScene, ↓c_isPlace, ↓c_isCue, ↓c_isDigit, ↓d_isScene, ↓d_isAny, ↓ta_pb1, ↓ta_pb0, ↓ta_pb1', ↓ta_pb0', ta_lt, ta_nlt, ta_le, ta_nle, ta_eq, ta_neq, ta_nne, ta_ne, gs_id, a_gd01, a_gdT, or_true, true_or, bd_some, bW_sm, a_gd, a_ne, a_rd, Int.toNat_natCast, Int.toNat_add, Int.toNat_mul, Int.reduceToNat, a_gdp, a_cell, and_self, and_true, true_and, h7, h, h1, h2, h3, h4]
  · subst a
    simp (disch := omega) only [↓reduceIte, ↓nm_eq, ↓jn_eq, ↓c_within, ↓c_isIn, ↓c_isScene, ↓c_isPlace, ↓c_isCue, ↓c_isDigit, ↓d_isScene, ↓d_isAny, ↓ta_pb1, ↓ta_pb0, ↓ta_pb1', ↓ta_pb0', ta_lt, ta_nlt, ta_le, ta_nle, ta_eq, ta_neq, ta_nne, ta_ne, gs_id, a_gd01, a_gdT, or_true, true_or, bd_some, bW_sm, a_gd, a_ne, a_rd, Int.toNat_natCast, Int.toNat_add, Int.toNat_mul, Int.reduceToNat, a_gdp, a_cell, and_self, and_true, true_and, h7, h, h1, h2, h3, h4]
theorem not_8 (hd : 8 ≤ d ∧ d ≤ 100) : m_X4_readNot rc d M = some (0, g_wr (g_wr M 23 3 3) 23 4 (M 23 6)) := by
  have e := c_wrong 3 M
  unfold m_X4_readNot
  simp (disch := omega) only [↓reduceIte, ↓nm_eq, ↓jn_eq, ↓c_within, ↓c_isIn, ↓c_isScene, ↓c_isPlace, ↓c_isCue, ↓c_isDigit, ↓d_isScene, ↓d_isAny, ↓ta_pb1, ↓ta_pb0, ↓ta_pb1', ↓ta_pb0', ta_lt, ta_nlt, ta_le, ta_nle, ta_eq, ta_neq, ta_nne, ta_ne, gs_id, a_gd01, a_gdT, or_true, true_or, bd_some, bW_sm, a_gd, a_ne, a_rd, Int.toNat_natCast, Int.toNat_add, Int.toNat_mul, Int.reduceToNat, a_gdp, a_cell, and_self, and_true, true_and, e]
theorem not_go {x : Int} {M1 M2 M3 : g_M} (hd : 0 ≤ d ∧ d < 8) (h1 : m_X4_advance M = some M1) (h2 : rc 6 (d + 1) M1 = some (x, M2)) (hx : x = 0 ∨ x = 1) (h3 : m_X7_put 25 18 0 M2 = some M3) : m_X4_readNot rc d M = some (x, M3) := by
  unfold m_X4_readNot
  simp (disch := omega) only [↓reduceIte, ↓nm_eq, ↓jn_eq, ↓c_within, ↓c_isIn, ↓c_isScene, ↓c_isPlace, ↓c_isCue, ↓c_isDigit, ↓d_isScene, ↓d_isAny, ↓ta_pb1, ↓ta_pb0, ↓ta_pb1', ↓ta_pb0', ta_lt, ta_nlt, ta_le, ta_nle, ta_eq, ta_neq, ta_nne, ta_ne, gs_id, a_gd01, a_gdT, or_true, true_or, bd_some, bW_sm, a_gd, a_ne, a_rd, Int.toNat_natCast, Int.toNat_add, Int.toNat_mul, Int.reduceToNat, a_gdp, a_cell, and_self, and_true, true_and, h1, h2, h3]
end
theorem rel_q {T : Nat} (h : (50 ≤ T ∧ T ≤ 53) ∨ T = 62 ∨ T = 63) : ∃ q, q < 6 ∧ akO q = T ∧ cmpR T = ((10 + q : Nat) : Int) ∧ rk ((10 + q : Nat) : Int) = 4 ∧ dc ((10 + q : Nat) : Int) = 0 := by
  have a : T = 50 ∨ T = 51 ∨ T = 52 ∨ T = 53 ∨ T = 62 ∨ T = 63 := by omega
  rcases a with a | a | a | a | a | a
  · subst a; exact ⟨0, by omega, rfl, rfl, rfl, rfl⟩
  · subst a; exact ⟨2, by omega, rfl, rfl, rfl, rfl⟩
  · subst a; exact ⟨4, by omega, rfl, rfl, rfl, rfl⟩
  · subst a; exact ⟨5, by omega, rfl, rfl, rfl, rfl⟩
  · subst a; exact ⟨1, by omega, rfl, rfl, rfl, rfl⟩
  · subst a; exact ⟨3, by omega, rfl, rfl, rfl, rfl⟩
theorem rel_no {T : Nat} (h : ¬ ((50 ≤ T ∧ T ≤ 53) ∨ T = 62 ∨ T = 63)) : cmpR T = -1 := by
  unfold cmpR
  rw [if_neg (by omega), if_neg (by omega), if_neg (by omega), if_neg (by omega), if_neg (by omega), if_neg (by omega)]
theorem step_ask {G : Nat} {rc : Nat → Int → g_M → Option (Int × g_M)} (h : CSum G (rc 0)) (hN : CNot G (rc 7)) : CAsk G (m_X4_readAsk rc) := by
  intro L Z l b s q T N c w n d mm M W hD hX hn ht hO
  have m7 : M 23 7 = T := hX.2.1.2.2.1.2.2.2.2.1
  have t100 := T_100 hX.2.1
  by_cases c18 : T = 18
  · rcases hN L Z l b s q T N c w n d mm M W c18 hD hX hn ht hO with ⟨M1, W1, m, s1, q1, T1, N1, c1, w1, k1, r1, A, t⟩ | ⟨M1, W1, m, e, r1, hb⟩
    · rw [ask_not m7 c18 r1 (Or.inr rfl)]
      exact Or.inl ⟨M1, W1, m, s1, q1, T1, N1, c1, w1, k1, rfl, A, t⟩
    · rw [ask_not m7 c18 r1 (Or.inl rfl)]
      exact Or.inr ⟨M1, W1, m, e, rfl, hb⟩
  · rcases h L Z l b s q T N c w n d M W hD hX (by omega) (fun y hy => by have := ht y hy; omega) (fun z => absurd z c18) with ⟨M1, W1, m, s1, q1, T1, N1, c1, w1, k1, r1, A, t⟩ | ⟨M1, W1, m, e, r1, hb⟩
    · have A0 := A
      obtain ⟨a1, a2, ⟨a3, a4, a5, a6⟩, a7, a8, a9, a10⟩ := A
      have h1 : M1 23 7 = T1 := a2.2.1.2.2.1.2.2.2.2.1
      have t101 := T_100 a2.2.1
      obtain ⟨o1, o2, o3, o4⟩ := OA_openNow a2 a7.2.2.2 (fun y y1 y2 => by have := a9 y y1 y2; omega) hO
      have tt : ¬ (54 ≤ T1 ∧ T1 ≤ 58) := fun z => by
        have t1 := t.1.2
        have t2 := t.2
        unfold tP at t1
        unfold tS at t2
        omega
      have hcp : m_X9_isCompared W1 = some 0 := by
        have n1 : W1 5 (n - 1) = W 5 (n - 1) := a7.2.2.2 _ (by omega)
        have t3 := ht (n - 1) (by omega)
        have a := q_isCompared (z := n - 1) a2.2.2.2.2.1 (by omega) (by rw [n1]; omega) (fun y y1 y2 => by have := a9 y (by omega) y2; omega)
        rw [pb_f (by rw [n1]; omega)] at a
        exact a
      have hbt := btw_cmp a2.2.1.2.2.2 tt o1 hcp
      by_cases cr : (50 ≤ T1 ∧ T1 ≤ 53) ∨ T1 = 62 ∨ T1 = 63
      · obtain ⟨j, j1, j2, j3, j4, j5⟩ := rel_q cr
        rw [j3] at hbt
        have hT41 : T1 ≠ 41 := by omega
        obtain ⟨M2, W2, s2, q2, T2, N2, p1, p2, p3, p4, p5, p6, p7, p8, p9, p10⟩ := bo_push (r := 5) a2 hT41 hbt (by omega) (Or.inl ⟨j4, rfl⟩) (fun y y1 y2 => (a9 y y1 y2).1) (fun y hy => by rw [a7.2.2.2 y (by omega)]; have := ht y hy; omega) (by omega) hX.2.2.2.2.2.2.2
        rcases h L Z l b s2 q2 T2 N2 c1 (w1 + k1) (n + 1) d M2 W2 hD p3 (by omega) (fun y hy => by rw [show y = n by omega, p7, j4]; omega) (fun _ y hy => Or.inl (by rw [show y = n by omega, p7, j4]; omega)) with ⟨M3, W3, m3, s3, q3, T3, N3, c3, w3, k3, r3, D3, t3⟩ | hbad
        · have c3s : c3 < 300 := by
            have := D3.2.2.1
            have := (PS_300 D3.2.1.1.1 D3.2.1.2.1).1
            have := a2.2.2.1.2.1
            omega
          obtain ⟨M4, u1, u2⟩ := c_put (M := M3) (c := c3) (o := T1) (v := 0) D3.2.1.2.2.1.1 c3s t101 (by omega)
          have A' := bin_done (lo := 3) (X3 := RA l) (RS_XCG l) (RS_XCG l) A0 p2 p3 p4 p5 p6 p7 p8 p10 D3 u2 (by omega) (by omega) j5 (fun C B wa wb x1 x2 x3 x4 => RA_cmp x1 x2 j1 (by rw [j2]; exact x3) x4)
          rw [ask_go m7 t100 c18 r1 h1 t101 cr p1 r3 (Or.inr rfl) u1]
          refine Or.inl ⟨M4, W3, _, s3, q3, T3, N3, _, w3, _, rfl, A', fun z => ?_, n, by omega, by omega, ?_, fun y y1 y2 => ?_⟩
          · have t1 := t3.1.2
            have t2 := t3.2
            unfold tP at t1
            unfold tS at t2
            omega
          · rw [D3.2.2.2.1.2.2.2 n (by omega), p7]; exact j4
          · have := (D3.2.2.2.2.2.1 y (by omega) (by omega)).1; omega
        · obtain ⟨M3, M4, r3, u1, hbad⟩ := BAD_put (o := (T1 : Int)) (v := 0) hbad
          rw [ask_go m7 t100 c18 r1 h1 t101 cr p1 r3 (Or.inl rfl) u1]
          refine Or.inr (BAD_step (m0 := m + 1) hbad (fun f => ?_) (FRf_tr a7.1 p4.1) (by omega))
          rw [show f + (m + 1) = f + 1 + m by omega, a1, p2]
      · rw [rel_no cr] at hbt
        have hpt := part_41 a2.2.1.2.2.2 (Or.inl rfl) hcp
        rw [if_neg (by omega)] at hpt
        have hr := ask_1 m7 t100 c18 r1 h1 t101 (by omega)
        rw [hr]
        exact Or.inr (BAD_step (BAD_mk a2 (by omega) (fun f => bo_out a2.2.2.2.1.2.2.2.2 hbt o1 (by omega) hpt f) rfl) a1 a7.1 a3)
    · rw [ask_0 m7 t100 c18 r1]
      exact Or.inr ⟨M1, W1, m, e, rfl, hb⟩
theorem step_not {G : Nat} {rc : Nat → Int → g_M → Option (Int × g_M)} (h : CAsk (G + 1) (rc 6)) : CNot G (m_X4_readNot rc) := by
  intro L Z l b s q T N c w n d mm M W hT hD hX hn ht hO
  have m7 : M 23 7 = T := hX.2.1.2.2.1.2.2.2.2.1
  have tw := hX.2.1.2.2.2
  have h18 : W 0 18 = 0 := hX.2.2.2.1.2.2.2.2
  have hd := hX.2.2.2.2.2.2.2
  have hb1 := b1_18 tw hT (q_askYes hX.2.2.2.2.1 hO.1 hO.2.1 hO.2.2 ht)
  by_cases c8 : d = 8
  · have e17 : W 0 17 = 8 := by rw [hX.2.2.2.1.2.2.2.1, c8]; rfl
    rw [bW_eq (q_opened8 e17)] at hb1
    rw [not_8 (by omega)]
    exact Or.inr (BAD_mk hX (by omega) (fun f => l15_fault h18 hb1 (by omega)) rfl)
  · obtain ⟨M1, W1, s1, q1, T1, N1, p1, p2, p3, p4, p5, p6, p7, p8, p9, p10⟩ := bo_open (op := 20) hX (by omega) (by omega) (by omega) hb1
    have p7 : W1 5 n = 20 := p7
    have e8 : W1 3 = W 3 := p8
    have ed : (((d + 1 : Nat) : Int)) = (d : Int) + 1 := by omega
    have hs := h L Z l b s1 q1 T1 N1 c w (n + 1) (d + 1) mm M1 W1 (by omega) p3 (by omega) (fun y hy => by rw [show y = n by omega, p7]; decide) ⟨by have := hO.1; omega, by rw [p4.2.2.2 mm hO.1]; exact hO.2.1, fun y y1 y2 => by
      by_cases z : y = n
      · rw [z, p7]; omega
      · rw [p4.2.2.2 y (by omega)]; exact hO.2.2 y y1 (by omega)⟩
    rw [ed] at hs
    rcases hs with ⟨M2, W2, m, s2, q2, T2, N2, c2, w2, k2, r2, ⟨a1, a2, ⟨a3, a4, a5, a6⟩, a7, a8, a9, a10⟩, t1, t2⟩ | hbad
    · have c2s : c2 < 300 := by
        have := (PS_300 a2.1.1 a2.2.1).1
        have := hX.2.2.1.2.1
        omega
      obtain ⟨M3, u1, u2⟩ := c_put (M := M2) (c := c2) (o := 18) (v := 0) a2.2.2.1.1 c2s (by omega) (by omega)
      rw [not_go (by omega) p1 r2 (Or.inr rfl) u1]
      have w2n : W2 5 n = 20 := by rw [a7.2.2.2 n (by omega)]; exact p7
      have en : n + (k2 + 1) = n + 1 + k2 := by omega
      have edc : d + dcn (W2 5) n (k2 + 1) = d + 1 + dcn (W2 5) (n + 1) k2 := by
        rw [dcn_first, w2n, show dc 20 = 1 from rfl]; omega
      have cs : c ≤ s := hX.2.2.1.2.1
      refine Or.inl ⟨M3, W2, m + 1, s2, q2, T2, N2, c2 + 1, w2, k2 + 1, rfl, ⟨fun f => ?_, ?_, ⟨by omega, by omega, by omega, a6⟩, FR_put (FR_tr p4 a7 (by omega) (by omega) (by omega)) u2 (by omega), KE_put (KE_tr p5 a8) u2, fun y y1 y2 => ?_, fun B hB => ?_⟩, t1, ?_⟩
      · rw [show f + (m + 1) = f + m + 1 by omega, p2, a1]
      · rw [en, edc]
        exact SX_put a2 u2 (by omega)
      · by_cases z : y = n
        · rw [z, w2n]; decide
        · exact a9 y (by omega) (by omega)
      · obtain ⟨b1, b2⟩ := hB
        have i2 := a10 B ⟨b1, fun i hi => by
          have := b2 i (by omega)
          rw [show n + (k2 + 1) - 1 - i = n + 1 + k2 - 1 - i by omega] at this
          exact this⟩
        have b3 := (b2 k2 (by omega)).1
        rw [show n + (k2 + 1) - 1 - k2 = n by omega, w2n] at b3
        exact RA_not (RA_cg i2 (fun y y1 y2 => u2.2.2.2.2 y (by omega)) (fun _ _ _ => rfl)) u2.2.2.2.1 b3
      · rw [en]
        obtain ⟨z, z1, z2⟩ := t2
        exact ⟨z, by omega, z2⟩
    · obtain ⟨M2, M3, r2, u1, hbad⟩ := BAD_put (o := 18) (v := 0) hbad
      rw [not_go (by omega) p1 r2 (Or.inl rfl) u1]
      exact Or.inr (BAD_step (m0 := 1) hbad p2 p4.1 (by omega))
