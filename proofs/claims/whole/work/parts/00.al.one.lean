/-! ONE: both -/
section
variable {rc : Nat → Int → g_M → Option (Int × g_M)} {d : Int} {M : g_M}
theorem one_num {v : Nat} {M1 M2 : g_M} (h7 : M 23 7 = 40) (h8 : M 23 8 = v) (hv : v ≤ 9999) (h1 : m_X7_put 25 40 v M = some M1) (h2 : m_X4_advance M1 = some M2) : m_X4_readOne rc d M = some (1, M2) := by
  unfold m_X4_readOne m_X4_readConstant
  simp (disch := omega) only [↓reduceIte, ↓nm_eq, ↓jn_eq, ↓c_within, ↓c_isIn, ↓c_isScene, ↓c_isPlace, ↓c_isCue, ↓c_isDigit, ↓d_isScene, ↓d_isAny, ↓ta_pb1, ↓ta_pb0, ↓ta_pb1', ↓ta_pb0', ta_lt, ta_nlt, ta_le, ta_nle, ta_eq, ta_neq, ta_nne, ta_ne, gs_id, a_gd01, a_gdT, or_true, true_or, bd_some, bW_sm, a_gd, a_ne, a_rd, Int.toNat_natCast, Int.toNat_add, Int.toNat_mul, Int.reduceToNat, a_gdp, a_cell, and_self, and_true, true_and, h7, h8, h1, h2]
theorem one_big {N : Int} (h7 : M 23 7 = 40) (h8 : M 23 8 = N) (hv : 9999 < N ∧ N ≤ 10000) : m_X4_readOne rc d M = some (0, g_wr (g_wr M 23 3 2) 23 4 (M 23 6)) := by
  have e := c_wrong 2 M
  unfold m_X4_readOne m_X4_readConstant
  simp (disch := omega) only [↓reduceIte, ↓nm_eq, ↓jn_eq, ↓c_within, ↓c_isIn, ↓c_isScene, ↓c_isPlace, ↓c_isCue, ↓c_isDigit, ↓d_isScene, ↓d_isAny, ↓ta_pb1, ↓ta_pb0, ↓ta_pb1', ↓ta_pb0', ta_lt, ta_nlt, ta_le, ta_nle, ta_eq, ta_neq, ta_nne, ta_ne, gs_id, a_gd01, a_gdT, or_true, true_or, bd_some, bW_sm, a_gd, a_ne, a_rd, Int.toNat_natCast, Int.toNat_add, Int.toNat_mul, Int.reduceToNat, a_gdp, a_cell, and_self, and_true, true_and, h7, h8, e]
theorem one_name {T l : Nat} {M1 M2 : g_M} (h7 : M 23 7 = T) (hT : 21 ≤ T ∧ T ≤ 32) (h9 : M 23 9 = l) (hc : gs (g_and (g_shr (x_nl (T - 21)) (l : Int)) 1) ≠ 0) (h1 : m_X7_put 25 T 0 M = some M1) (h2 : m_X4_advance M1 = some M2) : m_X4_readOne rc d M = some (1, M2) := by
  have hc' := eq_true hc
  have i1 : ((T : Int) - 21).toNat = T - 21 := by omega
  unfold m_X4_readOne m_X4_readName
  simp (disch := omega) only [↓reduceIte, ↓nm_eq, ↓jn_eq, ↓c_within, ↓c_isIn, ↓c_isScene, ↓c_isPlace, ↓c_isCue, ↓c_isDigit, ↓d_isScene, ↓d_isAny, ↓ta_pb1, ↓ta_pb0, ↓ta_pb1', ↓ta_pb0', ta_lt, ta_nlt, ta_le, ta_nle, ta_eq, ta_neq, ta_nne, ta_ne, gs_id, a_gd01, a_gdT, or_true, true_or, bd_some, bW_sm, a_gd, a_ne, a_rd, Int.toNat_natCast, Int.toNat_add, Int.toNat_mul, Int.reduceToNat, a_gdp, a_cell, and_self, and_true, true_and, h7, h9, i1, hc', h1, h2]
theorem one_name5 {T l : Nat} (h7 : M 23 7 = T) (hT : 21 ≤ T ∧ T ≤ 32) (h9 : M 23 9 = l) (hc : gs (g_and (g_shr (x_nl (T - 21)) (l : Int)) 1) = 0) : m_X4_readOne rc d M = some (0, g_wr (g_wr M 23 3 5) 23 4 (M 23 6)) := by
  have e := c_wrong 5 M
  have hc' : (gs (g_and (g_shr (x_nl (T - 21)) (l : Int)) 1) ≠ 0) = False := eq_false (fun z => z hc)
  have i1 : ((T : Int) - 21).toNat = T - 21 := by omega
  unfold m_X4_readOne m_X4_readName
  simp (disch := omega) only [↓reduceIte, ↓nm_eq, ↓jn_eq, ↓c_within, ↓c_isIn, ↓c_isScene, ↓c_isPlace, ↓c_isCue, ↓c_isDigit, ↓d_isScene, ↓d_isAny, ↓ta_pb1, ↓ta_pb0, ↓ta_pb1', ↓ta_pb0', ta_lt, ta_nlt, ta_le, ta_nle, ta_eq, ta_neq, ta_nne, ta_ne, gs_id, a_gd01, a_gdT, or_true, true_or, bd_some, bW_sm, a_gd, a_ne, a_rd, Int.toNat_natCast, Int.toNat_add, Int.toNat_mul, Int.reduceToNat, a_gdp, a_cell, and_self, and_true, true_and, h7, h9, i1, hc', e]
theorem one_no {T : Nat} (h7 : M 23 7 = T) (hT : T < 100) (h40 : T ≠ 40) (hn : ¬ (21 ≤ T ∧ T ≤ 32)) (h59 : T ≠ 59) (h55 : T ≠ 55) (h13 : T ≠ 13) (h14 : T ≠ 14) : m_X4_readOne rc d M = some (0, g_wr (g_wr M 23 3 1) 23 4 (M 23 6)) := by
  have e := c_wrong 1 M
  unfold m_X4_readOne
  simp (disch := omega) only [↓reduceIte, ↓nm_eq, ↓jn_eq, ↓c_within, ↓c_isIn, ↓c_isScene, ↓c_isPlace, ↓c_isCue, ↓c_isDigit, ↓d_isScene, ↓d_isAny, ↓ta_pb1, ↓ta_pb0, ↓ta_pb1', ↓ta_pb0', ta_lt, ta_nlt, ta_le, ta_nle, ta_eq, ta_neq, ta_nne, ta_ne, gs_id, a_gd01, a_gdT, or_true, true_or, bd_some, bW_sm, a_gd, a_ne, a_rd, Int.toNat_natCast, Int.toNat_add, Int.toNat_mul, Int.reduceToNat, a_gdp, a_cell, and_self, and_true, true_and, h7, e]
theorem one_deep {T : Nat} (h7 : M 23 7 = T) (hT : T = 59 ∨ T = 55 ∨ T = 13 ∨ T = 14) (hd : 8 ≤ d ∧ d ≤ 100) : m_X4_readOne rc d M = some (0, g_wr (g_wr M 23 3 3) 23 4 (M 23 6)) := by
  have e := c_wrong 3 M
  unfold m_X4_readOne
  rcases hT with a | a | a | a
  · subst a; simp (disch := omega) only [↓reduceIte, ↓nm_eq, ↓jn_eq, ↓c_within, ↓c_isIn, ↓c_isScene, ↓c_isPlace, ↓c_isCue, ↓c_isDigit, ↓d_isScene, ↓d_isAny, ↓ta_pb1, ↓ta_pb0, ↓ta_pb1', ↓ta_pb0', ta_lt, ta_nlt, ta_le, ta_nle, ta_eq, ta_neq, ta_nne, ta_ne, gs_id, a_gd01, a_gdT, or_true, true_or, bd_some, bW_sm, a_gd, a_ne, a_rd, Int.toNat_natCast, Int.toNat_add, Int.toNat_mul, Int.reduceToNat, a_gdp, a_cell, and_self, and_true, true_and, h7, e]
  · subst a; simp (disch := omega) only [↓reduceIte, ↓nm_eq, ↓jn_eq, ↓c_within, ↓c_isIn, ↓c_isScene, ↓c_isPlace, ↓c_isCue, ↓c_isDigit, ↓d_isScene, ↓d_isAny, ↓ta_pb1, ↓ta_pb0, ↓ta_pb1', ↓ta_pb0', ta_lt, ta_nlt, ta_le, ta_nle, ta_eq, ta_neq, ta_nne, ta_ne, gs_id, a_gd01, a_gdT, or_true, true_or, bd_some, bW_sm, a_gd, a_ne, a_rd, Int.toNat_natCast, Int.toNat_add, Int.toNat_mul, Int.reduceToNat, a_gdp, a_cell, and_self, and_true, true_and, h7, e]
  · subst a; simp (disch := omega) only [↓reduceIte, ↓nm_eq, ↓jn_eq, ↓c_within, ↓c_isIn, ↓c_isScene, ↓c_isPlace, ↓c_isCue, ↓c_isDigit, ↓d_isScene, ↓d_isAny, ↓ta_pb1, ↓ta_pb0, ↓ta_pb1', ↓ta_pb0', ta_lt, ta_nlt, ta_le, ta_nle, ta_eq, ta_neq, ta_nne, ta_ne, gs_id, a_gd01, a_gdT, or_true, true_or, bd_some, bW_sm, a_gd, a_ne, a_rd, Int.toNat_natCast, Int.toNat_add, Int.toNat_mul, Int.reduceToNat, a_gdp, a_cell, and_self, and_true, true_and, h7, e]
  · subst a; simp (disch := omega) only [↓reduceIte, ↓nm_eq, ↓jn_eq, ↓c_within, ↓c_isIn, ↓c_isScene, ↓c_isPlace, ↓c_isCue, ↓c_isDigit, ↓d_isScene, ↓d_isAny, ↓ta_pb1, ↓ta_pb0, ↓ta_pb1', ↓ta_pb0', ta_lt, ta_nlt, ta_le, ta_nle, ta_eq, ta_neq, ta_nne, ta_ne, gs_id, a_gd01, a_gdT, or_true, true_or, bd_some, bW_sm, a_gd, a_ne, a_rd, Int.toNat_natCast, Int.toNat_add, Int.toNat_mul, Int.reduceToNat, a_gdp, a_cell, and_self, and_true, true_and, h7, e]
theorem one_un {T : Nat} {x o : Int} {M1 M2 M3 : g_M} (h7 : M 23 7 = T) (hT : (T = 55 ∧ o = 70) ∨ (T = 13 ∧ o = 13)) (hd : 0 ≤ d ∧ d < 8) (h1 : m_X4_advance M = some M1) (h2 : rc 2 (d + 1) M1 = some (x, M2)) (hx : x = 0 ∨ x = 1) (h3 : m_X7_put 25 o 0 M2 = some M3) : m_X4_readOne rc d M = some (x, M3) := by
  unfold m_X4_readOne
  rcases hT with ⟨a, a2⟩ | ⟨a, a2⟩
  · subst a a2; simp (disch := omega) only [↓reduceIte, ↓nm_eq, ↓jn_eq, ↓c_within, ↓c_isIn, ↓c_isScene, ↓c_isPlace, ↓c_isCue, ↓c_isDigit, ↓d_isScene, ↓d_isAny, ↓ta_pb1, ↓ta_pb0, ↓ta_pb1', ↓ta_pb0', ta_lt, ta_nlt, ta_le, ta_nle, ta_eq, ta_neq, ta_nne, ta_ne, gs_id, a_gd01, a_gdT, or_true, true_or, bd_some, bW_sm, a_gd, a_ne, a_rd, Int.toNat_natCast, Int.toNat_add, Int.toNat_mul, Int.reduceToNat, a_gdp, a_cell, and_self, and_true, true_and, h7, h1, h2, h3]
  · subst a a2; simp (disch := omega) only [↓reduceIte, ↓nm_eq, ↓jn_eq, ↓c_within, ↓c_isIn, ↓c_isScene, ↓c_isPlace, ↓c_isCue, ↓c_isDigit, ↓d_isScene, ↓d_isAny, ↓ta_pb1, ↓ta_pb0, ↓ta_pb1', ↓ta_pb0', ta_lt, ta_nlt, ta_le, ta_nle, ta_eq, ta_neq, ta_nne, ta_ne, gs_id, a_gd01, a_gdT, or_true, true_or, bd_some, bW_sm, a_gd, a_ne, a_rd, Int.toNat_natCast, Int.toNat_add, Int.toNat_mul, Int.reduceToNat, a_gdp, a_cell, and_self, and_true, true_and, h7, h1, h2, h3]
theorem one_if {T : Nat} {x : Int} {M1 M2 : g_M} (h7 : M 23 7 = T) (hT : T = 14) (hd : 0 ≤ d ∧ d < 8) (h1 : m_X4_advance M = some M1) (h2 : rc 3 (d + 1) M1 = some (x, M2)) (hx : x = 0 ∨ x = 1) : m_X4_readOne rc d M = some (x, M2) := by
  unfold m_X4_readOne
  subst hT
  simp (disch := omega) only [↓reduceIte, ↓nm_eq, ↓jn_eq, ↓c_within, ↓c_isIn, ↓c_isScene, ↓c_isPlace, ↓c_isCue, ↓c_isDigit, ↓d_isScene, ↓d_isAny, ↓ta_pb1, ↓ta_pb0, ↓ta_pb1', ↓ta_pb0', ta_lt, ta_nlt, ta_le, ta_nle, ta_eq, ta_neq, ta_nne, ta_ne, gs_id, a_gd01, a_gdT, or_true, true_or, bd_some, bW_sm, a_gd, a_ne, a_rd, Int.toNat_natCast, Int.toNat_add, Int.toNat_mul, Int.reduceToNat, a_gdp, a_cell, and_self, and_true, true_and, h7, h1, h2]
theorem one_par0 {T : Nat} {M1 M2 : g_M} (h7 : M 23 7 = T) (hT : T = 59) (hd : 0 ≤ d ∧ d < 8) (h1 : m_X4_advance M = some M1) (h2 : rc 0 (d + 1) M1 = some (0, M2)) : m_X4_readOne rc d M = some (0, M2) := by
  unfold m_X4_readOne
  subst hT
  simp (disch := omega) only [↓reduceIte, ↓nm_eq, ↓jn_eq, ↓c_within, ↓c_isIn, ↓c_isScene, ↓c_isPlace, ↓c_isCue, ↓c_isDigit, ↓d_isScene, ↓d_isAny, ↓ta_pb1, ↓ta_pb0, ↓ta_pb1', ↓ta_pb0', ta_lt, ta_nlt, ta_le, ta_nle, ta_eq, ta_neq, ta_nne, ta_ne, gs_id, a_gd01, a_gdT, or_true, true_or, bd_some, bW_sm, a_gd, a_ne, a_rd, Int.toNat_natCast, Int.toNat_add, Int.toNat_mul, Int.reduceToNat, a_gdp, a_cell, and_self, and_true, true_and, h7, h1, h2]
theorem one_par1 {T : Nat} {x : Int} {M1 M2 M3 : g_M} (h7 : M 23 7 = T) (hT : T = 59) (hd : 0 ≤ d ∧ d < 8) (h1 : m_X4_advance M = some M1) (h2 : rc 0 (d + 1) M1 = some (1, M2)) (h3 : m_X4_pass 60 M2 = some (x, M3)) (hx : x = 0 ∨ x = 1) : m_X4_readOne rc d M = some (x, M3) := by
  unfold m_X4_readOne
  subst hT
  rcases hx with a | a
  · subst a; simp (disch := omega) only [↓reduceIte, ↓nm_eq, ↓jn_eq, ↓c_within, ↓c_isIn, ↓c_isScene, ↓c_isPlace, ↓c_isCue, ↓c_isDigit, ↓d_isScene, ↓d_isAny, ↓ta_pb1, ↓ta_pb0, ↓ta_pb1', ↓ta_pb0', ta_lt, ta_nlt, ta_le, ta_nle, ta_eq, ta_neq, ta_nne, ta_ne, gs_id, a_gd01, a_gdT, or_true, true_or, bd_some, bW_sm, a_gd, a_ne, a_rd, Int.toNat_natCast, Int.toNat_add, Int.toNat_mul, Int.reduceToNat, a_gdp, a_cell, and_self, and_true, true_and, h7, h1, h2, h3]
  · subst a; simp (disch := omega) only [↓reduceIte, ↓nm_eq, ↓jn_eq, ↓c_within, ↓c_isIn, ↓c_isScene, ↓c_isPlace, ↓c_isCue, ↓c_isDigit, ↓d_isScene, ↓d_isAny, ↓ta_pb1, ↓ta_pb0, ↓ta_pb1', ↓ta_pb0', ta_lt, ta_nlt, ta_le, ta_nle, ta_eq, ta_neq, ta_nne, ta_ne, gs_id, a_gd01, a_gdT, or_true, true_or, bd_some, bW_sm, a_gd, a_ne, a_rd, Int.toNat_natCast, Int.toNat_add, Int.toNat_mul, Int.reduceToNat, a_gdp, a_cell, and_self, and_true, true_and, h7, h1, h2, h3]
end
def CIf (G : Nat) (R : Int → g_M → Option (Int × g_M)) : Prop := ∀ (L Z l : Nat) (b : Nat → Int) (s q T : Nat) (N : Int) (c w n u d : Nat) (M W : g_M), G ≤ d + u + 1 → SX L Z l b s q T N c w (n + u + 1) (d + u + 1) 0 M W → n ≤ 6 * d + 5 → W 5 (n + u) = 41 → (∀ y, n ≤ y → y < n + u → rk (W 5 y) = 7) → TopLt 7 n W → GONE L Z l b s c w n u d M W (R ((d + u + 1 : Nat) : Int) M) ∨ BAD Z s M W (R ((d + u + 1 : Nat) : Int) M)
theorem GONE_step {L Z l s s1 c w n u d m0 : Nat} {b : Nat → Int} {M W M1 W1 : g_M} {r : Option (Int × g_M)} (h : GONE L Z l b s1 c w n u d M1 W1 r) (e : ∀ f, m_X9_summed_L15 KS (f + m0) W = m_X9_summed_L15 KS f W1) (hF : FR Z n c w M W M1 W1) (hK : KE M M1) (hm : m0 + s ≤ s1) (hp : ∀ y, n ≤ y → y < n + u → W1 5 y = W 5 y) : GONE L Z l b s c w n u d M W r := by
  obtain ⟨M', W', m, s', q', T', N', c', w', h1, h2, h3, ⟨h4, h5, h6, h7⟩, h8, h9, h10, h11⟩ := h
  refine ⟨M', W', m + m0, s', q', T', N', c', w', h1, fun f => ?_, h3, ⟨by omega, h5, by omega, h7⟩, FR_tr hF h8 (by omega) (by omega) (by omega), KE_tr hK h9, h10, fun i hi => ?_⟩
  · rw [← Nat.add_assoc, e, h2]
  · rw [h11 i hi, hp _ (by omega) (by omega)]
theorem Z_ass (Z x y : Nat) : Z + 97 + 2 * (x + y) = Z + 97 + (2 * (x + y)) := rfl
theorem step_one {G : Nat} {rc : Nat → Int → g_M → Option (Int × g_M)} (hS : CSum (G + 1) (rc 0)) (hO : COne (G + 1) (rc 2)) (hI : CIf (G + 1) (rc 3)) : COne G (m_X4_readOne rc) := by
  intro L Z l b s q T N c w n u d M W hD hX hn hu ht hna
  have m7 : M 23 7 = T := hX.2.1.2.2.1.2.2.2.2.1
  have t100 := T_100 hX.2.1
  have tw := hX.2.1.2.2.2
  have h18 : W 0 18 = 0 := hX.2.2.2.1.2.2.2.2
  have hd := hX.2.2.2.2.2.2.2
  have cs : c ≤ s := hX.2.2.1.2.1
  have hl := hX.1.2.2
  have hval : ∀ (x o v y : Nat), ((T = 40 ∧ o = 40 ∧ N = v ∧ v ≤ 9999 ∧ x = 0) ∨ (21 ≤ T ∧ T ≤ 32 ∧ o = T ∧ v = 0 ∧ x = 1 ∧ nmOk l (T - 21))) → ((x = 0 ∧ y = v) ∨ (x = 1 ∧ y = T - 21)) → (∀ M1 M2, m_X7_put 25 o v M = some M1 → m_X4_advance M1 = some M2 → m_X4_readOne rc ((d + u : Nat) : Int) M = some (1, M2)) → (∀ C B, C c = ((o * 65536 + v : Nat) : Int) → B (2 * w) = (x : Int) → B (2 * w + 1) = (y : Int) → RS l C c (c + 1) B w (w + 1)) → GONE L Z l b s c w n u d M W (m_X4_readOne rc ((d + u : Nat) : Int) M) := by
    intro x o v y hv hy hc hRS
    obtain ⟨M1, M', W', s', q', T', N', p1, p2, p3, p4, p5, p6, p7, p8, p9, p10, p11⟩ := bo_val hX hv hy hu ht hn
    exact ⟨M', W', 1, s', q', T', N', c + 1, w + 1, hc M1 M' p1 p2, p3, p4, ⟨by omega, by omega, by omega, by omega⟩, p5, p6, hRS _ _ p8 p9 p10, p11⟩
  by_cases c40 : T = 40
  · have hN : M 23 8 = N := hX.2.1.2.2.1.2.2.2.2.2 c40
    obtain ⟨n1, n2, n3, n4⟩ : (0 ≤ N ∧ N ≤ 10000) ∧ (0 ≤ W 0 10 ∧ W 0 10 ≤ 1000009) ∧ (N ≤ 9999 → W 0 10 = N) ∧ (9999 < N → 9999 < W 0 10) := by
      rcases tw with ⟨a, -⟩ | ⟨-, -, a, b, c, e⟩ | ⟨-, -, -, ⟨a, -⟩ | ⟨a, -⟩⟩ | ⟨a, -⟩ | ⟨a, -⟩
      · omega
      · exact ⟨a, b, c, e⟩
      · omega
      · omega
      · omega
      · omega
    by_cases cN : N ≤ 9999
    · obtain ⟨v, rfl⟩ : ∃ v : Nat, N = v := ⟨N.toNat, by omega⟩
      exact Or.inl (hval 0 40 v v (Or.inl ⟨c40, rfl, rfl, by omega, rfl⟩) (Or.inl ⟨rfl, rfl⟩) (fun M1 M2 h1 h2 => one_num (by rw [m7, c40]; rfl) hN (by omega) h1 h2) (fun C B h1 h2 h3 => RS_number (by omega) h1 h2 h3))
    · rw [one_big (by rw [m7, c40]; rfl) hN ⟨by omega, by omega⟩]
      have nine := TW_9 tw
      exact Or.inr (BAD_mk hX (by omega) (fun f => l15_fault h18 (b1_big (nine.2.2.1.2 c40) ⟨n4 (by omega), by omega⟩) (by omega)) rfl)
  · by_cases cn : 21 ≤ T ∧ T ≤ 32
    · have io := q_isOf (W := W) (n := T - 21) hl (by omega) hX.2.2.2.1.2.1
      rcases Classical.em (nmOk l (T - 21)) with ck | ck
      · exact Or.inl (hval 1 T 0 (T - 21) (Or.inr ⟨cn.1, cn.2, rfl, rfl, rfl, ck⟩) (Or.inr ⟨rfl, rfl⟩) (fun M1 M2 h1 h2 => one_name m7 cn hX.2.2.1.2.2 (io.1 ck).2 h1 h2) (fun C B h1 h2 h3 => RS_name ck (by rw [show 21 + (T - 21) = T by omega]; exact h1) h2 h3))
      · rw [one_name5 m7 cn hX.2.2.1.2.2 (io.2 ck).2]
        have en := q_nameOf tw
        rw [if_pos cn] at en
        have et : ((T - 21 : Nat) : Int) = (T : Int) - 21 := by omega
        have e5 := (io.2 ck).1
        rw [et] at e5
        exact Or.inr (BAD_mk hX (by omega) (fun f => l15_fault h18 (b1_other ((TW_9 tw).2.2.2.2.2.1 (by omega)) en (by omega) e5) (by omega)) rfl)
    · by_cases co : T = 59 ∨ T = 55 ∨ T = 13 ∨ T = 14
      · have hbo : ∃ op : Nat, ((T = 59 ∧ op = 40) ∨ (T = 55 ∧ op = 4) ∨ (T = 13 ∧ op = 2) ∨ (T = 14 ∧ op = 41)) ∧ m_X9_beginOne W = g_bW (m_X9_opened op W) (fun x M => some (x, M)) := by
          rcases co with a | a | a | a
          · exact ⟨40, Or.inl ⟨a, rfl⟩, b1_59 tw a⟩
          · exact ⟨4, Or.inr (Or.inl ⟨a, rfl⟩), b1_55 tw a⟩
          · exact ⟨2, Or.inr (Or.inr (Or.inl ⟨a, rfl⟩)), b1_13 tw a⟩
          · exact ⟨41, Or.inr (Or.inr (Or.inr ⟨a, rfl⟩)), b1_14 tw a⟩
        obtain ⟨op, hop, hbo⟩ := hbo
        by_cases c8 : d + u = 8
        · have e17 : W 0 17 = 8 := by rw [hX.2.2.2.1.2.2.2.1, c8]; rfl
          rw [bW_eq (q_opened8 e17)] at hbo
          rw [one_deep m7 co (by omega)]
          exact Or.inr (BAD_mk hX (by omega) (fun f => l15_fault h18 hbo (by omega)) rfl)
        · obtain ⟨M1, W1, s1, q1, T1, N1, p1, p2, p3, p4, p5, p6, p7, p8, p9, p10⟩ := bo_open (op := op) hX (by omega) (by omega) (by omega) hbo
          have ed : ((d + u + 1 : Nat) : Int) = ((d + u : Nat) : Int) + 1 := by omega
          have hu1 : ∀ y, n ≤ y → y < n + u → W1 5 y = W 5 y := fun y _ y2 => p4.2.2.2 y y2
          have F1 : FR Z n c w M W M1 W1 := FR_tr (FR_rfl Z n c w M W) p4 (by omega) (by omega) (by omega)
          have ht1 : TopLt 7 n W1 := fun y hy => by rw [p4.2.2.2 y (by omega)]; exact ht y hy
          rcases hop with ⟨h59, ho⟩ | hop
          · subst ho
            have p7 : W1 5 (n + u) = 40 := p7
            have hs := hS L Z l b s1 q1 T1 N1 c w (n + u + 1) (d + u + 1) M1 W1 (by omega) p3 (by omega) (fun y hy => by rw [show y = n + u by omega, p7]; decide) (fun _ y hy => Or.inr (Or.inl (by rw [show y = n + u by omega]; exact p7)))
            rw [ed] at hs
            rcases hs with ⟨M2, W2, m, s2, q2, T2, N2, c2, w2, k2, r2, ⟨a1, a2, ⟨a3, a4, a5, a6⟩, a7, a8, a9, a10⟩, t2⟩ | ⟨M2, W2, m, e, r2, hb⟩
            · have h7 : M2 23 7 = T2 := a2.2.1.2.2.1.2.2.2.2.1
              have t102 := T_100 a2.2.1
              have w5 : W2 5 (n + u) = 40 := by rw [a7.2.2.2 _ (by omega)]; exact p7
              have lt : ∀ y, n + u < y → y < n + u + 1 + k2 → W2 5 y < 40 := fun y y1 y2 => by
                have a := (a9 y (by omega) y2).1
                by_cases z : 40 ≤ W2 5 y
                · have : rk (W2 5 y) = 0 := if_pos z
                  omega
                · omega
              have hon := q_openNow (m := n + u) a2.2.2.2.2.1 (by omega) (by omega) lt
              rw [w5] at hon
              have tt : ¬ (54 ≤ T2 ∧ T2 ≤ 58) := fun z => by
                have t1 := t2.1.2
                have t2 := t2.2
                unfold tP at t1
                unfold tS at t2
                omega
              have hbt := btw_not41 a2.2.1.2.2.2 tt hon (by omega) (by omega)
              have hpt := part_40 a2.2.1.2.2.2
              by_cases c60 : T2 = 60
              · rw [if_pos c60] at hpt
                obtain ⟨M3, W3, s3, q3, T3, N3, g1, g2, g3, g4, g5, g6, ⟨Bc, g7, g7'⟩, g8, g9, g10, g11⟩ := bo_shut (g := 0) (op := 40) a2 (by omega) hbt hon w5 (Or.inl ⟨rfl, rfl⟩) hpt (fun y y1 y2 => by have := (a9 y y1 y2).1; omega) (fun y y1 y2 => by rw [a7.2.2.2 y (by omega), hu1 y y1 y2]; exact hu y y1 y2) (fun y hy => by rw [a7.2.2.2 y (by omega)]; exact ht1 y hy) hn (by omega)
                have hp60 : m_X4_pass 60 M2 = some (1, M3) := c_pass1 (T := 60) (by rw [h7, c60]) g1
                rw [one_par1 m7 h59 (by omega) p1 r2 hp60 (Or.inr rfl)]
                refine Or.inl ⟨M3, W3, m + 1 + 1, s3, q3, T3, N3, c2, w2 + k2, rfl, fun f => ?_, g3, ⟨by omega, a4, by omega, by omega⟩, FR_tr (FR_tr F1 a7 (by omega) (by omega) (by omega)) g4 (by omega) (by omega) (by omega), KE_tr (KE_tr p5 a8) g5, RS_cg (a10 Bc g7) (fun y y1 y2 => by rw [g11]) (fun y y1 y2 => g7' y (by omega)), fun i hi => ?_⟩
                · rw [show f + (m + 1 + 1) = f + 1 + m + 1 by omega, p2, a1, g2]
                · have := g9 i hi
                  rw [a7.2.2.2 _ (by omega), hu1 _ (by omega) (by omega)] at this
                  exact this
              · rw [if_neg c60] at hpt
                have hp60 : m_X4_pass 60 M2 = _ := c_pass0 (w := 60) h7 t102 (by omega) c60
                rw [one_par1 m7 h59 (by omega) p1 r2 hp60 (Or.inl rfl)]
                have hB := BAD_mk (e := 1) a2 (by omega) (fun f => bo_out a2.2.2.2.1.2.2.2.2 hbt hon (by omega) hpt f) rfl
                exact Or.inr (BAD_step (BAD_step hB a1 a7.1 a3) p2 p4.1 (by omega))
            · rw [one_par0 m7 h59 (by omega) p1 r2]
              exact Or.inr (BAD_step ⟨M2, W2, m, e, rfl, hb⟩ p2 p4.1 (by omega))
          · have hun : ∀ o : Nat, ((T = 55 ∧ o = 70 ∧ op = 4) ∨ (T = 13 ∧ o = 13 ∧ op = 2)) → GONE L Z l b s c w n u d M W (m_X4_readOne rc ((d + u : Nat) : Int) M) ∨ BAD Z s M W (m_X4_readOne rc ((d + u : Nat) : Int) M) := by
              intro o hc
              have r7 : rk (op : Int) = 7 := by
                rcases hc with ⟨-, -, a⟩ | ⟨-, -, a⟩
                · rw [a]; rfl
                · rw [a]; rfl
              have hu2 : ∀ y, n ≤ y → y < n + (u + 1) → rk (W1 5 y) = 7 := fun y y1 y2 => by
                by_cases z : y = n + u
                · rw [z, p7]; exact r7
                · rw [hu1 y y1 (by omega)]; exact hu y y1 (by omega)
              have hT : (T = 55 ∧ (o : Int) = 70) ∨ (T = 13 ∧ (o : Int) = 13) := by omega
              have hs := hO L Z l b s1 q1 T1 N1 c w n (u + 1) d M1 W1 (by omega) p3 hn hu2 ht1 (fun _ y hy => Or.inl (by rw [hu2 y (by omega) (by omega)]; omega))
              have ed' : ((d + (u + 1) : Nat) : Int) = ((d + u : Nat) : Int) + 1 := by omega
              rw [ed'] at hs
              rcases hs with ⟨M2, W2, m, s2, q2, T2, N2, c2, w2, r2, h2, h3, ⟨h4, h5, h6, h6'⟩, h8, h9, h10, h11⟩ | hbad
              · have c2s : c2 < 300 := by
                  have := (PS_300 h3.1.1 h3.2.1).1
                  omega
                obtain ⟨M3, u1, u2⟩ := c_put (M := M2) (c := c2) (o := o) (v := 0) h3.2.2.1.1 c2s (by omega) (by omega)
                rw [one_un m7 hT (by omega) p1 r2 (Or.inr rfl) u1]
                have ew : w2 + (u + 1) = w2 + 1 + u := by omega
                rw [ew] at h3
                have hop0 := h11 0 (by omega)
                rw [show n + (u + 1) - 1 - 0 = n + u by omega, p7] at hop0
                have hcg : RS l (M3 26) c c2 (fun y => W2 3 (Z + 97 + y)) w w2 := RS_cg h10 (fun y y1 y2 => u2.2.2.2.2 y (by omega)) (fun _ _ _ => rfl)
                refine Or.inl ⟨M3, W2, m + 1, s2, q2, T2, N2, c2 + 1, w2 + 1, rfl, fun f => ?_, SX_put h3 u2 (by omega), ⟨by omega, by omega, by omega, by omega⟩, FR_put (FR_tr F1 h8 (by omega) (by omega) (by omega)) u2 (by omega), KE_put (KE_tr p5 h9) u2, ?_, fun i hi => ?_⟩
                · rw [show f + (m + 1) = f + m + 1 by omega, p2, h2]
                · rcases hc with ⟨-, o1, o2⟩ | ⟨-, o1, o2⟩
                  · rw [o1] at u2
                    rw [o2] at hop0
                    exact RS_neg hcg u2.2.2.2.1 hop0
                  · rw [o1] at u2
                    rw [o2] at hop0
                    exact RS_kind hcg u2.2.2.2.1 hop0
                · have := h11 (i + 1) (by omega)
                  rw [show n + (u + 1) - 1 - (i + 1) = n + u - 1 - i by omega, hu1 _ (by omega) (by omega), show w2 + (i + 1) = w2 + 1 + i by omega] at this
                  exact this
              · obtain ⟨M2, M3, r2, u1, hbad⟩ := BAD_put (o := (o : Int)) (v := 0) hbad
                rw [one_un m7 hT (by omega) p1 r2 (Or.inl rfl) u1]
                exact Or.inr (BAD_step hbad p2 p4.1 (by omega))
            rcases hop with ⟨h55, ho⟩ | ⟨h13, ho⟩ | ⟨h14, ho⟩
            · exact hun 70 (Or.inl ⟨h55, rfl, ho⟩)
            · exact hun 13 (Or.inr ⟨h13, rfl, ho⟩)
            · subst ho
              have hs := hI L Z l b s1 q1 T1 N1 c w n u d M1 W1 (by omega) p3 hn p7 (fun y y1 y2 => by rw [hu1 y y1 y2]; exact hu y y1 y2) ht1
              rw [ed] at hs
              rcases hs with ⟨M2, W2, m, s2, q2, T2, N2, c2, w2, r2, rest⟩ | ⟨M2, W2, m, e, r2, hb⟩
              · rw [one_if m7 h14 (by omega) p1 r2 (Or.inr rfl)]
                exact Or.inl (GONE_step ⟨M2, W2, m, s2, q2, T2, N2, c2, w2, rfl, rest⟩ p2 F1 p5 (by omega) hu1)
              · rw [one_if m7 h14 (by omega) p1 r2 (Or.inl rfl)]
                exact Or.inr (BAD_step ⟨M2, W2, m, e, rfl, hb⟩ p2 p4.1 (by omega))
      · rw [one_no m7 t100 c40 cn (by omega) (by omega) (by omega) (by omega)]
        exact Or.inr (BAD_mk hX (by omega) (fun f => l15_fault h18 (b1_no tw c40 cn (by omega) (by omega) (by omega) (by omega) (fun z => q_askNo hX.2.2.2.2.1 (hna z))) (by omega)) rfl)
