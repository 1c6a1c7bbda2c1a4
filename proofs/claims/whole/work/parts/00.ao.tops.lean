/-! a SUM from its first TOKEN to its last; a NUMBER, a word and a NUMBER: both -/
theorem summed_eq (W : g_M) : m_X9_summed W = m_X9_summed_L15 KS g_fuel (g_wr (g_wr (g_wr W 0 16 0) 0 17 0) 0 18 0) := by
  unfold m_X9_summed
  rw [nm_eq, nm_eq, a_gdp (Or.inl rfl), nm_eq]
  rfl
theorem sum_top {L Z l s q T c w : Nat} {N : Int} {b : Nat → Int} {M W : g_M} (hs : SC L b) (hZ : Z ≤ 2115) (hl : l < 3) (hP : PS L b s q T N M W) (h25 : M 25 1 = c) (hc : c ≤ s) (h9 : M 23 9 = l) (h12 : W 0 12 = Z) (h14 : W 0 14 = l) (h13 : W 0 13 = w) (hw : w ≤ s) :
    (∃ (M' W' : g_M) (s' q' T' : Nat) (N' : Int) (c' w' : Nat), m_rd g_depth 0 0 M = some (1, M') ∧ m_X9_summed W = some (0, W') ∧ PS L b s' q' T' N' M' W' ∧ (M' 25 1 = c' ∧ c < c' ∧ c' ≤ s' ∧ W' 0 13 = w' ∧ w ≤ w' ∧ w' ≤ s' ∧ s ≤ s') ∧ FR Z 0 c w M W M' W' ∧ KE M M' ∧ RS l (M' 26) c c' (fun y => W' 3 (Z + 97 + y)) w w') ∨
    (∃ (M' W' : g_M) (e : Int), m_rd g_depth 0 0 M = some (0, M') ∧ m_X9_summed W = some (e, W') ∧ (M' 23 3 = e ∧ M' 23 4 = W' 0 8 ∧ 1 ≤ e ∧ e ≤ 6 ∧ 0 ≤ W' 0 8 ∧ W' 0 8 ≤ 300) ∧ FRf Z M W M' W') := by
  obtain ⟨V, hV⟩ : ∃ V, V = g_wr (g_wr (g_wr W 0 16 0) 0 17 0) 0 18 0 := ⟨_, rfl⟩
  have V0 : ∀ j, j ≠ 16 → j ≠ 17 → j ≠ 18 → V 0 j = W 0 j := fun j j1 j2 j3 => by rw [hV, a_ne _ (by omega), a_ne _ (by omega), a_ne _ (by omega)]
  have Va : ∀ a, a ≠ 0 → V a = W a := fun a h => by rw [hV, a_cell _ h, a_cell _ h, a_cell _ h]
  have V16 : V 0 16 = 0 := by rw [hV, a_ne _ (by omega), a_ne _ (by omega)]; exact wr_at _ _ _ _
  have V17 : V 0 17 = 0 := by rw [hV, a_ne _ (by omega)]; exact wr_at _ _ _ _
  have V18 : V 0 18 = 0 := by rw [hV]; exact wr_at _ _ _ _
  have F0 : FR Z 0 c w M W M V := ⟨⟨fun _ _ _ _ => rfl, fun _ _ => rfl, fun _ _ => rfl, fun a a1 a2 a3 => Va a a1, fun j hj => V0 j (by omega) (by omega) (by omega), fun y _ => by rw [Va 3 (by omega)]⟩, fun _ _ => rfl, fun y _ => by rw [Va 3 (by omega)], fun y hy => by omega⟩
  have hX : SX L Z l b s q T N c w 0 0 0 M V := ⟨⟨hs, hZ, hl⟩, PS_cg hP (fun _ _ _ _ _ => rfl) rfl (fun j hj => V0 j (by omega) (by omega) (by omega)) (Va 4 (by omega)), ⟨h25, hc, h9⟩, ⟨by rw [V0 12 (by omega) (by omega) (by omega)]; exact h12, by rw [V0 14 (by omega) (by omega) (by omega)]; exact h14, by rw [V0 13 (by omega) (by omega) (by omega)]; exact h13, V17, V18⟩, ⟨by omega, V16, fun y hy => by omega⟩, by omega, by omega, by omega⟩
  have hS := ALL_0 L Z l b s q T N c w 0 0 M V (by omega) hX (by omega) (fun y hy => by omega) (fun _ y hy => by omega)
  have e0 : ((0 : Nat) : Int) = 0 := rfl
  rw [e0] at hS
  rw [summed_eq, ← hV]
  rcases hS with ⟨M1, W1, m, s1, q1, T1, N1, c1, w1, k1, r1, ⟨a1, a2, ⟨a3, a4, a5, a6⟩, a7, a8, a9, a10⟩, t⟩ | ⟨M1, W1, m, e, r1, h2, h3, h4, h5, h6⟩
  · refine Or.inl ?_
    have s300 := PS_300 a2.1.1 a2.2.1
    have lt : ∀ y, y < 0 + k1 → W1 5 y < 40 := fun y hy => by
      have a := (a9 y (by omega) hy).1
      by_cases z : 40 ≤ W1 5 y
      · have : rk (W1 5 y) = 0 := if_pos z
        omega
      · omega
    have on := q_openNone a2.2.2.2.2.1 lt
    have hbt := btw_not41 a2.2.1.2.2.2 (TTs_no t) on (by omega) (by omega)
    have hB := bh_none hbt on part_no
    have n160 := a2.2.2.2.2.1.1
    have wn := a2.2.2.2.2.2.1
    have s1b : c1 ≤ s1 := a2.2.2.1.2.1
    obtain ⟨W2, e1, t1, t2, t3, t4, t5, t6, t7⟩ := q_settle (k := k1) (n := 0) (r := 1) hZ (by omega) a2.2.2.2.1.1 a2.2.2.2.1.2.2.1 (by omega) a2.2.2.2.2.1.2.1 n160 a2.2.2.2.2.1.2.2 (fun y y1 y2 => by have := (a9 y y1 y2).1; omega) (fun y hy => by omega)
    have hcp := STL_cpl (Z := Z) (W := W1) (W' := W2) ⟨t1, t2, t3, t4, t5, t6, t7⟩
    obtain ⟨g, hg⟩ : ∃ g, g_fuel = g + 1 + m := ⟨g_fuel - 1 - m, by unfold g_fuel; omega⟩
    have run : m_X9_summed_L15 KS g_fuel V = some (0, W2) := by
      rw [hg, a1, l15_out a2.2.2.2.1.2.2.2.2 hB]
      unfold KS
      rw [bd_eq on, if_pos (by rw [gs_id (by omega) (by omega)]; omega), bd_eq e1]
    have F2 : FR Z 0 c w M1 W1 M1 W2 := ⟨⟨fun _ _ _ _ => rfl, fun _ _ => rfl, fun _ _ => rfl, fun a b1 b2 b3 => t1 a b1 b2, fun j hj => t2 j (by omega) (by omega) (by omega), fun y hy => t7 y (by omega)⟩, fun _ _ => rfl, fun y hy => t7 y (by omega), fun y hy => by omega⟩
    exact ⟨M1, W2, s1, q1, T1, N1, c1, w1 + k1, r1, run, PS_cg a2.2.1 (fun _ _ _ _ _ => rfl) rfl (fun j hj => t2 j (by omega) (by omega) (by omega)) (t1 4 (by omega) (by omega)), ⟨a2.2.2.1.1, a4, by omega, t4, by omega, by omega, by omega⟩, FR_tr (FR_tr F0 a7 (by omega) (by omega) (by omega)) F2 (by omega) (by omega) (by omega), a8, a10 _ hcp⟩
  · refine Or.inr ⟨M1, W1, e, r1, ?_, h3, FRf_tr F0.1 h6⟩
    obtain ⟨g, hg⟩ : ∃ g, g_fuel = g + m := ⟨g_fuel - m, by unfold g_fuel; omega⟩
    rw [hg]
    exact h2 g
/-- what a text's reading leaves as it was -/
def FRk (Z : Nat) (M W M' W' : g_M) : Prop := (∀ a, a < 23 ∨ a = 24 ∨ 30 < a → M' a = M a) ∧ M' 23 2 = M 23 2 ∧ (∀ a, a ≠ 0 → a ≠ 3 → a ≠ 5 → W' a = W a) ∧ (∀ j, j = 4 ∨ 20 ≤ j → W' 0 j = W 0 j) ∧ ∀ y, y < Z → W' 3 y = W 3 y
theorem FRk_tr {Z : Nat} {M W M1 W1 M2 W2 : g_M} (h : FRk Z M W M1 W1) (g : FRk Z M1 W1 M2 W2) : FRk Z M W M2 W2 := by
  obtain ⟨h1, h2, h3, h4, h5⟩ := h
  obtain ⟨g1, g2, g3, g4, g5⟩ := g
  exact ⟨fun a x => (g1 a x).trans (h1 a x), g2.trans h2, fun a x y z => (g3 a x y z).trans (h3 a x y z), fun j x => (g4 j x).trans (h4 j x), fun y x => (g5 y x).trans (h5 y x)⟩
theorem FRk_f {Z : Nat} {M W M' W' : g_M} (h : FRf Z M W M' W') : FRk Z M W M' W' := ⟨fun a x => h.1 a (by omega) (by omega) (by omega), h.2.1 2 (by omega), h.2.2.2.1, fun j x => h.2.2.2.2.1 j (by omega), h.2.2.2.2.2⟩
def BADk (Z : Nat) (e : Int) (M W M' W' : g_M) : Prop := (M' 23 3 = e ∧ M' 23 4 = W' 0 8 ∧ 1 ≤ e ∧ e ≤ 6 ∧ 0 ≤ W' 0 8 ∧ W' 0 8 ≤ 300) ∧ FRk Z M W M' W'
theorem BADk_step {Z : Nat} {e : Int} {M W M1 W1 M2 W2 : g_M} (h : FRk Z M W M1 W1) (g : BADk Z e M1 W1 M2 W2) : BADk Z e M W M2 W2 := ⟨g.1, FRk_tr h g.2⟩
theorem BADk_mk {L s q T : Nat} {N : Int} {b : Nat → Int} {M W : g_M} (Z : Nat) {e : Int} (hs : SC L b) (hP : PS L b s q T N M W) (he : 1 ≤ e ∧ e ≤ 6) : BADk Z e M W (g_wr (g_wr M 23 3 e) 23 4 (M 23 6)) W := by
  have s300 := PS_300 hs hP
  have m6 : M 23 6 = s := hP.2.2.1.2.2.1
  have w8 : W 0 8 = s := hP.2.2.1.2.2.2.1
  refine ⟨⟨?_, ?_, he.1, he.2, by omega, by omega⟩, fun a ha => ?_, ?_, fun _ _ _ _ => rfl, fun _ _ => rfl, fun _ _ => rfl⟩
  · rw [a_ne _ (by omega), wr_at]
  · rw [wr_at, m6, w8]
  · rw [a_cell _ (by omega), a_cell _ (by omega)]
  · rw [a_ne _ (by omega), a_ne _ (by omega)]
/-- what an order's reading leaves as it was -/
def OFm (n X : Nat) (M W M' W' : g_M) : Prop := (∀ a, a ≠ 23 → a ≠ 25 → a ≠ 30 → M' a = M a) ∧ (∀ j, j < 5 ∨ 8 < j → M' 23 j = M 23 j) ∧ (∀ j, j ≠ 7 → M' 25 j = M 25 j) ∧ (∀ y, y < 3 * n → M' 30 y = M 30 y) ∧ (∀ a, a ≠ 0 → a ≠ 3 → W' a = W a) ∧ (∀ j, j < 7 ∨ 11 < j → W' 0 j = W 0 j) ∧ ∀ y, y ≤ X ∨ X + 3 < y → W' 3 y = W 3 y
theorem OFm_tr {n X : Nat} {M W M1 W1 M2 W2 : g_M} (h : OFm n X M W M1 W1) (g : OFm n X M1 W1 M2 W2) : OFm n X M W M2 W2 := by
  obtain ⟨h1, h2, h3, h4, h5, h6, h7⟩ := h
  obtain ⟨g1, g2, g3, g4, g5, g6, g7⟩ := g
  exact ⟨fun a x y z => (g1 a x y z).trans (h1 a x y z), fun j x => (g2 j x).trans (h2 j x), fun j x => (g3 j x).trans (h3 j x), fun y x => (g4 y x).trans (h4 y x), fun a x y => (g5 a x y).trans (h5 a x y), fun j x => (g6 j x).trans (h6 j x), fun y x => (g7 y x).trans (h7 y x)⟩
theorem FRk_o {n X Z : Nat} {M W M' W' : g_M} (h : OFm n X M W M' W') (hZ : Z ≤ X) : FRk Z M W M' W' := ⟨fun a x => h.1 a (by omega) (by omega) (by omega), h.2.1 2 (by omega), fun a x y _ => h.2.2.2.2.1 a x y, fun j x => h.2.2.2.2.2.1 j (by omega), fun y x => h.2.2.2.2.2.2 y (by omega)⟩
/-- the i-th NUMBER of the n-th CLAUSE is v -/
def ONf (n i X : Nat) (v : Int) (M W M' W' : g_M) : Prop := OFm n X M W M' W' ∧ M' 25 7 = ((i + 1 : Nat) : Int) ∧ M' 30 (3 * n + i) = v ∧ (∀ y, y < 3 * n + i → M' 30 y = M 30 y) ∧ W' 3 (X + 1 + i) = v ∧ ∀ y, y < X + 1 + i → W' 3 y = W 3 y
theorem num_1 {L s q T n i X : Nat} {N lo hi : Int} {b : Nat → Int} {M W : g_M} (hs : SC L b) (hP : PS L b s q T N M W) (hlo : 0 ≤ lo ∧ lo ≤ hi ∧ hi ≤ 40) (h6 : M 25 6 = ((n + 1 : Nat) : Int)) (hn : n < 24) (h7 : M 25 7 = i) (hi3 : i < 3) (hX : X + 3 < 2820) {x : Int} (hx : x = ((X + 1 + i : Nat) : Int)) (Z : Nat) :
    (∃ (M' W' : g_M) (s' q' T' : Nat) (N' v : Int), m_X4_readNumber lo hi M = some (1, M') ∧ m_X9_figure x lo hi W = some (0, W') ∧ PS L b s' q' T' N' M' W' ∧ s < s' ∧ lo ≤ v ∧ v ≤ hi ∧ ONf n i X v M W M' W') ∨
    (∃ (M' : g_M) (e : Int), m_X4_readNumber lo hi M = some (0, M') ∧ m_X9_figure x lo hi W = some (e, W) ∧ BADk Z e M W M' W) := by
  subst hx
  have m7 : M 23 7 = T := hP.2.2.1.2.2.2.2.1
  have t100 := T_100 hP
  have tw := hP.2.2.2
  have nine := TW_9 tw
  by_cases c40 : T = 40
  · have hN : M 23 8 = N := hP.2.2.1.2.2.2.2.2 c40
    have e9 : W 0 9 = 1 := nine.2.2.1.2 c40
    obtain ⟨n1, n2, n3, n4⟩ : (0 ≤ N ∧ N ≤ 10000) ∧ (0 ≤ W 0 10 ∧ W 0 10 ≤ 1000009) ∧ (N ≤ 9999 → W 0 10 = N) ∧ (9999 < N → 9999 < W 0 10) := by
      rcases tw with ⟨a, -⟩ | ⟨-, -, a, b, c, e⟩ | ⟨-, -, -, ⟨a, -⟩ | ⟨a, -⟩⟩ | ⟨a, -⟩ | ⟨a, -⟩
      · omega
      · exact ⟨a, b, c, e⟩
      · omega
      · omega
      · omega
      · omega
    clear nine
    by_cases cN : lo ≤ N ∧ N ≤ hi
    · have h10 : W 0 10 = N := n3 (by omega)
      obtain ⟨M1, hM1⟩ : ∃ M1, M1 = g_wr (g_wr M 30 (3 * n + i) N) 25 7 ((i : Int) + 1) := ⟨_, rfl⟩
      obtain ⟨W1, hW1⟩ : ∃ W1, W1 = g_wr W 3 (X + 1 + i) N := ⟨_, rfl⟩
      have ix : (((((n + 1 : Nat) : Int) - 1) * 3) + (i : Int)).toNat = 3 * n + i := by omega
      have ad : m_X7_addNumber 25 N M = some M1 := by
        unfold m_X7_addNumber
        simp (disch := omega) only [↓reduceIte, ↓nm_eq, ↓jn_eq, ↓c_within, ↓c_isIn, ↓c_isScene, ↓c_isPlace, ↓c_isCue, ↓c_isDigit, ↓d_isScene, ↓d_isAny, ↓ta_pb1, ↓ta_pb0, ↓ta_pb1', ↓ta_pb0', ta_lt, ta_nlt, ta_le, ta_nle, ta_eq, ta_neq, ta_nne, ta_ne, gs_id, a_gd01, a_gdT, or_true, true_or, bd_some, bW_sm, a_gd, a_ne, a_rd, Int.toNat_natCast, Int.toNat_add, Int.toNat_mul, Int.reduceToNat, a_gdp, a_cell, and_self, and_true, true_and, h6, h7, ix, hM1]
      obtain ⟨s', q', T', N', M', W', a1, a2, a3, a4, a5, a6, a7, a8⟩ := nx (M1 := M1) (W1 := W1) hs hP (by omega) (by rw [hM1, a_cell _ (by omega), a_cell _ (by omega)]) (by rw [hM1, a_cell _ (by omega), a_cell _ (by omega)]) (by rw [hM1, a_cell _ (by omega), a_cell _ (by omega)]) (by rw [hW1, a_cell _ (by omega)]) (by rw [hW1, a_cell _ (by omega)]) (by rw [hW1, a_cell _ (by omega)])
      refine Or.inl ⟨M', W', s', q', T', N', N, ?_, ?_, a4, a3, cN.1, cN.2, ⟨fun a b1 b2 b3 => ?_, fun j hj => ?_, fun j hj => ?_, fun y hy => ?_, fun a b1 b2 => ?_, fun j hj => ?_, fun y hy => ?_⟩, ?_, ?_, fun y hy => ?_, ?_, fun y hy => ?_⟩
      · unfold m_X4_readNumber
        simp (disch := omega) only [↓reduceIte, ↓nm_eq, ↓jn_eq, ↓c_within, ↓c_isIn, ↓c_isScene, ↓c_isPlace, ↓c_isCue, ↓c_isDigit, ↓d_isScene, ↓d_isAny, ↓ta_pb1, ↓ta_pb0, ↓ta_pb1', ↓ta_pb0', ta_lt, ta_nlt, ta_le, ta_nle, ta_eq, ta_neq, ta_nne, ta_ne, gs_id, a_gd01, a_gdT, or_true, true_or, bd_some, bW_sm, a_gd, a_ne, a_rd, Int.toNat_natCast, Int.toNat_add, Int.toNat_mul, Int.reduceToNat, a_gdp, a_cell, and_self, and_true, true_and, m7, c40, hN, ad, a1]
      · unfold m_X9_figure
        have hW1' := hW1.symm
        simp (disch := omega) only [↓reduceIte, ↓nm_eq, ↓jn_eq, ↓c_within, ↓c_isIn, ↓c_isScene, ↓c_isPlace, ↓c_isCue, ↓c_isDigit, ↓d_isScene, ↓d_isAny, ↓ta_pb1, ↓ta_pb0, ↓ta_pb1', ↓ta_pb0', ta_lt, ta_nlt, ta_le, ta_nle, ta_eq, ta_neq, ta_nne, ta_ne, gs_id, a_gd01, a_gdT, or_true, true_or, bd_some, bW_sm, a_gd, a_ne, a_rd, Int.toNat_natCast, Int.toNat_add, Int.toNat_mul, Int.reduceToNat, a_gdp, a_cell, and_self, and_true, true_and, e9, h10, hW1', a2]
      · rw [a5 a b1, hM1, a_cell _ b2, a_cell _ b3]
      · rw [a6 j (by omega) (by omega) (by omega) (by omega), hM1, a_cell _ (by omega), a_cell _ (by omega)]
      · rw [a5 25 (by omega), hM1, a_ne _ (by omega), a_cell _ (by omega)]
      · rw [a5 30 (by omega), hM1, a_cell _ (by omega), a_ne _ (by omega)]
      · rw [a7 a b1, hW1, a_cell _ b2]
      · rw [a8 j (by omega) (by omega) (by omega) (by omega) (by omega), hW1, a_cell _ (by omega)]
      · rw [a7 3 (by omega), hW1, a_ne _ (by omega)]
      · rw [a5 25 (by omega), hM1, wr_at]; omega
      · rw [a5 30 (by omega), hM1, a_cell _ (by omega), wr_at]
      · rw [a5 30 (by omega), hM1, a_cell _ (by omega), a_ne _ (by omega)]
      · rw [a7 3 (by omega), hW1, wr_at]
      · rw [a7 3 (by omega), hW1, a_ne _ (by omega)]
    · have cW : ¬ (lo ≤ W 0 10 ∧ W 0 10 ≤ hi) := by
        by_cases c9 : N ≤ 9999
        · rw [n3 c9]; exact cN
        · have := n4 (by omega)
          omega
      refine Or.inr ⟨_, 2, ?_, ?_, BADk_mk Z hs hP (by omega)⟩
      · have e := c_wrong 2 M
        unfold m_X4_readNumber
        simp (disch := omega) only [↓reduceIte, ↓nm_eq, ↓jn_eq, ↓c_within, ↓c_isIn, ↓c_isScene, ↓c_isPlace, ↓c_isCue, ↓c_isDigit, ↓d_isScene, ↓d_isAny, ↓ta_pb1, ↓ta_pb0, ↓ta_pb1', ↓ta_pb0', ta_lt, ta_nlt, ta_le, ta_nle, ta_eq, ta_neq, ta_nne, ta_ne, gs_id, a_gd01, a_gdT, or_true, true_or, bd_some, bW_sm, a_gd, a_ne, a_rd, Int.toNat_natCast, Int.toNat_add, Int.toNat_mul, Int.reduceToNat, a_gdp, a_cell, and_self, and_true, true_and, m7, c40, hN, e]
      · unfold m_X9_figure
        simp (disch := omega) only [↓reduceIte, ↓nm_eq, ↓jn_eq, ↓c_within, ↓c_isIn, ↓c_isScene, ↓c_isPlace, ↓c_isCue, ↓c_isDigit, ↓d_isScene, ↓d_isAny, ↓ta_pb1, ↓ta_pb0, ↓ta_pb1', ↓ta_pb0', ta_lt, ta_nlt, ta_le, ta_nle, ta_eq, ta_neq, ta_nne, ta_ne, gs_id, a_gd01, a_gdT, or_true, true_or, bd_some, bW_sm, a_gd, a_ne, a_rd, Int.toNat_natCast, Int.toNat_add, Int.toNat_mul, Int.reduceToNat, a_gdp, a_cell, and_self, and_true, true_and, e9]
  · have e9 : W 0 9 ≠ 1 := fun z => c40 (nine.2.2.1.1 z)
    have e8 : 0 ≤ W 0 9 ∧ W 0 9 ≤ 255 := nine.1
    clear nine tw
    refine Or.inr ⟨_, 1, ?_, ?_, BADk_mk Z hs hP (by omega)⟩
    · have e := c_wrong 1 M
      unfold m_X4_readNumber
      simp (disch := omega) only [↓reduceIte, ↓nm_eq, ↓jn_eq, ↓c_within, ↓c_isIn, ↓c_isScene, ↓c_isPlace, ↓c_isCue, ↓c_isDigit, ↓d_isScene, ↓d_isAny, ↓ta_pb1, ↓ta_pb0, ↓ta_pb1', ↓ta_pb0', ta_lt, ta_nlt, ta_le, ta_nle, ta_eq, ta_neq, ta_nne, ta_ne, gs_id, a_gd01, a_gdT, or_true, true_or, bd_some, bW_sm, a_gd, a_ne, a_rd, Int.toNat_natCast, Int.toNat_add, Int.toNat_mul, Int.reduceToNat, a_gdp, a_cell, and_self, and_true, true_and, m7, e]
    · unfold m_X9_figure
      simp (disch := omega) only [↓reduceIte, ↓nm_eq, ↓jn_eq, ↓c_within, ↓c_isIn, ↓c_isScene, ↓c_isPlace, ↓c_isCue, ↓c_isDigit, ↓d_isScene, ↓d_isAny, ↓ta_pb1, ↓ta_pb0, ↓ta_pb1', ↓ta_pb0', ta_lt, ta_nlt, ta_le, ta_nle, ta_eq, ta_neq, ta_nne, ta_ne, gs_id, a_gd01, a_gdT, or_true, true_or, bd_some, bW_sm, a_gd, a_ne, a_rd, Int.toNat_natCast, Int.toNat_add, Int.toNat_mul, Int.reduceToNat, a_gdp, a_cell, and_self, and_true, true_and]
/-- a word, a NUMBER -/
theorem wrd_1 {L s q T n i X k : Nat} {N lo hi : Int} {b : Nat → Int} {M W : g_M} (hs : SC L b) (hP : PS L b s q T N M W) (hk : k < 33 ∧ k ≠ 2 ∧ k ≠ 8) (hlo : 0 ≤ lo ∧ lo ≤ hi ∧ hi ≤ 40) (h6 : M 25 6 = ((n + 1 : Nat) : Int)) (hn : n < 24) (h7 : M 25 7 = i) (hi3 : i < 3) (hX : X + 3 < 2820) {x : Int} (hx : x = ((X + 1 + i : Nat) : Int)) {Z : Nat} (hZ : Z ≤ X) :
    (∃ (M1 M' W' : g_M) (s' q' T' : Nat) (N' v : Int), m_X4_pass k M = some (1, M1) ∧ m_X4_readNumber lo hi M1 = some (1, M') ∧ m_X9_worded (cw k) x lo hi W = some (0, W') ∧ PS L b s' q' T' N' M' W' ∧ s < s' ∧ lo ≤ v ∧ v ≤ hi ∧ ONf n i X v M W M' W') ∨
    (∃ (M1 W1 : g_M) (e : Int), m_X9_worded (cw k) x lo hi W = some (e, W1) ∧ ((m_X4_pass k M = some (0, M1)) ∨ ∃ M2, m_X4_pass k M = some (1, M2) ∧ m_X4_readNumber lo hi M2 = some (0, M1)) ∧ BADk Z e M W M1 W1) := by
  have m7 : M 23 7 = T := hP.2.2.1.2.2.2.2.1
  have t100 := T_100 hP
  have ew := t_word hP.2.2.2 hk.1 hk.2.1 hk.2.2
  by_cases c : T = k
  · obtain ⟨s1, q1, T1, N1, M1, W1, a1, a2, a3, a4, a5, a6, a7, a8⟩ := nx (M1 := M) (W1 := W) hs hP (by omega) rfl rfl rfl rfl rfl rfl
    have hp : m_X4_pass k M = some (1, M1) := c_pass1 (by rw [m7, c]) a1
    have O1 : OFm n X M W M1 W1 := ⟨fun a b1 _ _ => a5 a b1, fun j hj => a6 j (by omega) (by omega) (by omega) (by omega), fun j _ => by rw [a5 25 (by omega)], fun y _ => by rw [a5 30 (by omega)], fun a b1 _ => a7 a b1, fun j hj => a8 j (by omega) (by omega) (by omega) (by omega) (by omega), fun y _ => by rw [a7 3 (by omega)]⟩
    rcases num_1 (n := n) (i := i) (X := X) hs a4 hlo (by rw [a5 25 (by omega)]; exact h6) hn (by rw [a5 25 (by omega)]; exact h7) hi3 hX hx Z with ⟨M', W', s', q', T', N', v, r1, r2, r3, r4, r5, r6, r7, r8, r9, r10, r11, r12⟩ | ⟨M', e, r1, r2, r3⟩
    · refine Or.inl ⟨M1, M', W', s', q', T', N', v, hp, r1, ?_, r3, by omega, r5, r6, OFm_tr O1 r7, r8, r9, fun y hy => by rw [r10 y hy, a5 30 (by omega)], r11, fun y hy => by rw [r12 y hy, a7 3 (by omega)]⟩
      unfold m_X9_worded
      rw [bd_eq ew, if_pos (fun z => pb_eq0.1 z c), bd_eq a2, bW_eq r2]
    · refine Or.inr ⟨M', W1, e, ?_, Or.inr ⟨M1, hp, r1⟩, BADk_step (FRk_o O1 hZ) r3⟩
      unfold m_X9_worded
      rw [bd_eq ew, if_pos (fun z => pb_eq0.1 z c), bd_eq a2, bW_eq r2]
  · refine Or.inr ⟨_, W, 1, ?_, Or.inl (c_pass0 m7 t100 (by omega) c), BADk_mk Z hs hP (by omega)⟩
    unfold m_X9_worded
    rw [bd_eq ew, if_neg (fun z => z (pb_eq0.2 c))]
