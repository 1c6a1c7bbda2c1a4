/-! how it stands within a SUM, in both -/
def SC (L : Nat) (b : Nat → Int) : Prop := L ≤ 300 ∧ ∀ i, i < L → 0 ≤ b i ∧ b i ≤ 255
def SX (L Z l : Nat) (b : Nat → Int) (s q T : Nat) (N : Int) (c w n o : Nat) (h : Int) (M W : g_M) : Prop := (SC L b ∧ Z ≤ 2115 ∧ l < 3) ∧ PS L b s q T N M W ∧ (M 25 1 = c ∧ c ≤ s ∧ M 23 9 = l) ∧ (W 0 12 = Z ∧ W 0 14 = l ∧ W 0 13 = w ∧ W 0 17 = o ∧ W 0 18 = h) ∧ VP n W ∧ w + n ≤ s ∧ n ≤ 6 * o + 5 ∧ o ≤ 8
def FRf (Z : Nat) (M W M' W' : g_M) : Prop := (∀ a, a ≠ 23 → a ≠ 25 → a ≠ 26 → M' a = M a) ∧ (∀ j, j < 3 ∨ 8 < j → M' 23 j = M 23 j) ∧ (∀ j, j ≠ 1 → M' 25 j = M 25 j) ∧ (∀ a, a ≠ 0 → a ≠ 3 → a ≠ 5 → W' a = W a) ∧ (∀ j, j < 7 ∨ j = 12 ∨ j = 14 ∨ j = 15 ∨ 18 < j → W' 0 j = W 0 j) ∧ ∀ y, y < Z → W' 3 y = W 3 y
def FR (Z n c w : Nat) (M W M' W' : g_M) : Prop := FRf Z M W M' W' ∧ (∀ y, y < c → M' 26 y = M 26 y) ∧ (∀ y, y < Z + 97 + 2 * w → W' 3 y = W 3 y) ∧ ∀ y, y < n → W' 5 y = W 5 y
def KE (M M' : g_M) : Prop := M' 23 3 = M 23 3 ∧ M' 23 4 = M 23 4
theorem FRf_rfl (Z : Nat) (M W : g_M) : FRf Z M W M W := ⟨fun _ _ _ _ => rfl, fun _ _ => rfl, fun _ _ => rfl, fun _ _ _ _ => rfl, fun _ _ => rfl, fun _ _ => rfl⟩
theorem FRf_tr {Z : Nat} {M W M1 W1 M2 W2 : g_M} (h : FRf Z M W M1 W1) (g : FRf Z M1 W1 M2 W2) : FRf Z M W M2 W2 := by
  obtain ⟨h1, h2, h3, h4, h5, h6⟩ := h
  obtain ⟨g1, g2, g3, g4, g5, g6⟩ := g
  exact ⟨fun a x y z => (g1 a x y z).trans (h1 a x y z), fun j x => (g2 j x).trans (h2 j x), fun j x => (g3 j x).trans (h3 j x), fun a x y z => (g4 a x y z).trans (h4 a x y z), fun j x => (g5 j x).trans (h5 j x), fun y x => (g6 y x).trans (h6 y x)⟩
theorem FR_rfl (Z n c w : Nat) (M W : g_M) : FR Z n c w M W M W := ⟨FRf_rfl Z M W, fun _ _ => rfl, fun _ _ => rfl, fun _ _ => rfl⟩
theorem FR_tr {Z n c w n1 c1 w1 : Nat} {M W M1 W1 M2 W2 : g_M} (h : FR Z n c w M W M1 W1) (g : FR Z n1 c1 w1 M1 W1 M2 W2) (hn : n ≤ n1) (hc : c ≤ c1) (hw : w ≤ w1) : FR Z n c w M W M2 W2 := by
  obtain ⟨h1, h2, h3, h4⟩ := h
  obtain ⟨g1, g2, g3, g4⟩ := g
  exact ⟨FRf_tr h1 g1, fun y x => (g2 y (by omega)).trans (h2 y x), fun y x => (g3 y (by omega)).trans (h3 y x), fun y x => (g4 y (by omega)).trans (h4 y x)⟩
theorem KE_tr {M M1 M2 : g_M} (h : KE M M1) (g : KE M1 M2) : KE M M2 := ⟨g.1.trans h.1, g.2.trans h.2⟩
/-- a SUM with a FAULT: the class answers 0, the reference its FAULT, both know it and its place -/
def BAD (Z s : Nat) (M W : g_M) (r : Option (Int × g_M)) : Prop := ∃ (M' W' : g_M) (m : Nat) (e : Int), r = some (0, M') ∧ (∀ f, m_X9_summed_L15 KS (f + m) W = some (e, W')) ∧ (M' 23 3 = e ∧ M' 23 4 = W' 0 8 ∧ 1 ≤ e ∧ e ≤ 6 ∧ 0 ≤ W' 0 8 ∧ W' 0 8 ≤ 300) ∧ (0 ≤ M' 25 1 ∧ M' 25 1 ≤ 300) ∧ m + s ≤ 301 ∧ FRf Z M W M' W'
theorem BAD_step {Z s s0 m0 : Nat} {M W M0 W0 : g_M} {r : Option (Int × g_M)} (h : BAD Z s0 M0 W0 r) (e : ∀ f, m_X9_summed_L15 KS (f + m0) W = m_X9_summed_L15 KS f W0) (hf : FRf Z M W M0 W0) (hm : m0 + s ≤ s0) : BAD Z s M W r := by
  obtain ⟨M', W', m, x, h1, h2, h3, h4, h5, h6⟩ := h
  refine ⟨M', W', m + m0, x, h1, fun f => ?_, h3, h4, by omega, FRf_tr hf h6⟩
  rw [← Nat.add_assoc, e]
  exact h2 f
theorem BAD_mk {L Z l s q T c w n o : Nat} {N h e : Int} {b : Nat → Int} {M W : g_M} {r : Option (Int × g_M)} (hX : SX L Z l b s q T N c w n o h M W) (he : 1 ≤ e ∧ e ≤ 6) (hs : ∀ f, m_X9_summed_L15 KS (f + 1) W = some (e, W)) (hr : r = some (0, g_wr (g_wr M 23 3 e) 23 4 (M 23 6))) : BAD Z s M W r := by
  obtain ⟨⟨hs1, -⟩, ⟨⟨p1, p2, p3⟩, p4, ⟨p5, p6, p7, p8, p9, p10⟩, -⟩, ⟨x1, x2, x3⟩, -⟩ := hX
  have hL := hs1.1
  refine ⟨_, W, 1, e, hr, hs, ⟨?_, ?_, he.1, he.2, by omega, by omega⟩, ⟨?_, ?_⟩, by omega, fun a h1 h2 h3 => ?_, fun j hj => ?_, fun j hj => ?_, fun _ _ _ _ => rfl, fun _ _ => rfl, fun _ _ => rfl⟩
  · rw [a_ne _ (by omega), wr_at]
  · rw [wr_at, p7, p8]
  · rw [a_ne _ (by omega), a_ne _ (by omega)]; omega
  · rw [a_ne _ (by omega), a_ne _ (by omega)]; omega
  · rw [a_cell _ h1, a_cell _ h1]
  · rw [a_ne _ (by omega), a_ne _ (by omega)]
  · rw [a_ne _ (by omega), a_ne _ (by omega)]
/-- the class's code -/
theorem shl_tab : (List.range 100).all (fun o => decide (g_shl (o : Int) 16 = ((o * 65536 : Nat) : Int))) = true := by decide +kernel
theorem ord_mk {o v : Nat} (ho : o < 100) (hv : v < 65536) : g_or (g_shl (o : Int) 16) (v : Int) = ((o * 65536 + v : Nat) : Int) := by
  rw [of_decide_eq_true (all_of shl_tab ho), or_nat (by omega) (by omega)]
  have := Nat.shiftLeft_add_eq_or_of_lt (b := v) (i := 16) (by omega) o
  rw [Nat.shiftLeft_eq] at this
  rw [this]
theorem and_72 : g_and ((72 * 65536 + 0 : Nat) : Int) (-65536) = ((72 * 65536 : Nat) : Int) ∧ g_and ((71 * 65536 + 0 : Nat) : Int) (-65536) = ((71 * 65536 : Nat) : Int) := by decide +kernel
theorem ord_aim {o v : Nat} (ho : o = 71 ∨ o = 72) (hv : v < 65536) : g_or (g_and ((o * 65536 + 0 : Nat) : Int) (-65536)) (v : Int) = ((o * 65536 + v : Nat) : Int) := by
  have e : g_and ((o * 65536 + 0 : Nat) : Int) (-65536) = ((o * 65536 : Nat) : Int) := by
    rcases ho with z | z
    · rw [z]; exact and_72.2
    · rw [z]; exact and_72.1
  rw [e, or_nat (by omega) (by omega)]
  have := Nat.shiftLeft_add_eq_or_of_lt (b := v) (i := 16) (by omega) o
  rw [Nat.shiftLeft_eq] at this
  rw [this]
/-- an order is put -/
def PT1 (c : Nat) (v : Int) (M M' : g_M) : Prop := (∀ a, a ≠ 25 → a ≠ 26 → M' a = M a) ∧ (∀ j, j ≠ 1 → M' 25 j = M 25 j) ∧ M' 25 1 = ((c + 1 : Nat) : Int) ∧ M' 26 c = v ∧ ∀ y, y ≠ c → M' 26 y = M 26 y
theorem c_put {M : g_M} {c o v : Nat} (h : M 25 1 = c) (hc : c < 300) (ho : o < 100) (hv : v < 65536) : ∃ M', m_X7_put 25 o v M = some M' ∧ PT1 c ((o * 65536 + v : Nat) : Int) M M' := by
  refine ⟨g_wr (g_wr M 26 c ((o * 65536 + v : Nat) : Int)) 25 1 ((c : Int) + 1), ?_, fun a h1 h2 => by rw [a_cell _ h1, a_cell _ h2], fun j hj => by rw [a_ne _ (by omega), a_ne _ (by omega)], by rw [wr_at]; omega, by rw [a_ne _ (by omega), wr_at], fun y hy => by rw [a_ne _ (by omega), a_ne _ (by omega)]⟩
  have e := ord_mk ho hv
  unfold m_X7_put
  simp (disch := omega) only [↓reduceIte, ↓nm_eq, ↓jn_eq, ↓c_within, ↓c_isIn, ↓c_isScene, ↓c_isPlace, ↓c_isCue, ↓c_isDigit, ↓d_isScene, ↓d_isAny, ↓ta_pb1, ↓ta_pb0, ↓ta_pb1', ↓ta_pb0', ta_lt, ta_nlt, ta_le, ta_nle, ta_eq, ta_neq, ta_nne, ta_ne, gs_id, a_gd01, a_gdT, or_true, true_or, bd_some, bW_sm, a_gd, a_ne, a_rd, Int.toNat_natCast, Int.toNat_add, Int.toNat_mul, Int.reduceToNat, a_gdp, a_cell, and_self, and_true, true_and, h, e]
theorem c_put_any {M : g_M} {o v : Int} (h : 0 ≤ M 25 1 ∧ M 25 1 ≤ 300) : ∃ M', m_X7_put 25 o v M = some M' ∧ (∀ a, a ≠ 25 → a ≠ 26 → M' a = M a) ∧ (∀ j, j ≠ 1 → M' 25 j = M 25 j) ∧ 0 ≤ M' 25 1 ∧ M' 25 1 ≤ 300 := by
  unfold m_X7_put
  by_cases c : 300 ≤ M 25 1
  · refine ⟨M, ?_, fun _ _ _ => rfl, fun _ _ => rfl, h⟩
    simp (disch := omega) only [↓reduceIte, ↓nm_eq, ↓jn_eq, ↓c_within, ↓c_isIn, ↓c_isScene, ↓c_isPlace, ↓c_isCue, ↓c_isDigit, ↓d_isScene, ↓d_isAny, ↓ta_pb1, ↓ta_pb0, ↓ta_pb1', ↓ta_pb0', ta_lt, ta_nlt, ta_le, ta_nle, ta_eq, ta_neq, ta_nne, ta_ne, gs_id, a_gd01, a_gdT, or_true, true_or, bd_some, bW_sm, a_gd, a_ne, a_rd, Int.toNat_natCast, Int.toNat_add, Int.toNat_mul, Int.reduceToNat, a_gdp, a_cell, and_self, and_true, true_and]
  · refine ⟨g_wr (g_wr M 26 (M 25 1).toNat (g_or (g_shl o 16) v)) 25 1 (M 25 1 + 1), ?_, fun a h1 h2 => by rw [a_cell _ h1, a_cell _ h2], fun j hj => by rw [a_ne _ (by omega), a_ne _ (by omega)], ?_⟩
    · simp (disch := omega) only [↓reduceIte, ↓nm_eq, ↓jn_eq, ↓c_within, ↓c_isIn, ↓c_isScene, ↓c_isPlace, ↓c_isCue, ↓c_isDigit, ↓d_isScene, ↓d_isAny, ↓ta_pb1, ↓ta_pb0, ↓ta_pb1', ↓ta_pb0', ta_lt, ta_nlt, ta_le, ta_nle, ta_eq, ta_neq, ta_nne, ta_ne, gs_id, a_gd01, a_gdT, or_true, true_or, bd_some, bW_sm, a_gd, a_ne, a_rd, Int.toNat_natCast, Int.toNat_add, Int.toNat_mul, Int.reduceToNat, a_gdp, a_cell, and_self, and_true, true_and]
    · rw [wr_at]; omega
theorem BAD_put {Z s : Nat} {M W : g_M} {o v : Int} {r : Option (Int × g_M)} (h : BAD Z s M W r) : ∃ M1 M2, r = some (0, M1) ∧ m_X7_put 25 o v M1 = some M2 ∧ BAD Z s M W (some (0, M2)) := by
  obtain ⟨M', W', m, x, h1, h2, ⟨h3, h4, h5⟩, h6, h7, h8⟩ := h
  obtain ⟨M2, e, g1, g2, g3⟩ := c_put_any (o := o) (v := v) h6
  have e23 : M2 23 = M' 23 := g1 23 (by omega) (by omega)
  exact ⟨M', M2, h1, e, M2, W', m, x, rfl, h2, ⟨by rw [e23]; exact h3, by rw [e23]; exact h4, h5⟩, g3, h7, fun a a1 a2 a3 => by rw [g1 a a2 a3, h8.1 a a1 a2 a3], fun j hj => by rw [e23, h8.2.1 j hj], fun j hj => by rw [g2 j hj, h8.2.2.1 j hj], h8.2.2.2⟩
/-- the next token: both, from anywhere behind the last -/
theorem nx {L s q T : Nat} {N : Int} {b : Nat → Int} {M W M1 W1 : g_M} (hs : SC L b) (h : PS L b s q T N M W) (hT : T ≠ 41) (m2 : M1 23 2 = M 23 2) (m5 : M1 23 5 = M 23 5) (m24 : M1 24 = M 24) (w4 : W1 0 4 = W 0 4) (w7 : W1 0 7 = W 0 7) (wt : W1 4 = W 4) : ∃ (s' q' T' : Nat) (N' : Int) (M' W' : g_M), m_X4_advance M1 = some M' ∧ m_X9_nextToken W1 = some W' ∧ s < s' ∧ PS L b s' q' T' N' M' W' ∧ (∀ x, x ≠ 23 → M' x = M1 x) ∧ (∀ j, j ≠ 5 → j ≠ 6 → j ≠ 7 → j ≠ 8 → M' 23 j = M1 23 j) ∧ (∀ x, x ≠ 0 → W' x = W1 x) ∧ ∀ j, j ≠ 7 → j ≠ 8 → j ≠ 9 → j ≠ 10 → j ≠ 11 → W' 0 j = W1 0 j := by
  obtain ⟨⟨p1, p2, p3⟩, ⟨p4, p5, p6⟩, ⟨p7, p8, p9, p10, p11, p12⟩, p13⟩ := h
  obtain ⟨s', q', T', N', M', W', e1, e2, h1, h2, h3⟩ := both_next (M := M1) (W := W1) (a := q) hs.1 hs.2 p2 (by rw [m2]; exact p4) (by rw [w4]; exact p5) (fun i hi => by rw [m24, wt]; exact p6 i hi) (by rw [m5]; exact p7) (by rw [w7]; exact p8)
  have := p3 hT
  exact ⟨s', q', T', N', M', W', e1, e2, by omega, h2, h3⟩
theorem PS_300 {L s q T : Nat} {N : Int} {b : Nat → Int} {M W : g_M} (hs : SC L b) (h : PS L b s q T N M W) : s ≤ 300 ∧ (T ≠ 41 → s < 300) := by
  have := hs.1
  have := h.1
  refine ⟨by omega, fun z => ?_⟩
  have := h.1.2.2 z
  omega
/-- code whose waiting orders are written -/
def cpl (W : g_M) (Z n k w : Nat) (B : Nat → Int) : Prop := (∀ y, y < 2 * w → B y = W 3 (Z + 97 + y)) ∧ ∀ i, i < k → B (2 * (w + i)) = W 5 (n + k - 1 - i) ∧ B (2 * (w + i) + 1) = 0
theorem STL_cpl {Z n k w : Nat} {W W' : g_M} (h : STL Z n k w W W') : cpl W Z n k w (fun y => W' 3 (Z + 97 + y)) := by
  obtain ⟨-, -, -, -, -, h6, h7⟩ := h
  refine ⟨fun y hy => h7 _ (by omega), fun i hi => ?_⟩
  have := h6 i hi
  rw [show Z + 97 + 2 * (w + i) + 1 = Z + 97 + (2 * (w + i) + 1) by omega] at this
  exact this
