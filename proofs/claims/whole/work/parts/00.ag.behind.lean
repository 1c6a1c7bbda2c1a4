/-! behind one, in both -/
theorem rk_le {o : Int} (h : OPv o) : 0 ≤ rk o ∧ rk o ≤ 7 := (q_rank h).2
theorem bh_push {W W1 W' : g_M} {op n : Nat} {r : Int} (h1 : m_X9_betweenOf W = some (op : Int)) (ho : op ≤ 43) (hr : (rk op = 4 ∧ r = 5) ∨ (rk op ≠ 4 ∧ r = rk op)) (e1 : m_X9_settle r W = some W1) (h16 : W1 0 16 = n) (hn : n < 160) (e2 : m_X9_nextToken (g_wr (g_wr (g_wr W1 5 n op) 0 16 ((n : Int) + 1)) 0 18 0) = some W') : m_X9_behindOne W = some (1, W') := by
  obtain ⟨q1, q2, q3⟩ := q_rank (o := (op : Int)) (by unfold OPv; omega)
  unfold m_X9_behindOne
  rcases hr with ⟨a, a'⟩ | ⟨a, a'⟩
  · subst a'
    simp (disch := omega) only [↓reduceIte, ↓nm_eq, ↓jn_eq, ↓c_within, ↓c_isIn, ↓c_isScene, ↓c_isPlace, ↓c_isCue, ↓c_isDigit, ↓d_isScene, ↓d_isAny, ↓ta_pb1, ↓ta_pb0, ↓ta_pb1', ↓ta_pb0', ta_lt, ta_nlt, ta_le, ta_nle, ta_eq, ta_neq, ta_nne, ta_ne, gs_id, a_gd01, a_gdT, or_true, true_or, bd_some, bW_sm, a_gd, a_ne, a_rd, Int.toNat_natCast, Int.toNat_add, Int.toNat_mul, Int.reduceToNat, a_gdp, a_cell, and_self, and_true, true_and, h1, q1, e1, h16, e2]
  · subst a'
    simp (disch := omega) only [↓reduceIte, ↓nm_eq, ↓jn_eq, ↓c_within, ↓c_isIn, ↓c_isScene, ↓c_isPlace, ↓c_isCue, ↓c_isDigit, ↓d_isScene, ↓d_isAny, ↓ta_pb1, ↓ta_pb0, ↓ta_pb1', ↓ta_pb0', ta_lt, ta_nlt, ta_le, ta_nle, ta_eq, ta_neq, ta_nne, ta_ne, gs_id, a_gd01, a_gdT, or_true, true_or, bd_some, bW_sm, a_gd, a_ne, a_rd, Int.toNat_natCast, Int.toNat_add, Int.toNat_mul, Int.reduceToNat, a_gdp, a_cell, and_self, and_true, true_and, h1, q1, e1, h16, e2]
theorem bh_part {W W1 W2 : g_M} {op p : Int} {m : Nat} (h1 : m_X9_betweenOf W = some (-1)) (h2 : m_X9_openNow W = some op) (h3 : m_X9_partOf op W = some p) (hp : p = 42 ∨ p = 43) (e1 : m_X9_settle 1 W = some W1) (e2 : m_X9_nextToken W1 = some W2) (e3 : m_X9_openAt W2 = some (m : Int)) (hm : m < 160) : m_X9_behindOne W = some (1, g_wr (g_wr W2 5 m p) 0 18 0) := by
  unfold m_X9_behindOne
  simp (disch := omega) only [↓reduceIte, ↓nm_eq, ↓jn_eq, ↓c_within, ↓c_isIn, ↓c_isScene, ↓c_isPlace, ↓c_isCue, ↓c_isDigit, ↓d_isScene, ↓d_isAny, ↓ta_pb1, ↓ta_pb0, ↓ta_pb1', ↓ta_pb0', ta_lt, ta_nlt, ta_le, ta_nle, ta_eq, ta_neq, ta_nne, ta_ne, gs_id, a_gd01, a_gdT, or_true, true_or, bd_some, bW_sm, a_gd, a_ne, a_rd, Int.toNat_natCast, Int.toNat_add, Int.toNat_mul, Int.reduceToNat, a_gdp, a_cell, and_self, and_true, true_and, h1, h2, h3, e1, e2, e3]
theorem bh_shut {W W1 W2 W4 : g_M} {op x y : Int} (h1 : m_X9_betweenOf W = some (-1)) (h2 : m_X9_openNow W = some op) (h3 : m_X9_partOf op W = some 0) (e1 : m_X9_settle 1 W = some W1) (e2 : m_X9_nextToken W1 = some W2) (h16 : W2 0 16 = x) (h17 : W2 0 17 = y) (hc : (op = 40 ∧ m_X9_settle 7 (g_wr (g_wr W2 0 17 (y - 1)) 0 16 (x - 1)) = some W4) ∨ (op = 43 ∧ ∃ W3, m_X9_emit 3 0 (g_wr (g_wr W2 0 17 (y - 1)) 0 16 (x - 1)) = some W3 ∧ m_X9_settle 7 W3 = some W4)) : m_X9_behindOne W = some (1, W4) := by
  unfold m_X9_behindOne
  rcases hc with ⟨a, a2⟩ | ⟨a, W3, a2, a3⟩
  · subst a
    simp (disch := omega) only [↓reduceIte, ↓nm_eq, ↓jn_eq, ↓c_within, ↓c_isIn, ↓c_isScene, ↓c_isPlace, ↓c_isCue, ↓c_isDigit, ↓d_isScene, ↓d_isAny, ↓ta_pb1, ↓ta_pb0, ↓ta_pb1', ↓ta_pb0', ta_lt, ta_nlt, ta_le, ta_nle, ta_eq, ta_neq, ta_nne, ta_ne, gs_id, a_gd01, a_gdT, or_true, true_or, bd_some, bW_sm, a_gd, a_ne, a_rd, Int.toNat_natCast, Int.toNat_add, Int.toNat_mul, Int.reduceToNat, a_gdp, a_cell, and_self, and_true, true_and, h1, h2, h3, e1, e2, h16, h17, a2]
  · subst a
    simp (disch := omega) only [↓reduceIte, ↓nm_eq, ↓jn_eq, ↓c_within, ↓c_isIn, ↓c_isScene, ↓c_isPlace, ↓c_isCue, ↓c_isDigit, ↓d_isScene, ↓d_isAny, ↓ta_pb1, ↓ta_pb0, ↓ta_pb1', ↓ta_pb0', ta_lt, ta_nlt, ta_le, ta_nle, ta_eq, ta_neq, ta_nne, ta_ne, gs_id, a_gd01, a_gdT, or_true, true_or, bd_some, bW_sm, a_gd, a_ne, a_rd, Int.toNat_natCast, Int.toNat_add, Int.toNat_mul, Int.reduceToNat, a_gdp, a_cell, and_self, and_true, true_and, h1, h2, h3, e1, e2, h16, h17, a2, a3]
theorem bh_none {W : g_M} {op : Int} (h1 : m_X9_betweenOf W = some (-1)) (h2 : m_X9_openNow W = some op) (h3 : m_X9_partOf op W = some (-1)) : m_X9_behindOne W = some (0, W) := by
  unfold m_X9_behindOne
  simp (disch := omega) only [↓reduceIte, ↓nm_eq, ↓jn_eq, ↓c_within, ↓c_isIn, ↓c_isScene, ↓c_isPlace, ↓c_isCue, ↓c_isDigit, ↓d_isScene, ↓d_isAny, ↓ta_pb1, ↓ta_pb0, ↓ta_pb1', ↓ta_pb0', ta_lt, ta_nlt, ta_le, ta_nle, ta_eq, ta_neq, ta_nne, ta_ne, gs_id, a_gd01, a_gdT, or_true, true_or, bd_some, bW_sm, a_gd, a_ne, a_rd, Int.toNat_natCast, Int.toNat_add, Int.toNat_mul, Int.reduceToNat, a_gdp, a_cell, and_self, and_true, true_and, h1, h2, h3]
theorem bo_out {W : g_M} {op : Int} (h18 : W 0 18 = 1) (h1 : m_X9_betweenOf W = some (-1)) (h2 : m_X9_openNow W = some op) (ho : 0 ≤ op ∧ op ≤ 43) (h3 : m_X9_partOf op W = some (-1)) (f : Nat) : m_X9_summed_L15 KS (f + 1) W = some (1, W) := by
  rw [l15_out h18 (bh_none h1 h2 h3)]
  unfold KS
  rw [bd_eq h2, if_neg (by rw [gs_id (by omega) (by omega)]; omega)]
theorem TW_cg {b : Nat → Int} {s q T : Nat} {N : Int} {W W' : g_M} (h : TW b s q T N W) (e : ∀ j, 9 ≤ j → j ≤ 11 → W' 0 j = W 0 j) : TW b s q T N W' := by
  unfold TW
  rw [e 9 (by omega) (by omega), e 10 (by omega) (by omega), e 11 (by omega) (by omega)]
  exact h
theorem PS_cg {L s q T : Nat} {N : Int} {b : Nat → Int} {M W M' W' : g_M} (h : PS L b s q T N M W) (m3 : ∀ j, 2 ≤ j → j ≤ 8 → j ≠ 3 → j ≠ 4 → M' 23 j = M 23 j) (m4 : M' 24 = M 24) (w0 : ∀ j, j = 4 ∨ (7 ≤ j ∧ j ≤ 11) → W' 0 j = W 0 j) (w4 : W' 4 = W 4) : PS L b s q T N M' W' := by
  obtain ⟨p1, ⟨p4, p5, p6⟩, ⟨p7, p8, p9, p10, p11, p12⟩, p13⟩ := h
  refine ⟨p1, ⟨by rw [m3 2 (by omega) (by omega) (by omega) (by omega)]; exact p4, by rw [w0 4 (by omega)]; exact p5, fun i hi => by rw [m4, w4]; exact p6 i hi⟩, ⟨by rw [m3 5 (by omega) (by omega) (by omega) (by omega)]; exact p7, by rw [w0 7 (by omega)]; exact p8, by rw [m3 6 (by omega) (by omega) (by omega) (by omega)]; exact p9, by rw [w0 8 (by omega)]; exact p10, by rw [m3 7 (by omega) (by omega) (by omega) (by omega)]; exact p11, fun z => by rw [m3 8 (by omega) (by omega) (by omega) (by omega)]; exact p12 z⟩, TW_cg p13 (fun j j1 j2 => w0 j (by omega))⟩
/-- what stands between two: what waits is settled, it waits -/
theorem bo_push {L Z l s q T c w n k d op : Nat} {N r : Int} {b : Nat → Int} {M W : g_M} (hX : SX L Z l b s q T N c w (n + k) (d + dcn (W 5) n k) 1 M W) (hT : T ≠ 41) (h1 : m_X9_betweenOf W = some (op : Int)) (ho : op ≤ 43) (hr : (rk op = 4 ∧ r = 5) ∨ (rk op ≠ 4 ∧ r = rk op)) (hq : ∀ y, n ≤ y → y < n + k → r ≤ rk (W 5 y)) (ht : ∀ y, y + 1 = n → rk (W 5 y) < r) (hb : n + 1 ≤ 6 * d + 5) (hd : d ≤ 8) : ∃ (M' W' : g_M) (s' q' T' : Nat) (N' : Int), m_X4_advance M = some M' ∧ (∀ f, m_X9_summed_L15 KS (f + 1) W = m_X9_summed_L15 KS f W') ∧ SX L Z l b s' q' T' N' c (w + k) (n + 1) d 0 M' W' ∧ FR Z n c w M W M' W' ∧ KE M M' ∧ s < s' ∧ W' 5 n = op ∧ cpl W Z n k w (fun y => W' 3 (Z + 97 + y)) ∧ M' 25 = M 25 ∧ M' 26 = M 26 := by
  obtain ⟨⟨hs, hZ, hl⟩, hP, ⟨x1, x2, x3⟩, ⟨y1, y2, y3, y4, y5⟩, hv, z1, z2, z3⟩ := hX
  obtain ⟨v1, v2, v3⟩ := hv
  have s300 := PS_300 hs hP
  have rr : 0 ≤ r ∧ r ≤ 7 := by
    have := rk_le (o := (op : Int)) (by unfold OPv; omega)
    omega
  obtain ⟨W1, e1, t1, t2, t3, t4, t5, t6, t7⟩ := q_settle (k := k) (n := n) hZ rr y1 y3 (by omega) v2 (by omega) v3 hq ht
  have hcp := STL_cpl (Z := Z) (W := W) (W' := W1) ⟨t1, t2, t3, t4, t5, t6, t7⟩
  obtain ⟨V, hV⟩ : ∃ V, V = g_wr (g_wr (g_wr W1 5 n op) 0 16 ((n : Int) + 1)) 0 18 0 := ⟨_, rfl⟩
  have V0 : ∀ j, j ≠ 13 → j ≠ 16 → j ≠ 17 → j ≠ 18 → V 0 j = W 0 j := fun j j1 j2 j3 j4 => by rw [hV, a_ne _ (by omega), a_ne _ (by omega), a_cell _ (by omega), t2 j j1 j2 j3]
  have Va : ∀ a, a ≠ 0 → a ≠ 3 → a ≠ 5 → V a = W a := fun a a1 a2 a3 => by rw [hV, a_cell _ a1, a_cell _ a1, a_cell _ a3, t1 a a1 a2]
  have V3 : V 3 = W1 3 := by rw [hV, a_cell _ (by omega), a_cell _ (by omega), a_cell _ (by omega)]
  have V5 : ∀ y, y ≠ n → V 5 y = W 5 y := fun y hy => by rw [hV, a_cell _ (by omega), a_cell _ (by omega), a_ne _ (by omega), t1 5 (by omega) (by omega)]
  have V5n : V 5 n = op := by rw [hV, a_cell _ (by omega), a_cell _ (by omega)]; exact wr_at _ _ _ _
  have V16 : V 0 16 = ((n + 1 : Nat) : Int) := by rw [hV, a_ne _ (by omega), wr_at]; omega
  have V18 : V 0 18 = 0 := by rw [hV]; exact wr_at _ _ _ _
  have V13 : V 0 13 = ((w + k : Nat) : Int) := by rw [hV, a_ne _ (by omega), a_ne _ (by omega), a_cell _ (by omega)]; exact t4
  have V17 : V 0 17 = d := by rw [hV, a_ne _ (by omega), a_ne _ (by omega), a_cell _ (by omega), t5, y4]; omega
  obtain ⟨s', q', T', N', M', W', a1, a2, a3, a4, a5, a6, a7, a8⟩ := nx (M1 := M) (W1 := V) hs hP hT rfl rfl rfl (V0 4 (by omega) (by omega) (by omega) (by omega)) (V0 7 (by omega) (by omega) (by omega) (by omega)) (Va 4 (by omega) (by omega) (by omega))
  have hB : m_X9_behindOne W = some (1, W') := bh_push h1 ho hr e1 t3 (by omega) (by rw [← hV]; exact a2)
  refine ⟨M', W', s', q', T', N', a1, fun f => l15_behind y5 hB, ⟨⟨hs, hZ, hl⟩, a4, ⟨by rw [a5 25 (by omega)]; exact x1, by omega, by rw [a6 9 (by omega) (by omega) (by omega) (by omega)]; exact x3⟩, ⟨?_, ?_, ?_, ?_, ?_⟩, ⟨by omega, ?_, fun y hy => ?_⟩, by omega, hb, hd⟩, ⟨⟨fun a h2 h3 h4 => a5 a h2, fun j hj => a6 j (by omega) (by omega) (by omega) (by omega), fun j _ => by rw [a5 25 (by omega)], fun a h2 h3 h4 => by rw [a7 a h2, Va a h2 h3 h4], fun j hj => by rw [a8 j (by omega) (by omega) (by omega) (by omega) (by omega), V0 j (by omega) (by omega) (by omega) (by omega)], fun y hy => by rw [a7 3 (by omega), V3, t7 y (by omega)]⟩, fun y hy => by rw [a5 26 (by omega)], fun y hy => by rw [a7 3 (by omega), V3, t7 y hy], fun y hy => by rw [a7 5 (by omega), V5 y (by omega)]⟩, ⟨a6 3 (by omega) (by omega) (by omega) (by omega), a6 4 (by omega) (by omega) (by omega) (by omega)⟩, a3, by rw [a7 5 (by omega)]; exact V5n, by rw [a7 3 (by omega), V3]; exact hcp, a5 25 (by omega), a5 26 (by omega)⟩
  · rw [a8 12 (by omega) (by omega) (by omega) (by omega) (by omega), V0 12 (by omega) (by omega) (by omega) (by omega)]; exact y1
  · rw [a8 14 (by omega) (by omega) (by omega) (by omega) (by omega), V0 14 (by omega) (by omega) (by omega) (by omega)]; exact y2
  · rw [a8 13 (by omega) (by omega) (by omega) (by omega) (by omega)]; exact V13
  · rw [a8 17 (by omega) (by omega) (by omega) (by omega) (by omega)]; exact V17
  · rw [a8 18 (by omega) (by omega) (by omega) (by omega) (by omega)]; exact V18
  · rw [a8 16 (by omega) (by omega) (by omega) (by omega) (by omega)]; exact V16
  · rw [a7 5 (by omega)]
    by_cases z : y = n
    · rw [z, V5n]; unfold OPv; omega
    · rw [V5 y z]; exact v3 y (by omega)
/-- then, else -/
theorem bo_part {L Z l s q T c w m k d : Nat} {N op p : Int} {b : Nat → Int} {M W : g_M} (hX : SX L Z l b s q T N c w (m + 1 + k) (d + dcn (W 5) (m + 1) k) 1 M W) (hT : T ≠ 41) (h1 : m_X9_betweenOf W = some (-1)) (h2 : m_X9_openNow W = some op) (hm : W 5 m = op) (hop : 40 ≤ op ∧ op ≤ 43) (h3 : m_X9_partOf op W = some p) (hp : p = 42 ∨ p = 43) (hq : ∀ y, m + 1 ≤ y → y < m + 1 + k → 1 ≤ rk (W 5 y)) (hb : m + 1 ≤ 6 * d + 5) (hd : d ≤ 8) : ∃ (M' W' : g_M) (s' q' T' : Nat) (N' : Int), m_X4_advance M = some M' ∧ (∀ f, m_X9_summed_L15 KS (f + 1) W = m_X9_summed_L15 KS f W') ∧ SX L Z l b s' q' T' N' c (w + k) (m + 1) d 0 M' W' ∧ FR Z m c w M W M' W' ∧ KE M M' ∧ s < s' ∧ W' 5 m = p ∧ cpl W Z (m + 1) k w (fun y => W' 3 (Z + 97 + y)) ∧ M' 25 = M 25 ∧ M' 26 = M 26 := by
  obtain ⟨⟨hs, hZ, hl⟩, hP, ⟨x1, x2, x3⟩, ⟨y1, y2, y3, y4, y5⟩, hv, z1, z2, z3⟩ := hX
  obtain ⟨v1, v2, v3⟩ := hv
  have s300 := PS_300 hs hP
  have r0 : rk op = 0 := by unfold rk; exact if_pos hop.1
  obtain ⟨W1, e1, t1, t2, t3, t4, t5, t6, t7⟩ := q_settle (k := k) (n := m + 1) (r := 1) hZ (by omega) y1 y3 (by omega) v2 (by omega) v3 hq (fun y hy => by rw [show y = m by omega, hm, r0]; omega)
  have hcp := STL_cpl (Z := Z) (W := W) (W' := W1) ⟨t1, t2, t3, t4, t5, t6, t7⟩
  obtain ⟨s', q', T', N', M', W2, a1, a2, a3, a4, a5, a6, a7, a8⟩ := nx (M1 := M) (W1 := W1) hs hP hT rfl rfl rfl (t2 4 (by omega) (by omega) (by omega)) (t2 7 (by omega) (by omega) (by omega)) (t1 4 (by omega) (by omega))
  have w5 : W2 5 = W 5 := by rw [a7 5 (by omega), t1 5 (by omega) (by omega)]
  have e3 : m_X9_openAt W2 = some (m : Int) := q_openAt (n := m + 1) ⟨by omega, by rw [a8 16 (by omega) (by omega) (by omega) (by omega) (by omega)]; exact t3, fun y hy => by rw [w5]; exact v3 y (by omega)⟩ (by omega) (by rw [w5, hm]; exact hop.1) (fun y y1 y2 => by omega)
  have hB := bh_part h1 h2 h3 hp e1 a2 e3 (by omega)
  obtain ⟨W', hW⟩ : ∃ W', W' = g_wr (g_wr W2 5 m p) 0 18 0 := ⟨_, rfl⟩
  rw [← hW] at hB
  have V0 : ∀ j, j ≠ 18 → W' 0 j = W2 0 j := fun j hj => by rw [hW, a_ne _ (by omega), a_cell _ (by omega)]
  have Va : ∀ a, a ≠ 0 → a ≠ 5 → W' a = W2 a := fun a h2 h3 => by rw [hW, a_cell _ h2, a_cell _ h3]
  have V5 : ∀ y, y ≠ m → W' 5 y = W 5 y := fun y hy => by rw [hW, a_cell _ (by omega), a_ne _ (by omega), w5]
  have V5m : W' 5 m = p := by rw [hW, a_cell _ (by omega)]; exact wr_at _ _ _ _
  refine ⟨M', W', s', q', T', N', a1, fun f => l15_behind y5 hB, ⟨⟨hs, hZ, hl⟩, PS_cg a4 (fun _ _ _ _ _ => rfl) rfl (fun j hj => V0 j (by omega)) (Va 4 (by omega) (by omega)), ⟨by rw [a5 25 (by omega)]; exact x1, by omega, by rw [a6 9 (by omega) (by omega) (by omega) (by omega)]; exact x3⟩, ⟨?_, ?_, ?_, ?_, ?_⟩, ⟨by omega, ?_, fun y hy => ?_⟩, by omega, hb, hd⟩, ⟨⟨fun a h2 h3 h4 => a5 a h2, fun j hj => a6 j (by omega) (by omega) (by omega) (by omega), fun j _ => by rw [a5 25 (by omega)], fun a h2 h3 h4 => by rw [Va a h2 h4, a7 a h2, t1 a h2 h3], fun j hj => by rw [V0 j (by omega), a8 j (by omega) (by omega) (by omega) (by omega) (by omega), t2 j (by omega) (by omega) (by omega)], fun y hy => by rw [Va 3 (by omega) (by omega), a7 3 (by omega), t7 y (by omega)]⟩, fun y hy => by rw [a5 26 (by omega)], fun y hy => by rw [Va 3 (by omega) (by omega), a7 3 (by omega), t7 y hy], fun y hy => V5 y (by omega)⟩, ⟨a6 3 (by omega) (by omega) (by omega) (by omega), a6 4 (by omega) (by omega) (by omega) (by omega)⟩, a3, V5m, by rw [Va 3 (by omega) (by omega), a7 3 (by omega)]; exact hcp, a5 25 (by omega), a5 26 (by omega)⟩
  · rw [V0 12 (by omega), a8 12 (by omega) (by omega) (by omega) (by omega) (by omega), t2 12 (by omega) (by omega) (by omega)]; exact y1
  · rw [V0 14 (by omega), a8 14 (by omega) (by omega) (by omega) (by omega) (by omega), t2 14 (by omega) (by omega) (by omega)]; exact y2
  · rw [V0 13 (by omega), a8 13 (by omega) (by omega) (by omega) (by omega) (by omega)]; exact t4
  · rw [V0 17 (by omega), a8 17 (by omega) (by omega) (by omega) (by omega) (by omega), t5, y4]; omega
  · rw [hW]; exact wr_at _ _ _ _
  · rw [V0 16 (by omega), a8 16 (by omega) (by omega) (by omega) (by omega) (by omega)]; exact t3
  · by_cases z : y = m
    · rw [z, V5m]; unfold OPv; omega
    · rw [V5 y z]; exact v3 y (by omega)
