/-! what is shut; a number, a name: both -/
/-- the rest of it: unary orders are settled -/
theorem un_settle {Z n u w e : Nat} {V : g_M} (hZ : Z ≤ 2115) (y1 : V 0 12 = Z) (y3 : V 0 13 = w) (hw : w + u ≤ 304) (h16 : V 0 16 = ((n + u : Nat) : Int)) (hn : n + u ≤ 160) (hv : ∀ y, y < n + u → OPv (V 5 y)) (hq : ∀ y, n ≤ y → y < n + u → rk (V 5 y) = 7) (ht : ∀ y, y + 1 = n → rk (V 5 y) < 7) (h17 : V 0 17 = ((e + u : Nat) : Int)) : ∃ W', m_X9_settle 7 V = some W' ∧ (∀ a, a ≠ 0 → a ≠ 3 → W' a = V a) ∧ (∀ j, j ≠ 13 → j ≠ 16 → j ≠ 17 → W' 0 j = V 0 j) ∧ W' 0 16 = n ∧ W' 0 13 = ((w + u : Nat) : Int) ∧ W' 0 17 = e ∧ (∀ i, i < u → W' 3 (Z + 97 + 2 * (w + i)) = V 5 (n + u - 1 - i)) ∧ ∀ y, y < Z + 97 + 2 * w → W' 3 y = V 3 y := by
  obtain ⟨W', e1, t1, t2, t3, t4, t5, t6, t7⟩ := q_settle (k := u) (n := n) (r := 7) hZ (by omega) y1 y3 hw h16 hn hv (fun y a1 a2 => by rw [hq y a1 a2]; omega) ht
  refine ⟨W', e1, t1, t2, t3, t4, ?_, fun i hi => (t6 i hi).1, t7⟩
  rw [t5, h17, dcn_u u hq]
  omega
/-- ) and end: what is open is shut, and the unary orders that wait for it are settled -/
theorem bo_shut {L Z l s q T c w n u k d g : Nat} {N op : Int} {b : Nat → Int} {M W : g_M} (hX : SX L Z l b s q T N c w (n + u + 1 + k) (d + u + 1 + dcn (W 5) (n + u + 1) k) 1 M W) (hT : T ≠ 41) (h1 : m_X9_betweenOf W = some (-1)) (h2 : m_X9_openNow W = some op) (hm : W 5 (n + u) = op) (hop : (op = 40 ∧ g = 0) ∨ (op = 43 ∧ g = 1)) (h3 : m_X9_partOf op W = some 0) (hq : ∀ y, n + u + 1 ≤ y → y < n + u + 1 + k → 1 ≤ rk (W 5 y)) (hu : ∀ y, n ≤ y → y < n + u → rk (W 5 y) = 7) (ht : ∀ y, y + 1 = n → rk (W 5 y) < 7) (hb : n ≤ 6 * d + 5) (hd : d ≤ 8) : ∃ (M' W' : g_M) (s' q' T' : Nat) (N' : Int), m_X4_advance M = some M' ∧ (∀ f, m_X9_summed_L15 KS (f + 1) W = m_X9_summed_L15 KS f W') ∧ SX L Z l b s' q' T' N' c (w + k + g + u) n d 1 M' W' ∧ FR Z n c w M W M' W' ∧ KE M M' ∧ s < s' ∧ (∃ Bc, cpl W Z (n + u + 1) k w Bc ∧ ∀ y, y < 2 * (w + k) → W' 3 (Z + 97 + y) = Bc y) ∧ (g = 1 → W' 3 (Z + 97 + 2 * (w + k)) = 3) ∧ (∀ i, i < u → W' 3 (Z + 97 + 2 * (w + k + g + i)) = W 5 (n + u - 1 - i)) ∧ M' 25 = M 25 ∧ M' 26 = M 26 := by
  obtain ⟨⟨hs, hZ, hl⟩, hP, ⟨x1, x2, x3⟩, ⟨y1, y2, y3, y4, y5⟩, hv, z1, z2, z3⟩ := hX
  obtain ⟨v1, v2, v3⟩ := hv
  have s300 := PS_300 hs hP
  have r0 : rk op = 0 := by unfold rk; exact if_pos (by omega)
  obtain ⟨W1, e1, t1, t2, t3, t4, t5, t6, t7⟩ := q_settle (k := k) (n := n + u + 1) (r := 1) hZ (by omega) y1 y3 (by omega) v2 (by omega) v3 hq (fun y hy => by rw [show y = n + u by omega, hm, r0]; omega)
  have hcp := STL_cpl (Z := Z) (W := W) (W' := W1) ⟨t1, t2, t3, t4, t5, t6, t7⟩
  obtain ⟨s', q', T', N', M', W2, a1, a2, a3, a4, a5, a6, a7, a8⟩ := nx (M1 := M) (W1 := W1) hs hP hT rfl rfl rfl (t2 4 (by omega) (by omega) (by omega)) (t2 7 (by omega) (by omega) (by omega)) (t1 4 (by omega) (by omega))
  have w5 : W2 5 = W 5 := by rw [a7 5 (by omega), t1 5 (by omega) (by omega)]
  have f16 : W2 0 16 = ((n + u + 1 : Nat) : Int) := by rw [a8 16 (by omega) (by omega) (by omega) (by omega) (by omega)]; exact t3
  have f17 : W2 0 17 = ((d + u + 1 : Nat) : Int) := by rw [a8 17 (by omega) (by omega) (by omega) (by omega) (by omega), t5, y4]; omega
  have f13 : W2 0 13 = ((w + k : Nat) : Int) := by rw [a8 13 (by omega) (by omega) (by omega) (by omega) (by omega)]; exact t4
  have f12 : W2 0 12 = Z := by rw [a8 12 (by omega) (by omega) (by omega) (by omega) (by omega), t2 12 (by omega) (by omega) (by omega)]; exact y1
  have f18 : W2 0 18 = 1 := by rw [a8 18 (by omega) (by omega) (by omega) (by omega) (by omega), t2 18 (by omega) (by omega) (by omega)]; exact y5
  obtain ⟨V, hV⟩ : ∃ V, V = g_wr (g_wr W2 0 17 (((d + u + 1 : Nat) : Int) - 1)) 0 16 (((n + u + 1 : Nat) : Int) - 1) := ⟨_, rfl⟩
  have V0 : ∀ j, j ≠ 16 → j ≠ 17 → V 0 j = W2 0 j := fun j j1 j2 => by rw [hV, a_ne _ (by omega), a_ne _ (by omega)]
  have Va : ∀ a, a ≠ 0 → V a = W2 a := fun a h => by rw [hV, a_cell _ h, a_cell _ h]
  have V16 : V 0 16 = ((n + u : Nat) : Int) := by rw [hV, wr_at]; omega
  have V17 : V 0 17 = ((d + u : Nat) : Int) := by rw [hV, a_ne _ (by omega), wr_at]; omega
  obtain ⟨U, hU1, hU2, u0, u16, u17, u13, ua, u3, ug⟩ : ∃ U, ((op = 40 ∧ U = V) ∨ (op = 43 ∧ m_X9_emit 3 0 V = some U)) ∧ True ∧ (∀ j, j ≠ 13 → U 0 j = V 0 j) ∧ U 0 16 = ((n + u : Nat) : Int) ∧ U 0 17 = ((d + u : Nat) : Int) ∧ U 0 13 = ((w + k + g : Nat) : Int) ∧ (∀ a, a ≠ 0 → a ≠ 3 → U a = V a) ∧ (∀ y, y < Z + 97 + 2 * (w + k) → U 3 y = V 3 y) ∧ (g = 1 → U 3 (Z + 97 + 2 * (w + k)) = 3) := by
    rcases hop with ⟨o1, o2⟩ | ⟨o1, o2⟩
    · exact ⟨V, Or.inl ⟨o1, rfl⟩, trivial, fun _ _ => rfl, V16, V17, by rw [V0 13 (by omega) (by omega), f13, o2, Nat.add_zero], fun _ _ _ => rfl, fun _ _ => rfl, fun z => by omega⟩
    · obtain ⟨U, e, E1, E2, E3, E4, E5, E6⟩ := q_emit (W := V) (Z := Z) (w := w + k) 3 0 (by rw [V0 12 (by omega) (by omega)]; exact f12) (by rw [V0 13 (by omega) (by omega)]; exact f13) hZ (by omega)
      exact ⟨U, Or.inr ⟨o1, e⟩, trivial, E2, by rw [E2 16 (by omega)]; exact V16, by rw [E2 17 (by omega)]; exact V17, by rw [E3, o2], E1, E6, fun _ => E4⟩
  have U5 : U 5 = W 5 := by rw [ua 5 (by omega) (by omega), Va 5 (by omega), w5]
  obtain ⟨W', e4, b1, b2, b3, b4, b5, b6, b7⟩ := un_settle (n := n) (u := u) (w := w + k + g) (e := d) (V := U) hZ (by rw [u0 12 (by omega), V0 12 (by omega) (by omega)]; exact f12) u13 (by omega) u16 (by omega) (fun y hy => by rw [U5]; exact v3 y (by omega)) (fun y y1 y2 => by rw [U5]; exact hu y y1 y2) (fun y hy => by rw [U5]; exact ht y hy) u17
  have hB : m_X9_behindOne W = some (1, W') := by
    refine bh_shut h1 h2 h3 e1 a2 f16 f17 ?_
    rw [← hV]
    rcases hU1 with ⟨o1, o2⟩ | ⟨o1, o2⟩
    · exact Or.inl ⟨o1, by rw [← o2]; exact e4⟩
    · exact Or.inr ⟨o1, U, o2, e4⟩
  have W0 : ∀ j, j ≠ 13 → j ≠ 16 → j ≠ 17 → W' 0 j = W2 0 j := fun j j1 j2 j3 => by rw [b2 j j1 j2 j3, u0 j j1, V0 j j2 j3]
  have Wa : ∀ a, a ≠ 0 → a ≠ 3 → W' a = W2 a := fun a h1 h2 => by rw [b1 a h1 h2, ua a h1 h2, Va a h1]
  have W3 : ∀ y, y < Z + 97 + 2 * (w + k) → W' 3 y = W1 3 y := fun y hy => by rw [b7 y (by omega), u3 y hy, Va 3 (by omega), a7 3 (by omega)]
  refine ⟨M', W', s', q', T', N', a1, fun f => l15_behind y5 hB, ⟨⟨hs, hZ, hl⟩, PS_cg a4 (fun _ _ _ _ _ => rfl) rfl (fun j hj => W0 j (by omega) (by omega) (by omega)) (Wa 4 (by omega) (by omega)), ⟨by rw [a5 25 (by omega)]; exact x1, by omega, by rw [a6 9 (by omega) (by omega) (by omega) (by omega)]; exact x3⟩, ⟨by rw [W0 12 (by omega) (by omega) (by omega)]; exact f12, ?_, b4, b5, by rw [W0 18 (by omega) (by omega) (by omega)]; exact f18⟩, ⟨by omega, b3, fun y hy => by rw [Wa 5 (by omega) (by omega), w5]; exact v3 y (by omega)⟩, by omega, hb, hd⟩, ⟨⟨fun a h2 h3 h4 => a5 a h2, fun j hj => a6 j (by omega) (by omega) (by omega) (by omega), fun j _ => by rw [a5 25 (by omega)], fun a h2 h3 h4 => by rw [Wa a h2 h3, a7 a h2, t1 a h2 h3], fun j hj => by rw [W0 j (by omega) (by omega) (by omega), a8 j (by omega) (by omega) (by omega) (by omega) (by omega), t2 j (by omega) (by omega) (by omega)], fun y hy => by rw [W3 y (by omega), t7 y (by omega)]⟩, fun y hy => by rw [a5 26 (by omega)], fun y hy => by rw [W3 y (by omega), t7 y hy], fun y hy => by rw [Wa 5 (by omega) (by omega), w5]⟩, ⟨a6 3 (by omega) (by omega) (by omega) (by omega), a6 4 (by omega) (by omega) (by omega) (by omega)⟩, a3, ⟨_, hcp, fun y hy => W3 _ (by omega)⟩, fun z => ?_, fun i hi => by rw [b6 i hi, U5], a5 25 (by omega), a5 26 (by omega)⟩
  · rw [W0 14 (by omega) (by omega) (by omega), a8 14 (by omega) (by omega) (by omega) (by omega) (by omega), t2 14 (by omega) (by omega) (by omega)]; exact y2
  · rw [b7 _ (by omega)]; exact ug z
/-- a number, a name -/
theorem bo_val {L Z l s q T c w n u d : Nat} {N : Int} {b : Nat → Int} {M W : g_M} (hX : SX L Z l b s q T N c w (n + u) (d + u) 0 M W) {x o v : Nat} (hv : (T = 40 ∧ o = 40 ∧ N = v ∧ v ≤ 9999 ∧ x = 0) ∨ (21 ≤ T ∧ T ≤ 32 ∧ o = T ∧ v = 0 ∧ x = 1 ∧ nmOk l (T - 21))) {y : Nat} (hy : (x = 0 ∧ y = v) ∨ (x = 1 ∧ y = T - 21)) (hu : ∀ y, n ≤ y → y < n + u → rk (W 5 y) = 7) (ht : ∀ y, y + 1 = n → rk (W 5 y) < 7) (hb : n ≤ 6 * d + 5) : ∃ (M1 M' W' : g_M) (s' q' T' : Nat) (N' : Int), m_X7_put 25 o v M = some M1 ∧ m_X4_advance M1 = some M' ∧ (∀ f, m_X9_summed_L15 KS (f + 1) W = m_X9_summed_L15 KS f W') ∧ SX L Z l b s' q' T' N' (c + 1) (w + 1 + u) n d 1 M' W' ∧ FR Z n c w M W M' W' ∧ KE M M' ∧ s < s' ∧ M' 26 c = ((o * 65536 + v : Nat) : Int) ∧ W' 3 (Z + 97 + 2 * w) = x ∧ W' 3 (Z + 97 + 2 * w + 1) = y ∧ ∀ i, i < u → W' 3 (Z + 97 + 2 * (w + 1 + i)) = W 5 (n + u - 1 - i) := by
  obtain ⟨⟨hs, hZ, hl⟩, hP, ⟨x1, x2, x3⟩, ⟨y1, y2, y3, y4, y5⟩, hv5, z1, z2, z3⟩ := hX
  obtain ⟨v1, v2, v3⟩ := hv5
  have s300 := PS_300 hs hP
  have hT : T ≠ 41 := by omega
  have tw := hP.2.2.2
  have nine := TW_9 tw
  obtain ⟨M1, p1, p2, p3, p4, p5, p6⟩ := c_put (M := M) (o := o) (v := v) x1 (by omega) (by omega) (by omega)
  obtain ⟨W1, e1, E1, E2, E3, E4, E5, E6⟩ := q_emit (W := W) (Z := Z) (w := w) x y y1 y3 hZ (by omega)
  obtain ⟨s', q', T', N', M', W2, a1, a2, a3, a4, a5, a6, a7, a8⟩ := nx (M1 := M1) (W1 := W1) hs hP hT (by rw [p2 23 (by omega) (by omega)]) (by rw [p2 23 (by omega) (by omega)]) (p2 24 (by omega) (by omega)) (E2 4 (by omega)) (E2 7 (by omega)) (E1 4 (by omega) (by omega))
  have m23 : M1 23 = M 23 := p2 23 (by omega) (by omega)
  obtain ⟨V, hV⟩ : ∃ V, V = g_wr W2 0 18 1 := ⟨_, rfl⟩
  have V0 : ∀ j, j ≠ 18 → V 0 j = W2 0 j := fun j j1 => by rw [hV, a_ne _ (by omega)]
  have Va : ∀ a, a ≠ 0 → V a = W2 a := fun a h => by rw [hV, a_cell _ h]
  have V18 : V 0 18 = 1 := by rw [hV]; exact wr_at _ _ _ _
  have V5 : V 5 = W 5 := by rw [Va 5 (by omega), a7 5 (by omega), E1 5 (by omega) (by omega)]
  have X0 : ∀ j, j = 12 ∨ j = 14 ∨ j = 16 ∨ j = 17 → V 0 j = W 0 j := fun j hj => by rw [V0 j (by omega), a8 j (by omega) (by omega) (by omega) (by omega) (by omega), E2 j (by omega)]
  have V13 : V 0 13 = ((w + 1 : Nat) : Int) := by rw [V0 13 (by omega), a8 13 (by omega) (by omega) (by omega) (by omega) (by omega)]; exact E3
  obtain ⟨W', e4, b1, b2, b3, b4, b5, b6, b7⟩ := un_settle (n := n) (u := u) (w := w + 1) (e := d) (V := V) hZ (by rw [X0 12 (by omega)]; exact y1) V13 (by omega) (by rw [X0 16 (by omega)]; exact v2) (by omega) (fun y hy => by rw [V5]; exact v3 y (by omega)) (fun y y1 y2 => by rw [V5]; exact hu y y1 y2) (fun y hy => by rw [V5]; exact ht y hy) (by rw [X0 17 (by omega)]; exact y4)
  have hB : m_X9_beginOne W = some (0, W') := by
    rcases hv with ⟨c1, c2, c3, c4, c5⟩ | ⟨c1, c2, c3, c4, c5, c6⟩
    · have h10 : W 0 10 = y := by
        rcases tw with ⟨d1, -⟩ | ⟨-, -, -, -, d5, -⟩ | ⟨d1, -⟩ | ⟨d1, -⟩ | ⟨d1, -⟩
        · omega
        · rw [d5 (by omega)]; omega
        · omega
        · omega
        · omega
      have en := q_nameOf tw
      rw [if_neg (by omega)] at en
      have hx0 : (x : Int) = 0 := by omega
      rw [hx0] at e1
      exact b1_num (v := (y : Int)) (nine.2.2.1.2 c1) h10 (by omega) en e1 a2 (by rw [← hV]; exact e4)
    · have en := q_nameOf tw
      rw [if_pos ⟨c1, c2⟩] at en
      have hx1 : (x : Int) = 1 := by omega
      have hyT : (y : Int) = (T : Int) - 21 := by omega
      rw [hx1] at e1
      have io := (q_isOf (n := T - 21) (W := W) hl (by omega) y2).1 c6
      have et : ((T - 21 : Nat) : Int) = (T : Int) - 21 := by omega
      rw [et] at io
      rw [hyT] at e1
      exact b1_name (u := (T : Int) - 21) (nine.2.2.2.2.2.1 (by omega)) en (by omega) io.1 e1 a2 (by rw [← hV]; exact e4)
  have W0 : ∀ j, j ≠ 13 → j ≠ 16 → j ≠ 17 → j ≠ 18 → W' 0 j = W2 0 j := fun j j1 j2 j3 j4 => by rw [b2 j j1 j2 j3, V0 j j4]
  have Wa : ∀ a, a ≠ 0 → a ≠ 3 → W' a = W2 a := fun a h1 h2 => by rw [b1 a h1 h2, Va a h1]
  have W3 : ∀ y, y < Z + 97 + 2 * (w + 1) → W' 3 y = W1 3 y := fun y hy => by rw [b7 y (by omega), Va 3 (by omega), a7 3 (by omega)]
  refine ⟨M1, M', W', s', q', T', N', p1, a1, fun f => l15_begin y5 hB, ⟨⟨hs, hZ, hl⟩, PS_cg a4 (fun _ _ _ _ _ => rfl) rfl (fun j hj => W0 j (by omega) (by omega) (by omega) (by omega)) (Wa 4 (by omega) (by omega)), ⟨by rw [a5 25 (by omega)]; exact p4, by omega, by rw [a6 9 (by omega) (by omega) (by omega) (by omega), m23]; exact x3⟩, ⟨?_, ?_, b4, b5, ?_⟩, ⟨by omega, b3, fun y hy => by rw [b1 5 (by omega) (by omega), V5]; exact v3 y (by omega)⟩, by omega, hb, by omega⟩, ⟨⟨fun a h2 h3 h4 => by rw [a5 a h2, p2 a h3 h4], fun j hj => by rw [a6 j (by omega) (by omega) (by omega) (by omega), m23], fun j hj => by rw [a5 25 (by omega), p3 j hj], fun a h2 h3 h4 => by rw [Wa a h2 h3, a7 a h2, E1 a h2 h3], fun j hj => by rw [W0 j (by omega) (by omega) (by omega) (by omega), a8 j (by omega) (by omega) (by omega) (by omega) (by omega), E2 j (by omega)], fun y hy => by rw [W3 y (by omega), E6 y (by omega)]⟩, fun y hy => by rw [a5 26 (by omega), p6 y (by omega)], fun y hy => by rw [W3 y (by omega), E6 y hy], fun y hy => by rw [b1 5 (by omega) (by omega), V5]⟩, ⟨by rw [a6 3 (by omega) (by omega) (by omega) (by omega), m23], by rw [a6 4 (by omega) (by omega) (by omega) (by omega), m23]⟩, a3, by rw [a5 26 (by omega)]; exact p5, by rw [W3 _ (by omega)]; exact E4, by rw [W3 _ (by omega)]; exact E5, fun i hi => by rw [b6 i hi, V5]⟩
  · rw [b2 12 (by omega) (by omega) (by omega), X0 12 (by omega)]; exact y1
  · rw [b2 14 (by omega) (by omega) (by omega), X0 14 (by omega)]; exact y2
  · rw [b2 18 (by omega) (by omega) (by omega)]; exact V18
/-- what is opened -/
theorem bo_open {L Z l s q T c w n d op : Nat} {N : Int} {b : Nat → Int} {M W : g_M} (hX : SX L Z l b s q T N c w n d 0 M W) (hT : T ≠ 41) (hd : d < 8) (ho : op ≤ 43) (h1 : m_X9_beginOne W = g_bW (m_X9_opened op W) (fun x M => some (x, M))) : ∃ (M' W' : g_M) (s' q' T' : Nat) (N' : Int), m_X4_advance M = some M' ∧ (∀ f, m_X9_summed_L15 KS (f + 1) W = m_X9_summed_L15 KS f W') ∧ SX L Z l b s' q' T' N' c w (n + 1) (d + 1) 0 M' W' ∧ FR Z n c w M W M' W' ∧ KE M M' ∧ s < s' ∧ W' 5 n = op ∧ W' 3 = W 3 ∧ M' 25 = M 25 ∧ M' 26 = M 26 := by
  obtain ⟨⟨hs, hZ, hl⟩, hP, ⟨x1, x2, x3⟩, ⟨y1, y2, y3, y4, y5⟩, hv5, z1, z2, z3⟩ := hX
  obtain ⟨v1, v2, v3⟩ := hv5
  have s300 := PS_300 hs hP
  obtain ⟨V, hV⟩ : ∃ V, V = g_wr (g_wr (g_wr W 0 17 ((d : Int) + 1)) 5 n op) 0 16 ((n : Int) + 1) := ⟨_, rfl⟩
  have V0 : ∀ j, j ≠ 16 → j ≠ 17 → V 0 j = W 0 j := fun j j1 j2 => by rw [hV, a_ne _ (by omega), a_cell _ (by omega), a_ne _ (by omega)]
  have Va : ∀ a, a ≠ 0 → a ≠ 5 → V a = W a := fun a h1 h2 => by rw [hV, a_cell _ h1, a_cell _ h2, a_cell _ h1]
  have V16 : V 0 16 = ((n + 1 : Nat) : Int) := by rw [hV, wr_at]; omega
  have V17 : V 0 17 = ((d + 1 : Nat) : Int) := by rw [hV, a_ne _ (by omega), a_cell _ (by omega), wr_at]; omega
  have V5 : ∀ y, y ≠ n → V 5 y = W 5 y := fun y hy => by rw [hV, a_cell _ (by omega), a_ne _ (by omega), a_cell _ (by omega)]
  have V5n : V 5 n = op := by rw [hV, a_cell _ (by omega)]; exact wr_at _ _ _ _
  obtain ⟨s', q', T', N', M', W', a1, a2, a3, a4, a5, a6, a7, a8⟩ := nx (M1 := M) (W1 := V) hs hP hT rfl rfl rfl (V0 4 (by omega) (by omega)) (V0 7 (by omega) (by omega)) (Va 4 (by omega) (by omega))
  have hB : m_X9_beginOne W = some (0, W') := by
    rw [h1, bW_eq (q_opened y4 hd v2 (by omega) (by rw [← hV]; exact a2))]
  refine ⟨M', W', s', q', T', N', a1, fun f => l15_begin y5 hB, ⟨⟨hs, hZ, hl⟩, a4, ⟨by rw [a5 25 (by omega)]; exact x1, by omega, by rw [a6 9 (by omega) (by omega) (by omega) (by omega)]; exact x3⟩, ⟨?_, ?_, ?_, ?_, ?_⟩, ⟨by omega, by rw [a8 16 (by omega) (by omega) (by omega) (by omega) (by omega)]; exact V16, fun y hy => ?_⟩, by omega, by omega, by omega⟩, ⟨⟨fun a h2 h3 h4 => a5 a h2, fun j hj => a6 j (by omega) (by omega) (by omega) (by omega), fun j _ => by rw [a5 25 (by omega)], fun a h2 h3 h4 => by rw [a7 a h2, Va a h2 h4], fun j hj => by rw [a8 j (by omega) (by omega) (by omega) (by omega) (by omega), V0 j (by omega) (by omega)], fun y hy => by rw [a7 3 (by omega), Va 3 (by omega) (by omega)]⟩, fun y hy => by rw [a5 26 (by omega)], fun y hy => by rw [a7 3 (by omega), Va 3 (by omega) (by omega)], fun y hy => by rw [a7 5 (by omega), V5 y (by omega)]⟩, ⟨a6 3 (by omega) (by omega) (by omega) (by omega), a6 4 (by omega) (by omega) (by omega) (by omega)⟩, a3, by rw [a7 5 (by omega)]; exact V5n, by rw [a7 3 (by omega), Va 3 (by omega) (by omega)], a5 25 (by omega), a5 26 (by omega)⟩
  · rw [a8 12 (by omega) (by omega) (by omega) (by omega) (by omega), V0 12 (by omega) (by omega)]; exact y1
  · rw [a8 14 (by omega) (by omega) (by omega) (by omega) (by omega), V0 14 (by omega) (by omega)]; exact y2
  · rw [a8 13 (by omega) (by omega) (by omega) (by omega) (by omega), V0 13 (by omega) (by omega)]; exact y3
  · rw [a8 17 (by omega) (by omega) (by omega) (by omega) (by omega)]; exact V17
  · rw [a8 18 (by omega) (by omega) (by omega) (by omega) (by omega), V0 18 (by omega) (by omega)]; exact y5
  · rw [a7 5 (by omega)]
    by_cases z : y = n
    · rw [z, V5n]; unfold OPv; omega
    · rw [V5 y z]; exact v3 y (by omega)
