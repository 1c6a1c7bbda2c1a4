/-! if: both; all of the SUM's readers -/
def AIM1 (j : Nat) (v : Int) (M M' : g_M) : Prop := (∀ a, a ≠ 26 → M' a = M a) ∧ M' 26 j = v ∧ ∀ y, y ≠ j → M' 26 y = M 26 y
theorem c_aim {M : g_M} {j v o : Nat} (h1 : M 25 1 = v) (hv : v ≤ 300) (h : M 26 j = ((o * 65536 + 0 : Nat) : Int)) (ho : o = 71 ∨ o = 72) (hj : j < 300) : ∃ M', m_X7_aimHere 25 j M = some M' ∧ AIM1 j ((o * 65536 + v : Nat) : Int) M M' := by
  refine ⟨g_wr M 26 j ((o * 65536 + v : Nat) : Int), ?_, fun a ha => a_cell _ ha, wr_at _ _ _ _, fun y hy => a_ne _ (by omega)⟩
  have e := ord_aim (o := o) (v := v) ho (by omega)
  rw [← h] at e
  unfold m_X7_aimHere
  simp (disch := omega) only [↓reduceIte, ↓nm_eq, ↓jn_eq, ↓c_within, ↓c_isIn, ↓c_isScene, ↓c_isPlace, ↓c_isCue, ↓c_isDigit, ↓d_isScene, ↓d_isAny, ↓ta_pb1, ↓ta_pb0, ↓ta_pb1', ↓ta_pb0', ta_lt, ta_nlt, ta_le, ta_nle, ta_eq, ta_neq, ta_nne, ta_ne, gs_id, a_gd01, a_gdT, or_true, true_or, bd_some, bW_sm, a_gd, a_ne, a_rd, Int.toNat_natCast, Int.toNat_add, Int.toNat_mul, Int.reduceToNat, a_gdp, a_cell, and_self, and_true, true_and, h1, e]
theorem SX_aim {L Z l s q T c w n o j : Nat} {N h v : Int} {b : Nat → Int} {M W M4 : g_M} (hX : SX L Z l b s q T N c w n o h M W) (hP : AIM1 j v M M4) : SX L Z l b s q T N c w n o h M4 W := by
  obtain ⟨g, hp, ⟨x1, x2, x3⟩, r⟩ := hX
  obtain ⟨p1, p2, p3⟩ := hP
  have e := p1 23 (by omega)
  exact ⟨g, PS_cg hp (fun j _ _ _ _ => by rw [e]) (p1 24 (by omega)) (fun _ _ => rfl) rfl, ⟨by rw [p1 25 (by omega)]; exact x1, x2, by rw [e]; exact x3⟩, r⟩
theorem FR_aim {Z n c w j : Nat} {v : Int} {M W M3 W3 M4 : g_M} (h : FR Z n c w M W M3 W3) (hP : AIM1 j v M3 M4) (hc : c ≤ j) : FR Z n c w M W M4 W3 := by
  obtain ⟨⟨h1, h2, h3, h4⟩, h5, h6⟩ := h
  obtain ⟨p1, p2, p3⟩ := hP
  exact ⟨⟨fun a a1 a2 a3 => by rw [p1 a a3]; exact h1 a a1 a2 a3, fun j hj => by rw [p1 23 (by omega)]; exact h2 j hj, fun j hj => by rw [p1 25 (by omega)]; exact h3 j hj, h4⟩, fun y hy => by rw [p3 y (by omega)]; exact h5 y hy, h6⟩
theorem KE_aim {M M3 M4 : g_M} {j : Nat} {v : Int} (h : KE M M3) (hP : AIM1 j v M3 M4) : KE M M4 := by
  have e := hP.1 23 (by omega)
  exact ⟨by rw [e]; exact h.1, by rw [e]; exact h.2⟩
section
variable {rc : Nat → Int → g_M → Option (Int × g_M)} {d : Int} {M M1 M2 M3 M4 M5 M6 M7 M8 M9 M10 : g_M} {a e : Nat}
theorem if_0 (h : rc 4 d M = some (0, M1)) : m_X4_readIf rc d M = some (0, M1) := by
  unfold m_X4_readIf
  simp (disch := omega) only [↓reduceIte, ↓nm_eq, ↓jn_eq, ↓c_within, ↓c_isIn, ↓c_isScene, ↓c_isPlace, ↓c_isCue, ↓c_isDigit, ↓d_isScene, ↓d_isAny, ↓ta_pb1, ↓ta_pb0, ↓ta_pb1', ↓ta_pb0', ta_lt, ta_nlt, ta_le, ta_nle, ta_eq, ta_neq, ta_nne, ta_ne, gs_id, a_gd01, a_gdT, or_true, true_or, bd_some, bW_sm, a_gd, a_ne, a_rd, Int.toNat_natCast, Int.toNat_add, Int.toNat_mul, Int.reduceToNat, a_gdp, a_cell, and_self, and_true, true_and, h]
theorem if_1 (h : rc 4 d M = some (1, M1)) (h1 : m_X4_pass 15 M1 = some (0, M2)) : m_X4_readIf rc d M = some (0, M2) := by
  unfold m_X4_readIf
  simp (disch := omega) only [↓reduceIte, ↓nm_eq, ↓jn_eq, ↓c_within, ↓c_isIn, ↓c_isScene, ↓c_isPlace, ↓c_isCue, ↓c_isDigit, ↓d_isScene, ↓d_isAny, ↓ta_pb1, ↓ta_pb0, ↓ta_pb1', ↓ta_pb0', ta_lt, ta_nlt, ta_le, ta_nle, ta_eq, ta_neq, ta_nne, ta_ne, gs_id, a_gd01, a_gdT, or_true, true_or, bd_some, bW_sm, a_gd, a_ne, a_rd, Int.toNat_natCast, Int.toNat_add, Int.toNat_mul, Int.reduceToNat, a_gdp, a_cell, and_self, and_true, true_and, h, h1]
def ifT (rc : Nat → Int → g_M → Option (Int × g_M)) (d : Int) (x15 : Int) (M16 : g_M) : Option (Int × g_M) := g_bW (rc 0 d M16) (fun x17 M18 => if gs x17 = 0 then (some (0, M18)) else (g_bW (m_X4_pass 16 M18) (fun x19 M20 => if gs x19 ≠ 0 then (g_nm (M20 25 1) (fun x21 => (m_X7_put 25 71 0 M20).bind (fun M22 => (m_X7_aimHere 25 x15 M22).bind (fun M23 => g_bW (rc 0 d M23) (fun x24 M25 => if gs x24 = 0 then (some (0, M25)) else (g_bW (m_X4_pass 17 M25) (fun x26 M27 => if gs x26 ≠ 0 then ((m_X7_aimHere 25 x21 M27).bind (fun M28 => some (1, M28))) else (some (0, M27))))))))) else (some (0, M20)))))
theorem if_T (h : rc 4 d M = some (1, M1)) (h1 : m_X4_pass 15 M1 = some (1, M2)) (h2 : M2 25 1 = a) (h3 : m_X7_put 25 72 0 M2 = some M3) : m_X4_readIf rc d M = ifT rc d a M3 := by
  unfold m_X4_readIf
  rw [bW_eq h, if_neg gs1_ne, bW_eq h1, if_pos gs1_ne, nm_eq, bd_eq h3, h2]
  rfl
theorem if_2 (h4 : rc 0 d M3 = some (0, M4)) : ifT rc d a M3 = some (0, M4) := by
  unfold ifT
  simp (disch := omega) only [↓reduceIte, ↓nm_eq, ↓jn_eq, ↓c_within, ↓c_isIn, ↓c_isScene, ↓c_isPlace, ↓c_isCue, ↓c_isDigit, ↓d_isScene, ↓d_isAny, ↓ta_pb1, ↓ta_pb0, ↓ta_pb1', ↓ta_pb0', ta_lt, ta_nlt, ta_le, ta_nle, ta_eq, ta_neq, ta_nne, ta_ne, gs_id, a_gd01, a_gdT, or_true, true_or, bd_some, bW_sm, a_gd, a_ne, a_rd, Int.toNat_natCast, Int.toNat_add, Int.toNat_mul, Int.reduceToNat, a_gdp, a_cell, and_self, and_true, true_and, h4]
theorem if_3 (h4 : rc 0 d M3 = some (1, M4)) (h5 : m_X4_pass 16 M4 = some (0, M5)) : ifT rc d a M3 = some (0, M5) := by
  unfold ifT
  simp (disch := omega) only [↓reduceIte, ↓nm_eq, ↓jn_eq, ↓c_within, ↓c_isIn, ↓c_isScene, ↓c_isPlace, ↓c_isCue, ↓c_isDigit, ↓d_isScene, ↓d_isAny, ↓ta_pb1, ↓ta_pb0, ↓ta_pb1', ↓ta_pb0', ta_lt, ta_nlt, ta_le, ta_nle, ta_eq, ta_neq, ta_nne, ta_ne, gs_id, a_gd01, a_gdT, or_true, true_or, bd_some, bW_sm, a_gd, a_ne, a_rd, Int.toNat_natCast, Int.toNat_add, Int.toNat_mul, Int.reduceToNat, a_gdp, a_cell, and_self, and_true, true_and, h4, h5]
def ifE (rc : Nat → Int → g_M → Option (Int × g_M)) (d : Int) (x21 : Int) (M23 : g_M) : Option (Int × g_M) := g_bW (rc 0 d M23) (fun x24 M25 => if gs x24 = 0 then (some (0, M25)) else (g_bW (m_X4_pass 17 M25) (fun x26 M27 => if gs x26 ≠ 0 then ((m_X7_aimHere 25 x21 M27).bind (fun M28 => some (1, M28))) else (some (0, M27)))))
theorem if_E (h4 : rc 0 d M3 = some (1, M4)) (h5 : m_X4_pass 16 M4 = some (1, M5)) (h6 : M5 25 1 = e) (h7 : m_X7_put 25 71 0 M5 = some M6) (h8 : m_X7_aimHere 25 a M6 = some M7) : ifT rc d a M3 = ifE rc d e M7 := by
  unfold ifT
  rw [bW_eq h4, if_neg gs1_ne, bW_eq h5, if_pos gs1_ne, nm_eq, bd_eq h7, bd_eq h8, h6]
  rfl
theorem if_4 (h4 : rc 0 d M7 = some (0, M8)) : ifE rc d e M7 = some (0, M8) := by
  unfold ifE
  simp (disch := omega) only [↓reduceIte, ↓nm_eq, ↓jn_eq, ↓c_within, ↓c_isIn, ↓c_isScene, ↓c_isPlace, ↓c_isCue, ↓c_isDigit, ↓d_isScene, ↓d_isAny, ↓ta_pb1, ↓ta_pb0, ↓ta_pb1', ↓ta_pb0', ta_lt, ta_nlt, ta_le, ta_nle, ta_eq, ta_neq, ta_nne, ta_ne, gs_id, a_gd01, a_gdT, or_true, true_or, bd_some, bW_sm, a_gd, a_ne, a_rd, Int.toNat_natCast, Int.toNat_add, Int.toNat_mul, Int.reduceToNat, a_gdp, a_cell, and_self, and_true, true_and, h4]
theorem if_5 (h4 : rc 0 d M7 = some (1, M8)) (h5 : m_X4_pass 17 M8 = some (0, M9)) : ifE rc d e M7 = some (0, M9) := by
  unfold ifE
  simp (disch := omega) only [↓reduceIte, ↓nm_eq, ↓jn_eq, ↓c_within, ↓c_isIn, ↓c_isScene, ↓c_isPlace, ↓c_isCue, ↓c_isDigit, ↓d_isScene, ↓d_isAny, ↓ta_pb1, ↓ta_pb0, ↓ta_pb1', ↓ta_pb0', ta_lt, ta_nlt, ta_le, ta_nle, ta_eq, ta_neq, ta_nne, ta_ne, gs_id, a_gd01, a_gdT, or_true, true_or, bd_some, bW_sm, a_gd, a_ne, a_rd, Int.toNat_natCast, Int.toNat_add, Int.toNat_mul, Int.reduceToNat, a_gdp, a_cell, and_self, and_true, true_and, h4, h5]
theorem if_6 (h4 : rc 0 d M7 = some (1, M8)) (h5 : m_X4_pass 17 M8 = some (1, M9)) (h6 : m_X7_aimHere 25 e M9 = some M10) : ifE rc d e M7 = some (1, M10) := by
  unfold ifE
  simp (disch := omega) only [↓reduceIte, ↓nm_eq, ↓jn_eq, ↓c_within, ↓c_isIn, ↓c_isScene, ↓c_isPlace, ↓c_isCue, ↓c_isDigit, ↓d_isScene, ↓d_isAny, ↓ta_pb1, ↓ta_pb0, ↓ta_pb1', ↓ta_pb0', ta_lt, ta_nlt, ta_le, ta_nle, ta_eq, ta_neq, ta_nne, ta_ne, gs_id, a_gd01, a_gdT, or_true, true_or, bd_some, bW_sm, a_gd, a_ne, a_rd, Int.toNat_natCast, Int.toNat_add, Int.toNat_mul, Int.reduceToNat, a_gdp, a_cell, and_self, and_true, true_and, h4, h5, h6]
end
theorem TTs_no {n T top : Nat} {V : g_M} (t : TTs n T V top) : ¬ (54 ≤ T ∧ T ≤ 58) := fun z => by
  have t1 := t.1.2
  have t2 := t.2
  unfold tP at t1
  unfold tS at t2
  omega
/-- a SUM within what is open at m: what is open, and that nothing else stands between -/
theorem in_open {L Z l s c w m d m' s' q' T' c' w' k : Nat} {N' lo op : Int} {b : Nat → Int} {X : XTy} {M W M' W' : g_M} (A : ST1 L Z l b X lo s c w (m + 1) d M W M' W' m' s' q' T' N' c' w' k) (h1 : 1 ≤ lo) (h : W 5 m = op) (hop : 40 ≤ op) : m_X9_openNow W' = some op ∧ W' 5 m = op := by
  obtain ⟨a1, a2, a3, a7, a8, a9, a10⟩ := A
  have w5 : W' 5 m = op := by rw [a7.2.2.2 _ (by omega)]; exact h
  have lt : ∀ y, m < y → y < m + 1 + k → W' 5 y < 40 := fun y y1 y2 => by
    have a := (a9 y (by omega) y2).1
    by_cases z : 40 ≤ W' 5 y
    · have : rk (W' 5 y) = 0 := if_pos z
      omega
    · omega
  have hon := q_openNow (m := m) a2.2.2.2.2.1 (by omega) (by omega) lt
  rw [w5] at hon
  exact ⟨hon, w5⟩
theorem step_if {G : Nat} {rc : Nat → Int → g_M → Option (Int × g_M)} (hE : CEith G (rc 4)) (hS : CSum G (rc 0)) : CIf G (m_X4_readIf rc) := by
  intro L Z l b s q T N c w n u d M W hG hX hn h41 hu ht
  obtain ⟨D, hD⟩ : ∃ D, D = d + u + 1 := ⟨_, rfl⟩
  have hX0 := hX
  rw [← hD] at hX ⊢
  have hd8 : D ≤ 8 := hX.2.2.2.2.2.2.2
  have r41 : rk 41 = 0 := rfl
  have r42 : rk 42 = 0 := rfl
  have r43 : rk 43 = 0 := rfl
  rcases hE L Z l b s q T N c w (n + u + 1) D (n + u) M W (by omega) hX (by omega) (fun y hy => by rw [show y = n + u by omega, h41]; omega) ⟨by omega, h41, fun y y1 y2 => by omega⟩ with ⟨M1, W1, m1, s1, q1, T1, N1, c1, w1, k1, r1, A, t1⟩ | ⟨M1, W1, m1, e1, r1, hb⟩
  rotate_left
  · rw [if_0 r1]
    exact Or.inr ⟨M1, W1, m1, e1, rfl, hb⟩
  obtain ⟨on1, p1⟩ := in_open A (by omega) h41 (by omega)
  obtain ⟨a1, a2, ⟨a3, a4, a5, a6⟩, a7, a8, a9, a10⟩ := A
  have F1 : FR Z n c w M W M1 W1 := FR_tr (FR_rfl Z n c w M W) a7 (by omega) (by omega) (by omega)
  have h7 : M1 23 7 = T1 := a2.2.1.2.2.1.2.2.2.2.1
  have t101 := T_100 a2.2.1
  have hbt1 := btw_join a2.2.1.2.2.2 t1.1.1.1 on1 (CMP_is a2 t1.1.1.2)
  rw [if_neg t1.1.2, if_neg t1.2] at hbt1
  have hpt1 := part_41 a2.2.1.2.2.2 (Or.inr rfl) (CMP_is a2 t1.1.1.2)
  by_cases c15 : T1 = 15
  rotate_left
  · rw [if_neg (by omega)] at hpt1
    have hp15 : m_X4_pass 15 M1 = _ := c_pass0 (w := 15) h7 t101 (by omega) c15
    rw [if_1 r1 hp15]
    exact Or.inr (BAD_step (BAD_mk (e := 1) a2 (by omega) (fun f => bo_out a2.2.2.2.1.2.2.2.2 hbt1 on1 (by omega) hpt1 f) rfl) a1 a7.1 a3)
  rw [if_pos ⟨c15, rfl⟩] at hpt1
  obtain ⟨M2, W2, s2, q2, T2, N2, b1, b2, b3, b4, b5, b6, b7, b8, b9, b10⟩ := bo_part (m := n + u) (op := 41) (p := 42) a2 (by omega) hbt1 on1 p1 (by omega) hpt1 (Or.inl rfl) (fun y y1 y2 => (a9 y y1 y2).1) (by omega) hd8
  have hp15 : m_X4_pass 15 M1 = some (1, M2) := c_pass1 (T := 15) (by rw [h7, c15]) b1
  have F2 : FR Z n c w M W M2 W2 := FR_tr F1 b4 (by omega) (by omega) (by omega)
  have c1s : c1 ≤ s1 := a2.2.2.1.2.1
  have s1s : s1 < 300 := (PS_300 a2.1.1 a2.2.1).2 (by omega)
  obtain ⟨M3, u1, u2⟩ := c_put (M := M2) (c := c1) (o := 72) (v := 0) b3.2.2.1.1 (by omega) (by omega) (by omega)
  rw [if_T r1 hp15 b3.2.2.1.1 u1]
  have X3 := SX_put b3 u2 (by omega)
  have F3 := FR_put F2 u2 (by omega)
  rcases hS L Z l b s2 q2 T2 N2 (c1 + 1) (w1 + k1) (n + u + 1) D M3 W2 (by omega) X3 (by omega) (fun y hy => by rw [show y = n + u by omega, b7]; omega) (fun _ y hy => Or.inr (Or.inr (Or.inl (by rw [show y = n + u by omega]; exact b7)))) with ⟨M4, W4, m4, s4, q4, T4, N4, c4, w4, k4, r4, A4, t4⟩ | ⟨M4, W4, m4, e4, r4, hb⟩
  rotate_left
  · rw [if_2 r4]
    refine Or.inr (BAD_step (m0 := m1 + 1) ⟨M4, W4, m4, e4, rfl, hb⟩ (fun f => ?_) F3.1 (by omega))
    rw [show f + (m1 + 1) = f + 1 + m1 by omega, a1, b2]
  obtain ⟨on4, p4⟩ := in_open A4 (by omega) b7 (by omega)
  obtain ⟨g1, g2, ⟨g3, g4, g5, g6⟩, g7, g8, g9, g10⟩ := A4
  have F4 : FR Z n c w M W M4 W4 := FR_tr F3 g7 (by omega) (by omega) (by omega)
  have h74 : M4 23 7 = T4 := g2.2.1.2.2.1.2.2.2.2.1
  have t104 := T_100 g2.2.1
  have hbt4 := btw_not41 g2.2.1.2.2.2 (TTs_no t4) on4 (by omega) (by omega)
  have hpt4 := part_42 g2.2.1.2.2.2
  have st4 : ∀ f, m_X9_summed_L15 KS (f + (m1 + 1 + m4)) W = m_X9_summed_L15 KS f W4 := fun f => by
    rw [show f + (m1 + 1 + m4) = f + m4 + 1 + m1 by omega, a1, b2, g1]
  by_cases c16 : T4 = 16
  rotate_left
  · rw [if_neg (by omega)] at hpt4
    have hp16 : m_X4_pass 16 M4 = _ := c_pass0 (w := 16) h74 t104 (by omega) c16
    rw [if_3 r4 hp16]
    exact Or.inr (BAD_step (BAD_mk (e := 1) g2 (by omega) (fun f => bo_out g2.2.2.2.1.2.2.2.2 hbt4 on4 (by omega) hpt4 f) rfl) st4 F4.1 (by omega))
  rw [if_pos c16] at hpt4
  obtain ⟨M5, W5, s5, q5, T5, N5, i1, i2, i3, i4, i5, i6, i7, i8, i9, i10⟩ := bo_part (m := n + u) (op := 42) (p := 43) g2 (by omega) hbt4 on4 p4 (by omega) hpt4 (Or.inr rfl) (fun y y1 y2 => by have := (g9 y y1 y2).1; omega) (by omega) hd8
  have hp16 : m_X4_pass 16 M4 = some (1, M5) := c_pass1 (T := 16) (by rw [h74, c16]) i1
  have F5 : FR Z n c w M W M5 W5 := FR_tr F4 i4 (by omega) (by omega) (by omega)
  have c4s : c4 ≤ s4 := g2.2.2.1.2.1
  have s4s : s4 < 300 := (PS_300 g2.1.1 g2.2.1).2 (by omega)
  obtain ⟨M6, v1, v2⟩ := c_put (M := M5) (c := c4) (o := 71) (v := 0) i3.2.2.1.1 (by omega) (by omega) (by omega)
  have X6 := SX_put i3 v2 (by omega)
  have F6 := FR_put F5 v2 (by omega)
  have m6c : M6 26 c1 = ((72 * 65536 + 0 : Nat) : Int) := by rw [v2.2.2.2.2 c1 (by omega), i10, g7.2.1 c1 (by omega)]; exact u2.2.2.2.1
  obtain ⟨M7, x1, x2⟩ := c_aim (j := c1) (v := c4 + 1) (o := 72) X6.2.2.1.1 (by omega) m6c (Or.inr rfl) (by omega)
  rw [if_E r4 hp16 i3.2.2.1.1 v1 x1]
  have X7 := SX_aim X6 x2
  have F7 := FR_aim F6 x2 (by omega)
  rcases hS L Z l b s5 q5 T5 N5 (c4 + 1) (w4 + k4) (n + u + 1) D M7 W5 (by omega) X7 (by omega) (fun y hy => by rw [show y = n + u by omega, i7]; omega) (fun _ y hy => Or.inr (Or.inr (Or.inr (by rw [show y = n + u by omega]; exact i7)))) with ⟨M8, W8, m8, s8, q8, T8, N8, c8, w8, k8, r8, A8, t8⟩ | ⟨M8, W8, m8, e8, r8, hb⟩
  rotate_left
  · rw [if_4 r8]
    refine Or.inr (BAD_step (m0 := m1 + 1 + m4 + 1) ⟨M8, W8, m8, e8, rfl, hb⟩ (fun f => ?_) F7.1 (by omega))
    rw [show f + (m1 + 1 + m4 + 1) = f + 1 + (m1 + 1 + m4) by omega, st4, i2]
  obtain ⟨on8, p8⟩ := in_open A8 (by omega) i7 (by omega)
  obtain ⟨j1, j2, ⟨j3, j4, j5, j6⟩, j7, j8, j9, j10⟩ := A8
  have F8 : FR Z n c w M W M8 W8 := FR_tr F7 j7 (by omega) (by omega) (by omega)
  have h78 : M8 23 7 = T8 := j2.2.1.2.2.1.2.2.2.2.1
  have t108 := T_100 j2.2.1
  have hbt8 := btw_not41 j2.2.1.2.2.2 (TTs_no t8) on8 (by omega) (by omega)
  have hpt8 := part_43 j2.2.1.2.2.2
  have st8 : ∀ f, m_X9_summed_L15 KS (f + (m1 + 1 + m4 + 1 + m8)) W = m_X9_summed_L15 KS f W8 := fun f => by
    rw [show f + (m1 + 1 + m4 + 1 + m8) = f + m8 + 1 + (m1 + 1 + m4) by omega, st4, i2, j1]
  by_cases c17 : T8 = 17
  rotate_left
  · rw [if_neg (by omega)] at hpt8
    have hp17 : m_X4_pass 17 M8 = _ := c_pass0 (w := 17) h78 t108 (by omega) c17
    rw [if_5 r8 hp17]
    exact Or.inr (BAD_step (BAD_mk (e := 1) j2 (by omega) (fun f => bo_out j2.2.2.2.1.2.2.2.2 hbt8 on8 (by omega) hpt8 f) rfl) st8 F8.1 (by omega))
  rw [if_pos c17] at hpt8
  have hu8 : ∀ y, n ≤ y → y < n + u → W8 5 y = W 5 y := fun y y1 y2 => by
    rw [j7.2.2.2 y (by omega), i4.2.2.2 y (by omega), g7.2.2.2 y (by omega), b4.2.2.2 y (by omega), a7.2.2.2 y (by omega)]
  rw [hD] at j2
  obtain ⟨M9, W9, s9, q9, T9, N9, z1, z2, z3, z4, z5, z6, ⟨Bc, z7, z7'⟩, z8, z9, z10, z11⟩ := bo_shut (g := 1) (op := 43) j2 (by omega) hbt8 on8 p8 (Or.inr ⟨rfl, rfl⟩) hpt8 (fun y y1 y2 => by have := (j9 y y1 y2).1; omega) (fun y y1 y2 => by rw [hu8 y y1 y2]; exact hu y y1 y2) (fun y hy => by rw [F8.2.2.2 y (by omega)]; exact ht y hy) hn (by omega)
  have hp17 : m_X4_pass 17 M8 = some (1, M9) := c_pass1 (T := 17) (by rw [h78, c17]) z1
  have m9c : M9 26 c4 = ((71 * 65536 + 0 : Nat) : Int) := by rw [z11, j7.2.1 c4 (by omega), x2.2.2 c4 (by omega)]; exact v2.2.2.2.1
  have c8s : c8 ≤ s8 := j2.2.2.1.2.1
  have s8s : s8 < 300 := (PS_300 j2.1.1 j2.2.1).2 (by omega)
  obtain ⟨M10, y1, y2⟩ := c_aim (j := c4) (v := c8) (o := 71) z3.2.2.1.1 (by omega) m9c (Or.inl rfl) (by omega)
  rw [if_6 r8 hp17 y1]
  have F9 : FR Z n c w M W M9 W9 := FR_tr F8 z4 (by omega) (by omega) (by omega)
  refine Or.inl ⟨M10, W9, m1 + 1 + m4 + 1 + m8 + 1, s9, q9, T9, N9, c8, w8 + k8 + 1, rfl, fun f => ?_, SX_aim z3 y2, ⟨by omega, by omega, by omega, by omega⟩, FR_aim F9 y2 (by omega), KE_aim (KE_tr (KE_tr (KE_aim (KE_put (KE_tr (KE_tr (KE_put (KE_tr a8 b5) u2) g8) i5) v2) x2) j8) z5) y2, ?_, fun i hi => by rw [z9 i hi]; exact hu8 _ (by omega) (by omega)⟩
  · rw [show f + (m1 + 1 + m4 + 1 + m8 + 1) = f + 1 + (m1 + 1 + m4 + 1 + m8) by omega, st8, z2]
  · have cA := a10 _ b8
    have cB := g10 _ i8
    have cC := j10 _ z7
    refine RS_if (a := c1) (c := c4) (a' := w1 + k1) (c' := w4 + k4) (e' := w8 + k8) (RA_cg cA (fun y k1 k2 => ?_) (fun y k1 k2 => ?_)) (RS_cg cB (fun y k1 k2 => ?_) (fun y k1 k2 => ?_)) (RS_cg cC (fun y k1 k2 => ?_) (fun y k1 k2 => z7' y k2)) ?_ y2.2.1 (z8 rfl)
    · rw [y2.2.2 y (by omega), z11, j7.2.1 y (by omega), x2.2.2 y (by omega), v2.2.2.2.2 y (by omega), i10, g7.2.1 y (by omega), u2.2.2.2.2 y (by omega), b10]
    · show W9 3 (Z + 97 + y) = W2 3 (Z + 97 + y)
      rw [z4.2.2.1 _ (by omega), j7.2.2.1 _ (by omega), i4.2.2.1 _ (by omega), g7.2.2.1 _ (by omega)]
    · rw [y2.2.2 y (by omega), z11, j7.2.1 y (by omega), x2.2.2 y (by omega), v2.2.2.2.2 y (by omega), i10]
    · show W9 3 (Z + 97 + y) = W5 3 (Z + 97 + y)
      rw [z4.2.2.1 _ (by omega), j7.2.2.1 _ (by omega)]
    · rw [y2.2.2 y (by omega), z11]
    · rw [y2.2.2 c1 (by omega), z11, j7.2.1 c1 (by omega)]; exact x2.2.1
/-- all readers, from that depth on -/
def ALL (G f : Nat) : Prop := CSum G (m_rd f 0) ∧ CPro G (m_rd f 1) ∧ COne G (m_rd f 2) ∧ CIf G (m_rd f 3) ∧ CEith G (m_rd f 4) ∧ CBoth G (m_rd f 5) ∧ CAsk G (m_rd f 6) ∧ CNot G (m_rd f 7)
theorem ALL_9 (f : Nat) : ALL 9 f := by
  refine ⟨?_, ?_, ?_, ?_, ?_, ?_, ?_, ?_⟩
  · intro L Z l b s q T N c w n d M W hG hX; have := hX.2.2.2.2.2.2.2; omega
  · intro L Z l b s q T N c w n d M W hG hX; have := hX.2.2.2.2.2.2.2; omega
  · intro L Z l b s q T N c w n u d M W hG hX; have := hX.2.2.2.2.2.2.2; omega
  · intro L Z l b s q T N c w n u d M W hG hX; have := hX.2.2.2.2.2.2.2; omega
  · intro L Z l b s q T N c w n d mm M W hG hX; have := hX.2.2.2.2.2.2.2; omega
  · intro L Z l b s q T N c w n d mm M W hG hX; have := hX.2.2.2.2.2.2.2; omega
  · intro L Z l b s q T N c w n d mm M W hG hX; have := hX.2.2.2.2.2.2.2; omega
  · intro L Z l b s q T N c w n d mm M W hT hG hX; have := hX.2.2.2.2.2.2.2; omega
theorem rd_0 (f : Nat) : m_rd (f + 1) 0 = m_X4_readSum (m_rd f) := by funext d M; rw [m_rd]
theorem rd_1 (f : Nat) : m_rd (f + 1) 1 = m_X4_readProduct (m_rd f) := by funext d M; rw [m_rd]
theorem rd_2 (f : Nat) : m_rd (f + 1) 2 = m_X4_readOne (m_rd f) := by funext d M; rw [m_rd]
theorem rd_3 (f : Nat) : m_rd (f + 1) 3 = m_X4_readIf (m_rd f) := by funext d M; rw [m_rd]
theorem rd_4 (f : Nat) : m_rd (f + 1) 4 = m_X4_readEither (m_rd f) := by funext d M; rw [m_rd]
theorem rd_5 (f : Nat) : m_rd (f + 1) 5 = m_X4_readBoth (m_rd f) := by funext d M; rw [m_rd]
theorem rd_6 (f : Nat) : m_rd (f + 1) 6 = m_X4_readAsk (m_rd f) := by funext d M; rw [m_rd]
theorem rd_7 (f : Nat) : m_rd (f + 1) 7 = m_X4_readNot (m_rd f) := by
  funext d M
  rw [m_rd] <;> omega
theorem ALL_step {G F : Nat} (h : ∀ f, F ≤ f → ALL (G + 1) f) : ∀ f, F + 7 ≤ f → ALL G f := by
  have one : ∀ f, F + 1 ≤ f → COne G (m_rd f 2) := fun f hf => by
    obtain ⟨f, rfl⟩ : ∃ g, f = g + 1 := ⟨f - 1, by omega⟩
    obtain ⟨a0, a1, a2, a3, -⟩ := h f (by omega)
    rw [rd_2]
    exact step_one a0 a2 a3
  have pro : ∀ f, F + 2 ≤ f → CPro G (m_rd f 1) := fun f hf => by
    obtain ⟨f, rfl⟩ : ∃ g, f = g + 1 := ⟨f - 1, by omega⟩
    rw [rd_1]
    exact step_pro (one f (by omega))
  have sum : ∀ f, F + 3 ≤ f → CSum G (m_rd f 0) := fun f hf => by
    obtain ⟨f, rfl⟩ : ∃ g, f = g + 1 := ⟨f - 1, by omega⟩
    rw [rd_0]
    exact step_sum (pro f (by omega))
  have nots : ∀ f, F + 1 ≤ f → CNot G (m_rd f 7) := fun f hf => by
    obtain ⟨f, rfl⟩ : ∃ g, f = g + 1 := ⟨f - 1, by omega⟩
    obtain ⟨a0, a1, a2, a3, a4, a5, a6, a7⟩ := h f (by omega)
    rw [rd_7]
    exact step_not a6
  have ask : ∀ f, F + 4 ≤ f → CAsk G (m_rd f 6) := fun f hf => by
    obtain ⟨f, rfl⟩ : ∃ g, f = g + 1 := ⟨f - 1, by omega⟩
    rw [rd_6]
    exact step_ask (sum f (by omega)) (nots f (by omega))
  have both : ∀ f, F + 5 ≤ f → CBoth G (m_rd f 5) := fun f hf => by
    obtain ⟨f, rfl⟩ : ∃ g, f = g + 1 := ⟨f - 1, by omega⟩
    rw [rd_5]
    exact step_both (ask f (by omega))
  have eith : ∀ f, F + 6 ≤ f → CEith G (m_rd f 4) := fun f hf => by
    obtain ⟨f, rfl⟩ : ∃ g, f = g + 1 := ⟨f - 1, by omega⟩
    rw [rd_4]
    exact step_eith (both f (by omega))
  intro f hf
  refine ⟨sum f (by omega), pro f (by omega), one f (by omega), ?_, eith f (by omega), both f (by omega), ask f (by omega), nots f (by omega)⟩
  obtain ⟨f, rfl⟩ : ∃ g, f = g + 1 := ⟨f - 1, by omega⟩
  rw [rd_3]
  exact step_if (eith f (by omega)) (sum f (by omega))
theorem ALL_0 : CSum 0 (m_rd g_depth 0) := by
  have h9 : ∀ f, 0 ≤ f → ALL 9 f := fun f _ => ALL_9 f
  have h0 := ALL_step (ALL_step (ALL_step (ALL_step (ALL_step (ALL_step (ALL_step (ALL_step (ALL_step h9))))))))
  exact (h0 100 (by omega)).1
