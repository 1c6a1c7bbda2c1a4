/-! segments of orders that agree, one construct after another -/
theorem p_neg {M : g_M} {v : Int} (hv : V6 v) : m_X3_altered ((70 : Nat) : Int) v M = some (-v) := by
  unfold V6 at hv
  rw [show ((70 : Nat) : Int) = 70 from rfl]
  unfold m_X3_altered
  simp (disch := omega) only [↓reduceIte, ↓nm_eq, ↓jn_eq, ↓c_within, ↓c_isIn, ↓c_isScene, ↓c_isPlace, ↓c_isCue, ↓c_isDigit, ↓d_isScene, ↓d_isAny, ↓ta_pb1, ↓ta_pb0, ↓ta_pb1', ↓ta_pb0', ta_lt, ta_nlt, ta_le, ta_nle, ta_eq, ta_neq, ta_nne, ta_ne, gs_id, a_gd01, a_gdT, or_true, true_or, bd_some, bW_sm, a_gd, a_ne, a_rd, Int.toNat_natCast, Int.toNat_add, Int.toNat_mul, Int.reduceToNat, a_gdp, a_cell, and_self, and_true, true_and]
theorem p_notl {M : g_M} {v : Int} (hv : B01 v) : m_X3_altered ((18 : Nat) : Int) v M = some (1 - v) := by
  rw [show ((18 : Nat) : Int) = 18 from rfl]
  unfold m_X3_altered
  rcases hv with rfl | rfl
  · simp (disch := omega) only [↓reduceIte, ↓nm_eq, ↓jn_eq, ↓c_within, ↓c_isIn, ↓c_isScene, ↓c_isPlace, ↓c_isCue, ↓c_isDigit, ↓d_isScene, ↓d_isAny, ↓ta_pb1, ↓ta_pb0, ↓ta_pb1', ↓ta_pb0', ta_lt, ta_nlt, ta_le, ta_nle, ta_eq, ta_neq, ta_nne, ta_ne, gs_id, a_gd01, a_gdT, or_true, true_or, bd_some, bW_sm, a_gd, a_ne, a_rd, Int.toNat_natCast, Int.toNat_add, Int.toNat_mul, Int.reduceToNat, a_gdp, a_cell, and_self, and_true, true_and]
  · simp (disch := omega) only [↓reduceIte, ↓nm_eq, ↓jn_eq, ↓c_within, ↓c_isIn, ↓c_isScene, ↓c_isPlace, ↓c_isCue, ↓c_isDigit, ↓d_isScene, ↓d_isAny, ↓ta_pb1, ↓ta_pb0, ↓ta_pb1', ↓ta_pb0', ta_lt, ta_nlt, ta_le, ta_nle, ta_eq, ta_neq, ta_nne, ta_ne, gs_id, a_gd01, a_gdT, or_true, true_or, bd_some, bW_sm, a_gd, a_ne, a_rd, Int.toNat_natCast, Int.toNat_add, Int.toNat_mul, Int.reduceToNat, a_gdp, a_cell, and_self, and_true, true_and]
theorem B01_V6 {v : Int} (h : B01 v) : V6 v := by
  unfold V6
  rcases h with rfl | rfl <;> omega
theorem kiV_b {l : Nat} {en kd : Nat → Int} (h : EnvOk l en kd) {v : Int} : 0 ≤ kiV kd v ∧ kiV kd v ≤ 3 := by
  unfold kiV
  by_cases c : 0 ≤ v ∧ v ≤ 11
  · rw [if_pos c]
    exact h.2 _ (by omega)
  · rw [if_neg c]; omega
theorem CEv_number {l : Nat} {Cc en kd : Nat → Int} {i w : Nat} (hw : w ≤ 9999) (hc : Cc i = ((40 * 65536 + w : Nat) : Int)) : CEv l Cc en kd i (i + 1) w := by
  intro t to x k M h1 h2 h3 h4 h5 h6
  refine ⟨1, g_wr M 34 x w, by omega, fun f => ?_, fun a ha => a_cell _ ha, fun y hy => a_ne _ (by omega), wr_at _ _ _ _⟩
  exact v_number (by omega) h2 (by omega) (by rw [h5 i (Nat.le_refl _) (by omega)]; exact hc) (by omega)
theorem CEv_name {l : Nat} {Cc en kd : Nat → Int} {i n : Nat} (hn : nmOk l n) (hc : Cc i = (((21 + n) * 65536 + 0 : Nat) : Int)) : CEv l Cc en kd i (i + 1) (en n) := by
  intro t to x k M h1 h2 h3 h4 h5 h6
  refine ⟨1, g_wr M 34 x (en n), by omega, fun f => ?_, fun a ha => a_cell _ ha, fun y hy => a_ne _ (by omega), wr_at _ _ _ _⟩
  rw [v_name (by omega) h2 (by omega) (nmOk_12 hn) (by rw [h5 i (Nat.le_refl _) (by omega)]; exact hc) (by omega), h6.1 n hn]
theorem REv_number {l : Nat} {Bc en kd : Nat → Int} {i w : Nat} (hw : w ≤ 9999) (h0 : Bc (2 * i) = 0) (h1 : Bc (2 * i + 1) = w) : REv l Bc en kd i (i + 1) w := by
  intro X Y TO n m k W g1 g2 g3 g4 g5 g6 g7 g8 g9
  obtain ⟨c1, c2⟩ := g8 i (Nat.le_refl _) (by omega)
  refine ⟨g_wr W 7 n w, fun f => ?_, fun a a1 a2 => a_cell _ a1, fun y hy => a_ne _ (by omega), fun y hy => a_ne _ (by omega), wr_at _ _ _ _⟩
  rw [show f + (i + 1 - i) = f + 1 by omega]
  exact s_number g1 g2 g3 (by omega) g4 (by omega) (by rw [c1, h0]) (by rw [c2, h1]) (by omega)
theorem REv_name {l : Nat} {Bc en kd : Nat → Int} {i u : Nat} (hu : nmOk l u) (h0 : Bc (2 * i) = 1) (h1 : Bc (2 * i + 1) = u) : REv l Bc en kd i (i + 1) (en u) := by
  intro X Y TO n m k W g1 g2 g3 g4 g5 g6 g7 g8 g9
  obtain ⟨c1, c2⟩ := g8 i (Nat.le_refl _) (by omega)
  obtain ⟨e1, e2⟩ := g9.1 u hu
  refine ⟨g_wr W 7 n (en u), fun f => ?_, fun a a1 a2 => a_cell _ a1, fun y hy => a_ne _ (by omega), fun y hy => a_ne _ (by omega), wr_at _ _ _ _⟩
  rw [show f + (i + 1 - i) = f + 1 by omega, s_name g1 g2 g3 (by omega) g4 (by omega) (by rw [c1, h0]) (by rw [c2, h1]) (nmOk_12 hu) (by rw [e1]; exact e2), e1]
theorem RS_number {l : Nat} {Cc Bc : Nat → Int} {i i' w : Nat} (hw : w ≤ 9999) (hc : Cc i = ((40 * 65536 + w : Nat) : Int)) (h0 : Bc (2 * i') = 0) (h1 : Bc (2 * i' + 1) = w) : RS l Cc i (i + 1) Bc i' (i' + 1) := by
  refine ⟨by omega, by omega, fun en kd he => ⟨w, ?_, CEv_number hw hc, REv_number hw h0 h1⟩⟩
  unfold V6; omega
theorem RS_name {l : Nat} {Cc Bc : Nat → Int} {i i' n : Nat} (hn : nmOk l n) (hc : Cc i = (((21 + n) * 65536 + 0 : Nat) : Int)) (h0 : Bc (2 * i') = 1) (h1 : Bc (2 * i' + 1) = n) : RS l Cc i (i + 1) Bc i' (i' + 1) :=
  ⟨by omega, by omega, fun en kd he => ⟨en n, he.1 n hn, CEv_name hn hc, REv_name hn h0 h1⟩⟩
theorem RS_neg {l : Nat} {Cc Bc : Nat → Int} {i j i' j' : Nat} (h : RS l Cc i j Bc i' j') (hc : Cc j = ((70 * 65536 + 0 : Nat) : Int)) (hb : Bc (2 * j') = 4) : RS l Cc i (j + 1) Bc i' (j' + 1) := by
  have e1 := h.1
  have e2 := h.2.1
  refine ⟨by omega, by omega, fun en kd he => ?_⟩
  obtain ⟨v, v6, c, r⟩ := h.2.2 en kd he
  refine ⟨-v, ?_, CEv_un c e1 (Or.inl rfl) hc (fun M _ => p_neg v6), REv_un r e2 (Or.inl ⟨hb, rfl⟩) v6⟩
  unfold V6 at *; omega
theorem RS_kind {l : Nat} {Cc Bc : Nat → Int} {i j i' j' : Nat} (h : RS l Cc i j Bc i' j') (hc : Cc j = ((13 * 65536 + 0 : Nat) : Int)) (hb : Bc (2 * j') = 2) : RS l Cc i (j + 1) Bc i' (j' + 1) := by
  have e1 := h.1
  have e2 := h.2.1
  refine ⟨by omega, by omega, fun en kd he => ?_⟩
  obtain ⟨v, v6, c, r⟩ := h.2.2 en kd he
  refine ⟨kiV kd v, ?_, CEv_un c e1 (Or.inr (Or.inr rfl)) hc (fun M hM => p_kindV hM v6), REv_un r e2 (Or.inr ⟨hb, rfl⟩) v6⟩
  have := kiV_b he (v := v)
  unfold V6; omega
theorem RS_bin {l : Nat} {Cc Bc : Nat → Int} {i a j i' a' j' q : Nat} (h : RS l Cc i a Bc i' a') (g : RS l Cc a j Bc a' j') (hq : q < 5) (hc : Cc j = (((54 + q) * 65536 + 0 : Nat) : Int)) (hb : Bc (2 * j') = ((5 + q : Nat) : Int)) : RS l Cc i (j + 1) Bc i' (j' + 1) := by
  have e1 := h.1
  have e2 := h.2.1
  have e3 := g.1
  have e4 := g.2.1
  refine ⟨by omega, by omega, fun en kd he => ?_⟩
  obtain ⟨v, v6, c, r⟩ := h.2.2 en kd he
  obtain ⟨w, w6, c', r'⟩ := g.2.2 en kd he
  exact ⟨jnV q v w, jnV_b v6 w6, CEv_bin c c' e1 e3 (Or.inl ⟨by omega, by omega, p_joined hq v6 w6⟩) hc, REv_bin r r' e2 e4 hq hb v6 w6⟩
theorem akO_is {q : Nat} (hq : q < 6) : akO q = 50 ∨ akO q = 51 ∨ akO q = 52 ∨ akO q = 53 ∨ akO q = 62 ∨ akO q = 63 := by
  have : q = 0 ∨ q = 1 ∨ q = 2 ∨ q = 3 ∨ q = 4 ∨ q = 5 := by omega
  rcases this with rfl | rfl | rfl | rfl | rfl | rfl <;> decide
theorem RA_cmp {l : Nat} {Cc Bc : Nat → Int} {i a j i' a' j' q : Nat} (h : RS l Cc i a Bc i' a') (g : RS l Cc a j Bc a' j') (hq : q < 6) (hc : Cc j = ((akO q * 65536 + 0 : Nat) : Int)) (hb : Bc (2 * j') = ((10 + q : Nat) : Int)) : RA l Cc i (j + 1) Bc i' (j' + 1) := by
  have e1 := h.1
  have e2 := h.2.1
  have e3 := g.1
  have e4 := g.2.1
  refine ⟨by omega, by omega, fun en kd he => ?_⟩
  obtain ⟨v, v6, c, r⟩ := h.2.2 en kd he
  obtain ⟨w, w6, c', r'⟩ := g.2.2 en kd he
  have := akO_is hq
  exact ⟨akV q v w, akV_01 _ _ _, CEv_bin c c' e1 e3 (Or.inr ⟨by omega, p_asked hq v6 w6, akV_01 _ _ _⟩) hc, RAv_cmp r r' e2 e4 hq hb v6 w6⟩
theorem RA_not {l : Nat} {Cc Bc : Nat → Int} {i j i' j' : Nat} (h : RA l Cc i j Bc i' j') (hc : Cc j = ((18 * 65536 + 0 : Nat) : Int)) (hb : Bc (2 * j') = 20) : RA l Cc i (j + 1) Bc i' (j' + 1) := by
  have e1 := h.1
  have e2 := h.2.1
  refine ⟨by omega, by omega, fun en kd he => ?_⟩
  obtain ⟨v, v6, c, r⟩ := h.2.2 en kd he
  refine ⟨1 - v, ?_, CEv_un c e1 (Or.inr (Or.inl rfl)) hc (fun M _ => p_notl v6), RAv_not r e2 hb v6⟩
  rcases v6 with rfl | rfl
  · exact Or.inr rfl
  · exact Or.inl rfl
theorem RA_join {l : Nat} {Cc Bc : Nat → Int} {i a j i' a' j' q : Nat} (h : RA l Cc i a Bc i' a') (g : RA l Cc a j Bc a' j') (hq : q < 2) (hc : Cc j = (((19 + q) * 65536 + 0 : Nat) : Int)) (hb : Bc (2 * j') = ((21 + q : Nat) : Int)) : RA l Cc i (j + 1) Bc i' (j' + 1) := by
  have e1 := h.1
  have e2 := h.2.1
  have e3 := g.1
  have e4 := g.2.1
  refine ⟨by omega, by omega, fun en kd he => ?_⟩
  obtain ⟨v, v6, c, r⟩ := h.2.2 en kd he
  obtain ⟨w, w6, c', r'⟩ := g.2.2 en kd he
  exact ⟨jlV q v w, jlV_01 v6 w6, CEv_bin c c' e1 e3 (Or.inr ⟨by omega, p_joinl hq v6 w6, jlV_01 v6 w6⟩) hc, RAv_join r r' e2 e4 hq hb v6 w6⟩
theorem CEv_if {l : Nat} {Cc en kd : Nat → Int} {i a c e : Nat} {u v w : Int} (hu : CEv l Cc en kd i a u) (hv : CEv l Cc en kd (a + 1) c v) (hw : CEv l Cc en kd (c + 1) e w) (h1 : i < a) (h2 : a + 1 < c) (h3 : c + 1 < e) (u1 : B01 u) (ea : Cc a = ((72 * 65536 + (c + 1) : Nat) : Int)) (ec : Cc c = ((71 * 65536 + e : Nat) : Int)) : CEv l Cc en kd i e (if u = 0 then w else v) := by
  intro t to x k M g1 g2 g3 g4 g5 g6
  obtain ⟨n, M1, n1, n2, n3, n4, n5⟩ := hu t to x k M g1 g2 (by omega) g4 (fun y y1 y2 => g5 y y1 (by omega)) g6
  have c1 : ∀ y, i ≤ y → y < e → M1 (t + 1) y = Cc y := fun y y1 y2 => by rw [n3 _ g1]; exact g5 y y1 y2
  have E1 := CEnv_mv g6 n3
  have st : ∀ f, m_X3_value_L24 t to k (f + 1) ((x + 1 : Nat) : Int) a M1 = m_X3_value_L24 t to k f x ((if u = 0 then c + 1 else a + 1 : Nat) : Int) M1 := fun f => by
    have := v_unless (f := f) (k := k) (show a < to by omega) g2 (show x + 1 ≤ a by omega) ((c1 a (by omega) (by omega)).trans ea) (by omega) (by omega) (by rw [n5]; exact u1)
    rw [n5] at this
    exact this
  by_cases z : u = 0
  · obtain ⟨m, M2, m1, m2, m3, m4, m5⟩ := hw t to x k M1 g1 g2 (by omega) (by omega) (fun y y1 y2 => c1 y (by omega) (by omega)) E1
    refine ⟨n + 1 + m, M2, by omega, fun f => ?_, fun b hb => by rw [m3 b hb]; exact n3 b hb, fun y hy => by rw [m4 y hy]; exact n4 y hy, by rw [if_pos z]; exact m5⟩
    rw [show f + (n + 1 + m) = (f + m + 1) + n by omega, n2, st, if_pos z, m2]
  · obtain ⟨m, M2, m1, m2, m3, m4, m5⟩ := hv t to x k M1 g1 g2 (by omega) (by omega) (fun y y1 y2 => c1 y (by omega) (by omega)) E1
    refine ⟨n + 1 + m + 1, M2, by omega, fun f => ?_, fun b hb => by rw [m3 b hb]; exact n3 b hb, fun y hy => by rw [m4 y hy]; exact n4 y hy, by rw [if_neg z]; exact m5⟩
    rw [show f + (n + 1 + m + 1) = (f + 1 + m + 1) + n by omega, n2, st, if_neg z, m2]
    exact v_jump (by omega) g2 (by omega) (by rw [m3 _ g1, c1 c (by omega) (by omega)]; exact ec) (by omega) (by omega)
theorem REv_if {l : Nat} {Bc en kd : Nat → Int} {i a c e : Nat} {u v w : Int} (hu : RAv l Bc en kd i a u) (hv : REv l Bc en kd a c v) (hw : REv l Bc en kd c e w) (h1 : i < a) (h2 : a < c) (h3 : c < e) (u1 : B01 u) (ho : Bc (2 * e) = 3) : REv l Bc en kd i (e + 1) (if u = 0 then w else v) := by
  intro X Y TO n m k W g1 g2 g3 g4 g5 g6 g7 g8 g9
  obtain ⟨W1, n2, n3, n4, n5, n6⟩ := hu X Y TO n m k W g1 g2 g3 g4 (by omega) g6 g7 (RCd_sub g8 (Nat.le_refl _) (by omega) rfl) g9
  have f3 := n3 3 (by omega) (by omega)
  have E1 := REnv_mv g9 n3
  obtain ⟨W2, m2, m3, m4, m5, m6⟩ := hv X Y TO n (m + 1) k W1 g1 g2 (by rw [f3]; exact g3) g4 (by omega) (by omega) (by omega) (RCd_sub g8 (by omega) (by omega) f3) E1
  have f4 := m3 3 (by omega) (by omega)
  have E2 := REnv_mv E1 m3
  obtain ⟨W3, p2, p3, p4, p5, p6⟩ := hw X Y TO (n + 1) (m + 1) k W2 g1 g2 (by rw [f4, f3]; exact g3) g4 (by omega) (by omega) (by omega) (RCd_sub g8 (by omega) (by omega) (f4.trans f3)) E2
  have f5 : W3 3 = W 3 := (p3 3 (by omega) (by omega)).trans (f4.trans f3)
  have ec : W3 3 (Y + 2 * e) = 3 := by rw [f5, (g8 e (by omega) (by omega)).1]; exact ho
  have eu : W3 8 m = u := by rw [p5 m (by omega), m5 m (by omega)]; exact n6
  have ev : W3 7 n = v := by rw [p4 n (by omega)]; exact m6
  refine ⟨if u = 0 then g_wr W3 7 n w else W3, fun f => ?_, fun b b1 b2 => ?_, fun y hy => ?_, fun y hy => ?_, ?_⟩
  · rw [show f + (e + 1 - i) = (f + 1 + (e - c)) + (c - a) + (a - i) by omega, n2, m2, p2]
    have := s_select (f := f) (k := k) g1 g2 (show W3 3 (X + 2) = TO by rw [f5]; exact g3) (show e < TO by omega) g4 (show n ≤ e by omega) (show m ≤ e by omega) ec (by rw [eu]; exact u1)
    rw [eu, p6] at this
    exact this
  · have : W3 b = W b := by rw [p3 b b1 b2, m3 b b1 b2]; exact n3 b b1 b2
    by_cases z : u = 0
    · rw [if_pos z, a_cell _ b1]; exact this
    · rw [if_neg z]; exact this
  · have : W3 7 y = W 7 y := by rw [p4 y (by omega), m4 y (by omega)]; exact n4 y hy
    by_cases z : u = 0
    · rw [if_pos z, a_ne _ (by omega)]; exact this
    · rw [if_neg z]; exact this
  · have : W3 8 y = W 8 y := by rw [p5 y (by omega), m5 y (by omega)]; exact n5 y hy
    by_cases z : u = 0
    · rw [if_pos z, a_ne _ (by omega)]; exact this
    · rw [if_neg z]; exact this
  · by_cases z : u = 0
    · rw [if_pos z, if_pos z]; exact wr_at _ _ _ _
    · rw [if_neg z, if_neg z]; exact ev
theorem RS_if {l : Nat} {Cc Bc : Nat → Int} {i a c e i' a' c' e' : Nat} (h : RA l Cc i a Bc i' a') (g : RS l Cc (a + 1) c Bc a' c') (p : RS l Cc (c + 1) e Bc c' e') (ea : Cc a = ((72 * 65536 + (c + 1) : Nat) : Int)) (ec : Cc c = ((71 * 65536 + e : Nat) : Int)) (ho : Bc (2 * e') = 3) : RS l Cc i e Bc i' (e' + 1) := by
  have e1 := h.1
  have e2 := h.2.1
  have e3 := g.1
  have e4 := g.2.1
  have e5 := p.1
  have e6 := p.2.1
  refine ⟨by omega, by omega, fun en kd he => ?_⟩
  obtain ⟨u, u1, c1, r1⟩ := h.2.2 en kd he
  obtain ⟨v, v6, c2, r2⟩ := g.2.2 en kd he
  obtain ⟨w, w6, c3, r3⟩ := p.2.2 en kd he
  refine ⟨if u = 0 then w else v, ?_, CEv_if c1 c2 c3 e1 e3 e5 u1 ea ec, REv_if r1 r2 r3 e2 e4 e6 u1 ho⟩
  by_cases z : u = 0
  · rw [if_pos z]; exact w6
  · rw [if_neg z]; exact v6
