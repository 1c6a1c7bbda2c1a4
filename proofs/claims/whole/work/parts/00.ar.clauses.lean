/-! a CLAUSE, whole: both -/
theorem sortI_S {T : Nat} (h : T ≤ 8 ∨ T = 24) : ∃ S : Nat, sortI T = (S : Int) ∧ S < 10 ∧ (T < 3 → S = T) ∧ (3 ≤ T → 3 ≤ S) := by
  have a : T = 0 ∨ T = 1 ∨ T = 2 ∨ T = 24 ∨ T = 3 ∨ T = 4 ∨ T = 5 ∨ T = 6 ∨ T = 7 ∨ T = 8 := by omega
  rcases a with a | a | a | a | a | a | a | a | a | a
  · subst a; exact ⟨0, rfl, by omega, fun _ => rfl, fun h => by omega⟩
  · subst a; exact ⟨1, rfl, by omega, fun _ => rfl, fun h => by omega⟩
  · subst a; exact ⟨2, rfl, by omega, fun _ => rfl, fun h => by omega⟩
  · subst a; exact ⟨3, rfl, by omega, fun h => by omega, fun h => by omega⟩
  · subst a; exact ⟨4, rfl, by omega, fun h => by omega, fun h => by omega⟩
  · subst a; exact ⟨5, rfl, by omega, fun h => by omega, fun h => by omega⟩
  · subst a; exact ⟨6, rfl, by omega, fun h => by omega, fun h => by omega⟩
  · subst a; exact ⟨7, rfl, by omega, fun h => by omega, fun h => by omega⟩
  · subst a; exact ⟨8, rfl, by omega, fun h => by omega, fun h => by omega⟩
  · subst a; exact ⟨9, rfl, by omega, fun h => by omega, fun h => by omega⟩
theorem sortI_no {T : Nat} (h : ¬ (T ≤ 8 ∨ T = 24)) : sortI T = -1 := by
  unfold sortI
  rw [if_neg (by omega), if_neg (by omega), if_neg (by omega), if_neg (by omega), if_neg (by omega), if_neg (by omega), if_neg (by omega), if_neg (by omega), if_neg (by omega), if_neg (by omega)]
theorem c_has {T i j : Nat} {M : g_M} (hT : T < 3) (h1 : M 27 T = i) (h2 : M 28 T = j) (hi : i ≤ 400) (hj : j ≤ 400) : (i < j → m_X7_has 25 T M = some 1) ∧ (¬ i < j → m_X7_has 25 T M = some 0) := by
  unfold m_X7_has
  refine ⟨fun c => ?_, fun c => ?_⟩
  · simp (disch := omega) only [↓reduceIte, ↓nm_eq, ↓jn_eq, ↓c_within, ↓c_isIn, ↓c_isScene, ↓c_isPlace, ↓c_isCue, ↓c_isDigit, ↓d_isScene, ↓d_isAny, ↓ta_pb1, ↓ta_pb0, ↓ta_pb1', ↓ta_pb0', ta_lt, ta_nlt, ta_le, ta_nle, ta_eq, ta_neq, ta_nne, ta_ne, gs_id, a_gd01, a_gdT, or_true, true_or, bd_some, bW_sm, a_gd, a_ne, a_rd, Int.toNat_natCast, Int.toNat_add, Int.toNat_mul, Int.reduceToNat, a_gdp, a_cell, and_self, and_true, true_and, h1, h2]
  · simp (disch := omega) only [↓reduceIte, ↓nm_eq, ↓jn_eq, ↓c_within, ↓c_isIn, ↓c_isScene, ↓c_isPlace, ↓c_isCue, ↓c_isDigit, ↓d_isScene, ↓d_isAny, ↓ta_pb1, ↓ta_pb0, ↓ta_pb1', ↓ta_pb0', ta_lt, ta_nlt, ta_le, ta_nle, ta_eq, ta_neq, ta_nne, ta_ne, gs_id, a_gd01, a_gdT, or_true, true_or, bd_some, bW_sm, a_gd, a_ne, a_rd, Int.toNat_natCast, Int.toNat_add, Int.toNat_mul, Int.reduceToNat, a_gdp, a_cell, and_self, and_true, true_and, h1, h2]
def clR (W8 : g_M) : Option (Int × g_M) := if gs (W8 0 9) = gs 59 then ((m_X9_nextToken W8).bind (fun M27 => some (0, M27))) else (some (1, W8))
def clC (M6 : g_M) : Option (Int × g_M) := g_bW (m_X4_pass 61 M6) (fun x33 M34 => if gs x33 = 0 then (some (0, M34)) else (some (1, M34)))
theorem cl_tail {L s q T : Nat} {N : Int} {b : Nat → Int} {M W : g_M} (hs : SC L b) (hP : PS L b s q T N M W) (Z : Nat) :
    (∃ (M' W' : g_M) (s' q' T' : Nat) (N' : Int), clC M = some (1, M') ∧ clR W = some (0, W') ∧ s < s' ∧ PS L b s' q' T' N' M' W' ∧ (∀ x, x ≠ 23 → M' x = M x) ∧ (∀ j, j ≠ 5 → j ≠ 6 → j ≠ 7 → j ≠ 8 → M' 23 j = M 23 j) ∧ (∀ x, x ≠ 0 → W' x = W x) ∧ ∀ j, j ≠ 7 → j ≠ 8 → j ≠ 9 → j ≠ 10 → j ≠ 11 → W' 0 j = W 0 j) ∨
    (∃ (M' : g_M), clC M = some (0, M') ∧ clR W = some (1, W) ∧ BADk Z 1 M W M' W) := by
  have m7 : M 23 7 = T := hP.2.2.1.2.2.2.2.1
  have t100 := T_100 hP
  by_cases c : T = 61
  · obtain ⟨s1, q1, T1, N1, M1, W1, a1, a2, a3, a4, a5, a6, a7, a8⟩ := nx (M1 := M) (W1 := W) hs hP (by omega) rfl rfl rfl rfl rfl rfl
    have hp : m_X4_pass 61 M = some (1, M1) := c_pass1 (T := 61) (by rw [m7, c]) a1
    refine Or.inl ⟨M1, W1, s1, q1, T1, N1, ?_, ?_, a3, a4, a5, a6, a7, a8⟩
    · unfold clC
      rw [bW_eq hp, if_neg gs1_ne]
    · unfold clR
      rw [W9_eq hP.2.2.2 (k := 61) (by omega) c (c := 59) rfl, if_pos rfl, bd_eq a2]
  · have hp : m_X4_pass 61 M = _ := c_pass0 (w := 61) m7 t100 (by omega) c
    refine Or.inr ⟨_, ?_, ?_, BADk_mk Z hs hP (by omega)⟩
    · unfold clC
      rw [bW_eq hp, if_pos gs0_eq]
    · unfold clR
      rw [if_neg (W9_ne hP.2.2.2 (k := 61) (by omega) c (c := 59) rfl).2]
def CLG (L Z : Nat) (b : Nat → Int) (s n : Nat) (M W M' W' : g_M) : Prop := ∃ (s' q' T' : Nat) (N' : Int) (c' w' O' : Nat), TI L Z b s' q' T' N' c' w' (n + 1) O' M' W' ∧ s < s' ∧ FRk Z M W M' W' ∧ KE M M'
theorem cl_order {L Z s q T c w n O S : Nat} {N : Int} {b : Nat → Int} {M W : g_M} (hZ : Z ≤ 2115) (h : TI L Z b s q T N c w n O M W) (hT : (3 ≤ T ∧ T ≤ 8) ∨ T = 24) (hn : n < 24) (eS : sortI T = (S : Int)) (hS : S < 10) (hS3 : 3 ≤ S) :
    (∃ M' W', m_X4_readClause M = some (1, M') ∧ m_X9_clause W = some (0, W') ∧ CLG L Z b s n M W M' W') ∨ (∃ M' W' e, m_X4_readClause M = some (0, M') ∧ m_X9_clause W = some (e, W') ∧ BADk Z e M W M' W') := by
  have h0 := h
  obtain ⟨hs, hP, ⟨x1, x2, x3, x4⟩, ⟨y1, y2, y3, y4, y5, y6⟩, z1, z2⟩ := h
  have m7 : M 23 7 = T := hP.2.2.1.2.2.2.2.1
  have es := q_sortOf hs hP
  rw [eS] at es
  have cg := cl_go (W1 := W) es hS (fun h => by omega) y1 hZ y6 hn (Or.inr ⟨hS3, rfl⟩)
  have rg := rc_ord m7 hT
  have hbg := c_begin (T := T) x3 hn
  obtain ⟨M1, hM1⟩ : ∃ M1, M1 = g_wr (g_wr (g_wr M 29 n T) 25 6 ((n : Int) + 1)) 25 7 0 := ⟨_, rfl⟩
  rw [← hM1] at hbg
  have m1a : ∀ a, a ≠ 25 → a ≠ 29 → M1 a = M a := fun a h1 h2 => by rw [hM1, a_cell _ h1, a_cell _ h1, a_cell _ h2]
  obtain ⟨W2, hW2⟩ : ∃ W2, W2 = g_wr W 0 14 S := ⟨_, rfl⟩
  have w2a : ∀ a, a ≠ 0 → W2 a = W a := fun a h1 => by rw [hW2, a_cell _ h1]
  have w20 : ∀ j, j ≠ 14 → W2 0 j = W 0 j := fun j hj => by rw [hW2, a_ne _ (by omega)]
  obtain ⟨s1, q1, T1, N1, M2, W3, a1, a2, a3, a4, a5, a6, a7, a8⟩ := nx (M1 := M1) (W1 := W2) hs hP (by omega) (by rw [m1a 23 (by omega) (by omega)]) (by rw [m1a 23 (by omega) (by omega)]) (m1a 24 (by omega) (by omega)) (w20 4 (by omega)) (w20 7 (by omega)) (w2a 4 (by omega))
  obtain ⟨X, hX⟩ : ∃ X, X = Z + 1 + 4 * n := ⟨_, rfl⟩
  obtain ⟨W4, hW4⟩ : ∃ W4, W4 = g_wr W3 3 X S := ⟨_, rfl⟩
  have w4a : ∀ a, a ≠ 3 → W4 a = W3 a := fun a h1 => by rw [hW4, a_cell _ h1]
  have w43 : ∀ y, y ≠ X → W4 3 y = W 3 y := fun y hy => by rw [hW4, a_ne _ (by omega), a7 3 (by omega), w2a 3 (by omega)]
  have w4X : W4 3 X = sortI T := by rw [hW4, wr_at, eS]
  have w12 : W3 0 12 = Z := by rw [a8 12 (by omega) (by omega) (by omega) (by omega) (by omega), w20 12 (by omega)]; exact y1
  have P4 : PS L b s1 q1 T1 N1 M2 W4 := PS_cg a4 (fun _ _ _ _ _ => rfl) rfl (fun j _ => by rw [w4a 0 (by omega)]) (w4a 4 (by omega))
  have K4 : FRk Z M W M2 W4 := ⟨fun a ha => by rw [a5 a (by omega), m1a a (by omega) (by omega)], by rw [a6 2 (by omega) (by omega) (by omega) (by omega), m1a 23 (by omega) (by omega)], fun a b1 b2 b3 => by rw [w4a a b2, a7 a b1, w2a a b1], fun j hj => by rw [w4a 0 (by omega), a8 j (by omega) (by omega) (by omega) (by omega) (by omega), w20 j (by omega)], fun y hy => w43 y (by omega)⟩
  have e6 : M2 25 6 = ((n + 1 : Nat) : Int) := by rw [a5 25 (by omega), hM1, a_ne _ (by omega), wr_at]; omega
  have e7 : M2 25 7 = 0 := by rw [a5 25 (by omega), hM1]; exact wr_at _ _ _ _
  rcases ord_both (X := X) (h := T) hs P4 hT e6 hn e7 (by omega) w4X (Z := Z) (by omega) with ⟨M3, W5, r1, r2, ⟨s2, q2, T2, N2, P5, s12, O5⟩, rcl⟩ | ⟨M3, W5, e, r1, r2, hb⟩
  · rw [eS] at r2
    have rB := rcB_ord x3 hn hbg a1 r1 (Or.inr rfl)
    rw [if_neg (by omega)] at rB
    have w5_3 : ∀ y, y ≤ X → W5 3 y = W4 3 y := fun y hy => O5.2.2.2.2.2.2 y (by omega)
    have w5n : W5 3 Z = n := by rw [w5_3 Z (by omega), w43 Z (by omega)]; exact y6
    have w512 : W5 0 12 = Z := by rw [O5.2.2.2.2.2.1 12 (by omega), w4a 0 (by omega)]; exact w12
    rw [hX, hW4, hX] at r2
    have cB := clB_go (by rw [← hW2]; exact a2) w12 hZ hn r2 (Or.inl ⟨rfl, w512, w5n⟩)
    rw [if_pos rfl] at cB
    obtain ⟨W6, hW6⟩ : ∃ W6, W6 = g_wr W5 3 Z ((n : Int) + 1) := ⟨_, rfl⟩
    rw [← hW6] at cB
    have w6a : ∀ a, a ≠ 3 → W6 a = W5 a := fun a h1 => by rw [hW6, a_cell _ h1]
    have w63 : ∀ y, y ≠ Z → W6 3 y = W5 3 y := fun y hy => by rw [hW6, a_ne _ (by omega)]
    have P6 : PS L b s2 q2 T2 N2 M3 W6 := PS_cg P5 (fun _ _ _ _ _ => rfl) rfl (fun j _ => by rw [w6a 0 (by omega)]) (w6a 4 (by omega))
    have K5 : FRk Z M W M3 W5 := FRk_tr K4 (FRk_o O5 (by omega))
    have K6 : FRk Z M W M3 W6 := FRk_tr K5 ⟨fun _ _ => rfl, rfl, fun a b1 b2 b3 => w6a a b2, fun j hj => by rw [w6a 0 (by omega)], fun y hy => w63 y (by omega)⟩
    rcases cl_tail hs P6 Z with ⟨M4, W7, s3, q3, T3, N3, t1, t2, t3, t4, t5, t6, t7, t8⟩ | ⟨M4, t1, t2, t3⟩
    · refine Or.inl ⟨M4, W7, by rw [rg, rB]; exact t1, by rw [cg, cB]; exact t2, s3, q3, T3, N3, c, w, O, ?_, by omega, FRk_tr K6 ⟨fun a ha => t5 a (by omega), t6 2 (by omega) (by omega) (by omega) (by omega), fun a b1 _ _ => t7 a b1, fun j hj => t8 j (by omega) (by omega) (by omega) (by omega) (by omega), fun y hy => by rw [t7 3 (by omega)]⟩, ?_⟩
      · have k6 : ∀ j, j = 12 ∨ j = 13 ∨ j = 19 → W7 0 j = W 0 j := fun j hj => by rw [t8 j (by omega) (by omega) (by omega) (by omega) (by omega), w6a 0 (by omega), O5.2.2.2.2.2.1 j (by omega), w4a 0 (by omega), a8 j (by omega) (by omega) (by omega) (by omega) (by omega), w20 j (by omega)]
        have k7 : ∀ y, y ≠ Z → (y < X ∨ X + 3 < y) → W7 3 y = W 3 y := fun y h1 h2 => by rw [t7 3 (by omega), w63 y h1, O5.2.2.2.2.2.2 y (by omega), w43 y (by omega)]
        have m3a : ∀ a, a = 26 ∨ a = 27 ∨ a = 28 → M4 a = M a := fun a ha => by rw [t5 a (by omega), O5.1 a (by omega) (by omega) (by omega), a5 a (by omega), m1a a (by omega) (by omega)]
        have m4_25 : ∀ j, j ≠ 7 → M4 25 j = M1 25 j := fun j hj => by rw [t5 25 (by omega), O5.2.2.1 j hj, a5 25 (by omega)]
        have m4_29 : M4 29 = M1 29 := by rw [t5 29 (by omega), O5.1 29 (by omega) (by omega) (by omega), a5 29 (by omega)]
        have hcX : W7 3 X = S := by rw [t7 3 (by omega), w63 X (by omega), w5_3 X (by omega), w4X, eS]
        refine TI_next h0 hn t4 ⟨?_, by omega, by omega, ?_⟩ ⟨by rw [k6 12 (by omega)]; exact y1, by rw [k6 13 (by omega)]; exact y2, by omega, by omega, by rw [k6 19 (by omega)]; exact y4, y5, ?_⟩ (fun k hk => ?_) (fun y hy => ?_) (fun y h1 h2 => k7 y (by omega) (by omega)) ?_ (fun y hy => by rw [m3a 26 (by omega)]) (fun y h1 h2 => k7 y (by omega) (by omega)) (fun l hl => Or.inl ⟨by rw [m3a 27 (by omega)], by rw [m3a 28 (by omega)], by rw [← hX, hcX]; omega, rfl⟩)
        · rw [m4_25 1 (by omega), hM1, a_ne _ (by omega), a_ne _ (by omega), a_cell _ (by omega)]; exact x1
        · rw [m4_25 6 (by omega), hM1, a_ne _ (by omega), wr_at]; omega
        · rw [t7 3 (by omega), hW6, wr_at]; omega
        · rw [m4_29, hM1, a_cell _ (by omega), a_cell _ (by omega), a_ne _ (by omega)]
        · rw [t5 30 (by omega), O5.2.2.2.1 y hy, a5 30 (by omega), m1a 30 (by omega) (by omega)]
        · refine R_clause_cg rcl ?_ (fun j hj => by rw [t5 30 (by omega)]) (fun j hj => ?_)
          · rw [m4_29, hM1, a_cell _ (by omega), a_cell _ (by omega), wr_at]
          · rw [t7 3 (by omega), ← hX, w63 _ (by omega)]
      · refine ⟨?_, ?_⟩
        · rw [t6 3 (by omega) (by omega) (by omega) (by omega), O5.2.1 3 (by omega), a6 3 (by omega) (by omega) (by omega) (by omega), m1a 23 (by omega) (by omega)]
        · rw [t6 4 (by omega) (by omega) (by omega) (by omega), O5.2.1 4 (by omega), a6 4 (by omega) (by omega) (by omega) (by omega), m1a 23 (by omega) (by omega)]
    · exact Or.inr ⟨M4, W6, 1, by rw [rg, rB]; exact t1, by rw [cg, cB]; exact t2, BADk_step K6 t3⟩
  · rw [eS] at r2
    have rB := rcB_ord x3 hn hbg a1 r1 (Or.inl rfl)
    rw [if_pos rfl] at rB
    rw [hX, hW4, hX] at r2
    have he := hb.1
    have cB := clB_go (by rw [← hW2]; exact a2) w12 hZ hn r2 (Or.inr ⟨he.2.2.1, he.2.2.2.1⟩)
    rw [if_neg (by omega)] at cB
    exact Or.inr ⟨M3, W5, e, by rw [rg, rB], by rw [cg, cB], BADk_step K4 hb⟩
theorem cl_law {L Z s q T c w n O : Nat} {N : Int} {b : Nat → Int} {M W : g_M} (hZ : Z ≤ 2115) (h : TI L Z b s q T N c w n O M W) (hT : T < 3) (hn : n < 24) (hh : m_X7_has 25 T M = some 0) (hO : m_X9_has (W 0 19) T = some 0) (hlt : M 28 T ≤ M 27 T) :
    (∃ M' W', m_X4_readClause M = some (1, M') ∧ m_X9_clause W = some (0, W') ∧ CLG L Z b s n M W M' W') ∨ (∃ M' W' e, m_X4_readClause M = some (0, M') ∧ m_X9_clause W = some (e, W') ∧ BADk Z e M W M' W') := by
  have h0 := h
  obtain ⟨hs, hP, ⟨x1, x2, x3, x4⟩, ⟨y1, y2, y3, y4, y5, y6⟩, z1, z2⟩ := h
  have m7 : M 23 7 = T := hP.2.2.1.2.2.2.2.1
  have es := q_sortOf hs hP
  obtain ⟨S, eS, hS, eST, -⟩ := sortI_S (T := T) (by omega)
  obtain rfl : S = T := eST hT
  rw [eS] at es
  obtain ⟨-, O', o1, o2, o3, o4⟩ := once_l y5 hT
  obtain ⟨W1, hW1⟩ : ∃ W1, W1 = g_wr W 0 19 (g_or (W 0 19) (g_shl 1 S)) := ⟨_, rfl⟩
  have cg := cl_go (W1 := W1) es hS (fun _ => hO) y1 hZ y6 hn (Or.inl ⟨hT, hW1⟩)
  rw [y4, o2] at hW1
  have rg := rc_law m7 hT hh
  have hbg := c_begin (T := S) x3 hn
  obtain ⟨M1, hM1⟩ : ∃ M1, M1 = g_wr (g_wr (g_wr M 29 n S) 25 6 ((n : Int) + 1)) 25 7 0 := ⟨_, rfl⟩
  rw [← hM1] at hbg
  have m1a : ∀ a, a ≠ 25 → a ≠ 29 → M1 a = M a := fun a h1 h2 => by rw [hM1, a_cell _ h1, a_cell _ h1, a_cell _ h2]
  obtain ⟨W2, hW2⟩ : ∃ W2, W2 = g_wr W1 0 14 S := ⟨_, rfl⟩
  have w2a : ∀ a, a ≠ 0 → W2 a = W a := fun a h1 => by rw [hW2, a_cell _ h1, hW1, a_cell _ h1]
  have w20 : ∀ j, j ≠ 14 → j ≠ 19 → W2 0 j = W 0 j := fun j hj h2 => by rw [hW2, a_ne _ (by omega), hW1, a_ne _ (by omega)]
  have w219 : W2 0 19 = O' := by rw [hW2, a_ne _ (by omega), hW1, wr_at]
  have w214 : W2 0 14 = S := by rw [hW2, wr_at]
  obtain ⟨s1, q1, T1, N1, M2, W3, a1, a2, a3, a4, a5, a6, a7, a8⟩ := nx (M1 := M1) (W1 := W2) hs hP (by omega) (by rw [m1a 23 (by omega) (by omega)]) (by rw [m1a 23 (by omega) (by omega)]) (m1a 24 (by omega) (by omega)) (w20 4 (by omega) (by omega)) (w20 7 (by omega) (by omega)) (w2a 4 (by omega))
  obtain ⟨X, hX⟩ : ∃ X, X = Z + 1 + 4 * n := ⟨_, rfl⟩
  obtain ⟨W4, hW4⟩ : ∃ W4, W4 = g_wr W3 3 X S := ⟨_, rfl⟩
  obtain ⟨W5, hW5⟩ : ∃ W5, W5 = g_wr W4 3 (X + 1) (W4 0 13) := ⟨_, rfl⟩
  have m2c : M2 25 1 = c := by rw [a5 25 (by omega), hM1, a_ne _ (by omega), a_ne _ (by omega), a_cell _ (by omega)]; exact x1
  obtain ⟨M3, hM3⟩ : ∃ M3, M3 = g_wr (g_wr M2 23 9 S) 27 S (M2 25 1) := ⟨_, rfl⟩
  have m3a : ∀ a, a ≠ 23 → a ≠ 27 → M3 a = M2 a := fun a h1 h2 => by rw [hM3, a_cell _ h2, a_cell _ h1]
  have m323 : ∀ j, j ≠ 9 → M3 23 j = M2 23 j := fun j hj => by rw [hM3, a_cell _ (by omega), a_ne _ (by omega)]
  have w5a : ∀ a, a ≠ 3 → W5 a = W3 a := fun a h1 => by rw [hW5, a_cell _ h1, hW4, a_cell _ h1]
  have w53 : ∀ y, y ≠ X → y ≠ X + 1 → W5 3 y = W 3 y := fun y h1 h2 => by rw [hW5, a_ne _ (by omega), hW4, a_ne _ (by omega), a7 3 (by omega), w2a 3 (by omega)]
  have w413 : W4 0 13 = w := by rw [hW4, a_cell _ (by omega), a8 13 (by omega) (by omega) (by omega) (by omega) (by omega), w20 13 (by omega) (by omega)]; exact y2
  have w5X : W5 3 X = S := by rw [hW5, a_ne _ (by omega), hW4, wr_at]
  have w5X1 : W5 3 (X + 1) = w := by rw [hW5, wr_at, w413]
  have w12 : W3 0 12 = Z := by rw [a8 12 (by omega) (by omega) (by omega) (by omega) (by omega), w20 12 (by omega) (by omega)]; exact y1
  have P5 : PS L b s1 q1 T1 N1 M3 W5 := PS_cg a4 (fun j _ _ _ _ => m323 j (by omega)) (m3a 24 (by omega) (by omega)) (fun j _ => by rw [w5a 0 (by omega)]) (w5a 4 (by omega))
  have K5 : FRk Z M W M3 W5 := ⟨fun a ha => by rw [m3a a (by omega) (by omega), a5 a (by omega), m1a a (by omega) (by omega)], by rw [m323 2 (by omega), a6 2 (by omega) (by omega) (by omega) (by omega), m1a 23 (by omega) (by omega)], fun a b1 b2 b3 => by rw [w5a a b2, a7 a b1, w2a a b1], fun j hj => by rw [w5a 0 (by omega), a8 j (by omega) (by omega) (by omega) (by omega) (by omega), w20 j (by omega) (by omega)], fun y hy => w53 y (by omega) (by omega)⟩
  rcases sum_top (l := S) (c := c) (w := w) hs hZ hT P5 (by rw [m3a 25 (by omega) (by omega)]; exact m2c) (by omega) (by rw [hM3, a_cell _ (by omega)]; exact wr_at _ _ _ _) (by rw [w5a 0 (by omega)]; exact w12) (by rw [w5a 0 (by omega), a8 14 (by omega) (by omega) (by omega) (by omega) (by omega)]; exact w214) (by rw [w5a 0 (by omega), a8 13 (by omega) (by omega) (by omega) (by omega) (by omega), w20 13 (by omega) (by omega)]; exact y2) (by omega) with ⟨M4, W6, s2, q2, T2, N2, c4, w4, r1, r2, P6, ⟨d1, d2, d3, d4, d5, d6, d7⟩, ⟨f1, f2, f3, f4⟩, ke, rs⟩ | ⟨M4, W6, e, r1, r2, r3, f1⟩
  · have m49 : M4 23 9 = S := by rw [f1.2.1 9 (by omega), hM3, a_cell _ (by omega)]; exact wr_at _ _ _ _
    have rB := rcB_law x3 hn hT hbg a1 (by rw [← hM3]; exact r1) m49 (Or.inr rfl)
    rw [if_neg (by omega), d1] at rB
    rw [hW5] at r2
    have bl := body_law (X := X) hT (by omega) r2
    rw [d4] at bl
    obtain ⟨W7, hW7⟩ : ∃ W7, W7 = g_wr W6 3 (X + 2) w4 := ⟨_, rfl⟩
    rw [← hW7] at bl
    have w7a : ∀ a, a ≠ 3 → W7 a = W6 a := fun a h1 => by rw [hW7, a_cell _ h1]
    have w73 : ∀ y, y < Z + 97 + 2 * w → y ≠ X + 2 → W7 3 y = W5 3 y := fun y h1 h2 => by rw [hW7, a_ne _ (by omega), f3 y h1]
    have w7n : W7 3 Z = n := by rw [w73 Z (by omega) (by omega), w53 Z (by omega) (by omega)]; exact y6
    have w712 : W7 0 12 = Z := by rw [w7a 0 (by omega), f1.2.2.2.2.1 12 (by omega), w5a 0 (by omega)]; exact w12
    rw [hW4, hX] at bl
    have cB := clB_go (by rw [← hW2]; exact a2) w12 hZ hn bl (Or.inl ⟨rfl, w712, w7n⟩)
    rw [if_pos rfl] at cB
    obtain ⟨W8, hW8⟩ : ∃ W8, W8 = g_wr W7 3 Z ((n : Int) + 1) := ⟨_, rfl⟩
    rw [← hW8] at cB
    obtain ⟨M6, hM6⟩ : ∃ M6, M6 = g_wr M4 28 S c4 := ⟨_, rfl⟩
    rw [← hM6] at rB
    have m6a : ∀ a, a ≠ 28 → M6 a = M4 a := fun a h1 => by rw [hM6, a_cell _ h1]
    have w8a : ∀ a, a ≠ 3 → W8 a = W6 a := fun a h1 => by rw [hW8, a_cell _ h1, w7a a h1]
    have w83 : ∀ y, y < Z + 97 + 2 * w → y ≠ X + 2 → y ≠ Z → W8 3 y = W5 3 y := fun y h1 h2 h3 => by rw [hW8, a_ne _ (by omega), w73 y h1 h2]
    have w83c : ∀ y, Z + 97 ≤ y → W8 3 y = W6 3 y := fun y h1 => by rw [hW8, a_ne _ (by omega), hW7, a_ne _ (by omega)]
    have P8 : PS L b s2 q2 T2 N2 M6 W8 := PS_cg P6 (fun j _ _ _ _ => by rw [m6a 23 (by omega)]) (m6a 24 (by omega)) (fun j _ => by rw [w8a 0 (by omega)]) (w8a 4 (by omega))
    have K8 : FRk Z M W M6 W8 := FRk_tr (FRk_tr K5 (FRk_f f1)) ⟨fun a ha => m6a a (by omega), by rw [m6a 23 (by omega)], fun a b1 b2 b3 => w8a a b2, fun j hj => by rw [w8a 0 (by omega)], fun y hy => by rw [hW8, a_ne _ (by omega), hW7, a_ne _ (by omega)]⟩
    rcases cl_tail hs P8 Z with ⟨M9, W9, s3, q3, T3, N3, t1, t2, t3, t4, t5, t6, t7, t8⟩ | ⟨M9, t1, t2, t3⟩
    · refine Or.inl ⟨M9, W9, by rw [rg, rB]; exact t1, by rw [cg, cB]; exact t2, s3, q3, T3, N3, c4, w4, O', ?_, by omega, FRk_tr K8 ⟨fun a ha => t5 a (by omega), t6 2 (by omega) (by omega) (by omega) (by omega), fun a b1 _ _ => t7 a b1, fun j hj => t8 j (by omega) (by omega) (by omega) (by omega) (by omega), fun y hy => by rw [t7 3 (by omega)]⟩, ?_⟩
      · have k6 : ∀ j, j = 12 ∨ j = 19 → W9 0 j = W3 0 j := fun j hj => by rw [t8 j (by omega) (by omega) (by omega) (by omega) (by omega), w8a 0 (by omega), f1.2.2.2.2.1 j (by omega), w5a 0 (by omega)]
        have k13 : W9 0 13 = w4 := by rw [t8 13 (by omega) (by omega) (by omega) (by omega) (by omega), w8a 0 (by omega)]; exact d4
        have k7 : ∀ y, y < Z + 97 + 2 * w → y ≠ Z → y ≠ X → y ≠ X + 1 → y ≠ X + 2 → W9 3 y = W 3 y := fun y h1 h2 h3 h4 h5 => by rw [t7 3 (by omega), w83 y h1 h5 h2, w53 y h3 h4]
        have kX : W9 3 X = S := by rw [t7 3 (by omega), w83 X (by omega) (by omega) (by omega)]; exact w5X
        have kX1 : W9 3 (X + 1) = w := by rw [t7 3 (by omega), w83 (X + 1) (by omega) (by omega) (by omega)]; exact w5X1
        have kX2 : W9 3 (X + 2) = w4 := by rw [t7 3 (by omega), hW8, a_ne _ (by omega), hW7, wr_at]
        have m9a : ∀ a, a ≠ 23 → a ≠ 25 → a ≠ 26 → a ≠ 28 → M9 a = M3 a := fun a h1 h2 h3 h4 => by rw [t5 a h1, m6a a h4, f1.1 a h1 h2 h3]
        have m925 : ∀ j, j ≠ 1 → M9 25 j = M3 25 j := fun j hj => by rw [t5 25 (by omega), m6a 25 (by omega), f1.2.2.1 j hj]
        have m928 : ∀ y, y ≠ S → M9 28 y = M 28 y := fun y hy => by rw [t5 28 (by omega), hM6, a_ne _ (by omega), f1.1 28 (by omega) (by omega) (by omega), m3a 28 (by omega) (by omega), a5 28 (by omega), m1a 28 (by omega) (by omega)]
        have m928S : M9 28 S = c4 := by rw [t5 28 (by omega), hM6, wr_at]
        have m927 : ∀ y, y ≠ S → M9 27 y = M 27 y := fun y hy => by rw [m9a 27 (by omega) (by omega) (by omega) (by omega), hM3, a_ne _ (by omega), a_cell _ (by omega), a5 27 (by omega), m1a 27 (by omega) (by omega)]
        have m927S : M9 27 S = c := by rw [m9a 27 (by omega) (by omega) (by omega) (by omega), hM3, wr_at, m2c]
        have m926 : M9 26 = M4 26 := by rw [t5 26 (by omega), m6a 26 (by omega)]
        have m929 : M9 29 = M1 29 := by rw [m9a 29 (by omega) (by omega) (by omega) (by omega), m3a 29 (by omega) (by omega), a5 29 (by omega)]
        refine TI_next h0 hn t4 ⟨?_, by omega, by omega, ?_⟩ ⟨by rw [k6 12 (by omega)]; exact w12, k13, by omega, by omega, ?_, o1, ?_⟩ (fun k hk => ?_) (fun y hy => ?_) (fun y h1 h2 => k7 y (by omega) (by omega) (by omega) (by omega) (by omega)) ⟨S, S, ?_, ?_, Or.inl ⟨hT, rfl⟩⟩ (fun y hy => ?_) (fun y h1 h2 => k7 y (by omega) (by omega) (by omega) (by omega) (by omega)) (fun l hl => ?_)
        · rw [t5 25 (by omega), m6a 25 (by omega)]; exact d1
        · rw [m925 6 (by omega), m3a 25 (by omega) (by omega), a5 25 (by omega), hM1, a_ne _ (by omega), wr_at]; omega
        · rw [k6 19 (by omega), a8 19 (by omega) (by omega) (by omega) (by omega) (by omega)]; exact w219
        · rw [t7 3 (by omega), hW8, wr_at]; omega
        · rw [m929, hM1, a_cell _ (by omega), a_cell _ (by omega), a_ne _ (by omega)]
        · rw [m9a 30 (by omega) (by omega) (by omega) (by omega), m3a 30 (by omega) (by omega), a5 30 (by omega), m1a 30 (by omega) (by omega)]
        · rw [m929, hM1, a_cell _ (by omega), a_cell _ (by omega), wr_at]
        · show W9 3 (Z + 1 + 4 * n + 0) = S
          rw [Nat.add_zero, ← hX]; exact kX
        · rw [m926, f2 y hy, m3a 26 (by omega) (by omega), a5 26 (by omega), m1a 26 (by omega) (by omega)]
        · by_cases cl : l = S
          · subst cl
            refine Or.inr ⟨hlt, by rw [← hX]; exact kX, ⟨c, c4, w, w4, m927S, m928S, by omega, by rw [← hX]; exact kX1, by rw [← hX]; exact kX2, by omega, RS_cg rs (fun y y1 y2 => by rw [m926]) (fun y y1 y2 => ?_)⟩, o3⟩
            show W9 3 (Z + 97 + y) = W6 3 (Z + 97 + y)
            rw [t7 3 (by omega), w83c _ (by omega)]
          · exact Or.inl ⟨m927 l cl, m928 l cl, by rw [← hX, kX]; omega, o4 l hl cl⟩
      · refine ⟨?_, ?_⟩
        · rw [t6 3 (by omega) (by omega) (by omega) (by omega), m6a 23 (by omega), ke.1, m323 3 (by omega), a6 3 (by omega) (by omega) (by omega) (by omega), m1a 23 (by omega) (by omega)]
        · rw [t6 4 (by omega) (by omega) (by omega) (by omega), m6a 23 (by omega), ke.2, m323 4 (by omega), a6 4 (by omega) (by omega) (by omega) (by omega), m1a 23 (by omega) (by omega)]
    · exact Or.inr ⟨M9, W8, 1, by rw [rg, rB]; exact t1, by rw [cg, cB]; exact t2, BADk_step K8 t3⟩
  · have m49 : M4 23 9 = S := by rw [f1.2.1 9 (by omega), hM3, a_cell _ (by omega)]; exact wr_at _ _ _ _
    have rB := rcB_law x3 hn hT hbg a1 (by rw [← hM3]; exact r1) m49 (Or.inl rfl)
    rw [if_pos rfl] at rB
    rw [hW5] at r2
    have bl := body_law (X := X) hT (by omega) r2
    rw [hW4, hX] at bl
    have cB := clB_go (by rw [← hW2]; exact a2) w12 hZ hn bl (Or.inr ⟨r3.2.2.1, r3.2.2.2.1⟩)
    rw [if_neg (by omega)] at cB
    refine Or.inr ⟨_, _, e, by rw [rg, rB], by rw [cg, cB], ⟨?_, ?_, r3.2.2.1, r3.2.2.2.1, ?_, ?_⟩, FRk_tr (FRk_tr K5 (FRk_f f1)) ⟨fun a ha => a_cell _ (by omega), a_ne _ (by omega), fun a b1 b2 b3 => a_cell _ b2, fun j hj => a_ne _ (by omega), fun y hy => a_ne _ (by omega)⟩⟩
    · rw [a_cell _ (by omega)]; exact r3.1
    · rw [a_cell _ (by omega), a_cell _ (by omega)]; exact r3.2.1
    · rw [a_cell _ (by omega)]; exact r3.2.2.2.2.1
    · rw [a_cell _ (by omega)]; exact r3.2.2.2.2.2
theorem cl_both {L Z s q T c w n O : Nat} {N : Int} {b : Nat → Int} {M W : g_M} (hZ : Z ≤ 2115) (h : TI L Z b s q T N c w n O M W) :
    (∃ M' W', m_X4_readClause M = some (1, M') ∧ m_X9_clause W = some (0, W') ∧ CLG L Z b s n M W M' W') ∨ (∃ M' W' e, m_X4_readClause M = some (0, M') ∧ m_X9_clause W = some (e, W') ∧ BADk Z e M W M' W') := by
  have h0 := h
  obtain ⟨hs, hP, ⟨x1, x2, x3, x4⟩, ⟨y1, y2, y3, y4, y5, y6⟩, z1, z2⟩ := h
  have m7 : M 23 7 = T := hP.2.2.1.2.2.2.2.1
  have t100 := T_100 hP
  have es := q_sortOf hs hP
  have s300 := PS_300 hs hP
  by_cases cH : T ≤ 8 ∨ T = 24
  rotate_left
  · rw [sortI_no cH] at es
    exact Or.inr ⟨_, W, 1, rc_no m7 t100 cH, cl_no es, BADk_mk Z hs hP (by omega)⟩
  obtain ⟨S, eS, hS, eST, eS3⟩ := sortI_S cH
  rw [eS] at es
  by_cases cT : T < 3
  · obtain rfl : S = T := eST cT
    obtain ⟨g1, g2⟩ := z2 S cT
    have o0 := (once_l y5 cT).1
    rw [← y4] at o0
    obtain ⟨i, j, e1, e2, hi, hj⟩ : ∃ i j : Nat, M 27 S = i ∧ M 28 S = j ∧ i ≤ 400 ∧ j ≤ 400 := by
      rcases g1 with ⟨e1, e2, e3⟩ | ⟨k, i, j, i', j', e1, e2, e3, e4, e5, e6, e7, e8, e9, e10⟩
      · exact ⟨0, 0, e1, e2, by omega, by omega⟩
      · have := e10.1
        exact ⟨i, j, e4, e5, by omega, by omega⟩
    have ch := c_has cT e1 e2 hi hj
    by_cases cB : i < j
    · have o1 : O / 2 ^ S % 2 = 1 := g2.2 (by rw [e1, e2]; omega)
      rw [o1] at o0
      exact Or.inr ⟨_, W, 4, rc_has m7 cT (ch.1 cB), cl_4 es cT o0, BADk_mk Z hs hP (by omega)⟩
    · have o1 : O / 2 ^ S % 2 = 0 := by
        have o2 : O / 2 ^ S % 2 ≠ 1 := fun z => cB (by have := g2.1 z; rw [e1, e2] at this; omega)
        have : O / 2 ^ S % 2 < 2 := Nat.mod_lt _ (by omega)
        omega
      rw [o1] at o0
      by_cases cn : n = 24
      · rw [cn] at x3 y6
        exact Or.inr ⟨_, W, 6, by rw [rc_law m7 cT (ch.2 cB)]; exact rcB_6 x3, cl_6 es hS (fun _ => o0) y1 hZ y6, BADk_mk Z hs hP (by omega)⟩
      · exact cl_law hZ h0 cT (by omega) (ch.2 cB) o0 (by rw [e1, e2]; omega)
  · have hT : (3 ≤ T ∧ T ≤ 8) ∨ T = 24 := by omega
    by_cases cn : n = 24
    · rw [cn] at x3 y6
      exact Or.inr ⟨_, W, 6, by rw [rc_ord m7 hT]; exact rcB_6 x3, cl_6 es hS (fun h => by have := eS3 (by omega); omega) y1 hZ y6, BADk_mk Z hs hP (by omega)⟩
    · exact cl_order hZ h0 hT (by omega) eS hS (eS3 (by omega))
