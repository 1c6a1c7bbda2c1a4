/-! a text is read: both -/
theorem read_all {L Z : Nat} {b : Nat → Int} (hZ : Z ≤ 2115) {k21 : Int → g_M → Option (Int × g_M)} : ∀ (D f g s q T : Nat) (N : Int) (c w n O : Nat) (M W : g_M), 25 ≤ n + D → D < f → D < g → TI L Z b s q T N c w n O M W → (∃ (M' W' : g_M) (s' q' : Nat) (N' : Int) (c' w' n' O' : Nat), m_X4_read_L30 k21 f 1 n M = k21 1 M' ∧ m_X9_readText_L43 g W = some (0, W') ∧ TI L Z b s' q' 41 N' c' w' n' O' M' W' ∧ FRk Z M W M' W' ∧ KE M M') ∨ (∃ (M' W' : g_M) (e : Int), m_X4_read_L30 k21 f 1 n M = k21 0 M' ∧ m_X9_readText_L43 g W = some (e, W') ∧ BADk Z e M W M' W') := by
  intro D
  induction D with
  | zero =>
    intro f g s q T N c w n O M W h1 h2 h3 h
    have := h.2.2.1.2.2.2
    omega
  | succ D ih =>
    intro f g s q T N c w n O M W h1 h2 h3 h
    obtain ⟨f, rfl⟩ : ∃ f', f = f' + 1 := ⟨f - 1, by omega⟩
    obtain ⟨g, rfl⟩ : ∃ g', g = g' + 1 := ⟨g - 1, by omega⟩
    have m7 : M 23 7 = T := h.2.1.2.2.1.2.2.2.2.1
    have t100 := T_100 h.2.1
    have nine := TW_9 h.2.1.2.2.2
    have n24 := h.2.2.1.2.2.2
    rw [m_X4_read_L30, m_X9_readText_L43, m7, if_neg (by rw [gs_id (by omega) (by omega), gs_id (by omega) (by omega)]; omega), if_neg gs1_ne]
    by_cases c41 : T = 41
    · subst c41
      have e41 : gs ((41 : Nat) : Int) = gs 41 := rfl
      rw [if_pos e41, nine.2.1.2 rfl, if_pos gs0_eq]
      exact Or.inl ⟨M, W, s, q, N, c, w, n, O, rfl, rfl, h, ⟨fun _ _ => rfl, rfl, fun _ _ _ _ => rfl, fun _ _ => rfl, fun _ _ => rfl⟩, rfl, rfl⟩
    · have e9 : ¬ gs (W 0 9) = 0 := by
        have z : W 0 9 ≠ 0 := fun z => c41 (nine.2.1.1 z)
        rw [gs_id (by omega) (by omega)]
        exact z
      rw [if_neg (by rw [gs_id (by omega) (by omega), gs_id (by omega) (by omega)]; omega), if_neg e9]
      rcases cl_both hZ h with ⟨M1, W1, r1, r2, s1, q1, T1, N1, c1, w1, O1, h', s12, K1, ke⟩ | ⟨M1, W1, e, r1, r2, hb⟩
      · rw [bW_eq r1, nm_eq, nm_eq, bW_eq r2, nm_eq, if_pos gs0_eq]
        have en : ((n : Int) + 1) = ((n + 1 : Nat) : Int) := by omega
        rw [en]
        rcases ih f g s1 q1 T1 N1 c1 w1 (n + 1) O1 M1 W1 (by omega) (by omega) (by omega) h' with ⟨M', W', s', q', N', c', w', n', O', a1, a2, a3, a4, a5⟩ | ⟨M', W', e, a1, a2, a3⟩
        · exact Or.inl ⟨M', W', s', q', N', c', w', n', O', a1, a2, a3, FRk_tr K1 a4, KE_tr ke a5⟩
        · exact Or.inr ⟨M', W', e, a1, a2, BADk_step K1 a3⟩
      · have he : ¬ gs e = 0 := by
          have := hb.1
          rw [gs_id (by omega) (by omega)]
          omega
        rw [bW_eq r1, nm_eq, nm_eq, bW_eq r2, nm_eq, if_neg he]
        obtain ⟨f, rfl⟩ : ∃ f', f = f' + 1 := ⟨f - 1, by omega⟩
        refine Or.inr ⟨M1, W1, e, ?_, rfl, hb⟩
        rw [m_X4_read_L30]
        by_cases c25 : gs 24 < gs ((n : Int) + 1)
        · rw [if_pos c25]
        · rw [if_neg c25, if_pos gs0_eq]
theorem em_st {i f : Nat} {M : g_M} (hi : i < 3) : m_X7_empty_L12 25 (f + 1) i M = m_X7_empty_L12 25 f ((i + 1 : Nat) : Int) (g_wr (g_wr M 27 i 0) 28 i 0) := by
  rw [m_X7_empty_L12]
  simp (disch := omega) only [↓reduceIte, ↓nm_eq, ↓jn_eq, ↓c_within, ↓c_isIn, ↓c_isScene, ↓c_isPlace, ↓c_isCue, ↓c_isDigit, ↓d_isScene, ↓d_isAny, ↓ta_pb1, ↓ta_pb0, ↓ta_pb1', ↓ta_pb0', ta_lt, ta_nlt, ta_le, ta_nle, ta_eq, ta_neq, ta_nne, ta_ne, gs_id, a_gd01, a_gdT, or_true, true_or, bd_some, bW_sm, a_gd, a_ne, a_rd, Int.toNat_natCast, Int.toNat_add, Int.toNat_mul, Int.reduceToNat, a_gdp, a_cell, and_self, and_true, true_and]
  rfl
theorem em_end {f : Nat} {M : g_M} : m_X7_empty_L12 25 (f + 1) ((3 : Nat) : Int) M = some M := by
  rw [m_X7_empty_L12]
  exact if_pos (Int.le_refl _)
theorem c_empty (M : g_M) : ∃ M', m_X7_empty 25 M = some M' ∧ (∀ a, a ≠ 25 → a ≠ 27 → a ≠ 28 → M' a = M a) ∧ M' 25 1 = 0 ∧ M' 25 6 = 0 ∧ ∀ y, y < 3 → M' 27 y = 0 ∧ M' 28 y = 0 := by
  obtain ⟨g, hg⟩ : ∃ g, g_fuel = g + 1 + 1 + 1 + 1 := ⟨g_fuel - 4, by unfold g_fuel; omega⟩
  have e0 : (0 : Int) = ((0 : Nat) : Int) := rfl
  refine ⟨g_wr (g_wr (g_wr (g_wr (g_wr (g_wr (g_wr (g_wr M 25 1 0) 25 6 0) 27 0 0) 28 0 0) 27 1 0) 28 1 0) 27 2 0) 28 2 0, ?_, fun a h1 h2 h3 => ?_, ?_, ?_, fun y hy => ?_⟩
  · unfold m_X7_empty
    rw [nm_eq, nm_eq, nm_eq, hg]
    have a1 := em_st (i := 0) (f := g + 1 + 1 + 1) (M := g_wr (g_wr M 25 1 0) 25 6 0) (by omega)
    have a2 := em_st (i := 1) (f := g + 1 + 1) (M := g_wr (g_wr (g_wr (g_wr M 25 1 0) 25 6 0) 27 0 0) 28 0 0) (by omega)
    have a3 := em_st (i := 2) (f := g + 1) (M := g_wr (g_wr (g_wr (g_wr (g_wr (g_wr M 25 1 0) 25 6 0) 27 0 0) 28 0 0) 27 1 0) 28 1 0) (by omega)
    exact a1.trans (a2.trans (a3.trans em_end))
  · rw [a_cell _ h3, a_cell _ h2, a_cell _ h3, a_cell _ h2, a_cell _ h3, a_cell _ h2, a_cell _ h1, a_cell _ h1]
  · rw [a_cell _ (by omega), a_cell _ (by omega), a_cell _ (by omega), a_cell _ (by omega), a_cell _ (by omega), a_cell _ (by omega), a_ne _ (by omega), wr_at]
  · rw [a_cell _ (by omega), a_cell _ (by omega), a_cell _ (by omega), a_cell _ (by omega), a_cell _ (by omega), a_cell _ (by omega), wr_at]
  · have a : y = 0 ∨ y = 1 ∨ y = 2 := by omega
    rcases a with a | a | a
    · subst a
      exact ⟨by rw [a_cell _ (by omega), a_ne _ (by omega), a_cell _ (by omega), a_ne _ (by omega), a_cell _ (by omega), wr_at], by rw [a_ne _ (by omega), a_cell _ (by omega), a_ne _ (by omega), a_cell _ (by omega), wr_at]⟩
    · subst a
      exact ⟨by rw [a_cell _ (by omega), a_ne _ (by omega), a_cell _ (by omega), wr_at], by rw [a_ne _ (by omega), a_cell _ (by omega), wr_at]⟩
    · subst a
      exact ⟨by rw [a_cell _ (by omega), wr_at], by rw [wr_at]⟩
/-- what is left as it was by the whole reading -/
theorem text_read {L t : Nat} {b : Nat → Int} {M W : g_M} (ht : t < 4) (hs : SC L b) (h2 : M 23 2 = L) (h4 : W 0 4 = L) (hb : ∀ i, i < L → M 24 i = b i ∧ W 4 i = b i) (h1 : W 1 1 = t) :
    (∃ (M' W' : g_M) (s' q' : Nat) (N' : Int) (c' w' n' O' : Nat), m_X4_read M = some (1, g_wr M' 23 2 0) ∧ m_X9_readText W = some (0, W') ∧ TI L (705 * t) b s' q' 41 N' c' w' n' O' M' W' ∧ FRk (705 * t) M W M' W' ∧ M' 23 3 = 0 ∧ M' 23 4 = -1) ∨
    (∃ (M' W' : g_M) (e : Int), m_X4_read M = some (0, g_wr M' 23 2 0) ∧ m_X9_readText W = some (e, W') ∧ BADk (705 * t) e M W M' W') := by
  obtain ⟨Z, hZ⟩ : ∃ Z, Z = 705 * t := ⟨_, rfl⟩
  have eZ : 705 * (t : Int) = (Z : Int) := by omega
  have eZn : (gs (Z : Int)).toNat = Z := by rw [gs_id (by omega) (by omega)]; omega
  rw [← hZ]
  obtain ⟨M1, e1, m1, m2, m3, m4⟩ := c_empty M
  obtain ⟨M2, hM2⟩ : ∃ M2, M2 = g_wr (g_wr (g_wr M1 23 3 0) 23 4 (-1)) 23 5 0 := ⟨_, rfl⟩
  have m2a : ∀ a, a ≠ 23 → M2 a = M1 a := fun a h => by rw [hM2, a_cell _ h, a_cell _ h, a_cell _ h]
  have m22 : M2 23 2 = L := by rw [hM2, a_ne _ (by omega), a_ne _ (by omega), a_ne _ (by omega), m1 23 (by omega) (by omega) (by omega)]; exact h2
  have m23 : M2 23 3 = 0 := by rw [hM2, a_ne _ (by omega), a_ne _ (by omega), wr_at]
  have m24 : M2 23 4 = -1 := by rw [hM2, a_ne _ (by omega), wr_at]
  have m25 : M2 23 5 = ((0 : Nat) : Int) := by rw [hM2, wr_at]; rfl
  obtain ⟨W2, hW2⟩ : ∃ W2, W2 = g_wr (g_wr (g_wr (g_wr (g_wr W 0 12 (Z : Int)) 3 Z 0) 0 13 0) 0 19 0) 0 7 0 := ⟨_, rfl⟩
  have w2a : ∀ a, a ≠ 0 → a ≠ 3 → W2 a = W a := fun a h h' => by rw [hW2, a_cell _ h, a_cell _ h, a_cell _ h, a_cell _ h', a_cell _ h]
  have w20 : ∀ j, j ≠ 7 → j ≠ 12 → j ≠ 13 → j ≠ 19 → W2 0 j = W 0 j := fun j j1 j2 j3 j4 => by rw [hW2, a_ne _ (by omega), a_ne _ (by omega), a_ne _ (by omega), a_cell _ (by omega), a_ne _ (by omega)]
  have w212 : W2 0 12 = Z := by rw [hW2, a_ne _ (by omega), a_ne _ (by omega), a_ne _ (by omega), a_cell _ (by omega), wr_at]
  have w213 : W2 0 13 = 0 := by rw [hW2, a_ne _ (by omega), a_ne _ (by omega), wr_at]
  have w219 : W2 0 19 = 0 := by rw [hW2, a_ne _ (by omega), wr_at]
  have w27 : W2 0 7 = ((0 : Nat) : Int) := by rw [hW2, wr_at]; rfl
  have w23 : ∀ y, y ≠ Z → W2 3 y = W 3 y := fun y hy => by rw [hW2, a_cell _ (by omega), a_cell _ (by omega), a_cell _ (by omega), a_ne _ (by omega), a_cell _ (by omega)]
  have w2Z : W2 3 Z = 0 := by rw [hW2, a_cell _ (by omega), a_cell _ (by omega), a_cell _ (by omega), wr_at]
  obtain ⟨s, q, T, N, M3, W3, a1, a2, -, hP, a5, a6, a7, a8⟩ := both_next (M := M2) (W := W2) (a := 0) hs.1 hs.2 (by omega) m22 (by rw [w20 4 (by omega) (by omega) (by omega) (by omega)]; exact h4) (fun i hi => by rw [m2a 24 (by omega), m1 24 (by omega) (by omega) (by omega), w2a 4 (by omega) (by omega)]; exact hb i hi) m25 w27
  have hT0 : TI L Z b s q T N 0 0 0 0 M3 W3 := by
    refine ⟨hs, hP, ⟨by rw [a5 25 (by omega), m2a 25 (by omega)]; exact m2, by omega, by rw [a5 25 (by omega), m2a 25 (by omega)]; exact m3, by omega⟩, ⟨by rw [a8 12 (by omega) (by omega) (by omega) (by omega) (by omega)]; exact w212, by rw [a8 13 (by omega) (by omega) (by omega) (by omega) (by omega)]; exact w213, by omega, by rw [a8 19 (by omega) (by omega) (by omega) (by omega) (by omega)]; exact w219, by omega, by rw [a7 3 (by omega)]; exact w2Z⟩, fun k hk => by omega, fun l hl => ?_⟩
    obtain ⟨l1, l2⟩ := m4 l hl
    have z1 : M3 27 l = 0 := by rw [a5 27 (by omega), m2a 27 (by omega)]; exact l1
    have z2 : M3 28 l = 0 := by rw [a5 28 (by omega), m2a 28 (by omega)]; exact l2
    refine ⟨Or.inl ⟨z1, z2, fun k hk => by omega⟩, ?_⟩
    rw [z1, z2]
    refine ⟨fun h => ?_, fun h => by omega⟩
    rw [Nat.zero_div] at h
    omega
  have K0 : FRk Z M W M3 W3 := ⟨fun a ha => by rw [a5 a (by omega), m2a a (by omega), m1 a (by omega) (by omega) (by omega)], by rw [a6 2 (by omega) (by omega) (by omega) (by omega), m22, h2], fun a b1 b2 b3 => by rw [a7 a b1, w2a a b1 b2], fun j hj => by rw [a8 j (by omega) (by omega) (by omega) (by omega) (by omega), w20 j (by omega) (by omega) (by omega) (by omega)], fun y hy => by rw [a7 3 (by omega), w23 y (by omega)]⟩
  have hx : ∀ (x : Int) (V : g_M), (x = 0 ∨ x = 1) → g_nm (g_wr V 23 2 0) (fun M30 => g_gd (x = 0 ∨ x = 1) (some (x, M30))) = some (x, g_wr V 23 2 0) := fun x V h => by rw [nm_eq, a_gdp h]
  have eR : m_X4_read M = m_X4_read_L30 (fun (x28 : Int) (M29 : g_M) => g_nm (g_wr M29 23 2 0) (fun M30 => g_gd (x28 = 0 ∨ x28 = 1) (some (x28, M30)))) g_fuel 1 0 M3 := by
    unfold m_X4_read
    rw [bd_eq e1, nm_eq, nm_eq, nm_eq, ← hM2, bd_eq a1, nm_eq, nm_eq]
  have g11 : (gs 1).toNat = 1 := by rw [gs_id (by omega) (by omega)]; rfl
  have i12 : g_wr W 0 12 (Z : Int) 0 12 = Z := wr_at _ _ _ _
  have eT : m_X9_readText W = m_X9_readText_L43 g_fuel W3 := by
    unfold m_X9_readText
    rw [a_gd (by omega) (by omega) (by omega), g11, h1, eZ, nm_eq, i12, a_gd (by omega) (by omega) (by omega), nm_eq, eZn, nm_eq, nm_eq, nm_eq, ← hW2, bd_eq a2]
  rw [eR, eT]
  rcases read_all (L := L) (by omega) (k21 := fun (x28 : Int) (M29 : g_M) => g_nm (g_wr M29 23 2 0) (fun M30 => g_gd (x28 = 0 ∨ x28 = 1) (some (x28, M30)))) 25 g_fuel g_fuel s q T N 0 0 0 0 M3 W3 (by omega) (by unfold g_fuel; omega) (by unfold g_fuel; omega) hT0 with ⟨M', W', s', q', N', c', w', n', O', r1, r2, r3, r4, r5⟩ | ⟨M', W', e, r1, r2, r3⟩
  · refine Or.inl ⟨M', W', s', q', N', c', w', n', O', r1.trans (hx 1 M' (Or.inr rfl)), r2, r3, FRk_tr K0 r4, ?_, ?_⟩
    · rw [r5.1, a6 3 (by omega) (by omega) (by omega) (by omega)]; exact m23
    · rw [r5.2, a6 4 (by omega) (by omega) (by omega) (by omega)]; exact m24
  · exact Or.inr ⟨M', W', e, r1.trans (hx 0 M' (Or.inl rfl)), r2, BADk_step K0 r3⟩
