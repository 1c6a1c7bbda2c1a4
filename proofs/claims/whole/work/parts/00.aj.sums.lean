/-! PRODUCT, SUM, ASK, BOTH, EITHER: both -/
def NAc (T n : Nat) (W : g_M) : Prop := T = 18 → NAtop n W
def TopLt (r : Int) (n : Nat) (W : g_M) : Prop := ∀ y, y + 1 = n → rk (W 5 y) < r
def OA (mm n : Nat) (W : g_M) : Prop := mm < n ∧ W 5 mm = 41 ∧ ∀ y, mm < y → y < n → W 5 y < 40
def CMP (n top : Nat) (W : g_M) : Prop := ∃ z, n ≤ z ∧ z < top ∧ rk (W 5 z) = 4 ∧ ∀ y, z < y → y < top → 4 < rk (W 5 y)
def tP (T : Nat) : Prop := 56 ≤ T ∧ T ≤ 58
def tS (T : Nat) : Prop := 54 ≤ T ∧ T ≤ 55
def TT0 (_ _ : Nat) (_ : g_M) (_ : Nat) : Prop := True
def TTp (n T : Nat) (V : g_M) (top : Nat) : Prop := TT0 n T V top ∧ ¬ tP T
def TTs (n T : Nat) (V : g_M) (top : Nat) : Prop := TTp n T V top ∧ ¬ tS T
def TTa (n T : Nat) (V : g_M) (top : Nat) : Prop := ¬ (54 ≤ T ∧ T ≤ 58) ∧ CMP n top V
def TTb (n T : Nat) (V : g_M) (top : Nat) : Prop := TTa n T V top ∧ ¬ T = 19
def TTe (n T : Nat) (V : g_M) (top : Nat) : Prop := TTb n T V top ∧ ¬ T = 20
def GONE (L Z l : Nat) (b : Nat → Int) (s c w n u d : Nat) (M W : g_M) (r : Option (Int × g_M)) : Prop := ∃ (M' W' : g_M) (m s' q' T' : Nat) (N' : Int) (c' w' : Nat), r = some (1, M') ∧ (∀ f, m_X9_summed_L15 KS (f + m) W = m_X9_summed_L15 KS f W') ∧ SX L Z l b s' q' T' N' c' (w' + u) n d 1 M' W' ∧ (m + s ≤ s' ∧ c < c' ∧ c' + s ≤ c + s' ∧ w ≤ w') ∧ FR Z n c w M W M' W' ∧ KE M M' ∧ RS l (M' 26) c c' (fun y => W' 3 (Z + 97 + y)) w w' ∧ ∀ i, i < u → W' 3 (Z + 97 + 2 * (w' + i)) = W 5 (n + u - 1 - i)
def COne (G : Nat) (R : Int → g_M → Option (Int × g_M)) : Prop := ∀ (L Z l : Nat) (b : Nat → Int) (s q T : Nat) (N : Int) (c w n u d : Nat) (M W : g_M), G ≤ d + u → SX L Z l b s q T N c w (n + u) (d + u) 0 M W → n ≤ 6 * d + 5 → (∀ y, n ≤ y → y < n + u → rk (W 5 y) = 7) → TopLt 7 n W → NAc T (n + u) W → GONE L Z l b s c w n u d M W (R ((d + u : Nat) : Int) M) ∨ BAD Z s M W (R ((d + u : Nat) : Int) M)
def CPro (G : Nat) (R : Int → g_M → Option (Int × g_M)) : Prop := ∀ (L Z l : Nat) (b : Nat → Int) (s q T : Nat) (N : Int) (c w n d : Nat) (M W : g_M), G ≤ d → SX L Z l b s q T N c w n d 0 M W → n ≤ 6 * d + 4 → TopLt 6 n W → NAc T n W → GOOD L Z l b (RS l) 6 TTp s c w n d M W (R d M) ∨ BAD Z s M W (R d M)
def CSum (G : Nat) (R : Int → g_M → Option (Int × g_M)) : Prop := ∀ (L Z l : Nat) (b : Nat → Int) (s q T : Nat) (N : Int) (c w n d : Nat) (M W : g_M), G ≤ d → SX L Z l b s q T N c w n d 0 M W → n ≤ 6 * d + 3 → TopLt 5 n W → NAc T n W → GOOD L Z l b (RS l) 5 TTs s c w n d M W (R d M) ∨ BAD Z s M W (R d M)
def CAsk (G : Nat) (R : Int → g_M → Option (Int × g_M)) : Prop := ∀ (L Z l : Nat) (b : Nat → Int) (s q T : Nat) (N : Int) (c w n d mm : Nat) (M W : g_M), G ≤ d → SX L Z l b s q T N c w n d 0 M W → n ≤ 6 * d + 2 → TopLt 4 n W → OA mm n W → GOOD L Z l b (RA l) 3 TTa s c w n d M W (R d M) ∨ BAD Z s M W (R d M)
def CNot (G : Nat) (R : Int → g_M → Option (Int × g_M)) : Prop := ∀ (L Z l : Nat) (b : Nat → Int) (s q T : Nat) (N : Int) (c w n d mm : Nat) (M W : g_M), T = 18 → G ≤ d → SX L Z l b s q T N c w n d 0 M W → n ≤ 6 * d + 2 → TopLt 4 n W → OA mm n W → GOOD L Z l b (RA l) 3 TTa s c w n d M W (R d M) ∨ BAD Z s M W (R d M)
def CBoth (G : Nat) (R : Int → g_M → Option (Int × g_M)) : Prop := ∀ (L Z l : Nat) (b : Nat → Int) (s q T : Nat) (N : Int) (c w n d mm : Nat) (M W : g_M), G ≤ d → SX L Z l b s q T N c w n d 0 M W → n ≤ 6 * d + 1 → TopLt 2 n W → OA mm n W → GOOD L Z l b (RA l) 2 TTb s c w n d M W (R d M) ∨ BAD Z s M W (R d M)
def CEith (G : Nat) (R : Int → g_M → Option (Int × g_M)) : Prop := ∀ (L Z l : Nat) (b : Nat → Int) (s q T : Nat) (N : Int) (c w n d mm : Nat) (M W : g_M), G ≤ d → SX L Z l b s q T N c w n d 0 M W → n ≤ 6 * d → TopLt 1 n W → OA mm n W → GOOD L Z l b (RA l) 1 TTe s c w n d M W (R d M) ∨ BAD Z s M W (R d M)
theorem rk_ari (j : Nat) (hj : j < 5) : rk ((5 + j : Nat) : Int) = (if j < 2 then 5 else 6) ∧ dc ((5 + j : Nat) : Int) = 0 := by
  have a : j = 0 ∨ j = 1 ∨ j = 2 ∨ j = 3 ∨ j = 4 := by omega
  rcases a with a | a | a | a | a <;> (subst a; exact ⟨rfl, rfl⟩)
theorem one_pro {G : Nat} {R : Int → g_M → Option (Int × g_M)} (h : COne G R) {L Z l : Nat} {b : Nat → Int} {s q T : Nat} {N : Int} {c w n d : Nat} {M W : g_M} (hD : G ≤ d) (hX : SX L Z l b s q T N c w n d 0 M W) (hn : n ≤ 6 * d + 5) (ht : TopLt 7 n W) (hna : NAc T n W) : GOOD L Z l b (RS l) 6 TT0 s c w n d M W (R d M) ∨ BAD Z s M W (R d M) := by
  rcases h L Z l b s q T N c w n 0 d M W hD hX hn (fun y _ _ => by omega) ht hna with ⟨M', W', m, s', q', T', N', c', w', r, h1, h2, h3, h4, h5, h6, h7⟩ | hb
  · refine Or.inl ⟨M', W', m, s', q', T', N', c', w', 0, r, ⟨h1, h2, h3, h4, h5, fun y _ _ => by omega, fun B hB => RS_cg h6 (fun _ _ _ => rfl) (fun y y1 y2 => hB.1 y y2)⟩, trivial⟩
  · exact Or.inr hb
theorem step_pro {G : Nat} {rc : Nat → Int → g_M → Option (Int × g_M)} (h : COne G (rc 2)) : CPro G (m_X4_readProduct rc) := by
  intro L Z l b s q T N c w n d M W hD hX hn ht hna
  have tk : ∀ T, tP T → ∃ j, 2 ≤ j ∧ j < 5 ∧ T = 54 + j ∧ T - 49 = 5 + j := fun T hT => by
    unfold tP at hT
    exact ⟨T - 54, by omega, by omega, by omega, by omega⟩
  refine bin_read (X := RS l) (RS_XCG l) (lo := 6) (lo' := 6) (TTs := TT0) (toks := tP) (opf := fun T => T - 49) (R := rc 2) (LP := m_X4_readProduct_L8 rc d) (by omega) (by omega) hX.2.2.2.2.2.2.2 ht ?_ ?_ ?_ (fun _ _ _ _ => trivial) ?_ ?_ ?_ ?_ (one_pro h hD hX (by omega) (fun y hy => by have := ht y hy; omega) hna) rfl
  · intro T hT
    obtain ⟨j, j1, j2, j3, j4⟩ := tk T hT
    have a := rk_ari j j2
    rw [if_neg (by omega)] at a
    show T ≠ 41 ∧ T - 49 ≤ 43 ∧ rk ((T - 49 : Nat) : Int) = 6 ∧ (6 : Int) ≠ 4 ∧ dc ((T - 49 : Nat) : Int) = 0 ∧ (6 : Int) ≤ 6
    rw [j4]
    exact ⟨by omega, by omega, a.1, by omega, a.2, by omega⟩
  · intro s' q' T' N' c' w' k o M' W' hS _ _ _ hT
    obtain ⟨j, j1, j2, j3, j4⟩ := tk T' hT
    show m_X9_betweenOf W' = some ((T' - 49 : Nat) : Int)
    rw [j4]
    exact btw_arith hS.2.1.2.2.2 j2 j3
  · intro T C B c1 c3 wa wb hT h1 h2 h3 h4
    obtain ⟨j, j1, j2, j3, j4⟩ := tk T hT
    have h4 : B (2 * wb) = ((T - 49 : Nat) : Int) := h4
    rw [j4] at h4
    rw [j3] at h3
    exact RS_bin h1 h2 j2 h3 h4
  · intro T s2 q2 T2 N2 c2 w2 M2 W2 hT hS ho hp
    obtain ⟨j, j1, j2, j3, j4⟩ := tk T hT
    have a := rk_ari j j2
    rw [if_neg (by omega), ← j4] at a
    have ho : W2 5 n = ((T - 49 : Nat) : Int) := ho
    exact one_pro h hD hS (by omega) (fun y hy => by rw [show y = n by omega, ho, a.1]; omega) (fun _ y hy => by rw [show y = n by omega, ho, a.1]; omega)
  · intro f i M1
    rw [m_X4_readProduct_L8]
    by_cases z : gs 300 ≤ gs i
    · rw [if_pos z]; simp (disch := omega) only [↓reduceIte, ↓nm_eq, ↓jn_eq, ↓c_within, ↓c_isIn, ↓c_isScene, ↓c_isPlace, ↓c_isCue, ↓c_isDigit, ↓d_isScene, ↓d_isAny, ↓ta_pb1, ↓ta_pb0, ↓ta_pb1', ↓ta_pb0', ta_lt, ta_nlt, ta_le, ta_nle, ta_eq, ta_neq, ta_nne, ta_ne, gs_id, a_gd01, a_gdT, or_true, true_or, bd_some, bW_sm, a_gd, a_ne, a_rd, Int.toNat_natCast, Int.toNat_add, Int.toNat_mul, Int.reduceToNat, a_gdp, a_cell, and_self, and_true, true_and]
    · rw [if_neg z]; simp (disch := omega) only [↓reduceIte, ↓nm_eq, ↓jn_eq, ↓c_within, ↓c_isIn, ↓c_isScene, ↓c_isPlace, ↓c_isCue, ↓c_isDigit, ↓d_isScene, ↓d_isAny, ↓ta_pb1, ↓ta_pb0, ↓ta_pb1', ↓ta_pb0', ta_lt, ta_nlt, ta_le, ta_nle, ta_eq, ta_neq, ta_nne, ta_ne, gs_id, a_gd01, a_gdT, or_true, true_or, bd_some, bW_sm, a_gd, a_ne, a_rd, Int.toNat_natCast, Int.toNat_add, Int.toNat_mul, Int.reduceToNat, a_gdp, a_cell, and_self, and_true, true_and]
  · intro f i T M1 hi h7 hT hn
    unfold tP at hn
    rw [m_X4_readProduct_L8]
    by_cases z : 300 ≤ i
    · simp (disch := omega) only [↓reduceIte, ↓nm_eq, ↓jn_eq, ↓c_within, ↓c_isIn, ↓c_isScene, ↓c_isPlace, ↓c_isCue, ↓c_isDigit, ↓d_isScene, ↓d_isAny, ↓ta_pb1, ↓ta_pb0, ↓ta_pb1', ↓ta_pb0', ta_lt, ta_nlt, ta_le, ta_nle, ta_eq, ta_neq, ta_nne, ta_ne, gs_id, a_gd01, a_gdT, or_true, true_or, bd_some, bW_sm, a_gd, a_ne, a_rd, Int.toNat_natCast, Int.toNat_add, Int.toNat_mul, Int.reduceToNat, a_gdp, a_cell, and_self, and_true, true_and]
    · simp (disch := omega) only [↓reduceIte, ↓nm_eq, ↓jn_eq, ↓c_within, ↓c_isIn, ↓c_isScene, ↓c_isPlace, ↓c_isCue, ↓c_isDigit, ↓d_isScene, ↓d_isAny, ↓ta_pb1, ↓ta_pb0, ↓ta_pb1', ↓ta_pb0', ta_lt, ta_nlt, ta_le, ta_nle, ta_eq, ta_neq, ta_nne, ta_ne, gs_id, a_gd01, a_gdT, or_true, true_or, bd_some, bW_sm, a_gd, a_ne, a_rd, Int.toNat_natCast, Int.toNat_add, Int.toNat_mul, Int.reduceToNat, a_gdp, a_cell, and_self, and_true, true_and, h7]
  · intro f i T x M1 M2 M3 M4 hi h7 hT hn h1 h2 hx h3
    unfold tP at hn
    rw [m_X4_readProduct_L8]
    simp (disch := omega) only [↓reduceIte, ↓nm_eq, ↓jn_eq, ↓c_within, ↓c_isIn, ↓c_isScene, ↓c_isPlace, ↓c_isCue, ↓c_isDigit, ↓d_isScene, ↓d_isAny, ↓ta_pb1, ↓ta_pb0, ↓ta_pb1', ↓ta_pb0', ta_lt, ta_nlt, ta_le, ta_nle, ta_eq, ta_neq, ta_nne, ta_ne, gs_id, a_gd01, a_gdT, or_true, true_or, bd_some, bW_sm, a_gd, a_ne, a_rd, Int.toNat_natCast, Int.toNat_add, Int.toNat_mul, Int.reduceToNat, a_gdp, a_cell, and_self, and_true, true_and, h7, h1, h2, h3]
    rfl
theorem step_sum {G : Nat} {rc : Nat → Int → g_M → Option (Int × g_M)} (h : CPro G (rc 1)) : CSum G (m_X4_readSum rc) := by
  intro L Z l b s q T N c w n d M W hD hX hn ht hna
  have tk : ∀ T, tS T → ∃ j, j < 2 ∧ T = 54 + j ∧ T - 49 = 5 + j := fun T hT => by
    unfold tS at hT
    exact ⟨T - 54, by omega, by omega, by omega⟩
  refine bin_read (X := RS l) (RS_XCG l) (lo := 5) (lo' := 6) (TTs := TTp) (toks := tS) (opf := fun T => T - 49) (R := rc 1) (LP := m_X4_readSum_L8 rc d) (by omega) (by omega) hX.2.2.2.2.2.2.2 ht ?_ ?_ ?_ (fun _ _ _ h => h) ?_ ?_ ?_ ?_ (h L Z l b s q T N c w n d M W hD hX (by omega) (fun y hy => by have := ht y hy; omega) hna) rfl
  · intro T hT
    obtain ⟨j, j2, j3, j4⟩ := tk T hT
    have a := rk_ari j (by omega)
    rw [if_pos (by omega)] at a
    show T ≠ 41 ∧ T - 49 ≤ 43 ∧ rk ((T - 49 : Nat) : Int) = 5 ∧ (5 : Int) ≠ 4 ∧ dc ((T - 49 : Nat) : Int) = 0 ∧ (5 : Int) ≤ 6
    rw [j4]
    exact ⟨by omega, by omega, a.1, by omega, a.2, by omega⟩
  · intro s' q' T' N' c' w' k o M' W' hS _ _ _ hT
    obtain ⟨j, j2, j3, j4⟩ := tk T' hT
    show m_X9_betweenOf W' = some ((T' - 49 : Nat) : Int)
    rw [j4]
    exact btw_arith hS.2.1.2.2.2 (by omega) j3
  · intro T C B c1 c3 wa wb hT h1 h2 h3 h4
    obtain ⟨j, j2, j3, j4⟩ := tk T hT
    have h4 : B (2 * wb) = ((T - 49 : Nat) : Int) := h4
    rw [j4] at h4
    rw [j3] at h3
    exact RS_bin h1 h2 (by omega) h3 h4
  · intro T s2 q2 T2 N2 c2 w2 M2 W2 hT hS ho hp
    obtain ⟨j, j2, j3, j4⟩ := tk T hT
    have a := rk_ari j (by omega)
    rw [if_pos (by omega), ← j4] at a
    have ho : W2 5 n = ((T - 49 : Nat) : Int) := ho
    exact h L Z l b s2 q2 T2 N2 c2 w2 (n + 1) d M2 W2 hD hS (by omega) (fun y hy => by rw [show y = n by omega, ho, a.1]; omega) (fun _ y hy => by rw [show y = n by omega, ho, a.1]; omega)
  · intro f i M1
    rw [m_X4_readSum_L8]
    by_cases z : gs 300 ≤ gs i
    · rw [if_pos z]; simp (disch := omega) only [↓reduceIte, ↓nm_eq, ↓jn_eq, ↓c_within, ↓c_isIn, ↓c_isScene, ↓c_isPlace, ↓c_isCue, ↓c_isDigit, ↓d_isScene, ↓d_isAny, ↓ta_pb1, ↓ta_pb0, ↓ta_pb1', ↓ta_pb0', ta_lt, ta_nlt, ta_le, ta_nle, ta_eq, ta_neq, ta_nne, ta_ne, gs_id, a_gd01, a_gdT, or_true, true_or, bd_some, bW_sm, a_gd, a_ne, a_rd, Int.toNat_natCast, Int.toNat_add, Int.toNat_mul, Int.reduceToNat, a_gdp, a_cell, and_self, and_true, true_and]
    · rw [if_neg z]; simp (disch := omega) only [↓reduceIte, ↓nm_eq, ↓jn_eq, ↓c_within, ↓c_isIn, ↓c_isScene, ↓c_isPlace, ↓c_isCue, ↓c_isDigit, ↓d_isScene, ↓d_isAny, ↓ta_pb1, ↓ta_pb0, ↓ta_pb1', ↓ta_pb0', ta_lt, ta_nlt, ta_le, ta_nle, ta_eq, ta_neq, ta_nne, ta_ne, gs_id, a_gd01, a_gdT, or_true, true_or, bd_some, bW_sm, a_gd, a_ne, a_rd, Int.toNat_natCast, Int.toNat_add, Int.toNat_mul, Int.reduceToNat, a_gdp, a_cell, and_self, and_true, true_and]
  · intro f i T M1 hi h7 hT hn
    unfold tS at hn
    rw [m_X4_readSum_L8]
    by_cases z : 300 ≤ i
    · simp (disch := omega) only [↓reduceIte, ↓nm_eq, ↓jn_eq, ↓c_within, ↓c_isIn, ↓c_isScene, ↓c_isPlace, ↓c_isCue, ↓c_isDigit, ↓d_isScene, ↓d_isAny, ↓ta_pb1, ↓ta_pb0, ↓ta_pb1', ↓ta_pb0', ta_lt, ta_nlt, ta_le, ta_nle, ta_eq, ta_neq, ta_nne, ta_ne, gs_id, a_gd01, a_gdT, or_true, true_or, bd_some, bW_sm, a_gd, a_ne, a_rd, Int.toNat_natCast, Int.toNat_add, Int.toNat_mul, Int.reduceToNat, a_gdp, a_cell, and_self, and_true, true_and]
    · simp (disch := omega) only [↓reduceIte, ↓nm_eq, ↓jn_eq, ↓c_within, ↓c_isIn, ↓c_isScene, ↓c_isPlace, ↓c_isCue, ↓c_isDigit, ↓d_isScene, ↓d_isAny, ↓ta_pb1, ↓ta_pb0, ↓ta_pb1', ↓ta_pb0', ta_lt, ta_nlt, ta_le, ta_nle, ta_eq, ta_neq, ta_nne, ta_ne, gs_id, a_gd01, a_gdT, or_true, true_or, bd_some, bW_sm, a_gd, a_ne, a_rd, Int.toNat_natCast, Int.toNat_add, Int.toNat_mul, Int.reduceToNat, a_gdp, a_cell, and_self, and_true, true_and, h7]
  · intro f i T x M1 M2 M3 M4 hi h7 hT hn h1 h2 hx h3
    unfold tS at hn
    rw [m_X4_readSum_L8]
    by_cases z : T = 54
    · simp (disch := omega) only [↓reduceIte, ↓nm_eq, ↓jn_eq, ↓c_within, ↓c_isIn, ↓c_isScene, ↓c_isPlace, ↓c_isCue, ↓c_isDigit, ↓d_isScene, ↓d_isAny, ↓ta_pb1, ↓ta_pb0, ↓ta_pb1', ↓ta_pb0', ta_lt, ta_nlt, ta_le, ta_nle, ta_eq, ta_neq, ta_nne, ta_ne, gs_id, a_gd01, a_gdT, or_true, true_or, bd_some, bW_sm, a_gd, a_ne, a_rd, Int.toNat_natCast, Int.toNat_add, Int.toNat_mul, Int.reduceToNat, a_gdp, a_cell, and_self, and_true, true_and, h7, h1, h2, h3]
      rfl
    · simp (disch := omega) only [↓reduceIte, ↓nm_eq, ↓jn_eq, ↓c_within, ↓c_isIn, ↓c_isScene, ↓c_isPlace, ↓c_isCue, ↓c_isDigit, ↓d_isScene, ↓d_isAny, ↓ta_pb1, ↓ta_pb0, ↓ta_pb1', ↓ta_pb0', ta_lt, ta_nlt, ta_le, ta_nle, ta_eq, ta_neq, ta_nne, ta_ne, gs_id, a_gd01, a_gdT, or_true, true_or, bd_some, bW_sm, a_gd, a_ne, a_rd, Int.toNat_natCast, Int.toNat_add, Int.toNat_mul, Int.reduceToNat, a_gdp, a_cell, and_self, and_true, true_and, h7, h1, h2, h3]
      rfl
theorem OA_openNow {L Z l s q T c w n k o mm : Nat} {N h : Int} {b : Nat → Int} {M W W0 : g_M} (hX : SX L Z l b s q T N c w (n + k) o h M W) (hp : ∀ y, y < n → W 5 y = W0 5 y) (hq : ∀ y, n ≤ y → y < n + k → 1 ≤ rk (W 5 y)) (hO : OA mm n W0) : m_X9_openNow W = some 41 ∧ W 5 mm = 41 ∧ mm < n ∧ ∀ y, mm < y → y < n + k → W 5 y < 40 := by
  obtain ⟨o1, o2, o3⟩ := hO
  have e : W 5 mm = 41 := by rw [hp mm o1]; exact o2
  have lt : ∀ y, mm < y → y < n + k → W 5 y < 40 := fun y y1 y2 => by
    by_cases z : y < n
    · rw [hp y z]; exact o3 y y1 z
    · have a := hq y (by omega) y2
      by_cases z2 : 40 ≤ W 5 y
      · have : rk (W 5 y) = 0 := if_pos z2
        omega
      · omega
  have a := q_openNow (m := mm) hX.2.2.2.2.1 (by omega) (by omega) lt
  rw [e] at a
  exact ⟨a, e, o1, lt⟩
theorem CMP_is {L Z l s q T c w n top o : Nat} {N h : Int} {b : Nat → Int} {M W : g_M} (hX : SX L Z l b s q T N c w top o h M W) (hC : CMP n top W) : m_X9_isCompared W = some 1 := by
  obtain ⟨z, z1, z2, z3, z4⟩ := hC
  have a := q_isCompared hX.2.2.2.2.1 z2 (by omega) z4
  rw [pb_t z3] at a
  exact a
theorem step_both {G : Nat} {rc : Nat → Int → g_M → Option (Int × g_M)} (h : CAsk G (rc 6)) : CBoth G (m_X4_readBoth rc) := by
  intro L Z l b s q T N c w n d mm M W hD hX hn ht hO
  refine bin_read (X := RA l) (RA_XCG l) (lo := 2) (lo' := 3) (TTs := TTa) (toks := fun T => T = 19) (opf := fun T => T + 2) (R := rc 6) (LP := m_X4_readBoth_L8 rc d) (by omega) (by omega) hX.2.2.2.2.2.2.2 ht ?_ ?_ ?_ (fun T V top h => ⟨h.1, by
    obtain ⟨z, z1, z2⟩ := h.2
    exact ⟨z, by omega, z2⟩⟩) ?_ ?_ ?_ ?_ (h L Z l b s q T N c w n d mm M W hD hX (by omega) (fun y hy => by have := ht y hy; omega) hO) rfl
  · intro T hT
    have hT : T = 19 := hT
    subst hT
    exact ⟨by omega, by omega, rfl, by omega, rfl, by omega⟩
  · intro s' q' T' N' c' w' k o M' W' hS hp hq hT hT2
    have hT2 : T' = 19 := hT2
    have e := btw_join hS.2.1.2.2.2 hT.1 (OA_openNow hS hp (fun y y1 y2 => by have := hq y y1 y2; omega) hO).1 (CMP_is hS hT.2)
    rw [e, if_pos hT2]
    show some (21 : Int) = some ((T' + 2 : Nat) : Int)
    rw [hT2]
    rfl
  · intro T C B c1 c3 wa wb hT h1 h2 h3 h4
    have hT : T = 19 := hT
    subst hT
    exact RA_join (q := 0) h1 h2 (by omega) h3 h4
  · intro T s2 q2 T2 N2 c2 w2 M2 W2 hT hS ho hp
    have hT : T = 19 := hT
    subst hT
    have ho : W2 5 n = 21 := ho
    refine h L Z l b s2 q2 T2 N2 c2 w2 (n + 1) d mm M2 W2 hD hS (by omega) (fun y hy => by rw [show y = n by omega, ho]; decide) ⟨by have := hO.1; omega, by rw [hp mm hO.1]; exact hO.2.1, fun y y1 y2 => ?_⟩
    by_cases z : y = n
    · rw [z, ho]; omega
    · rw [hp y (by omega)]; exact hO.2.2 y y1 (by omega)
  · intro f i M1
    rw [m_X4_readBoth_L8]
    by_cases z : gs 300 ≤ gs i
    · rw [if_pos z]; simp (disch := omega) only [↓reduceIte, ↓nm_eq, ↓jn_eq, ↓c_within, ↓c_isIn, ↓c_isScene, ↓c_isPlace, ↓c_isCue, ↓c_isDigit, ↓d_isScene, ↓d_isAny, ↓ta_pb1, ↓ta_pb0, ↓ta_pb1', ↓ta_pb0', ta_lt, ta_nlt, ta_le, ta_nle, ta_eq, ta_neq, ta_nne, ta_ne, gs_id, a_gd01, a_gdT, or_true, true_or, bd_some, bW_sm, a_gd, a_ne, a_rd, Int.toNat_natCast, Int.toNat_add, Int.toNat_mul, Int.reduceToNat, a_gdp, a_cell, and_self, and_true, true_and]
    · rw [if_neg z]; simp (disch := omega) only [↓reduceIte, ↓nm_eq, ↓jn_eq, ↓c_within, ↓c_isIn, ↓c_isScene, ↓c_isPlace, ↓c_isCue, ↓c_isDigit, ↓d_isScene, ↓d_isAny, ↓ta_pb1, ↓ta_pb0, ↓ta_pb1', ↓ta_pb0', ta_lt, ta_nlt, ta_le, ta_nle, ta_eq, ta_neq, ta_nne, ta_ne, gs_id, a_gd01, a_gdT, or_true, true_or, bd_some, bW_sm, a_gd, a_ne, a_rd, Int.toNat_natCast, Int.toNat_add, Int.toNat_mul, Int.reduceToNat, a_gdp, a_cell, and_self, and_true, true_and]
  · intro f i T M1 hi h7 hT hn
    have hn : ¬ T = 19 := hn
    rw [m_X4_readBoth_L8]
    by_cases z : 300 ≤ i
    · simp (disch := omega) only [↓reduceIte, ↓nm_eq, ↓jn_eq, ↓c_within, ↓c_isIn, ↓c_isScene, ↓c_isPlace, ↓c_isCue, ↓c_isDigit, ↓d_isScene, ↓d_isAny, ↓ta_pb1, ↓ta_pb0, ↓ta_pb1', ↓ta_pb0', ta_lt, ta_nlt, ta_le, ta_nle, ta_eq, ta_neq, ta_nne, ta_ne, gs_id, a_gd01, a_gdT, or_true, true_or, bd_some, bW_sm, a_gd, a_ne, a_rd, Int.toNat_natCast, Int.toNat_add, Int.toNat_mul, Int.reduceToNat, a_gdp, a_cell, and_self, and_true, true_and]
    · simp (disch := omega) only [↓reduceIte, ↓nm_eq, ↓jn_eq, ↓c_within, ↓c_isIn, ↓c_isScene, ↓c_isPlace, ↓c_isCue, ↓c_isDigit, ↓d_isScene, ↓d_isAny, ↓ta_pb1, ↓ta_pb0, ↓ta_pb1', ↓ta_pb0', ta_lt, ta_nlt, ta_le, ta_nle, ta_eq, ta_neq, ta_nne, ta_ne, gs_id, a_gd01, a_gdT, or_true, true_or, bd_some, bW_sm, a_gd, a_ne, a_rd, Int.toNat_natCast, Int.toNat_add, Int.toNat_mul, Int.reduceToNat, a_gdp, a_cell, and_self, and_true, true_and, h7]
  · intro f i T x M1 M2 M3 M4 hi h7 hT hn h1 h2 hx h3
    have hn : T = 19 := hn
    subst hn
    have h3 : m_X7_put 25 19 0 M3 = some M4 := h3
    rw [m_X4_readBoth_L8]
    simp (disch := omega) only [↓reduceIte, ↓nm_eq, ↓jn_eq, ↓c_within, ↓c_isIn, ↓c_isScene, ↓c_isPlace, ↓c_isCue, ↓c_isDigit, ↓d_isScene, ↓d_isAny, ↓ta_pb1, ↓ta_pb0, ↓ta_pb1', ↓ta_pb0', ta_lt, ta_nlt, ta_le, ta_nle, ta_eq, ta_neq, ta_nne, ta_ne, gs_id, a_gd01, a_gdT, or_true, true_or, bd_some, bW_sm, a_gd, a_ne, a_rd, Int.toNat_natCast, Int.toNat_add, Int.toNat_mul, Int.reduceToNat, a_gdp, a_cell, and_self, and_true, true_and, h7, h1, h2, h3]
    rfl
theorem step_eith {G : Nat} {rc : Nat → Int → g_M → Option (Int × g_M)} (h : CBoth G (rc 5)) : CEith G (m_X4_readEither rc) := by
  intro L Z l b s q T N c w n d mm M W hD hX hn ht hO
  refine bin_read (X := RA l) (RA_XCG l) (lo := 1) (lo' := 2) (TTs := TTb) (toks := fun T => T = 20) (opf := fun T => T + 2) (R := rc 5) (LP := m_X4_readEither_L8 rc d) (by omega) (by omega) hX.2.2.2.2.2.2.2 ht ?_ ?_ ?_ (fun T V top h => ⟨⟨h.1.1, by
    obtain ⟨z, z1, z2⟩ := h.1.2
    exact ⟨z, by omega, z2⟩⟩, h.2⟩) ?_ ?_ ?_ ?_ (h L Z l b s q T N c w n d mm M W hD hX (by omega) (fun y hy => by have := ht y hy; omega) hO) rfl
  · intro T hT
    have hT : T = 20 := hT
    subst hT
    exact ⟨by omega, by omega, rfl, by omega, rfl, by omega⟩
  · intro s' q' T' N' c' w' k o M' W' hS hp hq hT hT2
    have hT2 : T' = 20 := hT2
    have e := btw_join hS.2.1.2.2.2 hT.1.1 (OA_openNow hS hp (fun y y1 y2 => by have := hq y y1 y2; omega) hO).1 (CMP_is hS hT.1.2)
    rw [e, if_neg (by omega), if_pos hT2]
    show some (22 : Int) = some ((T' + 2 : Nat) : Int)
    rw [hT2]
    rfl
  · intro T C B c1 c3 wa wb hT h1 h2 h3 h4
    have hT : T = 20 := hT
    subst hT
    exact RA_join (q := 1) h1 h2 (by omega) h3 h4
  · intro T s2 q2 T2 N2 c2 w2 M2 W2 hT hS ho hp
    have hT : T = 20 := hT
    subst hT
    have ho : W2 5 n = 22 := ho
    refine h L Z l b s2 q2 T2 N2 c2 w2 (n + 1) d mm M2 W2 hD hS (by omega) (fun y hy => by rw [show y = n by omega, ho]; decide) ⟨by have := hO.1; omega, by rw [hp mm hO.1]; exact hO.2.1, fun y y1 y2 => ?_⟩
    by_cases z : y = n
    · rw [z, ho]; omega
    · rw [hp y (by omega)]; exact hO.2.2 y y1 (by omega)
  · intro f i M1
    rw [m_X4_readEither_L8]
    by_cases z : gs 300 ≤ gs i
    · rw [if_pos z]; simp (disch := omega) only [↓reduceIte, ↓nm_eq, ↓jn_eq, ↓c_within, ↓c_isIn, ↓c_isScene, ↓c_isPlace, ↓c_isCue, ↓c_isDigit, ↓d_isScene, ↓d_isAny, ↓ta_pb1, ↓ta_pb0, ↓ta_pb1', ↓ta_pb0', ta_lt, ta_nlt, ta_le, ta_nle, ta_eq, ta_neq, ta_nne, ta_ne, gs_id, a_gd01, a_gdT, or_true, true_or, bd_some, bW_sm, a_gd, a_ne, a_rd, Int.toNat_natCast, Int.toNat_add, Int.toNat_mul, Int.reduceToNat, a_gdp, a_cell, and_self, and_true, true_and]
    · rw [if_neg z]; simp (disch := omega) only [↓reduceIte, ↓nm_eq, ↓jn_eq, ↓c_within, ↓c_isIn, ↓c_isScene, ↓c_isPlace, ↓c_isCue, ↓c_isDigit, ↓d_isScene, ↓d_isAny, ↓ta_pb1, ↓ta_pb0, ↓ta_pb1', ↓ta_pb0', ta_lt, ta_nlt, ta_le, ta_nle, ta_eq, ta_neq, ta_nne, ta_ne, gs_id, a_gd01, a_gdT, or_true, true_or, bd_some, bW_sm, a_gd, a_ne, a_rd, Int.toNat_natCast, Int.toNat_add, Int.toNat_mul, Int.reduceToNat, a_gdp, a_cell, and_self, and_true, true_and]
  · intro f i T M1 hi h7 hT hn
    have hn : ¬ T = 20 := hn
    rw [m_X4_readEither_L8]
    by_cases z : 300 ≤ i
    · simp (disch := omega) only [↓reduceIte, ↓nm_eq, ↓jn_eq, ↓c_within, ↓c_isIn, ↓c_isScene, ↓c_isPlace, ↓c_isCue, ↓c_isDigit, ↓d_isScene, ↓d_isAny, ↓ta_pb1, ↓ta_pb0, ↓ta_pb1', ↓ta_pb0', ta_lt, ta_nlt, ta_le, ta_nle, ta_eq, ta_neq, ta_nne, ta_ne, gs_id, a_gd01, a_gdT, or_true, true_or, bd_some, bW_sm, a_gd, a_ne, a_rd, Int.toNat_natCast, Int.toNat_add, Int.toNat_mul, Int.reduceToNat, a_gdp, a_cell, and_self, and_true, true_and]
    · simp (disch := omega) only [↓reduceIte, ↓nm_eq, ↓jn_eq, ↓c_within, ↓c_isIn, ↓c_isScene, ↓c_isPlace, ↓c_isCue, ↓c_isDigit, ↓d_isScene, ↓d_isAny, ↓ta_pb1, ↓ta_pb0, ↓ta_pb1', ↓ta_pb0', ta_lt, ta_nlt, ta_le, ta_nle, ta_eq, ta_neq, ta_nne, ta_ne, gs_id, a_gd01, a_gdT, or_true, true_or, bd_some, bW_sm, a_gd, a_ne, a_rd, Int.toNat_natCast, Int.toNat_add, Int.toNat_mul, Int.reduceToNat, a_gdp, a_cell, and_self, and_true, true_and, h7]
  · intro f i T x M1 M2 M3 M4 hi h7 hT hn h1 h2 hx h3
    have hn : T = 20 := hn
    subst hn
    have h3 : m_X7_put 25 20 0 M3 = some M4 := h3
    rw [m_X4_readEither_L8]
    simp (disch := omega) only [↓reduceIte, ↓nm_eq, ↓jn_eq, ↓c_within, ↓c_isIn, ↓c_isScene, ↓c_isPlace, ↓c_isCue, ↓c_isDigit, ↓d_isScene, ↓d_isAny, ↓ta_pb1, ↓ta_pb0, ↓ta_pb1', ↓ta_pb0', ta_lt, ta_nlt, ta_le, ta_nle, ta_eq, ta_neq, ta_nne, ta_ne, gs_id, a_gd01, a_gdT, or_true, true_or, bd_some, bW_sm, a_gd, a_ne, a_rd, Int.toNat_natCast, Int.toNat_add, Int.toNat_mul, Int.reduceToNat, a_gdp, a_cell, and_self, and_true, true_and, h7, h1, h2, h3]
    rfl
