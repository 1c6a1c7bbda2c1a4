/-! the next token: both -/
def sgn (T : Nat) : Int := [60, 62, 61, 35, 43, 45, 42, 47, 37, 40, 41, 59, 4, 5].getD (T - 50) 0
def TW (b : Nat → Int) (s q T : Nat) (N : Int) (W : g_M) : Prop := (T = 41 ∧ W 0 9 = 0) ∨ (T = 40 ∧ W 0 9 = 1 ∧ (0 ≤ N ∧ N ≤ 10000) ∧ (0 ≤ W 0 10 ∧ W 0 10 ≤ 1000009) ∧ (N ≤ 9999 → W 0 10 = N) ∧ (9999 < N → 9999 < W 0 10)) ∨ (W 0 9 = 2 ∧ (∀ i, s ≤ i → i < q → isL (b i)) ∧ W 0 11 = wv (fun i => b (s + i)) (q - s) ∧ ((T < 33 ∧ WD (fun i => b (s + i)) (q - s) T) ∨ (T = 42 ∧ ∀ j, j < 33 → ¬ WD (fun i => b (s + i)) (q - s) j))) ∨ (T = 42 ∧ (W 0 9 = 3 ∨ W 0 9 = 58)) ∨ (50 ≤ T ∧ T ≤ 63 ∧ W 0 9 = sgn T)
def PS (L : Nat) (b : Nat → Int) (s q T : Nat) (N : Int) (M W : g_M) : Prop := (s ≤ q ∧ q ≤ L ∧ (T ≠ 41 → s < q)) ∧ (M 23 2 = L ∧ W 0 4 = L ∧ ∀ i, i < L → M 24 i = b i ∧ W 4 i = b i) ∧ (M 23 5 = q ∧ W 0 7 = q ∧ M 23 6 = s ∧ W 0 8 = s ∧ M 23 7 = T ∧ (T = 40 → M 23 8 = N)) ∧ TW b s q T N W
theorem sg_tab : (List.range 256).all (fun c => decide (g_i2c (c : Int) = (c : Int)) && (decide (0 ≤ x_si 1 (c : Int) ∧ x_si 1 (c : Int) ≤ 11 ∧ sgn (50 + (x_si 1 (c : Int)).toNat) = (c : Int) ∧ m_X9_isSign (c : Int) = some 1 ∧ (c = 60 → x_si 1 (c : Int) = 0) ∧ (c = 62 → x_si 1 (c : Int) = 1) ∧ (c ≠ 60 → x_si 1 (c : Int) ≠ 0) ∧ (c ≠ 62 → x_si 1 (c : Int) ≠ 1)) || decide (x_si 1 (c : Int) = -1 ∧ c ≠ 60 ∧ c ≠ 62 ∧ (m_X9_isSign (c : Int) = some 0 ∨ (m_X9_isSign (c : Int) = some 1 ∧ c = 58))))) = true := by decide +kernel
theorem sg_c {c : Int} (h : 0 ≤ c ∧ c ≤ 255) : g_i2c c = c ∧ ((∃ v : Nat, v ≤ 11 ∧ x_si 1 c = v ∧ sgn (50 + v) = c ∧ m_X9_isSign c = some 1 ∧ (c = 60 ↔ v = 0) ∧ (c = 62 ↔ v = 1)) ∨ (x_si 1 c = -1 ∧ c ≠ 60 ∧ c ≠ 62 ∧ ∃ t : Int, (t = 3 ∨ t = 58) ∧ (m_X9_isSign c = some 0 ∧ t = 3 ∨ m_X9_isSign c = some 1 ∧ t = c))) := by
  obtain ⟨c, rfl⟩ : ∃ y : Nat, c = y := ⟨c.toNat, by omega⟩
  have a := all_of sg_tab (show c < 256 by omega)
  rw [Bool.and_eq_true, Bool.or_eq_true] at a
  refine ⟨of_decide_eq_true a.1, ?_⟩
  rcases a.2 with a | a
  · obtain ⟨a1, a2, a3, a4, a5, a6, a7, a8⟩ := of_decide_eq_true a
    refine Or.inl ⟨(x_si 1 (c : Int)).toNat, by omega, by omega, a3, a4, ⟨fun h => ?_, fun h => ?_⟩, fun h => ?_, fun h => ?_⟩
    · have := a5 (by omega); omega
    · by_cases z : c = 60
      · omega
      · have := a7 z; omega
    · have := a6 (by omega); omega
    · by_cases z : c = 62
      · omega
      · have := a8 z; omega
  · obtain ⟨a1, a2, a3, a4⟩ := of_decide_eq_true a
    refine Or.inr ⟨a1, by omega, by omega, ?_⟩
    rcases a4 with a4 | ⟨a4, a5⟩
    · exact ⟨3, Or.inl rfl, Or.inl ⟨a4, rfl⟩⟩
    · exact ⟨58, Or.inr rfl, Or.inr ⟨a4, by omega⟩⟩
def advT (V : g_M) : Option g_M := if gs (V 23 5) < gs (V 23 2) then (g_gd (g_ix (V 23 5) 300) ((m_X4_isLetter (V 24 (gs (V 23 5)).toNat)).bind (fun x18 => if gs x18 = 0 then (g_gd (g_ix (V 23 5) 300) ((m_X4_isNumeral (V 24 (gs (V 23 5)).toNat)).bind (fun x19 => if gs x19 = 0 then ((m_X4_scanSign V).bind (fun M20 => some M20)) else ((m_X4_scanNumber V).bind (fun M21 => some M21))))) else ((m_X4_scanWord V).bind (fun M22 => some M22))))) else (g_nm (g_wr V 23 7 41) (fun M23 => some M23))
def nexT (U : g_M) : Option g_M := (m_X9_byteAt (U 0 7) U).bind (fun x20 => g_nm x20 (fun x21 => if 0 ≤ gs x21 then ((m_X9_isFigure x21).bind (fun x22 => if gs x22 = 0 then ((m_X9_isLetterByte x21).bind (fun x23 => if gs x23 = 0 then (g_jn (fun (x26 : Int) => g_jn (fun (M30 : g_M) => (m_X9_byteAt (M30 0 7) M30).bind (fun x31 => if gs x31 ≠ gs 61 then (some M30) else (g_jn (fun (x33 : Int) => g_nm (g_wr M30 0 9 x33) (fun M34 => g_nm (g_wr M34 0 7 ((M34 0 7) + 1)) (fun M35 => some M35))) (fun J32 => if gs x21 ≠ gs 60 then (J32 5) else (J32 4))))) (fun J27 => g_nm (g_wr U 0 9 x26) (fun M28 => g_nm (g_wr M28 0 7 ((M28 0 7) + 1)) (fun M29 => if gs x21 = gs 60 then (J27 M29) else (if gs x21 ≠ gs 62 then (some M29) else (J27 M29)))))) (fun J24 => (m_X9_isSign x21).bind (fun x25 => if gs x25 = 0 then (J24 3) else (J24 x21)))) else (g_nm (g_wr U 0 9 2) (fun M36 => g_nm (g_wr M36 0 11 0) (fun M37 => m_X9_nextToken_L168 g_fuel M37))))) else (g_nm (g_wr U 0 9 1) (fun M46 => g_nm (g_wr M46 0 10 0) (fun M47 => m_X9_nextToken_L85 g_fuel M47))))) else (g_nm (g_wr U 0 9 0) (fun M56 => some M56))))
theorem c_adv {L a s : Nat} {b : Nat → Int} {M : g_M} (hL : L ≤ 300) (hs : s ≤ L) (has : a ≤ s) (hb : ∀ i, i < L → 0 ≤ b i ∧ b i ≤ 255 ∧ M 24 i = b i) (h2 : M 23 2 = L) (h3 : s = L ∨ ¬ isB (b s)) (h5 : M 23 5 = a) (hy : ∀ y, a ≤ y → y < s → isB (b y)) : m_X4_advance M = advT (g_wr (g_wr M 23 5 s) 23 6 s) := by
  have cb := fun K => c_blank (K := K) hL hs hb h2 h3 (s - a) a g_fuel (by omega) (by unfold g_fuel; omega) hy
  rw [wr_id M h5] at cb
  unfold m_X4_advance
  rw [cb, wr_at, nm_eq]
  rfl
theorem r_next {L a s : Nat} {b : Nat → Int} {W : g_M} (hL : L ≤ 300) (hs : s ≤ L) (has : a ≤ s) (hb : ∀ i, i < L → 0 ≤ b i ∧ b i ≤ 255) (h4 : W 0 4 = L) (ht : ∀ i, i < L → W 4 i = b i) (h3 : s = L ∨ ¬ isB (b s)) (h7 : W 0 7 = a) (hy : ∀ y, a ≤ y → y < s → isB (b y)) : m_X9_nextToken W = nexT (g_wr (g_wr W 0 7 s) 0 8 s) := by
  have rb := fun K => r_blank (K := K) hL hs hb h4 ht h3 (s - a) a g_fuel (by omega) (by unfold g_fuel; omega) hy
  rw [wr_id W h7] at rb
  unfold m_X9_nextToken
  rw [rb, wr_at, nm_eq]
  rfl
theorem advT_end {L : Nat} {V : g_M} (hL : L ≤ 300) (h5 : V 23 5 = L) (h2 : V 23 2 = L) : advT V = some (g_wr V 23 7 41) := by
  unfold advT
  simp (disch := omega) only [↓reduceIte, ↓nm_eq, ↓jn_eq, ↓c_within, ↓c_isIn, ↓c_isScene, ↓c_isPlace, ↓c_isCue, ↓c_isDigit, ↓d_isScene, ↓d_isAny, ↓ta_pb1, ↓ta_pb0, ↓ta_pb1', ↓ta_pb0', ta_lt, ta_nlt, ta_le, ta_nle, ta_eq, ta_neq, ta_nne, ta_ne, gs_id, a_gd01, a_gdT, or_true, true_or, bd_some, bW_sm, a_gd, a_ne, a_rd, Int.toNat_natCast, Int.toNat_add, Int.toNat_mul, Int.reduceToNat, a_gdp, a_cell, and_self, and_true, true_and, h5, h2]
theorem advT_word {L s : Nat} {c : Int} {V M' : g_M} (hL : L ≤ 300) (hs : s < L) (h5 : V 23 5 = s) (h2 : V 23 2 = L) (hv : V 24 s = c) (hc : 0 ≤ c ∧ c ≤ 255) (cl : isL c) (h : m_X4_scanWord V = some M') : advT V = some M' := by
  have z := (p_isLetter hc).1 cl
  unfold advT
  simp (disch := omega) only [↓reduceIte, ↓nm_eq, ↓jn_eq, ↓c_within, ↓c_isIn, ↓c_isScene, ↓c_isPlace, ↓c_isCue, ↓c_isDigit, ↓d_isScene, ↓d_isAny, ↓ta_pb1, ↓ta_pb0, ↓ta_pb1', ↓ta_pb0', ta_lt, ta_nlt, ta_le, ta_nle, ta_eq, ta_neq, ta_nne, ta_ne, gs_id, a_gd01, a_gdT, or_true, true_or, bd_some, bW_sm, a_gd, a_ne, a_rd, Int.toNat_natCast, Int.toNat_add, Int.toNat_mul, Int.reduceToNat, a_gdp, a_cell, and_self, and_true, true_and, h5, h2, hv, z, h]
theorem advT_num {L s : Nat} {c : Int} {V M' : g_M} (hL : L ≤ 300) (hs : s < L) (h5 : V 23 5 = s) (h2 : V 23 2 = L) (hv : V 24 s = c) (hc : 0 ≤ c ∧ c ≤ 255) (cl : ¬ isL c) (cd : isD c) (h : m_X4_scanNumber V = some M') : advT V = some M' := by
  have z := (p_isLetter hc).2 cl
  have z2 := (p_isNumeral hc).1 cd
  unfold advT
  simp (disch := omega) only [↓reduceIte, ↓nm_eq, ↓jn_eq, ↓c_within, ↓c_isIn, ↓c_isScene, ↓c_isPlace, ↓c_isCue, ↓c_isDigit, ↓d_isScene, ↓d_isAny, ↓ta_pb1, ↓ta_pb0, ↓ta_pb1', ↓ta_pb0', ta_lt, ta_nlt, ta_le, ta_nle, ta_eq, ta_neq, ta_nne, ta_ne, gs_id, a_gd01, a_gdT, or_true, true_or, bd_some, bW_sm, a_gd, a_ne, a_rd, Int.toNat_natCast, Int.toNat_add, Int.toNat_mul, Int.reduceToNat, a_gdp, a_cell, and_self, and_true, true_and, h5, h2, hv, z, z2, h]
theorem advT_sign {L s : Nat} {c : Int} {V M' : g_M} (hL : L ≤ 300) (hs : s < L) (h5 : V 23 5 = s) (h2 : V 23 2 = L) (hv : V 24 s = c) (hc : 0 ≤ c ∧ c ≤ 255) (cl : ¬ isL c) (cd : ¬ isD c) (h : m_X4_scanSign V = some M') : advT V = some M' := by
  have z := (p_isLetter hc).2 cl
  have z2 := (p_isNumeral hc).2 cd
  unfold advT
  simp (disch := omega) only [↓reduceIte, ↓nm_eq, ↓jn_eq, ↓c_within, ↓c_isIn, ↓c_isScene, ↓c_isPlace, ↓c_isCue, ↓c_isDigit, ↓d_isScene, ↓d_isAny, ↓ta_pb1, ↓ta_pb0, ↓ta_pb1', ↓ta_pb0', ta_lt, ta_nlt, ta_le, ta_nle, ta_eq, ta_neq, ta_nne, ta_ne, gs_id, a_gd01, a_gdT, or_true, true_or, bd_some, bW_sm, a_gd, a_ne, a_rd, Int.toNat_natCast, Int.toNat_add, Int.toNat_mul, Int.reduceToNat, a_gdp, a_cell, and_self, and_true, true_and, h5, h2, hv, z, z2, h]
theorem nexT_end {L : Nat} {U : g_M} (hL : L ≤ 300) (h7 : U 0 7 = L) (h4 : U 0 4 = L) : nexT U = some (g_wr U 0 9 0) := by
  have z := q_byteE hL h4
  unfold nexT
  simp (disch := omega) only [↓reduceIte, ↓nm_eq, ↓jn_eq, ↓c_within, ↓c_isIn, ↓c_isScene, ↓c_isPlace, ↓c_isCue, ↓c_isDigit, ↓d_isScene, ↓d_isAny, ↓ta_pb1, ↓ta_pb0, ↓ta_pb1', ↓ta_pb0', ta_lt, ta_nlt, ta_le, ta_nle, ta_eq, ta_neq, ta_nne, ta_ne, gs_id, a_gd01, a_gdT, or_true, true_or, bd_some, bW_sm, a_gd, a_ne, a_rd, Int.toNat_natCast, Int.toNat_add, Int.toNat_mul, Int.reduceToNat, a_gdp, a_cell, and_self, and_true, true_and, h7, z]
theorem gs1_ne : ¬ gs 1 = 0 := by rw [gs_id (by omega) (by omega)]; omega
theorem gs0_eq : gs 0 = 0 := gs_id (by omega) (by omega)
theorem nexT_word {s : Nat} {c : Int} {U W' : g_M} (h7 : U 0 7 = s) (hv : m_X9_byteAt s U = some c) (hc : 0 ≤ c ∧ c ≤ 255) (cl : isL c) (h : m_X9_nextToken_L168 g_fuel (g_wr (g_wr U 0 9 2) 0 11 0) = some W') : nexT U = some W' := by
  have z := (q_isLetter (c := c) (by omega)).1 cl
  have z2 := (q_isFigure (c := c) (by omega)).2 (by unfold isL isD at *; omega)
  unfold nexT
  rw [h7, bd_eq hv, nm_eq, if_pos (by rw [gs_id (by omega) (by omega)]; exact hc.1), bd_eq z2, if_pos gs0_eq, bd_eq z, if_neg gs1_ne, nm_eq, nm_eq]
  exact h
theorem nexT_num {s : Nat} {c : Int} {U W' : g_M} (h7 : U 0 7 = s) (hv : m_X9_byteAt s U = some c) (hc : 0 ≤ c ∧ c ≤ 255) (cd : isD c) (h : m_X9_nextToken_L85 g_fuel (g_wr (g_wr U 0 9 1) 0 10 0) = some W') : nexT U = some W' := by
  have z2 := (q_isFigure (c := c) (by omega)).1 cd
  unfold nexT
  rw [h7, bd_eq hv, nm_eq, if_pos (by rw [gs_id (by omega) (by omega)]; exact hc.1), bd_eq z2, if_neg gs1_ne, nm_eq, nm_eq]
  exact h
