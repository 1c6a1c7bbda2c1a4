/-! what is asked of a token -/
def cw (k : Nat) : Int := pack (chW k) (wN k)
theorem chW_b {k : Nat} (h : k < 33) : ∀ i, i < wN k → 1 ≤ chW k i ∧ chW k i ≤ 255 := fun i hi => by
  have := (w_k h).2 i hi
  omega
theorem wN_6 : (List.range 33).all (fun k => decide (k = 2) || decide (k = 8) || decide (wN k ≤ 6)) = true := by decide +kernel
theorem cw_b {k : Nat} (h : k < 33) (h2 : k ≠ 2) (h8 : k ≠ 8) : wN k ≤ 6 ∧ 0 ≤ cw k ∧ cw k < 281474976710656 := by
  have a := all_of wN_6 h
  rw [Bool.or_eq_true, Bool.or_eq_true] at a
  have a6 : wN k ≤ 6 := by
    rcases a with (a | a) | a
    · exact absurd (of_decide_eq_true a) h2
    · exact absurd (of_decide_eq_true a) h8
    · exact of_decide_eq_true a
  have b := pack_b (wN k) (chW_b h)
  have m := p256_mono (wN k) 6 a6
  have e6 : p256 6 = 281474976710656 := rfl
  unfold cw
  omega
theorem sgn_ne : (List.range 14).all (fun k => decide (sgn (50 + k) ≠ 0 ∧ sgn (50 + k) ≠ 1 ∧ sgn (50 + k) ≠ 2 ∧ sgn (50 + k) ≠ 3 ∧ sgn (50 + k) ≠ 58 ∧ 0 ≤ sgn (50 + k) ∧ sgn (50 + k) ≤ 255) && (List.range 14).all (fun j => decide (j = k) || decide (sgn (50 + j) ≠ sgn (50 + k)))) = true := by decide +kernel
theorem sgn_k {T : Nat} (h : 50 ≤ T ∧ T ≤ 63) : (sgn T ≠ 0 ∧ sgn T ≠ 1 ∧ sgn T ≠ 2 ∧ sgn T ≠ 3 ∧ sgn T ≠ 58 ∧ 0 ≤ sgn T ∧ sgn T ≤ 255) ∧ ∀ j, 50 ≤ j → j ≤ 63 → j ≠ T → sgn j ≠ sgn T := by
  obtain ⟨k, rfl⟩ : ∃ k, T = 50 + k := ⟨T - 50, by omega⟩
  have a := all_of sgn_ne (show k < 14 by omega)
  rw [Bool.and_eq_true] at a
  refine ⟨of_decide_eq_true a.1, fun j h1 h2 h3 => ?_⟩
  obtain ⟨i, rfl⟩ : ∃ k, j = 50 + k := ⟨j - 50, by omega⟩
  have c := all_of a.2 (show i < 14 by omega)
  rw [Bool.or_eq_true] at c
  rcases c with c | c
  · have := of_decide_eq_true c; omega
  · exact of_decide_eq_true c
/-- the kind of token -/
theorem TW_9 {b : Nat → Int} {s q T : Nat} {N : Int} {W : g_M} (h : TW b s q T N W) : (0 ≤ W 0 9 ∧ W 0 9 ≤ 255) ∧ (W 0 9 = 0 ↔ T = 41) ∧ (W 0 9 = 1 ↔ T = 40) ∧ (∀ k, 50 ≤ k → k ≤ 63 → (W 0 9 = sgn k ↔ T = k)) ∧ (W 0 9 = 2 → T < 33 ∨ T = 42) ∧ (T < 33 → W 0 9 = 2) ∧ (T < 33 ∨ (40 ≤ T ∧ T ≤ 42) ∨ (50 ≤ T ∧ T ≤ 63)) := by
  rcases h with ⟨a, c⟩ | ⟨a, c, -⟩ | ⟨c, -, -, a⟩ | ⟨a, c⟩ | ⟨a, a', c⟩
  · refine ⟨by omega, by omega, by omega, fun k k1 k2 => ?_, by omega, by omega, by omega⟩
    have := (sgn_k ⟨k1, k2⟩).1
    omega
  · refine ⟨by omega, by omega, by omega, fun k k1 k2 => ?_, by omega, by omega, by omega⟩
    have := (sgn_k ⟨k1, k2⟩).1
    omega
  · have a : T < 33 ∨ T = 42 := by
      rcases a with ⟨a, -⟩ | ⟨a, -⟩
      · exact Or.inl a
      · exact Or.inr a
    refine ⟨by omega, by omega, by omega, fun k k1 k2 => ?_, fun _ => a, fun _ => c, by omega⟩
    have := (sgn_k ⟨k1, k2⟩).1
    omega
  · refine ⟨by omega, by omega, by omega, fun k k1 k2 => ?_, by omega, by omega, by omega⟩
    have := (sgn_k ⟨k1, k2⟩).1
    omega
  · have d := sgn_k ⟨a, a'⟩
    refine ⟨by omega, by omega, by omega, fun k k1 k2 => ⟨fun e => ?_, fun e => by rw [c, e]⟩, by omega, by omega, by omega⟩
    by_cases z : k = T
    · exact z.symm
    · exact absurd (e.symm.trans c) (d.2 k k1 k2 z)
theorem t_cmp {b : Nat → Int} {s q T : Nat} {N : Int} {W : g_M} (h : TW b s q T N W) (h2 : W 0 9 = 2) {k : Nat} (hk : k < 33) (k2 : k ≠ 2) (k8 : k ≠ 8) : (T = k → gs (g_cmp (W 0 11) (cw k)) = 0) ∧ (T ≠ k → gs (g_cmp (W 0 11) (cw k)) ≠ 0) := by
  obtain ⟨c6, c0, c1⟩ := cw_b hk k2 k8
  obtain ⟨-, n0, n1, n2, n3, n4, n5⟩ := TW_9 h
  obtain ⟨ls, ew, ht⟩ : (∀ i, s ≤ i → i < q → isL (b i)) ∧ W 0 11 = wv (fun i => b (s + i)) (q - s) ∧ ((T < 33 ∧ WD (fun i => b (s + i)) (q - s) T) ∨ (T = 42 ∧ ∀ j, j < 33 → ¬ WD (fun i => b (s + i)) (q - s) j)) := by
    rcases h with ⟨a, c⟩ | ⟨a, c, -⟩ | ⟨c, x, y, z⟩ | ⟨a, c⟩ | ⟨a, a', c⟩
    · omega
    · omega
    · exact ⟨x, y, z⟩
    · omega
    · have := (sgn_k ⟨a, a'⟩).1; omega
  have fb : ∀ i, i < q - s → 1 ≤ b (s + i) ∧ b (s + i) ≤ 255 := fun i hi => by
    have := ls (s + i) (by omega) (by omega)
    unfold isL at this
    omega
  have wb : 0 ≤ wv (fun i => b (s + i)) (q - s) ∧ wv (fun i => b (s + i)) (q - s) ≤ 1152921504606846976 := by
    unfold wv
    by_cases z : q - s ≤ 7
    · rw [if_pos z]
      have p := pack_b (f := fun i => b (s + i)) (q - s) fb
      have m := p256_mono (q - s) 7 z
      have e7 : p256 7 = 72057594037927936 := rfl
      omega
    · rw [if_neg z]; omega
  have key : wv (fun i => b (s + i)) (q - s) = cw k ↔ WD (fun i => b (s + i)) (q - s) k := by
    unfold wv
    refine ⟨fun e => ?_, fun e => ?_⟩
    · by_cases z : q - s ≤ 7
      · rw [if_pos z] at e
        exact pack_inj (f := fun i => b (s + i)) (q - s) (wN k) fb (chW_b hk) e
      · rw [if_neg z] at e; omega
    · obtain ⟨e1, e2⟩ := e
      rw [if_pos (by omega), pack_cg (q - s) e2, e1]
      rfl
  rw [ew, cmp_le (by omega) (by omega)]
  refine ⟨fun e => ?_, fun e => ?_⟩
  · have w : WD (fun i => b (s + i)) (q - s) k := by
      rcases ht with ⟨-, x⟩ | ⟨x, -⟩
      · rw [← e]; exact x
      · omega
    rw [key.2 w, if_neg (by omega), if_pos rfl]
  · have w : wv (fun i => b (s + i)) (q - s) ≠ cw k := fun z => by
      have w := key.1 z
      rcases ht with ⟨x, y⟩ | ⟨x, y⟩
      · exact e (WD_one x hk y w)
      · exact y k hk w
    by_cases z : cw k < wv (fun i => b (s + i)) (q - s)
    · rw [if_pos z]; omega
    · rw [if_neg z, if_neg w]; omega
theorem t_word {b : Nat → Int} {s q T : Nat} {N : Int} {W : g_M} (h : TW b s q T N W) {k : Nat} (hk : k < 33) (k2 : k ≠ 2) (k8 : k ≠ 8) : m_X9_isWord (cw k) W = some (pb (T = k)) := by
  have n := TW_9 h
  unfold m_X9_isWord
  by_cases c : W 0 9 = 2
  · have t := t_cmp h c hk k2 k8
    by_cases z : T = k
    · rw [pb_t z]
      have t := t.1 z
      simp (disch := omega) only [↓reduceIte, ↓nm_eq, ↓jn_eq, ↓c_within, ↓c_isIn, ↓c_isScene, ↓c_isPlace, ↓c_isCue, ↓c_isDigit, ↓d_isScene, ↓d_isAny, ↓ta_pb1, ↓ta_pb0, ↓ta_pb1', ↓ta_pb0', ta_lt, ta_nlt, ta_le, ta_nle, ta_eq, ta_neq, ta_nne, ta_ne, gs_id, a_gd01, a_gdT, or_true, true_or, bd_some, bW_sm, a_gd, a_ne, a_rd, Int.toNat_natCast, Int.toNat_add, Int.toNat_mul, Int.reduceToNat, a_gdp, a_cell, and_self, and_true, true_and, c]
    · rw [pb_f z]
      have t := t.2 z
      simp (disch := omega) only [↓reduceIte, ↓nm_eq, ↓jn_eq, ↓c_within, ↓c_isIn, ↓c_isScene, ↓c_isPlace, ↓c_isCue, ↓c_isDigit, ↓d_isScene, ↓d_isAny, ↓ta_pb1, ↓ta_pb0, ↓ta_pb1', ↓ta_pb0', ta_lt, ta_nlt, ta_le, ta_nle, ta_eq, ta_neq, ta_nne, ta_ne, gs_id, a_gd01, a_gdT, or_true, true_or, bd_some, bW_sm, a_gd, a_ne, a_rd, Int.toNat_natCast, Int.toNat_add, Int.toNat_mul, Int.reduceToNat, a_gdp, a_cell, and_self, and_true, true_and, c]
  · rw [pb_f (fun z => c (n.2.2.2.2.2.1 (by omega)))]
    simp (disch := omega) only [↓reduceIte, ↓nm_eq, ↓jn_eq, ↓c_within, ↓c_isIn, ↓c_isScene, ↓c_isPlace, ↓c_isCue, ↓c_isDigit, ↓d_isScene, ↓d_isAny, ↓ta_pb1, ↓ta_pb0, ↓ta_pb1', ↓ta_pb0', ta_lt, ta_nlt, ta_le, ta_nle, ta_eq, ta_neq, ta_nne, ta_ne, gs_id, a_gd01, a_gdT, or_true, true_or, bd_some, bW_sm, a_gd, a_ne, a_rd, Int.toNat_natCast, Int.toNat_add, Int.toNat_mul, Int.reduceToNat, a_gdp, a_cell, and_self, and_true, true_and]
theorem cwe_0 : m_X9_w4 99 117 101 115 = some (cw 0) := by decide +kernel
theorem cwe_1 : m_X9_w5 115 116 97 121 115 = some (cw 1) := by decide +kernel
theorem cwe_3 : m_X9_w4 107 105 110 100 = some (cw 3) := by decide +kernel
theorem cwe_4 : m_X9_w6 112 101 114 115 111 110 = some (cw 4) := by decide +kernel
theorem cwe_5 : m_X9_w4 115 101 97 116 = some (cw 5) := by decide +kernel
theorem cwe_6 : m_X9_w4 99 97 108 108 = some (cw 6) := by decide +kernel
theorem cwe_7 : m_X9_w4 109 101 110 100 = some (cw 7) := by decide +kernel
theorem cwe_9 : m_X9_w2 98 121 = some (cw 9) := by decide +kernel
theorem cwe_10 : m_X9_w2 116 111 = some (cw 10) := by decide +kernel
theorem cwe_11 : m_X9_w2 111 102 = some (cw 11) := by decide +kernel
theorem cwe_12 : m_X9_w2 105 110 = some (cw 12) := by decide +kernel
theorem cwe_13 : m_X9_w5 107 105 110 100 115 = some (cw 13) := by decide +kernel
theorem cwe_14 : m_X9_w2 105 102 = some (cw 14) := by decide +kernel
theorem cwe_15 : m_X9_w4 116 104 101 110 = some (cw 15) := by decide +kernel
theorem cwe_16 : m_X9_w4 101 108 115 101 = some (cw 16) := by decide +kernel
theorem cwe_17 : m_X9_w3 101 110 100 = some (cw 17) := by decide +kernel
theorem cwe_18 : m_X9_w3 110 111 116 = some (cw 18) := by decide +kernel
theorem cwe_19 : m_X9_w3 97 110 100 = some (cw 19) := by decide +kernel
theorem cwe_20 : m_X9_w2 111 114 = some (cw 20) := by decide +kernel
theorem cwe_21 : m_X9_w3 100 97 121 = some (cw 21) := by decide +kernel
theorem cwe_22 : m_X9_w4 115 101 101 110 = some (cw 22) := by decide +kernel
theorem cwe_23 : m_X9_w5 112 108 97 105 110 = some (cw 23) := by decide +kernel
theorem cwe_24 : m_X9_w5 115 99 101 110 101 = some (cw 24) := by decide +kernel
theorem cwe_25 : m_X9_w5 115 104 111 119 110 = some (cw 25) := by decide +kernel
theorem cwe_26 : m_X9_w4 100 114 97 119 = some (cw 26) := by decide +kernel
theorem cwe_27 : m_X9_w3 99 117 101 = some (cw 27) := by decide +kernel
theorem cwe_28 : m_X9_w4 110 101 120 116 = some (cw 28) := by decide +kernel
theorem cwe_29 : m_X9_w3 119 104 111 = some (cw 29) := by decide +kernel
theorem cwe_30 : m_X9_w4 103 108 97 100 = some (cw 30) := by decide +kernel
theorem cwe_31 : m_X9_w3 114 111 119 = some (cw 31) := by decide +kernel
theorem cwe_32 : m_X9_w4 108 111 110 103 = some (cw 32) := by decide +kernel
