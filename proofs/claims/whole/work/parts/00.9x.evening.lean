/-! an evening: both, whole -/
theorem both_evening {n : Nat} {Mx Mm Ws : g_M} (hr : Rel n Mx Mm) (hw : Wk Mm Ws) (hd : Mx 2 41 < 9999) : ∃ (r j y : Nat) (M' W' : g_M) (B : Nat → Int), r ≤ 1 ∧ j ≤ 30 ∧ y ≤ 30 ∧ m_X2_holdEvening Mx = some ((r : Int), M') ∧ m_X9_pass Ws = some W' ∧ (∀ V : g_M, V 1 = B → RF M' V) ∧ (∀ i, i ≠ 9 → i < 3349 → W' 1 i = B i) ∧ (Ws 0 23 = 1 → W' 1 = B) ∧ (∀ a, a ≠ 2 → a ≠ 33 → a ≠ 34 → a ≠ 65 → M' a = Mx a) ∧ (∀ a, a ≠ 0 → a ≠ 1 → a ≠ 6 → a ≠ 7 → a ≠ 8 → W' a = Ws a) ∧ (∀ i, i ≠ 24 → i ≠ 25 → i ≠ 26 → W' 0 i = Ws 0 i) ∧ W' 0 24 = Ws 0 24 + r ∧ W' 0 25 = Ws 0 25 + y ∧ W' 0 26 = j ∧ M' 65 3 = j ∧ M' 65 4 = y ∧ (∀ i, (i < 6 ∨ (66 ≤ i ∧ i < 3349)) → W' 1 i = Ws 1 i) ∧ (Ws 0 23 = 0 → ∀ i, 3349 ≤ i → W' 1 i = Ws 1 i) ∧ M' 2 41 = Mx 2 41 + 1 ∧ W' 1 6 = Mx 2 41 + 1 := by
  have H := Rel_RF hr
  obtain ⟨P, hP, p7, p0, hq⟩ := RF_rows H
  obtain ⟨D, f1, f2, f3, f4, f5, f6, f7, f8⟩ := RF_snapf H
  obtain ⟨w1, w2, w3⟩ := id hw
  obtain ⟨d, b, p, M1, l1, l2, l3⟩ := Ev_start hr
  obtain ⟨M4, hM4⟩ : ∃ M4, M4 = g_wr (g_wr M1 65 3 0) 65 4 0 := ⟨_, rfl⟩
  have m4 : ∀ a, a ≠ 33 → a ≠ 65 → M4 a = Mx a := fun a h1 h2 => by rw [hM4, a_cell _ h2, a_cell _ h2, l2 a h1]
  have h0 : EI Mx Mm Ws M1 P 0 (0 : Nat) (0 : Nat) M4 Ws := by
    refine ⟨fun a b1 b2 b3 b4 => m4 a b2 b4, fun j hj => by rw [hM4, a_cell _ (by omega), a_cell _ (by omega)], ⟨w1, fun a _ _ _ _ _ => rfl⟩, fun j hj => by rw [m4 2 (by omega) (by omega)], fun j hj => w2 j (by omega) (by omega), fun q i h1 h2 h3 => w2 _ (by omega) (by omega), fun s hs => ?_, ?_, fun q h => ?_, ⟨by rw [hM4]; exact wr_at _ _ _ _, by omega⟩, ⟨fun j _ _ _ => rfl, fun j _ => rfl⟩, by omega, by rw [w2 8 (by omega) (by omega)]; omega⟩
    · rw [m4 2 (by omega) (by omega), w2 _ (by omega) (by omega), w2 _ (by omega) (by omega)]
      exact f7 s hs
    · rw [m4 2 (by omega) (by omega), w2 _ (by omega) (by omega)]
      exact f4
    · rw [m4 2 (by omega) (by omega), w2 _ (by omega) (by omega)]
      exact (hq q h).2.1
  obtain ⟨t, j, z, M2, W2, t1, t2, t3, t4, t5, t6, t7⟩ := both_scenes hP hr l3 30 0 g_fuel g_fuel 0 0 M4 Ws (by omega) (by unfold g_fuel; omega) (by unfold g_fuel; omega) (by omega) (by omega) (by rw [hM4, a_ne _ (by omega)]; exact wr_at _ _ _ _) h0
  rw [Int.natCast_zero] at t6 t7
  obtain ⟨r, M3, W3, r1, r2, r3, r4, r5⟩ : ∃ (r : Nat) (M3 W3 : g_M), r ≤ 1 ∧ M3 65 3 = j ∧ EI Mx Mm Ws M1 P z r r M3 W3 ∧ (∀ M', m_X2_writeDown r M3 = some M' → m_X2_holdEvening Mx = some ((r : Int), M')) ∧ ∀ V, m_X9_write j r z (g_wr W3 0 26 j) = some V → m_X9_pass Ws = some (g_wr V 1 6 (V 1 6 + 1)) := by
    by_cases c : t = 12
    · subst c
      obtain ⟨M3, W3, a1, a2, a3, a4⟩ := both_gl hr hd l3 hP p7 p0 (fun q h => ⟨(hq q h).1, (hq q h).2.2⟩) t2 t4 t5
      refine ⟨1, M3, W3, by omega, a3, a4, fun M' hM => ?_, fun V hV => ?_⟩
      · unfold m_X2_holdEvening
        rw [Int.natCast_one] at hM
        simp (disch := omega) only [↓reduceIte, ↓nm_eq, ↓jn_eq, ↓c_within, ↓c_isIn, ↓c_isScene, ↓c_isPlace, ↓c_isCue, ↓c_isDigit, ↓d_isScene, ↓d_isAny, ↓ta_pb1, ↓ta_pb0, ↓ta_pb1', ↓ta_pb0', ta_lt, ta_nlt, ta_le, ta_nle, ta_eq, ta_neq, ta_nne, ta_ne, gs_id, a_gd01, a_gdT, or_true, true_or, bd_some, bW_sm, a_gd, a_ne, a_rd, Int.toNat_natCast, Int.toNat_add, Int.toNat_mul, Int.reduceToNat, a_gdp, a_cell, and_self, and_true, true_and, l1, ← hM4, t6, a1, hM]
        rfl
      · have e : W3 0 25 - Ws 0 25 = z := by have := a4.2.2.2.2.2.2.2.2.2.1.2; omega
        rw [Int.natCast_one] at hV
        unfold m_X9_pass
        simp (disch := omega) only [↓reduceIte, ↓nm_eq, ↓jn_eq, ↓c_within, ↓c_isIn, ↓c_isScene, ↓c_isPlace, ↓c_isCue, ↓c_isDigit, ↓d_isScene, ↓d_isAny, ↓ta_pb1, ↓ta_pb0, ↓ta_pb1', ↓ta_pb0', ta_lt, ta_nlt, ta_le, ta_nle, ta_eq, ta_neq, ta_nne, ta_ne, gs_id, a_gd01, a_gdT, or_true, true_or, bd_some, bW_sm, a_gd, a_ne, a_rd, Int.toNat_natCast, Int.toNat_add, Int.toNat_mul, Int.reduceToNat, a_gdp, a_cell, and_self, and_true, true_and, t7, a2, e, hV]
    · refine ⟨0, M2, W2, by omega, t4, t5, fun M' hM => ?_, fun V hV => ?_⟩
      · unfold m_X2_holdEvening
        rw [Int.natCast_zero] at hM
        simp (disch := omega) only [↓reduceIte, ↓nm_eq, ↓jn_eq, ↓c_within, ↓c_isIn, ↓c_isScene, ↓c_isPlace, ↓c_isCue, ↓c_isDigit, ↓d_isScene, ↓d_isAny, ↓ta_pb1, ↓ta_pb0, ↓ta_pb1', ↓ta_pb0', ta_lt, ta_nlt, ta_le, ta_nle, ta_eq, ta_neq, ta_nne, ta_ne, gs_id, a_gd01, a_gdT, or_true, true_or, bd_some, bW_sm, a_gd, a_ne, a_rd, Int.toNat_natCast, Int.toNat_add, Int.toNat_mul, Int.reduceToNat, a_gdp, a_cell, and_self, and_true, true_and, l1, ← hM4, t6, hM]
        rfl
      · have e : W2 0 25 - Ws 0 25 = z := by have := t5.2.2.2.2.2.2.2.2.2.1.2; omega
        rw [Int.natCast_zero] at hV
        unfold m_X9_pass
        simp (disch := omega) only [↓reduceIte, ↓nm_eq, ↓jn_eq, ↓c_within, ↓c_isIn, ↓c_isScene, ↓c_isPlace, ↓c_isCue, ↓c_isDigit, ↓d_isScene, ↓d_isAny, ↓ta_pb1, ↓ta_pb0, ↓ta_pb1', ↓ta_pb0', ta_lt, ta_nlt, ta_le, ta_nle, ta_eq, ta_neq, ta_nne, ta_ne, gs_id, a_gd01, a_gdT, or_true, true_or, bd_some, bW_sm, a_gd, a_ne, a_rd, Int.toNat_natCast, Int.toNat_add, Int.toNat_mul, Int.reduceToNat, a_gdp, a_cell, and_self, and_true, true_and, t7, e, hV]
  obtain ⟨hA, hB, hC, hD, hE, hF, hG, hH, hI, hJ, hK, hL⟩ := id r3
  obtain ⟨E, hE0⟩ : ∃ E : Nat, Mx 2 40 = E := ⟨(Mx 2 40).toNat, by omega⟩
  obtain ⟨M', x0, x1, x2, x3, x4, x5, x6, x7⟩ := p_write (M := M3) (D := D) (E := E) (j := j) (z := z) (r := r) (by rw [hD 41 (by omega)]; exact f2) (by omega) (by rw [hD 40 (by omega)]; exact hE0) (by omega) r2 hJ.1
  obtain ⟨W5, hW5⟩ : ∃ W5, W5 = g_wr W3 0 26 j := ⟨_, rfl⟩
  have w5 : ∀ a, a ≠ 0 → W5 a = W3 a := fun a ha => by rw [hW5, a_cell _ ha]
  have w50 : ∀ i, i ≠ 26 → W5 0 i = W3 0 i := fun i hi => by rw [hW5, a_ne _ (by omega)]
  have w526 : W5 0 26 = j := by rw [hW5]; exact wr_at _ _ _ _
  have k23 : W5 0 23 = Ws 0 23 := by rw [w50 23 (by omega)]; exact hK.1 23 (by omega) (by omega) (by omega)
  have k6 : W3 1 6 = D := by rw [hE 6 (by omega)]; exact f3
  rw [← hW5] at r5
  have key : ∀ U : g_M, U 0 23 = 1 → U 1 9 = Mm 1 9 → (∀ i, i ≠ 9 → i < 3349 → U 1 i = W3 1 i) → (∀ i, 3349 ≤ i → U 1 i = Mm 1 i) → ∃ V : g_M, m_X9_write j r z U = some V ∧ (∀ k, k ≠ 1 → V k = U k) ∧ (∀ i, i ≠ 9 → i < 3349 → V 1 i = W3 1 i) ∧ ∀ V' : g_M, V' 1 = (g_wr V 1 6 ((D : Int) + 1)) 1 → RF M' V' := by
    intro U h23 h9 hi hb
    obtain ⟨V, v0, v1, v2, v3, v4, v5, v6⟩ := q_write (W := U) (D := D) (by omega) j r z h23 (by rw [h9]; exact f6) (by rw [hi 6 (by omega) (by omega)]; exact k6)
    have v7 : ∀ i, i ≠ 9 → i < 3349 → V 1 i = W3 1 i := fun i h1 h2 => by rw [v2 i h1 h2]; exact hi i h1 h2
    refine ⟨V, v0, v1, v7, fun V' hV => ?_⟩
    refine RF_even H p7 hP r3 r1 t2 (by omega) f2 (by omega) x1 x2 x3 x4 x5 (by rw [x6, hE0]) x7 (fun i h1 h2 h3 => ?_) ?_ ?_ (fun i hi => ?_) ?_ ?_
    · rw [hV, a_ne _ (by omega)]; exact v7 i h2 h3
    · rw [hV]; exact wr_at _ _ _ _
    · rw [hV, a_ne _ (by omega)]; exact v3
    · rw [hV, a_ne _ (by omega), v4 i hi]; exact hb _ (by omega)
    · rw [hV, a_ne _ (by omega)]; exact v5
    · rw [hV, a_ne _ (by omega)]; exact v6
  have frC : ∀ a, a ≠ 2 → a ≠ 33 → a ≠ 34 → a ≠ 65 → M' a = Mx a := fun a b1 b2 b3 b4 => by rw [x1 a b1]; exact hA a b1 b2 b3 b4
  have m65 : M' 65 = M3 65 := x1 65 (by omega)
  rcases w3 with c | ⟨c, c'⟩
  · -- nothing is written
    obtain ⟨V, v0, v1, v2, v3⟩ := key (fun a => if a = 1 then (fun i => if i = 9 ∨ 3349 ≤ i then Mm 1 i else W3 1 i) else fun _ => 1) rfl rfl (fun i h1 h2 => by show (if i = 9 ∨ 3349 ≤ i then Mm 1 i else W3 1 i) = _; rw [if_neg (by omega)]) (fun i h1 => by show (if i = 9 ∨ 3349 ≤ i then Mm 1 i else W3 1 i) = _; rw [if_pos (by omega)])
    have e0 : m_X9_write j r z W5 = some W5 := by
      unfold m_X9_write
      rw [k23, c]
      simp (disch := omega) only [↓reduceIte, ↓nm_eq, ↓jn_eq, ↓c_within, ↓c_isIn, ↓c_isScene, ↓c_isPlace, ↓c_isCue, ↓c_isDigit, ↓d_isScene, ↓d_isAny, ↓ta_pb1, ↓ta_pb0, ↓ta_pb1', ↓ta_pb0', ta_lt, ta_nlt, ta_le, ta_nle, ta_eq, ta_neq, ta_nne, ta_ne, gs_id, a_gd01, a_gdT, or_true, true_or, bd_some, bW_sm, a_gd, a_ne, a_rd, Int.toNat_natCast, Int.toNat_add, Int.toNat_mul, Int.reduceToNat, a_gdp, a_cell, and_self, and_true, true_and]
    have e1 := r5 W5 e0
    have e6 : W5 1 6 = D := by rw [w5 1 (by omega)]; exact k6
    rw [e6] at e1
    refine ⟨r, j, z, M', _, _, r1, t2, by omega, r4 M' x0, e1, v3, fun i h1 h2 => ?_, fun h => by omega, frC, fun a b1 b2 b3 b4 b5 => by rw [a_cell _ b2, w5 a b1]; exact hC.2 a b1 b2 b3 b4 b5, fun i b1 b2 b3 => by rw [a_cell _ (by omega), w50 i b3]; exact hK.1 i b1 b2 b3, by rw [a_cell _ (by omega), w50 24 (by omega)]; exact hL.1, by rw [a_cell _ (by omega), w50 25 (by omega)]; exact hJ.2, by rw [a_cell _ (by omega)]; exact w526, by rw [m65]; exact r2, by rw [m65]; exact hJ.1, fun i hi => ?_, fun _ i hi => ?_, by rw [x7, f2], by rw [wr_at, f2]⟩
    · by_cases g : i = 6
      · rw [a_rd _ (by omega), a_rd _ (by omega)]
      · rw [a_ne _ (by omega), a_ne _ (by omega), w5 1 (by omega), v2 i h1 h2]
    · rw [a_ne _ (by omega), w5 1 (by omega), hE i (by omega), w2 i (by omega) (by omega)]
    · rw [a_ne _ (by omega), w5 1 (by omega)]; exact hK.2 i (by omega)
  · obtain ⟨V, v0, v1, v2, v3⟩ := key W5 (by rw [k23]; exact c) (by rw [w5 1 (by omega), hK.2 9 (by omega), c']) (fun i h1 h2 => by rw [w5 1 (by omega)]) (fun i h1 => by rw [w5 1 (by omega), hK.2 i (by omega), c'])
    have e1 := r5 V v0
    have e6 : V 1 6 = D := by rw [v2 6 (by omega) (by omega)]; exact k6
    rw [e6] at e1
    refine ⟨r, j, z, M', _, _, r1, t2, by omega, r4 M' x0, e1, v3, fun i h1 h2 => rfl, fun _ => rfl, frC, fun a b1 b2 b3 b4 b5 => by rw [a_cell _ b2, v1 a b2, w5 a b1]; exact hC.2 a b1 b2 b3 b4 b5, fun i b1 b2 b3 => by rw [a_cell _ (by omega), v1 0 (by omega), w50 i b3]; exact hK.1 i b1 b2 b3, by rw [a_cell _ (by omega), v1 0 (by omega), w50 24 (by omega)]; exact hL.1, by rw [a_cell _ (by omega), v1 0 (by omega), w50 25 (by omega)]; exact hJ.2, by rw [a_cell _ (by omega), v1 0 (by omega)]; exact w526, by rw [m65]; exact r2, by rw [m65]; exact hJ.1, fun i hi => ?_, fun h => by omega, by rw [x7, f2], by rw [wr_at, f2]⟩
    rw [a_ne _ (by omega), v2 i (by omega) (by omega), hE i (by omega), w2 i (by omega) (by omega)]
