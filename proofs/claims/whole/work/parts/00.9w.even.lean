/-! an evening: both -/
theorem RF_snapf {M W : g_M} (H : RF M W) : ∃ D : Nat, D ≤ 9999 ∧ M 2 41 = D ∧ W 1 6 = D ∧ (0 ≤ M 2 42 ∧ M 2 42 < 30577 ∧ W 1 7 = M 2 42) ∧ (0 ≤ M 2 40 ∧ M 2 40 ≤ D ∧ W 1 8 = M 2 40) ∧ W 1 9 = ((min 30 D : Nat) : Int) ∧ (∀ s : Nat, s < 12 → (0 ≤ M 2 (16 + s) ∧ M 2 (16 + s) ≤ 12 ∧ W 1 (22 + s) = M 2 (16 + s)) ∧ 0 ≤ M 2 (28 + s) ∧ M 2 (28 + s) ≤ 9999 ∧ W 1 (10 + s) = M 2 (28 + s)) ∧ R_book D (M 2) (fun i => W 1 (3349 + i)) := by
  obtain ⟨P, T, S, E, C, F, hP, hT, hU, hS, hE, hC, hF, hsn, -⟩ := H
  obtain ⟨D, d1, d2, d3, d4, d5, d6, d7, d8, d9, d10⟩ := hsn
  refine ⟨D, d1, d2, d3, d4, d5, d6, fun s hs => ⟨?_, ?_⟩, d10⟩
  · have := d8 s hs
    have e : 6 + (16 + s) = 22 + s := by omega
    rw [← e]
    exact this
  · have := d7 s hs
    have e : 6 + (4 + s) = 10 + s := by omega
    rw [← e]
    exact this
theorem p_write {M : g_M} {D E j z r : Nat} (h41 : M 2 41 = D) (hD : D ≤ 9998) (h40 : M 2 40 = E) (hE : E ≤ D) (h3 : M 65 3 = j) (h4 : M 65 4 = z) : ∃ M' : g_M, m_X2_writeDown r M = some M' ∧ (∀ a, a ≠ 2 → M' a = M a) ∧ (∀ i, i ≠ 40 → i ≠ 41 → i ≠ 43 + D % 30 → i ≠ 73 + D % 30 → i ≠ 103 + D % 30 → M' 2 i = M 2 i) ∧ M' 2 (43 + D % 30) = j ∧ M' 2 (73 + D % 30) = r ∧ M' 2 (103 + D % 30) = z ∧ M' 2 40 = (E : Int) + r ∧ M' 2 41 = (D : Int) + 1 := by
  obtain ⟨g, hg⟩ : ∃ g, g = D % 30 := ⟨_, rfl⟩
  have hg30 : g < 30 := by omega
  have er : g_rem (D : Int) 30 = g := by rw [g_rem_nn (by omega) (by omega)]; omega
  rw [← hg]
  obtain ⟨M', hM⟩ : ∃ M', M' = g_wr (g_wr (g_wr (g_wr (g_wr M 2 (43 + g) j) 2 (73 + g) r) 2 (103 + g) z) 2 40 ((E : Int) + r)) 2 41 ((D : Int) + 1) := ⟨_, rfl⟩
  refine ⟨M', ?_, fun a ha => by rw [hM, a_cell _ ha, a_cell _ ha, a_cell _ ha, a_cell _ ha, a_cell _ ha], fun i h1 h2 h3 h4 h5 => by rw [hM, a_ne _ (by omega), a_ne _ (by omega), a_ne _ (by omega), a_ne _ (by omega), a_ne _ (by omega)], ?_, ?_, ?_, ?_, ?_⟩
  · unfold m_X2_writeDown
    simp (disch := omega) only [↓reduceIte, ↓nm_eq, ↓jn_eq, ↓c_within, ↓c_isIn, ↓c_isScene, ↓c_isPlace, ↓c_isCue, ↓c_isDigit, ↓d_isScene, ↓d_isAny, ↓ta_pb1, ↓ta_pb0, ↓ta_pb1', ↓ta_pb0', ta_lt, ta_nlt, ta_le, ta_nle, ta_eq, ta_neq, ta_nne, ta_ne, gs_id, a_gd01, a_gdT, or_true, true_or, bd_some, bW_sm, a_gd, a_ne, a_rd, Int.toNat_natCast, Int.toNat_add, Int.toNat_mul, Int.reduceToNat, a_gdp, a_cell, and_self, and_true, true_and, h41, er, h3, h4, h40]
    rw [hM]
  · rw [hM, a_ne _ (by omega), a_ne _ (by omega), a_ne _ (by omega), a_ne _ (by omega)]; exact wr_at _ _ _ _
  · rw [hM, a_ne _ (by omega), a_ne _ (by omega), a_ne _ (by omega)]; exact wr_at _ _ _ _
  · rw [hM, a_ne _ (by omega), a_ne _ (by omega)]; exact wr_at _ _ _ _
  · rw [hM, a_ne _ (by omega)]; exact wr_at _ _ _ _
  · rw [hM]; exact wr_at _ _ _ _
theorem RF_even {Mx Mm Ws M1 : g_M} {P j z r D : Nat} {c : Int} (H : RF Mx Mm) (p7 : Mx 1 7 = P) (hP : P ≤ 8) {M W M' : g_M} (h : EI Mx Mm Ws M1 P z r c M W) (hr : r ≤ 1) (hj : j ≤ 30) (hz : z ≤ 30) (h41 : Mx 2 41 = D) (hD : D ≤ 9998) (m1 : ∀ a, a ≠ 2 → M' a = M a) (m2 : ∀ i, i ≠ 40 → i ≠ 41 → i ≠ 43 + D % 30 → i ≠ 73 + D % 30 → i ≠ 103 + D % 30 → M' 2 i = M 2 i) (m3 : M' 2 (43 + D % 30) = j) (m4 : M' 2 (73 + D % 30) = r) (m5 : M' 2 (103 + D % 30) = z) (m6 : M' 2 40 = Mx 2 40 + r) (m7 : M' 2 41 = (D : Int) + 1) {V : g_M} (b0 : ∀ i, i ≠ 6 → i ≠ 9 → i < 3349 → V 1 i = W 1 i) (b6 : V 1 6 = (D : Int) + 1) (b9 : V 1 9 = ((min 30 (D + 1) : Nat) : Int)) (b1 : ∀ i, i < 2 * min 29 D → V 1 (3349 + i) = Mm 1 (3349 + (i + (if D < 30 then 0 else 2)))) (b2 : V 1 (3349 + 2 * min 29 D) = D) (b3 : V 1 (3349 + 2 * min 29 D + 1) = ((j : Int) * 2 + r) * 64 + z) : RF M' V := by
  obtain ⟨hA, hB, hC, hD2, hE, hF, hG, hH, hI, hJ, hK, hL⟩ := h
  obtain ⟨D', f1, f2, f3, f4, f5, f6, f7, f8⟩ := RF_snapf H
  obtain rfl : D' = D := by omega
  refine RF_snap H (fun k hk h2 => by rw [m1 k h2]; exact hA k h2 (by omega) (by omega) (by omega)) (fun P' hP' h7 hs => ?_) (fun i hi => by rw [b0 i (by omega) (by omega) (by omega)]; exact hE i (by omega)) (fun q hq => ⟨by rw [b0 _ (by omega) (by omega) (by omega)]; exact hF q 2 hq (by omega) (by omega), by rw [b0 _ (by omega) (by omega) (by omega)]; exact hF q 3 hq (by omega) (by omega)⟩)
  obtain rfl : P' = P := by omega
  obtain ⟨D2, d1, d2, d3, d4, d5, d6, d7, d8, d9, d10⟩ := hs
  refine ⟨D' + 1, by omega, by rw [m7]; omega, by show V 1 6 = _; rw [b6]; omega, ?_, ?_, b9, fun s hs => ?_, fun s hs => ?_, fun q hq => ?_, ?_⟩
  · show 0 ≤ M' 2 42 ∧ M' 2 42 < 30577 ∧ V 1 7 = M' 2 42
    rw [m2 42 (by omega) (by omega) (by omega) (by omega) (by omega), b0 7 (by omega) (by omega) (by omega)]
    exact hH
  · show 0 ≤ M' 2 40 ∧ M' 2 40 ≤ ((D' + 1 : Nat) : Int) ∧ V 1 8 = M' 2 40
    rw [m6, b0 8 (by omega) (by omega) (by omega), hL.2, f5.2.2]
    omega
  · show 0 ≤ M' 2 (28 + s) ∧ M' 2 (28 + s) ≤ 9999 ∧ V 1 (6 + (4 + s)) = M' 2 (28 + s)
    rw [m2 _ (by omega) (by omega) (by omega) (by omega) (by omega), b0 _ (by omega) (by omega) (by omega), show 6 + (4 + s) = 10 + s by omega]
    exact (hG s hs).2
  · show 0 ≤ M' 2 (16 + s) ∧ M' 2 (16 + s) ≤ 12 ∧ V 1 (6 + (16 + s)) = M' 2 (16 + s)
    rw [m2 _ (by omega) (by omega) (by omega) (by omega) (by omega), b0 _ (by omega) (by omega) (by omega), show 6 + (16 + s) = 22 + s by omega]
    exact (hG s hs).1
  · show 0 ≤ M' 2 q ∧ M' 2 q ≤ 9 ∧ V 1 (34 + 4 * q + 0) = M' 2 q ∧ 0 ≤ M' 2 (8 + q) ∧ M' 2 (8 + q) ≤ 99 ∧ V 1 (34 + 4 * q + 1) = M' 2 (8 + q)
    obtain ⟨e1, e2, e3, -⟩ := d9 q hq
    rw [m2 q (by omega) (by omega) (by omega) (by omega) (by omega), m2 (8 + q) (by omega) (by omega) (by omega) (by omega) (by omega), b0 _ (by omega) (by omega) (by omega), b0 (34 + 4 * q + 1) (by omega) (by omega) (by omega), hD2 q (by omega), hF q 0 (by omega) (by omega) (by omega)]
    exact ⟨e1, e2, e3, hI q hq⟩
  · exact R_book_add hD f8 (fun i h1 h2 h3 h4 h5 => by rw [m2 i (by omega) (by omega) h3 h4 h5]; exact hD2 i (by omega)) m3 m4 m5 hj (by omega) hz b1 b2 b3
def Wk (Mm Ws : g_M) : Prop := Ws 3 = Mm 3 ∧ (∀ j, j ≠ 9 → j < 3349 → Ws 1 j = Mm 1 j) ∧ (Ws 0 23 = 0 ∨ (Ws 0 23 = 1 ∧ Ws 1 = Mm 1))
theorem both_gl {n : Nat} {Mx Mm Ws M1 : g_M} {P x j : Nat} {d b p : Int} (hr : Rel n Mx Mm) (hd : Mx 2 41 < 9999) (l3 : LK Mx Mm M1 d b p) (hP : P ≤ 8) (p7 : Mx 1 7 = P) (p0 : Mm 1 0 = P) (hq : ∀ q : Nat, q < P → (0 ≤ Mx 2 q ∧ Mx 2 q ≤ 9 ∧ Mm 1 (34 + 4 * q) = Mx 2 q) ∧ 0 ≤ Mx 6 q ∧ Mx 6 q ≤ 9 ∧ Mm 1 (34 + 4 * q + 2) = Mx 6 q) (hj : j ≤ 30) {M W : g_M} (h3 : M 65 3 = j) (h : EI Mx Mm Ws M1 P x (0 : Nat) (0 : Nat) M W) : ∃ M' W' : g_M, m_X2_gladdenSeen M = some M' ∧ m_X9_gladden j W = some W' ∧ M' 65 3 = j ∧ EI Mx Mm Ws M1 P x (1 : Nat) (1 : Nat) M' W' := by
  obtain ⟨D, f1, f2, f3, f4, f5, f6, f7, f8⟩ := RF_snapf (Rel_RF hr)
  obtain ⟨hA, hB, hC, hD, hE, hF, hG, hH, hI, hJ, hK, hL⟩ := h
  have w8 : W 1 8 = Mx 2 40 := by rw [hL.2, f5.2.2]; omega
  obtain ⟨V, hV⟩ : ∃ V, V = g_wr W 1 8 (Mx 2 40 + 1) := ⟨_, rfl⟩
  have v0 : ∀ a, a ≠ 1 → V a = W a := fun a ha => by rw [hV, a_cell _ ha]
  have v1 : ∀ i, i ≠ 8 → V 1 i = W 1 i := fun i hi => by rw [hV, a_ne _ (by omega)]
  have v2 : V 1 8 = Mx 2 40 + 1 := by rw [hV]; exact wr_at _ _ _ _
  have hv : EI Mx Mm Ws M1 P x (1 : Nat) (0 : Nat) M V := by
    refine ⟨hA, hB, ⟨by rw [v0 3 (by omega)]; exact hC.1, fun a b1 b2 b3 b4 b5 => by rw [v0 a b2]; exact hC.2 a b1 b2 b3 b4 b5⟩, hD, fun i hi => by rw [v1 i (by omega)]; exact hE i hi, fun q i h1 h2 h3 => by rw [v1 _ (by omega)]; exact hF q i h1 h2 h3, fun s hs => by rw [v1 _ (by omega), v1 _ (by omega)]; exact hG s hs, by rw [v1 7 (by omega)]; exact hH, fun q hq => by rw [v1 _ (by omega)]; exact hI q hq, by rw [v0 0 (by omega)]; exact hJ, ⟨fun i b1 b2 b3 => by rw [v0 0 (by omega)]; exact hK.1 i b1 b2 b3, fun i hi => by rw [v1 i (by omega)]; exact hK.2 i hi⟩, by rw [v0 0 (by omega)]; exact hL.1, by rw [v2, f5.2.2]; omega⟩
  obtain ⟨M', W', a1, a2, a3, a4⟩ := both_gladden hP p7 p0 hq hr l3 hj P 0 g_fuel g_fuel M V (by omega) (by unfold g_fuel; omega) (by unfold g_fuel; omega) h3 hv
  obtain ⟨kA, kB, kC, kD, kE, kF, kG, kH, kI, kJ, kK, kL⟩ := a2
  refine ⟨M', g_wr W' 0 24 (W' 0 24 + 1), a3, ?_, a1, kA, kB, ⟨by rw [a_cell _ (by omega)]; exact kC.1, fun a b1 b2 b3 b4 b5 => by rw [a_cell _ b1]; exact kC.2 a b1 b2 b3 b4 b5⟩, kD, kE, kF, kG, kH, kI, ⟨kJ.1, by rw [a_ne _ (by omega)]; exact kJ.2⟩, ⟨fun i b1 b2 b3 => by rw [a_ne _ (by omega)]; exact kK.1 i b1 b2 b3, kK.2⟩, by rw [wr_at, kL.1]; omega, kL.2⟩
  have q1 : m_X9_cut (Mx 2 40 + 1) 0 9999 = some (Mx 2 40 + 1) := by
    have := q_cut (v := Mx 2 40 + 1) (t := 9999) (by unfold V6; omega) (by omega)
    rw [ctN_id (by omega)] at this
    exact this
  have a5 := a4
  rw [hV, Int.natCast_zero] at a5
  unfold m_X9_gladden
  simp (disch := omega) only [↓reduceIte, ↓nm_eq, ↓jn_eq, ↓c_within, ↓c_isIn, ↓c_isScene, ↓c_isPlace, ↓c_isCue, ↓c_isDigit, ↓d_isScene, ↓d_isAny, ↓ta_pb1, ↓ta_pb0, ↓ta_pb1', ↓ta_pb0', ta_lt, ta_nlt, ta_le, ta_nle, ta_eq, ta_neq, ta_nne, ta_ne, gs_id, a_gd01, a_gdT, or_true, true_or, bd_some, bW_sm, a_gd, a_ne, a_rd, Int.toNat_natCast, Int.toNat_add, Int.toNat_mul, Int.reduceToNat, a_gdp, a_cell, and_self, and_true, true_and, w8, q1, a5]
