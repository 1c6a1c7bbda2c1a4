/-! what is asked of the laws -/
theorem Ev_start {n : Nat} {M W : g_M} (hr : Rel n M W) : ∃ (d b p : Int) (M1 : g_M), m_X3_lookAround M = some M1 ∧ (∀ a, a ≠ 33 → M1 a = M a) ∧ ∀ M2 W2 : g_M, (∀ a, 35 ≤ a → a ≤ 64 → M2 a = M a) → M2 5 = M 5 → (∀ j, 21 ≤ j → j < 24 → M2 33 j = M1 33 j) → W2 3 = W 3 → (∀ s, s < 12 → W2 1 (114 + s) = W 1 (114 + s)) → (W2 1 0 = W 1 0 ∧ W2 1 6 = W 1 6 ∧ ∀ q, q < 8 → W2 1 (34 + 4 * q) = W 1 (34 + 4 * q) ∧ W2 1 (34 + 4 * q + 2) = W 1 (34 + 4 * q + 2)) → Ev M W d b p (fun s => M 5 s) M2 W2 := by
  have H := Rel_RF hr
  obtain ⟨P, T, S, E, C, F, hP, hT, hU, hS, hE, hC, hF, hsn, htd, hkd, hpl, hro, hod, hos, hsv, hlk, hfe, hst⟩ := id H
  obtain ⟨D, D1, D2, D3, D4, D5, D6, D7, D8, D9, D10⟩ := hsn
  have D3' : W 1 6 = D := D3
  have pr : PRow P M W := ⟨hP.2.2, by rw [D3', D2], fun q hq => ⟨(D9 q hq).2.2.1, (hpl q hq).2.2.1⟩⟩
  obtain ⟨b, p, b1, p1, l1, l2⟩ := p_look (M := M) (W0 := W) hP.1 hP.2.1 (fun q hq => ⟨(D9 q hq).1, (D9 q hq).2.1⟩) (fun q hq => ⟨(hpl q hq).1, (hpl q hq).2.1⟩) pr
  refine ⟨M 2 41, b, p, _, l1, fun a ha => by rw [a_cell _ ha, a_cell _ ha, a_cell _ ha], fun M2 W2 g1 g2 g3 g4 g5 g6 => ?_⟩
  refine ⟨⟨g1, g4⟩, ?_, ?_, fun s hs => ?_, l2 W2 ?_⟩
  · unfold V6; omega
  · rw [g3 21 (by omega) (by omega), g3 22 (by omega) (by omega), g3 23 (by omega) (by omega)]
    refine ⟨?_, ?_, ?_⟩ <;> simp (disch := omega) only [↓reduceIte, ↓nm_eq, ↓jn_eq, ↓c_within, ↓c_isIn, ↓c_isScene, ↓c_isPlace, ↓c_isCue, ↓c_isDigit, ↓d_isScene, ↓d_isAny, ↓ta_pb1, ↓ta_pb0, ↓ta_pb1', ↓ta_pb0', ta_lt, ta_nlt, ta_le, ta_nle, ta_eq, ta_neq, ta_nne, ta_ne, gs_id, a_gd01, a_gdT, or_true, true_or, bd_some, bW_sm, a_gd, a_ne, a_rd, Int.toNat_natCast, Int.toNat_add, Int.toNat_mul, Int.reduceToNat, a_gdp, a_cell, and_self, and_true, true_and]
  · rw [g2, g5 s hs]
    have := hkd s hs
    exact ⟨rfl, this.2.2, this.1, this.2.1⟩
  · refine ⟨by rw [g6.1]; exact pr.1, by rw [g6.2.1]; exact pr.2.1, fun q hq => ?_⟩
    have := g6.2.2 q (by omega)
    rw [this.1, this.2]
    exact pr.2.2 q hq
theorem Rel_law {n : Nat} {Mx Mm M' W' : g_M} (hr : Rel n Mx Mm) (h1 : ∀ a, a ≠ 33 → a ≠ 34 → M' a = Mx a) (h2 : ∀ a, a ≠ 6 → a ≠ 7 → a ≠ 8 → W' a = Mm a) : Rel (n + 1) M' W' := Rel_scr hr (fun a ha => h1 a (by omega) (by omega)) (fun a ha => h2 a (by omega) (by omega) (by omega))
theorem Rel_u {n : Nat} {M W : g_M} (hr : Rel n M W) : -1 ≤ M 1 9 ∧ M 1 9 < M 1 8 ∧ W 1 2 = M 1 9 := by
  obtain ⟨P, T, S, E, C, F, hP, hT, hU, -⟩ := Rel_RF hr
  rw [hT.2.1]; exact hU
