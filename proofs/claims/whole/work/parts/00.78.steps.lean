/-! seat, call, mend, undo, image, back -/
def RF (M W : g_M) : Prop := R_film (M 1) (M 2) (M 3) (M 4) (M 5) (M 6) (M 7) (M 8) (M 9) (M 10) (M 11) (W 1)
def Fx (M M' : g_M) : Prop := (∀ k, ((12 ≤ k ∧ k ≤ 22) ∨ k = 24 ∨ (35 ≤ k ∧ k ≤ 64)) → M' k = M k) ∧ (∀ j, j = 2 ∨ j = 3 ∨ j = 4 → M' 23 j = M 23 j) ∧ M' 1 8 = M 1 8
def Fm (W W' : g_M) : Prop := (∀ k, 2 ≤ k ∧ k ≤ 4 → W' k = W k) ∧ ∀ j, j = 4 ∨ j = 5 ∨ j = 6 ∨ j = 23 → W' 0 j = W 0 j
theorem Fx_refl (M : g_M) : Fx M M := ⟨fun _ _ => rfl, fun _ _ => rfl, rfl⟩
theorem Fm_refl (M : g_M) : Fm M M := ⟨fun _ _ => rfl, fun _ _ => rfl⟩
theorem Fx_trans {M M' M'' : g_M} (h : Fx M M') (h' : Fx M' M'') : Fx M M'' := ⟨fun k hk => (h'.1 k hk).trans (h.1 k hk), fun j hj => (h'.2.1 j hj).trans (h.2.1 j hj), h'.2.2.trans h.2.2⟩
theorem Fm_trans {M M' M'' : g_M} (h : Fm M M') (h' : Fm M' M'') : Fm M M'' := ⟨fun k hk => (h'.1 k hk).trans (h.1 k hk), fun j hj => (h'.2 j hj).trans (h.2 j hj)⟩
theorem Rel_mk {n : Nat} {Mx Mm Mx' Mm' : g_M} (h : Rel n Mx Mm) (fx : Fx Mx Mx') (fm : Fm Mm Mm') (c1 : 0 ≤ Mm' 0 24 ∧ Mm' 0 24 ≤ Mm 0 24 + 30000) (c2 : 0 ≤ Mm' 0 25 ∧ Mm' 0 25 ≤ Mm 0 25 + 30000) (hf : RF Mx' Mm') : Rel (n + 1) Mx' Mm' := by
  obtain ⟨hf0, hi, hle, ⟨⟨L, l1, l2, l3, l4⟩, ⟨l5, l6, l7⟩, l8, l9, l10⟩, ⟨q1, ⟨q2, q3⟩, q4, q5⟩, htx, hb⟩ := h
  obtain ⟨x1, x2, x3⟩ := fx
  obtain ⟨m1, m2⟩ := fm
  refine ⟨hf, ?_, ?_, ⟨⟨L, l1, by rw [x2 2 (by omega)]; exact l2, by rw [m2 4 (by omega)]; exact l3, ?_⟩, ⟨by rw [x2 3 (by omega)]; exact l5, by rw [x2 3 (by omega)]; exact l6, by rw [x2 3 (by omega), m2 5 (by omega)]; exact l7⟩, by rw [x2 4 (by omega)]; exact l8, by rw [x2 4 (by omega)]; exact l9, by rw [x2 4 (by omega), m2 6 (by omega)]; exact l10⟩, ⟨by rw [m2 23 (by omega)]; exact q1, ⟨c1.1, by omega⟩, c2.1, by omega⟩, ?_, ?_⟩
  · rw [x1 12 (by omega), x1 13 (by omega), x1 14 (by omega), x1 15 (by omega), x1 16 (by omega), x1 17 (by omega), x1 18 (by omega), x1 19 (by omega), x1 20 (by omega), x1 21 (by omega), x1 22 (by omega), m1 2 (by omega)]
    exact hi
  · rw [x1 12 (by omega), x3]; exact hle
  · rw [x1 24 (by omega), m1 4 (by omega)]; exact l4
  · intro t ht
    rw [x3] at ht
    have ht4 : t < 4 := by
      obtain ⟨P, T, S, E, C, F, -, ⟨t1, t2, -⟩, -⟩ := hf0
      omega
    have hh := htx t ht
    rw [m1 3 (by omega)]
    exact R_text_cg hh (fun i hi => x1 (41 + 6 * t + i) (by omega))
  · intro j hj
    rw [x1 37 (by omega), x1 38 (by omega)]
    exact hb j hj
theorem RF_snap {M W M' W' : g_M} (H : RF M W) (hc : ∀ k, (1 ≤ k ∧ k ≤ 11) → k ≠ 2 → M' k = M k) (hs : ∀ P : Nat, P ≤ 8 → M 1 7 = P → R_snap P (M 2) (fun j => W 1 (6 + j)) (fun q i => W 1 (34 + 4 * q + i)) (fun i => W 1 (3349 + i)) → R_snap P (M' 2) (fun j => W' 1 (6 + j)) (fun q i => W' 1 (34 + 4 * q + i)) (fun i => W' 1 (3349 + i))) (e1 : ∀ j, j < 6 ∨ (66 ≤ j ∧ j < 3349) → W' 1 j = W 1 j) (e2 : ∀ q, q < 8 → W' 1 (34 + 4 * q + 2) = W 1 (34 + 4 * q + 2) ∧ W' 1 (34 + 4 * q + 3) = W 1 (34 + 4 * q + 3)) : RF M' W' := by
  unfold RF at H ⊢
  rw [hc 1 (by omega) (by omega), hc 3 (by omega) (by omega), hc 4 (by omega) (by omega), hc 5 (by omega) (by omega), hc 6 (by omega) (by omega), hc 7 (by omega) (by omega), hc 8 (by omega) (by omega), hc 9 (by omega) (by omega), hc 10 (by omega) (by omega), hc 11 (by omega) (by omega)]
  exact R_film_snap H hs e1 e2
theorem R_snap_seat {P q : Nat} {v : Int} {nw nw' h h' : Nat → Int} {pr pr' : Nat → Nat → Int} {bk bk' : Nat → Int} (hv : 0 ≤ v ∧ v ≤ 9) (hP : P ≤ 8) (hq : q < P) (H : R_snap P nw h pr bk) (e0 : ∀ j, j < 133 → j ≠ q → nw' j = nw j) (f0 : nw' q = v) (e1 : ∀ j, j < 28 → h' j = h j) (e2 : ∀ p i, p < P → i < 2 → p ≠ q ∨ i ≠ 0 → pr' p i = pr p i) (f2 : pr' q 0 = v) (e3 : ∀ i, i < 60 → bk' i = bk i) : R_snap P nw' h' pr' bk' := by
  obtain ⟨D, d1, d2, d3, ⟨d4, d5, d6⟩, ⟨d7, d8, d9⟩, d10, d11, d12, d13, d14⟩ := H
  refine ⟨D, d1, by rw [e0 41 (by omega) (by omega)]; exact d2, by rw [e1 0 (by omega)]; exact d3, by rw [e1 1 (by omega), e0 42 (by omega) (by omega)]; exact ⟨d4, d5, d6⟩, by rw [e1 2 (by omega), e0 40 (by omega) (by omega)]; exact ⟨d7, d8, d9⟩, by rw [e1 3 (by omega)]; exact d10, fun t ht => ?_, fun t ht => ?_, fun p hp => ?_, R_book_cg d14 (fun j a b => e0 j (by omega) (by omega)) e3⟩
  · rw [e1 (4 + t) (by omega), e0 (28 + t) (by omega) (by omega)]; exact d11 t ht
  · rw [e1 (16 + t) (by omega), e0 (16 + t) (by omega) (by omega)]; exact d12 t ht
  · obtain ⟨b1, b2, b3, b4, b5, b6⟩ := d13 p hp
    rw [e0 (8 + p) (by omega) (by omega), e2 p 1 hp (by omega) (by omega)]
    by_cases e : p = q
    · subst e
      rw [f0, f2]
      exact ⟨hv.1, hv.2, rfl, b4, b5, b6⟩
    · rw [e0 p (by omega) e, e2 p 0 hp (by omega) (by omega)]
      exact ⟨b1, b2, b3, b4, b5, b6⟩
theorem both_keep {M W : g_M} (H : RF M W) : ∃ M' W', m_X1_keepStep M = some M' ∧ m_X9_keep W = some W' ∧ RF M' W' ∧ (∀ k, k ≠ 1 → k ≠ 3 → M' k = M k) ∧ (∀ j, j ≠ 2 → j ≠ 3 → M' 1 j = M 1 j) ∧ (∀ k, k ≠ 1 → W' k = W k) ∧ ∀ j, j ≠ 3 → (j < 199 ∨ 3349 ≤ j) → W' 1 j = W 1 j := by
  obtain ⟨P, T, S, E, C, F, hP, hT, hU, hS, hE, -⟩ := id H
  obtain ⟨M', S1, E1, a1, a2, a3, a4, a5, a6, a7⟩ := p_keep (M := M) hS.2.1 hE.2 hS.1 hE.1
  obtain ⟨W', S2, b1, b2, b3, b4, b5, b6, b7, b8, b9, b10⟩ := q_keep (W := W) hS.2.2 hS.1
  obtain rfl : S2 = S1 := by omega
  refine ⟨M', W', a1, b1, ?_, a6, a5, b3, b5⟩
  unfold RF
  rw [a6 2 (by omega) (by omega), a6 4 (by omega) (by omega), a6 5 (by omega) (by omega), a6 6 (by omega) (by omega), a6 7 (by omega) (by omega), a6 8 (by omega) (by omega), a6 9 (by omega) (by omega), a6 10 (by omega) (by omega), a6 11 (by omega) (by omega)]
  exact R_keep H hS.2.1 hE.2 a2 a3 a4 a5 a7 b4 b5 b6 b7 b8 b9 b10
theorem keep_F {M M' W W' : g_M} (a6 : ∀ k, k ≠ 1 → k ≠ 3 → M' k = M k) (a5 : ∀ j, j ≠ 2 → j ≠ 3 → M' 1 j = M 1 j) (b3 : ∀ k, k ≠ 1 → W' k = W k) : Fx M M' ∧ Fm W W' := ⟨⟨fun k hk => a6 k (by omega) (by omega), fun j hj => by rw [a6 23 (by omega) (by omega)], a5 8 (by omega) (by omega)⟩, fun k hk => b3 k (by omega), fun j hj => by rw [b3 0 (by omega)]⟩
theorem Fx_wr2 (M : g_M) (j : Nat) (v : Int) : Fx M (g_wr M 2 j v) := ⟨fun k hk => by simp (disch := omega) only [↓reduceIte, ↓nm_eq, ↓jn_eq, ↓c_within, ↓c_isIn, ↓c_isScene, ↓c_isPlace, ↓c_isCue, ↓c_isDigit, ↓d_isScene, ↓d_isAny, ↓ta_pb1, ↓ta_pb0, ↓ta_pb1', ↓ta_pb0', ta_lt, ta_nlt, ta_le, ta_nle, ta_eq, ta_neq, ta_nne, ta_ne, gs_id, a_gd01, a_gdT, or_true, true_or, bd_some, bW_sm, a_gd, a_ne, a_rd, Int.toNat_natCast, Int.toNat_add, Int.toNat_mul, Int.reduceToNat, a_gdp, a_cell, and_self, and_true, true_and], fun j hj => by simp (disch := omega) only [↓reduceIte, ↓nm_eq, ↓jn_eq, ↓c_within, ↓c_isIn, ↓c_isScene, ↓c_isPlace, ↓c_isCue, ↓c_isDigit, ↓d_isScene, ↓d_isAny, ↓ta_pb1, ↓ta_pb0, ↓ta_pb1', ↓ta_pb0', ta_lt, ta_nlt, ta_le, ta_nle, ta_eq, ta_neq, ta_nne, ta_ne, gs_id, a_gd01, a_gdT, or_true, true_or, bd_some, bW_sm, a_gd, a_ne, a_rd, Int.toNat_natCast, Int.toNat_add, Int.toNat_mul, Int.reduceToNat, a_gdp, a_cell, and_self, and_true, true_and], by simp (disch := omega) only [↓reduceIte, ↓nm_eq, ↓jn_eq, ↓c_within, ↓c_isIn, ↓c_isScene, ↓c_isPlace, ↓c_isCue, ↓c_isDigit, ↓d_isScene, ↓d_isAny, ↓ta_pb1, ↓ta_pb0, ↓ta_pb1', ↓ta_pb0', ta_lt, ta_nlt, ta_le, ta_nle, ta_eq, ta_neq, ta_nne, ta_ne, gs_id, a_gd01, a_gdT, or_true, true_or, bd_some, bW_sm, a_gd, a_ne, a_rd, Int.toNat_natCast, Int.toNat_add, Int.toNat_mul, Int.reduceToNat, a_gdp, a_cell, and_self, and_true, true_and]⟩
theorem Fm_wr1 (M : g_M) (j : Nat) (v : Int) : Fm M (g_wr M 1 j v) := ⟨fun k hk => by simp (disch := omega) only [↓reduceIte, ↓nm_eq, ↓jn_eq, ↓c_within, ↓c_isIn, ↓c_isScene, ↓c_isPlace, ↓c_isCue, ↓c_isDigit, ↓d_isScene, ↓d_isAny, ↓ta_pb1, ↓ta_pb0, ↓ta_pb1', ↓ta_pb0', ta_lt, ta_nlt, ta_le, ta_nle, ta_eq, ta_neq, ta_nne, ta_ne, gs_id, a_gd01, a_gdT, or_true, true_or, bd_some, bW_sm, a_gd, a_ne, a_rd, Int.toNat_natCast, Int.toNat_add, Int.toNat_mul, Int.reduceToNat, a_gdp, a_cell, and_self, and_true, true_and], fun j hj => by simp (disch := omega) only [↓reduceIte, ↓nm_eq, ↓jn_eq, ↓c_within, ↓c_isIn, ↓c_isScene, ↓c_isPlace, ↓c_isCue, ↓c_isDigit, ↓d_isScene, ↓d_isAny, ↓ta_pb1, ↓ta_pb0, ↓ta_pb1', ↓ta_pb0', ta_lt, ta_nlt, ta_le, ta_nle, ta_eq, ta_neq, ta_nne, ta_ne, gs_id, a_gd01, a_gdT, or_true, true_or, bd_some, bW_sm, a_gd, a_ne, a_rd, Int.toNat_natCast, Int.toNat_add, Int.toNat_mul, Int.reduceToNat, a_gdp, a_cell, and_self, and_true, true_and]⟩
theorem Rel_RF {n : Nat} {Mx Mm : g_M} (h : Rel n Mx Mm) : RF Mx Mm := h.1
theorem Rel_c {n : Nat} {Mx Mm W : g_M} (h : Rel n Mx Mm) (e : W 0 = Mm 0) : (0 ≤ W 0 24 ∧ W 0 24 ≤ Mm 0 24 + 30000) ∧ 0 ≤ W 0 25 ∧ W 0 25 ≤ Mm 0 25 + 30000 := by
  obtain ⟨-, -, -, -, ⟨-, ⟨q2, q3⟩, q4, q5⟩, -⟩ := h
  rw [e]
  omega
/-- one done by hand: what both sides of it come to -/
theorem do_seat {M W : g_M} (H : RF M W) {P : Nat} (h7 : M 1 7 = P) (hP : P ≤ 8) {a1 a2 : Int} (h1 : 0 ≤ a1 ∧ a1 < P) (h2 : 0 ≤ a2 ∧ a2 ≤ 9) : ∃ M' W', m_X2_seatStep a1 a2 M = some (1, M') ∧ (∃ W1, m_X9_keep W = some W1 ∧ m_X9_put a1 0 a2 W1 = some W') ∧ RF M' W' ∧ Fx M M' ∧ Fm W W' ∧ W' 0 = W 0 := by
  obtain ⟨q, rfl⟩ : ∃ q : Nat, a1 = q := ⟨a1.toNat, by omega⟩
  obtain ⟨M1, W1, k1, k2, k3, k4, k5, k6, k7⟩ := both_keep H
  obtain ⟨f1, f2⟩ := keep_F k4 k5 k6
  refine ⟨g_wr M1 2 q a2, g_wr W1 1 (34 + 4 * q) a2, ?_, ⟨W1, k2, p_put q 0 a2 W1 (34 + 4 * q) (by omega) (by omega)⟩, ?_, Fx_trans f1 (Fx_wr2 _ _ _), Fm_trans f2 (Fm_wr1 _ _ _), by rw [a_cell _ (by omega), k6 0 (by omega)]⟩
  · unfold m_X2_seatStep
    rw [k1]
    simp (disch := omega) only [↓reduceIte, ↓nm_eq, ↓jn_eq, ↓c_within, ↓c_isIn, ↓c_isScene, ↓c_isPlace, ↓c_isCue, ↓c_isDigit, ↓d_isScene, ↓d_isAny, ↓ta_pb1, ↓ta_pb0, ↓ta_pb1', ↓ta_pb0', ta_lt, ta_nlt, ta_le, ta_nle, ta_eq, ta_neq, ta_nne, ta_ne, gs_id, a_gd01, a_gdT, or_true, true_or, bd_some, bW_sm, a_gd, a_ne, a_rd, Int.toNat_natCast, Int.toNat_add, Int.toNat_mul, Int.reduceToNat, a_gdp, a_cell, and_self, and_true, true_and, Nat.zero_add]
  · refine RF_snap k3 (fun k hk h => by simp (disch := omega) only [↓reduceIte, ↓nm_eq, ↓jn_eq, ↓c_within, ↓c_isIn, ↓c_isScene, ↓c_isPlace, ↓c_isCue, ↓c_isDigit, ↓d_isScene, ↓d_isAny, ↓ta_pb1, ↓ta_pb0, ↓ta_pb1', ↓ta_pb0', ta_lt, ta_nlt, ta_le, ta_nle, ta_eq, ta_neq, ta_nne, ta_ne, gs_id, a_gd01, a_gdT, or_true, true_or, bd_some, bW_sm, a_gd, a_ne, a_rd, Int.toNat_natCast, Int.toNat_add, Int.toNat_mul, Int.reduceToNat, a_gdp, a_cell, and_self, and_true, true_and]) (fun P' hP' h7' hs => ?_) (fun j hj => by simp (disch := omega) only [↓reduceIte, ↓nm_eq, ↓jn_eq, ↓c_within, ↓c_isIn, ↓c_isScene, ↓c_isPlace, ↓c_isCue, ↓c_isDigit, ↓d_isScene, ↓d_isAny, ↓ta_pb1, ↓ta_pb0, ↓ta_pb1', ↓ta_pb0', ta_lt, ta_nlt, ta_le, ta_nle, ta_eq, ta_neq, ta_nne, ta_ne, gs_id, a_gd01, a_gdT, or_true, true_or, bd_some, bW_sm, a_gd, a_ne, a_rd, Int.toNat_natCast, Int.toNat_add, Int.toNat_mul, Int.reduceToNat, a_gdp, a_cell, and_self, and_true, true_and]) (fun p hp => by simp (disch := omega) only [↓reduceIte, ↓nm_eq, ↓jn_eq, ↓c_within, ↓c_isIn, ↓c_isScene, ↓c_isPlace, ↓c_isCue, ↓c_isDigit, ↓d_isScene, ↓d_isAny, ↓ta_pb1, ↓ta_pb0, ↓ta_pb1', ↓ta_pb0', ta_lt, ta_nlt, ta_le, ta_nle, ta_eq, ta_neq, ta_nne, ta_ne, gs_id, a_gd01, a_gdT, or_true, true_or, bd_some, bW_sm, a_gd, a_ne, a_rd, Int.toNat_natCast, Int.toNat_add, Int.toNat_mul, Int.reduceToNat, a_gdp, a_cell, and_self, and_true, true_and])
    have eP : P' = P := by rw [k5 7 (by omega) (by omega)] at h7'; omega
    subst eP
    exact R_snap_seat (q := q) h2 hP (by omega) hs (fun j hj h => by simp (disch := omega) only [↓reduceIte, ↓nm_eq, ↓jn_eq, ↓c_within, ↓c_isIn, ↓c_isScene, ↓c_isPlace, ↓c_isCue, ↓c_isDigit, ↓d_isScene, ↓d_isAny, ↓ta_pb1, ↓ta_pb0, ↓ta_pb1', ↓ta_pb0', ta_lt, ta_nlt, ta_le, ta_nle, ta_eq, ta_neq, ta_nne, ta_ne, gs_id, a_gd01, a_gdT, or_true, true_or, bd_some, bW_sm, a_gd, a_ne, a_rd, Int.toNat_natCast, Int.toNat_add, Int.toNat_mul, Int.reduceToNat, a_gdp, a_cell, and_self, and_true, true_and]) (by simp (disch := omega) only [↓reduceIte, ↓nm_eq, ↓jn_eq, ↓c_within, ↓c_isIn, ↓c_isScene, ↓c_isPlace, ↓c_isCue, ↓c_isDigit, ↓d_isScene, ↓d_isAny, ↓ta_pb1, ↓ta_pb0, ↓ta_pb1', ↓ta_pb0', ta_lt, ta_nlt, ta_le, ta_nle, ta_eq, ta_neq, ta_nne, ta_ne, gs_id, a_gd01, a_gdT, or_true, true_or, bd_some, bW_sm, a_gd, a_ne, a_rd, Int.toNat_natCast, Int.toNat_add, Int.toNat_mul, Int.reduceToNat, a_gdp, a_cell, and_self, and_true, true_and]) (fun j hj => by simp (disch := omega) only [↓reduceIte, ↓nm_eq, ↓jn_eq, ↓c_within, ↓c_isIn, ↓c_isScene, ↓c_isPlace, ↓c_isCue, ↓c_isDigit, ↓d_isScene, ↓d_isAny, ↓ta_pb1, ↓ta_pb0, ↓ta_pb1', ↓ta_pb0', ta_lt, ta_nlt, ta_le, ta_nle, ta_eq, ta_neq, ta_nne, ta_ne, gs_id, a_gd01, a_gdT, or_true, true_or, bd_some, bW_sm, a_gd, a_ne, a_rd, Int.toNat_natCast, Int.toNat_add, Int.toNat_mul, Int.reduceToNat, a_gdp, a_cell, and_self, and_true, true_and]) (fun p i hp hi h => by simp (disch := omega) only [↓reduceIte, ↓nm_eq, ↓jn_eq, ↓c_within, ↓c_isIn, ↓c_isScene, ↓c_isPlace, ↓c_isCue, ↓c_isDigit, ↓d_isScene, ↓d_isAny, ↓ta_pb1, ↓ta_pb0, ↓ta_pb1', ↓ta_pb0', ta_lt, ta_nlt, ta_le, ta_nle, ta_eq, ta_neq, ta_nne, ta_ne, gs_id, a_gd01, a_gdT, or_true, true_or, bd_some, bW_sm, a_gd, a_ne, a_rd, Int.toNat_natCast, Int.toNat_add, Int.toNat_mul, Int.reduceToNat, a_gdp, a_cell, and_self, and_true, true_and]) (by simp (disch := omega) only [↓reduceIte, ↓nm_eq, ↓jn_eq, ↓c_within, ↓c_isIn, ↓c_isScene, ↓c_isPlace, ↓c_isCue, ↓c_isDigit, ↓d_isScene, ↓d_isAny, ↓ta_pb1, ↓ta_pb0, ↓ta_pb1', ↓ta_pb0', ta_lt, ta_nlt, ta_le, ta_nle, ta_eq, ta_neq, ta_nne, ta_ne, gs_id, a_gd01, a_gdT, or_true, true_or, bd_some, bW_sm, a_gd, a_ne, a_rd, Int.toNat_natCast, Int.toNat_add, Int.toNat_mul, Int.reduceToNat, a_gdp, a_cell, and_self, and_true, true_and]) (fun i hi => by simp (disch := omega) only [↓reduceIte, ↓nm_eq, ↓jn_eq, ↓c_within, ↓c_isIn, ↓c_isScene, ↓c_isPlace, ↓c_isCue, ↓c_isDigit, ↓d_isScene, ↓d_isAny, ↓ta_pb1, ↓ta_pb0, ↓ta_pb1', ↓ta_pb0', ta_lt, ta_nlt, ta_le, ta_nle, ta_eq, ta_neq, ta_nne, ta_ne, gs_id, a_gd01, a_gdT, or_true, true_or, bd_some, bW_sm, a_gd, a_ne, a_rd, Int.toNat_natCast, Int.toNat_add, Int.toNat_mul, Int.reduceToNat, a_gdp, a_cell, and_self, and_true, true_and])
theorem RF_lead {M W : g_M} (H : RF M W) : (∀ s : Nat, s < 12 → 0 ≤ M 2 (16 + s) ∧ M 2 (16 + s) ≤ 12 ∧ W 1 (22 + s) = M 2 (16 + s)) ∧ ∀ i : Nat, i < 48 → 0 ≤ M 4 i ∧ M 4 i ≤ 12 ∧ W 1 (66 + i) = M 4 i := by
  obtain ⟨P, T, S, E, C, F, hP, hT, hU, hS, hE, hC, hF, hsn, htd, -⟩ := H
  obtain ⟨D, d1, d2, d3, ⟨d4, d5, d6⟩, ⟨d7, d8, d9⟩, d10, d11, d12, d13, d14⟩ := hsn
  refine ⟨fun s hs => ?_, htd⟩
  have h := d12 s hs
  rw [show 22 + s = 6 + (16 + s) by omega]
  exact h
theorem RF_setlead {M W : g_M} (H : RF M W) {s : Nat} (hs : s < 12) {v : Int} (hv : 0 ≤ v ∧ v ≤ 12) : RF (g_wr M 2 (16 + s) v) (g_wr W 1 (22 + s) v) := by
  refine RF_snap H (fun k hk h => by simp (disch := omega) only [↓reduceIte, ↓nm_eq, ↓jn_eq, ↓c_within, ↓c_isIn, ↓c_isScene, ↓c_isPlace, ↓c_isCue, ↓c_isDigit, ↓d_isScene, ↓d_isAny, ↓ta_pb1, ↓ta_pb0, ↓ta_pb1', ↓ta_pb0', ta_lt, ta_nlt, ta_le, ta_nle, ta_eq, ta_neq, ta_nne, ta_ne, gs_id, a_gd01, a_gdT, or_true, true_or, bd_some, bW_sm, a_gd, a_ne, a_rd, Int.toNat_natCast, Int.toNat_add, Int.toNat_mul, Int.reduceToNat, a_gdp, a_cell, and_self, and_true, true_and]) (fun P hP h7 hsn => ?_) (fun j hj => by simp (disch := omega) only [↓reduceIte, ↓nm_eq, ↓jn_eq, ↓c_within, ↓c_isIn, ↓c_isScene, ↓c_isPlace, ↓c_isCue, ↓c_isDigit, ↓d_isScene, ↓d_isAny, ↓ta_pb1, ↓ta_pb0, ↓ta_pb1', ↓ta_pb0', ta_lt, ta_nlt, ta_le, ta_nle, ta_eq, ta_neq, ta_nne, ta_ne, gs_id, a_gd01, a_gdT, or_true, true_or, bd_some, bW_sm, a_gd, a_ne, a_rd, Int.toNat_natCast, Int.toNat_add, Int.toNat_mul, Int.reduceToNat, a_gdp, a_cell, and_self, and_true, true_and]) (fun p hp => by simp (disch := omega) only [↓reduceIte, ↓nm_eq, ↓jn_eq, ↓c_within, ↓c_isIn, ↓c_isScene, ↓c_isPlace, ↓c_isCue, ↓c_isDigit, ↓d_isScene, ↓d_isAny, ↓ta_pb1, ↓ta_pb0, ↓ta_pb1', ↓ta_pb0', ta_lt, ta_nlt, ta_le, ta_nle, ta_eq, ta_neq, ta_nne, ta_ne, gs_id, a_gd01, a_gdT, or_true, true_or, bd_some, bW_sm, a_gd, a_ne, a_rd, Int.toNat_natCast, Int.toNat_add, Int.toNat_mul, Int.reduceToNat, a_gdp, a_cell, and_self, and_true, true_and])
  exact R_snap_lead hs hv hP hsn (fun j hj h => by simp (disch := omega) only [↓reduceIte, ↓nm_eq, ↓jn_eq, ↓c_within, ↓c_isIn, ↓c_isScene, ↓c_isPlace, ↓c_isCue, ↓c_isDigit, ↓d_isScene, ↓d_isAny, ↓ta_pb1, ↓ta_pb0, ↓ta_pb1', ↓ta_pb0', ta_lt, ta_nlt, ta_le, ta_nle, ta_eq, ta_neq, ta_nne, ta_ne, gs_id, a_gd01, a_gdT, or_true, true_or, bd_some, bW_sm, a_gd, a_ne, a_rd, Int.toNat_natCast, Int.toNat_add, Int.toNat_mul, Int.reduceToNat, a_gdp, a_cell, and_self, and_true, true_and]) (by simp (disch := omega) only [↓reduceIte, ↓nm_eq, ↓jn_eq, ↓c_within, ↓c_isIn, ↓c_isScene, ↓c_isPlace, ↓c_isCue, ↓c_isDigit, ↓d_isScene, ↓d_isAny, ↓ta_pb1, ↓ta_pb0, ↓ta_pb1', ↓ta_pb0', ta_lt, ta_nlt, ta_le, ta_nle, ta_eq, ta_neq, ta_nne, ta_ne, gs_id, a_gd01, a_gdT, or_true, true_or, bd_some, bW_sm, a_gd, a_ne, a_rd, Int.toNat_natCast, Int.toNat_add, Int.toNat_mul, Int.reduceToNat, a_gdp, a_cell, and_self, and_true, true_and]) (fun j hj h => by simp (disch := omega) only [↓reduceIte, ↓nm_eq, ↓jn_eq, ↓c_within, ↓c_isIn, ↓c_isScene, ↓c_isPlace, ↓c_isCue, ↓c_isDigit, ↓d_isScene, ↓d_isAny, ↓ta_pb1, ↓ta_pb0, ↓ta_pb1', ↓ta_pb0', ta_lt, ta_nlt, ta_le, ta_nle, ta_eq, ta_neq, ta_nne, ta_ne, gs_id, a_gd01, a_gdT, or_true, true_or, bd_some, bW_sm, a_gd, a_ne, a_rd, Int.toNat_natCast, Int.toNat_add, Int.toNat_mul, Int.reduceToNat, a_gdp, a_cell, and_self, and_true, true_and]) (by rw [← Nat.add_assoc]; simp (disch := omega) only [↓reduceIte, ↓nm_eq, ↓jn_eq, ↓c_within, ↓c_isIn, ↓c_isScene, ↓c_isPlace, ↓c_isCue, ↓c_isDigit, ↓d_isScene, ↓d_isAny, ↓ta_pb1, ↓ta_pb0, ↓ta_pb1', ↓ta_pb0', ta_lt, ta_nlt, ta_le, ta_nle, ta_eq, ta_neq, ta_nne, ta_ne, gs_id, a_gd01, a_gdT, or_true, true_or, bd_some, bW_sm, a_gd, a_ne, a_rd, Int.toNat_natCast, Int.toNat_add, Int.toNat_mul, Int.reduceToNat, a_gdp, a_cell, and_self, and_true, true_and]) (fun p i hp hi => by simp (disch := omega) only [↓reduceIte, ↓nm_eq, ↓jn_eq, ↓c_within, ↓c_isIn, ↓c_isScene, ↓c_isPlace, ↓c_isCue, ↓c_isDigit, ↓d_isScene, ↓d_isAny, ↓ta_pb1, ↓ta_pb0, ↓ta_pb1', ↓ta_pb0', ta_lt, ta_nlt, ta_le, ta_nle, ta_eq, ta_neq, ta_nne, ta_ne, gs_id, a_gd01, a_gdT, or_true, true_or, bd_some, bW_sm, a_gd, a_ne, a_rd, Int.toNat_natCast, Int.toNat_add, Int.toNat_mul, Int.reduceToNat, a_gdp, a_cell, and_self, and_true, true_and]) (fun i hi => by simp (disch := omega) only [↓reduceIte, ↓nm_eq, ↓jn_eq, ↓c_within, ↓c_isIn, ↓c_isScene, ↓c_isPlace, ↓c_isCue, ↓c_isDigit, ↓d_isScene, ↓d_isAny, ↓ta_pb1, ↓ta_pb0, ↓ta_pb1', ↓ta_pb0', ta_lt, ta_nlt, ta_le, ta_nle, ta_eq, ta_neq, ta_nne, ta_ne, gs_id, a_gd01, a_gdT, or_true, true_or, bd_some, bW_sm, a_gd, a_ne, a_rd, Int.toNat_natCast, Int.toNat_add, Int.toNat_mul, Int.reduceToNat, a_gdp, a_cell, and_self, and_true, true_and])
theorem do_call {M W : g_M} (H : RF M W) {s c : Nat} (hs : s < 12) (hc : c ≤ 3) : ∃ M' W', m_X2_callStep s c M = some (1, M') ∧ (∃ W1, m_X9_keep W = some W1 ∧ m_X9_nextOf s c W1 = some (nxF (M 2) (M 4) s c) ∧ W' = g_wr W1 1 (22 + s) (nxF (M 2) (M 4) s c)) ∧ RF M' W' ∧ Fx M M' ∧ Fm W W' ∧ W' 0 = W 0 := by
  obtain ⟨M1, W1, k1, k2, k3, k4, k5, k6, k7⟩ := both_keep H
  obtain ⟨f1, f2⟩ := keep_F k4 k5 k6
  obtain ⟨g1, g2⟩ := RF_lead H
  have nb := nxF_lt (nw := M 2) (td := M 4) (fun s hs => ⟨(g1 s hs).1, (g1 s hs).2.1⟩) (fun i hi => ⟨(g2 i hi).1, (g2 i hi).2.1⟩) (s := s) (c := c) (by omega) hc
  have e1 : nxF (M1 2) (M1 4) s c = nxF (M 2) (M 4) s c := by rw [k4 2 (by omega) (by omega), k4 4 (by omega) (by omega)]
  refine ⟨g_wr M1 2 (16 + s) (nxF (M 2) (M 4) s c), g_wr W1 1 (22 + s) (nxF (M 2) (M 4) s c), ?_, ⟨W1, k2, ?_, rfl⟩, RF_setlead k3 hs nb, Fx_trans f1 (Fx_wr2 _ _ _), Fm_trans f2 (Fm_wr1 _ _ _), by rw [a_cell _ (by omega), k6 0 (by omega)]⟩
  · unfold m_X2_callStep
    rw [k1]
    simp (disch := omega) only [↓reduceIte, ↓nm_eq, ↓jn_eq, ↓c_within, ↓c_isIn, ↓c_isScene, ↓c_isPlace, ↓c_isCue, ↓c_isDigit, ↓d_isScene, ↓d_isAny, ↓ta_pb1, ↓ta_pb0, ↓ta_pb1', ↓ta_pb0', ta_lt, ta_nlt, ta_le, ta_nle, ta_eq, ta_neq, ta_nne, ta_ne, gs_id, a_gd01, a_gdT, or_true, true_or, bd_some, bW_sm, a_gd, a_ne, a_rd, Int.toNat_natCast, Int.toNat_add, Int.toNat_mul, Int.reduceToNat, a_gdp, a_cell, and_self, and_true, true_and, p_after (M := M1) (s := s) (c := c) (by omega) hc, e1]
  · refine q_nextOf (fun s hs => ?_) (fun i hi => ?_) (by omega) hc
    · rw [k7 _ (by omega) (by omega)]; exact (g1 s hs).2.2
    · rw [k7 _ (by omega) (by omega)]; exact (g2 i hi).2.2
theorem do_mend {M W : g_M} (H : RF M W) {s : Nat} (hs : s < 12) : ∃ M' W', m_X2_mendStep s M = some (1, M') ∧ (∃ W1, m_X9_keep W = some W1 ∧ W1 1 (66 + s * 4) = M 4 (s * 4) ∧ W' = g_wr W1 1 (22 + s) (M 4 (s * 4))) ∧ RF M' W' ∧ Fx M M' ∧ Fm W W' ∧ W' 0 = W 0 := by
  obtain ⟨M1, W1, k1, k2, k3, k4, k5, k6, k7⟩ := both_keep H
  obtain ⟨f1, f2⟩ := keep_F k4 k5 k6
  obtain ⟨g1, g2⟩ := RF_lead H
  obtain ⟨b1, b2, b3⟩ := g2 (s * 4) (by omega)
  refine ⟨g_wr M1 2 (16 + s) (M 4 (s * 4)), g_wr W1 1 (22 + s) (M 4 (s * 4)), ?_, ⟨W1, k2, ?_, rfl⟩, RF_setlead k3 hs ⟨b1, b2⟩, Fx_trans f1 (Fx_wr2 _ _ _), Fm_trans f2 (Fm_wr1 _ _ _), by rw [a_cell _ (by omega), k6 0 (by omega)]⟩
  · unfold m_X2_mendStep
    rw [k1]
    simp (disch := omega) only [↓reduceIte, ↓nm_eq, ↓jn_eq, ↓c_within, ↓c_isIn, ↓c_isScene, ↓c_isPlace, ↓c_isCue, ↓c_isDigit, ↓d_isScene, ↓d_isAny, ↓ta_pb1, ↓ta_pb0, ↓ta_pb1', ↓ta_pb0', ta_lt, ta_nlt, ta_le, ta_nle, ta_eq, ta_neq, ta_nne, ta_ne, gs_id, a_gd01, a_gdT, or_true, true_or, bd_some, bW_sm, a_gd, a_ne, a_rd, Int.toNat_natCast, Int.toNat_add, Int.toNat_mul, Int.reduceToNat, a_gdp, a_cell, and_self, and_true, true_and, k4]
  · rw [k7 _ (by omega) (by omega)]; exact b3
theorem st_8 : x_step_8 Rel := by
  intro n Mx Mm hr hn a1 a2 h1 h2
  obtain ⟨i1, j1⟩ := h1
  obtain ⟨i2, j2⟩ := h2
  obtain ⟨P, T, S, E, C, F, hP, hT, hU, hS, hE, hC, hF, hsn, -⟩ := Rel_RF hr
  have hP1 := hP.1
  obtain ⟨D, d1, d2, d3, ⟨d4, d5, d6⟩, ⟨d7, d8, d9⟩, d10, d11, d12, d13, d14⟩ := hsn
  have no : (∃ r, m_X8_seat a1 a2 Mx = some (r, Mx) ∧ m_X9_seat a1 a2 Mm = some (r, Mm)) → ∃ (r r' : Int) (Mx' Mm' : g_M), (m_X8_seat a1 a2 Mx = some (r, Mx')) ∧ (m_X9_seat a1 a2 Mm = some (r', Mm')) ∧ gs r = gs r' ∧ Rel (n + 1) Mx' Mm' := fun ⟨r, e1, e2⟩ => ⟨r, r, Mx, Mm, e1, e2, rfl, st_same hr⟩
  by_cases c1 : 0 ≤ a1 ∧ a1 < P
  rotate_left
  · refine no ⟨0, ?_, ?_⟩
    · unfold m_X8_seat; simp (disch := omega) only [↓reduceIte, ↓nm_eq, ↓jn_eq, ↓c_within, ↓c_isIn, ↓c_isScene, ↓c_isPlace, ↓c_isCue, ↓c_isDigit, ↓d_isScene, ↓d_isAny, ↓ta_pb1, ↓ta_pb0, ↓ta_pb1', ↓ta_pb0', ta_lt, ta_nlt, ta_le, ta_nle, ta_eq, ta_neq, ta_nne, ta_ne, gs_id, a_gd01, a_gdT, or_true, true_or, bd_some, bW_sm, a_gd, a_ne, a_rd, Int.toNat_natCast, Int.toNat_add, Int.toNat_mul, Int.reduceToNat, a_gdp, a_cell, and_self, and_true, true_and, ↓bd_eq (a_isPerson hP.2.1 ⟨i1, j1⟩ hP1)]
    · unfold m_X9_seat m_X9_canSeat; simp (disch := omega) only [↓reduceIte, ↓nm_eq, ↓jn_eq, ↓c_within, ↓c_isIn, ↓c_isScene, ↓c_isPlace, ↓c_isCue, ↓c_isDigit, ↓d_isScene, ↓d_isAny, ↓ta_pb1, ↓ta_pb0, ↓ta_pb1', ↓ta_pb0', ta_lt, ta_nlt, ta_le, ta_nle, ta_eq, ta_neq, ta_nne, ta_ne, gs_id, a_gd01, a_gdT, or_true, true_or, bd_some, bW_sm, a_gd, a_ne, a_rd, Int.toNat_natCast, Int.toNat_add, Int.toNat_mul, Int.reduceToNat, a_gdp, a_cell, and_self, and_true, true_and, ↓bd_eq (b_isPerson hP.2.2 ⟨i1, j1⟩ hP1)]
  by_cases c2 : 0 ≤ a2 ∧ a2 ≤ 9
  rotate_left
  · refine no ⟨0, ?_, ?_⟩
    · unfold m_X8_seat; simp (disch := omega) only [↓reduceIte, ↓nm_eq, ↓jn_eq, ↓c_within, ↓c_isIn, ↓c_isScene, ↓c_isPlace, ↓c_isCue, ↓c_isDigit, ↓d_isScene, ↓d_isAny, ↓ta_pb1, ↓ta_pb0, ↓ta_pb1', ↓ta_pb0', ta_lt, ta_nlt, ta_le, ta_nle, ta_eq, ta_neq, ta_nne, ta_ne, gs_id, a_gd01, a_gdT, or_true, true_or, bd_some, bW_sm, a_gd, a_ne, a_rd, Int.toNat_natCast, Int.toNat_add, Int.toNat_mul, Int.reduceToNat, a_gdp, a_cell, and_self, and_true, true_and, ↓bd_eq (a_isPerson hP.2.1 ⟨i1, j1⟩ hP1)]
    · unfold m_X9_seat m_X9_canSeat; simp (disch := omega) only [↓reduceIte, ↓nm_eq, ↓jn_eq, ↓c_within, ↓c_isIn, ↓c_isScene, ↓c_isPlace, ↓c_isCue, ↓c_isDigit, ↓d_isScene, ↓d_isAny, ↓ta_pb1, ↓ta_pb0, ↓ta_pb1', ↓ta_pb0', ta_lt, ta_nlt, ta_le, ta_nle, ta_eq, ta_neq, ta_nne, ta_ne, gs_id, a_gd01, a_gdT, or_true, true_or, bd_some, bW_sm, a_gd, a_ne, a_rd, Int.toNat_natCast, Int.toNat_add, Int.toNat_mul, Int.reduceToNat, a_gdp, a_cell, and_self, and_true, true_and, ↓bd_eq (b_isPerson hP.2.2 ⟨i1, j1⟩ hP1)]
  obtain ⟨q, rfl⟩ : ∃ q : Nat, a1 = q := ⟨a1.toNat, by omega⟩
  obtain ⟨b1, b2, b3, -⟩ := d13 q (by omega)
  by_cases c3 : Mx 2 q = a2
  · refine no ⟨0, ?_, ?_⟩
    · unfold m_X8_seat m_X2_canSeat; simp (disch := omega) only [↓reduceIte, ↓nm_eq, ↓jn_eq, ↓c_within, ↓c_isIn, ↓c_isScene, ↓c_isPlace, ↓c_isCue, ↓c_isDigit, ↓d_isScene, ↓d_isAny, ↓ta_pb1, ↓ta_pb0, ↓ta_pb1', ↓ta_pb0', ta_lt, ta_nlt, ta_le, ta_nle, ta_eq, ta_neq, ta_nne, ta_ne, gs_id, a_gd01, a_gdT, or_true, true_or, bd_some, bW_sm, a_gd, a_ne, a_rd, Int.toNat_natCast, Int.toNat_add, Int.toNat_mul, Int.reduceToNat, a_gdp, a_cell, and_self, and_true, true_and, ↓bd_eq (a_isPerson hP.2.1 ⟨i1, j1⟩ hP1), Nat.zero_add, c3]
    · unfold m_X9_seat m_X9_canSeat; simp (disch := omega) only [↓reduceIte, ↓nm_eq, ↓jn_eq, ↓c_within, ↓c_isIn, ↓c_isScene, ↓c_isPlace, ↓c_isCue, ↓c_isDigit, ↓d_isScene, ↓d_isAny, ↓ta_pb1, ↓ta_pb0, ↓ta_pb1', ↓ta_pb0', ta_lt, ta_nlt, ta_le, ta_nle, ta_eq, ta_neq, ta_nne, ta_ne, gs_id, a_gd01, a_gdT, or_true, true_or, bd_some, bW_sm, a_gd, a_ne, a_rd, Int.toNat_natCast, Int.toNat_add, Int.toNat_mul, Int.reduceToNat, a_gdp, a_cell, and_self, and_true, true_and, ↓bd_eq (b_isPerson hP.2.2 ⟨i1, j1⟩ hP1), ↓bd_eq (p_get q 0 Mm (34 + 4 * q + 0) (by omega) (by omega)), b3, c3]
  · obtain ⟨M', W', e1, ⟨W1, e2, e3⟩, e4, e5, e6, e7⟩ := do_seat (Rel_RF hr) hP.2.1 hP1 c1 c2
    refine ⟨1, 1, M', W', ?_, ?_, rfl, Rel_mk hr e5 e6 (Rel_c hr e7).1 (Rel_c hr e7).2 e4⟩
    · unfold m_X8_seat m_X2_canSeat; simp (disch := omega) only [↓reduceIte, ↓nm_eq, ↓jn_eq, ↓c_within, ↓c_isIn, ↓c_isScene, ↓c_isPlace, ↓c_isCue, ↓c_isDigit, ↓d_isScene, ↓d_isAny, ↓ta_pb1, ↓ta_pb0, ↓ta_pb1', ↓ta_pb0', ta_lt, ta_nlt, ta_le, ta_nle, ta_eq, ta_neq, ta_nne, ta_ne, gs_id, a_gd01, a_gdT, or_true, true_or, bd_some, bW_sm, a_gd, a_ne, a_rd, Int.toNat_natCast, Int.toNat_add, Int.toNat_mul, Int.reduceToNat, a_gdp, a_cell, and_self, and_true, true_and, ↓bd_eq (a_isPerson hP.2.1 ⟨i1, j1⟩ hP1), Nat.zero_add, e1]
    · unfold m_X9_seat m_X9_canSeat; simp (disch := omega) only [↓reduceIte, ↓nm_eq, ↓jn_eq, ↓c_within, ↓c_isIn, ↓c_isScene, ↓c_isPlace, ↓c_isCue, ↓c_isDigit, ↓d_isScene, ↓d_isAny, ↓ta_pb1, ↓ta_pb0, ↓ta_pb1', ↓ta_pb0', ta_lt, ta_nlt, ta_le, ta_nle, ta_eq, ta_neq, ta_nne, ta_ne, gs_id, a_gd01, a_gdT, or_true, true_or, bd_some, bW_sm, a_gd, a_ne, a_rd, Int.toNat_natCast, Int.toNat_add, Int.toNat_mul, Int.reduceToNat, a_gdp, a_cell, and_self, and_true, true_and, ↓bd_eq (b_isPerson hP.2.2 ⟨i1, j1⟩ hP1), ↓bd_eq (p_get q 0 Mm (34 + 4 * q + 0) (by omega) (by omega)), b3, e2, e3]
theorem st_9 : x_step_9 Rel := by
  intro n Mx Mm hr hn a1 a2 h1 h2
  obtain ⟨i1, j1⟩ := h1
  obtain ⟨i2, j2⟩ := h2
  obtain ⟨g1, g2⟩ := RF_lead (Rel_RF hr)
  have no : (∃ r, m_X8_call a1 a2 Mx = some (r, Mx) ∧ m_X9_call a1 a2 Mm = some (r, Mm)) → ∃ (r r' : Int) (Mx' Mm' : g_M), (m_X8_call a1 a2 Mx = some (r, Mx')) ∧ (m_X9_call a1 a2 Mm = some (r', Mm')) ∧ gs r = gs r' ∧ Rel (n + 1) Mx' Mm' := fun ⟨r, e1, e2⟩ => ⟨r, r, Mx, Mm, e1, e2, rfl, st_same hr⟩
  by_cases c1 : 0 ≤ a1 ∧ a1 ≤ 11
  rotate_left
  · refine no ⟨0, ?_, ?_⟩
    · unfold m_X8_call; simp (disch := omega) only [↓reduceIte, ↓nm_eq, ↓jn_eq, ↓c_within, ↓c_isIn, ↓c_isScene, ↓c_isPlace, ↓c_isCue, ↓c_isDigit, ↓d_isScene, ↓d_isAny, ↓ta_pb1, ↓ta_pb0, ↓ta_pb1', ↓ta_pb0', ta_lt, ta_nlt, ta_le, ta_nle, ta_eq, ta_neq, ta_nne, ta_ne, gs_id, a_gd01, a_gdT, or_true, true_or, bd_some, bW_sm, a_gd, a_ne, a_rd, Int.toNat_natCast, Int.toNat_add, Int.toNat_mul, Int.reduceToNat, a_gdp, a_cell, and_self, and_true, true_and]
    · unfold m_X9_call m_X9_canCall; simp (disch := omega) only [↓reduceIte, ↓nm_eq, ↓jn_eq, ↓c_within, ↓c_isIn, ↓c_isScene, ↓c_isPlace, ↓c_isCue, ↓c_isDigit, ↓d_isScene, ↓d_isAny, ↓ta_pb1, ↓ta_pb0, ↓ta_pb1', ↓ta_pb0', ta_lt, ta_nlt, ta_le, ta_nle, ta_eq, ta_neq, ta_nne, ta_ne, gs_id, a_gd01, a_gdT, or_true, true_or, bd_some, bW_sm, a_gd, a_ne, a_rd, Int.toNat_natCast, Int.toNat_add, Int.toNat_mul, Int.reduceToNat, a_gdp, a_cell, and_self, and_true, true_and]
  by_cases c2 : 1 ≤ a2 ∧ a2 ≤ 3
  rotate_left
  · refine no ⟨0, ?_, ?_⟩
    · unfold m_X8_call; simp (disch := omega) only [↓reduceIte, ↓nm_eq, ↓jn_eq, ↓c_within, ↓c_isIn, ↓c_isScene, ↓c_isPlace, ↓c_isCue, ↓c_isDigit, ↓d_isScene, ↓d_isAny, ↓ta_pb1, ↓ta_pb0, ↓ta_pb1', ↓ta_pb0', ta_lt, ta_nlt, ta_le, ta_nle, ta_eq, ta_neq, ta_nne, ta_ne, gs_id, a_gd01, a_gdT, or_true, true_or, bd_some, bW_sm, a_gd, a_ne, a_rd, Int.toNat_natCast, Int.toNat_add, Int.toNat_mul, Int.reduceToNat, a_gdp, a_cell, and_self, and_true, true_and]
    · unfold m_X9_call m_X9_canCall; simp (disch := omega) only [↓reduceIte, ↓nm_eq, ↓jn_eq, ↓c_within, ↓c_isIn, ↓c_isScene, ↓c_isPlace, ↓c_isCue, ↓c_isDigit, ↓d_isScene, ↓d_isAny, ↓ta_pb1, ↓ta_pb0, ↓ta_pb1', ↓ta_pb0', ta_lt, ta_nlt, ta_le, ta_nle, ta_eq, ta_neq, ta_nne, ta_ne, gs_id, a_gd01, a_gdT, or_true, true_or, bd_some, bW_sm, a_gd, a_ne, a_rd, Int.toNat_natCast, Int.toNat_add, Int.toNat_mul, Int.reduceToNat, a_gdp, a_cell, and_self, and_true, true_and]
  obtain ⟨s, rfl⟩ : ∃ s : Nat, a1 = s := ⟨a1.toNat, by omega⟩
  obtain ⟨c, rfl⟩ : ∃ c : Nat, a2 = c := ⟨a2.toNat, by omega⟩
  have hs : s < 12 := by omega
  obtain ⟨b1, b2, b3⟩ := g1 s hs
  have k1 := p_after (M := Mx) (s := s) (c := c) (by omega) (by omega)
  have k2 := q_nextOf (W := Mm) (nw := Mx 2) (td := Mx 4) (fun s hs => (g1 s hs).2.2) (fun i hi => (g2 i hi).2.2) (s := s) (c := c) (by omega) (by omega)
  obtain ⟨k3, k4⟩ := nxF_lt (nw := Mx 2) (td := Mx 4) (fun s hs => ⟨(g1 s hs).1, (g1 s hs).2.1⟩) (fun i hi => ⟨(g2 i hi).1, (g2 i hi).2.1⟩) (s := s) (c := c) (by omega) (by omega)
  by_cases c3 : nxF (Mx 2) (Mx 4) s c = Mx 2 (16 + s)
  · refine no ⟨0, ?_, ?_⟩
    · unfold m_X8_call m_X2_canCall; simp (disch := omega) only [↓reduceIte, ↓nm_eq, ↓jn_eq, ↓c_within, ↓c_isIn, ↓c_isScene, ↓c_isPlace, ↓c_isCue, ↓c_isDigit, ↓d_isScene, ↓d_isAny, ↓ta_pb1, ↓ta_pb0, ↓ta_pb1', ↓ta_pb0', ta_lt, ta_nlt, ta_le, ta_nle, ta_eq, ta_neq, ta_nne, ta_ne, gs_id, a_gd01, a_gdT, or_true, true_or, bd_some, bW_sm, a_gd, a_ne, a_rd, Int.toNat_natCast, Int.toNat_add, Int.toNat_mul, Int.reduceToNat, a_gdp, a_cell, and_self, and_true, true_and, ↓bd_eq k1, c3]
    · unfold m_X9_call m_X9_canCall; simp (disch := omega) only [↓reduceIte, ↓nm_eq, ↓jn_eq, ↓c_within, ↓c_isIn, ↓c_isScene, ↓c_isPlace, ↓c_isCue, ↓c_isDigit, ↓d_isScene, ↓d_isAny, ↓ta_pb1, ↓ta_pb0, ↓ta_pb1', ↓ta_pb0', ta_lt, ta_nlt, ta_le, ta_nle, ta_eq, ta_neq, ta_nne, ta_ne, gs_id, a_gd01, a_gdT, or_true, true_or, bd_some, bW_sm, a_gd, a_ne, a_rd, Int.toNat_natCast, Int.toNat_add, Int.toNat_mul, Int.reduceToNat, a_gdp, a_cell, and_self, and_true, true_and, ↓bd_eq k2, b3, c3]
  · obtain ⟨M', W', e1, ⟨W1, e2, e3, e8⟩, e4, e5, e6, e7⟩ := do_call (Rel_RF hr) hs (c := c) (by omega)
    refine ⟨1, 1, M', W', ?_, ?_, rfl, Rel_mk hr e5 e6 (Rel_c hr e7).1 (Rel_c hr e7).2 e4⟩
    · unfold m_X8_call m_X2_canCall; simp (disch := omega) only [↓reduceIte, ↓nm_eq, ↓jn_eq, ↓c_within, ↓c_isIn, ↓c_isScene, ↓c_isPlace, ↓c_isCue, ↓c_isDigit, ↓d_isScene, ↓d_isAny, ↓ta_pb1, ↓ta_pb0, ↓ta_pb1', ↓ta_pb0', ta_lt, ta_nlt, ta_le, ta_nle, ta_eq, ta_neq, ta_nne, ta_ne, gs_id, a_gd01, a_gdT, or_true, true_or, bd_some, bW_sm, a_gd, a_ne, a_rd, Int.toNat_natCast, Int.toNat_add, Int.toNat_mul, Int.reduceToNat, a_gdp, a_cell, and_self, and_true, true_and, ↓bd_eq k1, fun z => c3 (Eq.symm z), e1]
    · unfold m_X9_call m_X9_canCall; simp (disch := omega) only [↓reduceIte, ↓nm_eq, ↓jn_eq, ↓c_within, ↓c_isIn, ↓c_isScene, ↓c_isPlace, ↓c_isCue, ↓c_isDigit, ↓d_isScene, ↓d_isAny, ↓ta_pb1, ↓ta_pb0, ↓ta_pb1', ↓ta_pb0', ta_lt, ta_nlt, ta_le, ta_nle, ta_eq, ta_neq, ta_nne, ta_ne, gs_id, a_gd01, a_gdT, or_true, true_or, bd_some, bW_sm, a_gd, a_ne, a_rd, Int.toNat_natCast, Int.toNat_add, Int.toNat_mul, Int.reduceToNat, a_gdp, a_cell, and_self, and_true, true_and, ↓bd_eq k2, b3, c3, e2, e3, e8]
theorem st_10 : x_step_10 Rel := by
  intro n Mx Mm hr hn a1 h1
  obtain ⟨i1, j1⟩ := h1
  obtain ⟨g1, g2⟩ := RF_lead (Rel_RF hr)
  have no : (∃ r, m_X8_mend a1 Mx = some (r, Mx) ∧ m_X9_mend a1 Mm = some (r, Mm)) → ∃ (r r' : Int) (Mx' Mm' : g_M), (m_X8_mend a1 Mx = some (r, Mx')) ∧ (m_X9_mend a1 Mm = some (r', Mm')) ∧ gs r = gs r' ∧ Rel (n + 1) Mx' Mm' := fun ⟨r, e1, e2⟩ => ⟨r, r, Mx, Mm, e1, e2, rfl, st_same hr⟩
  by_cases c1 : 0 ≤ a1 ∧ a1 ≤ 11
  rotate_left
  · refine no ⟨0, ?_, ?_⟩
    · unfold m_X8_mend; simp (disch := omega) only [↓reduceIte, ↓nm_eq, ↓jn_eq, ↓c_within, ↓c_isIn, ↓c_isScene, ↓c_isPlace, ↓c_isCue, ↓c_isDigit, ↓d_isScene, ↓d_isAny, ↓ta_pb1, ↓ta_pb0, ↓ta_pb1', ↓ta_pb0', ta_lt, ta_nlt, ta_le, ta_nle, ta_eq, ta_neq, ta_nne, ta_ne, gs_id, a_gd01, a_gdT, or_true, true_or, bd_some, bW_sm, a_gd, a_ne, a_rd, Int.toNat_natCast, Int.toNat_add, Int.toNat_mul, Int.reduceToNat, a_gdp, a_cell, and_self, and_true, true_and]
    · unfold m_X9_mend m_X9_canMend; simp (disch := omega) only [↓reduceIte, ↓nm_eq, ↓jn_eq, ↓c_within, ↓c_isIn, ↓c_isScene, ↓c_isPlace, ↓c_isCue, ↓c_isDigit, ↓d_isScene, ↓d_isAny, ↓ta_pb1, ↓ta_pb0, ↓ta_pb1', ↓ta_pb0', ta_lt, ta_nlt, ta_le, ta_nle, ta_eq, ta_neq, ta_nne, ta_ne, gs_id, a_gd01, a_gdT, or_true, true_or, bd_some, bW_sm, a_gd, a_ne, a_rd, Int.toNat_natCast, Int.toNat_add, Int.toNat_mul, Int.reduceToNat, a_gdp, a_cell, and_self, and_true, true_and]
  obtain ⟨s, rfl⟩ : ∃ s : Nat, a1 = s := ⟨a1.toNat, by omega⟩
  have hs : s < 12 := by omega
  obtain ⟨b1, b2, b3⟩ := g1 s hs
  obtain ⟨b4, b5, b6⟩ := g2 (s * 4) (by omega)
  have k1 := p_canMend (M := Mx) hs ⟨b1, b2⟩ ⟨b4, b5⟩
  have k2 := q_canMend (W := Mm) hs ⟨b1, b2, b3⟩ ⟨b4, b5, b6⟩
  by_cases c3 : Mx 2 (16 + s) = Mx 4 (s * 4)
  · refine no ⟨0, ?_, ?_⟩
    · unfold m_X8_mend; simp (disch := omega) only [↓reduceIte, ↓nm_eq, ↓jn_eq, ↓c_within, ↓c_isIn, ↓c_isScene, ↓c_isPlace, ↓c_isCue, ↓c_isDigit, ↓d_isScene, ↓d_isAny, ↓ta_pb1, ↓ta_pb0, ↓ta_pb1', ↓ta_pb0', ta_lt, ta_nlt, ta_le, ta_nle, ta_eq, ta_neq, ta_nne, ta_ne, gs_id, a_gd01, a_gdT, or_true, true_or, bd_some, bW_sm, a_gd, a_ne, a_rd, Int.toNat_natCast, Int.toNat_add, Int.toNat_mul, Int.reduceToNat, a_gdp, a_cell, and_self, and_true, true_and, ↓bd_eq k1]
    · unfold m_X9_mend; simp (disch := omega) only [↓reduceIte, ↓nm_eq, ↓jn_eq, ↓c_within, ↓c_isIn, ↓c_isScene, ↓c_isPlace, ↓c_isCue, ↓c_isDigit, ↓d_isScene, ↓d_isAny, ↓ta_pb1, ↓ta_pb0, ↓ta_pb1', ↓ta_pb0', ta_lt, ta_nlt, ta_le, ta_nle, ta_eq, ta_neq, ta_nne, ta_ne, gs_id, a_gd01, a_gdT, or_true, true_or, bd_some, bW_sm, a_gd, a_ne, a_rd, Int.toNat_natCast, Int.toNat_add, Int.toNat_mul, Int.reduceToNat, a_gdp, a_cell, and_self, and_true, true_and, ↓bd_eq k2]
  · obtain ⟨M', W', e1, ⟨W1, e2, e3, e8⟩, e4, e5, e6, e7⟩ := do_mend (Rel_RF hr) hs
    refine ⟨1, 1, M', W', ?_, ?_, rfl, Rel_mk hr e5 e6 (Rel_c hr e7).1 (Rel_c hr e7).2 e4⟩
    · unfold m_X8_mend; simp (disch := omega) only [↓reduceIte, ↓nm_eq, ↓jn_eq, ↓c_within, ↓c_isIn, ↓c_isScene, ↓c_isPlace, ↓c_isCue, ↓c_isDigit, ↓d_isScene, ↓d_isAny, ↓ta_pb1, ↓ta_pb0, ↓ta_pb1', ↓ta_pb0', ta_lt, ta_nlt, ta_le, ta_nle, ta_eq, ta_neq, ta_nne, ta_ne, gs_id, a_gd01, a_gdT, or_true, true_or, bd_some, bW_sm, a_gd, a_ne, a_rd, Int.toNat_natCast, Int.toNat_add, Int.toNat_mul, Int.reduceToNat, a_gdp, a_cell, and_self, and_true, true_and, ↓bd_eq k1, e1]
    · unfold m_X9_mend
      simp (disch := omega) only [↓reduceIte, ↓nm_eq, ↓jn_eq, ↓c_within, ↓c_isIn, ↓c_isScene, ↓c_isPlace, ↓c_isCue, ↓c_isDigit, ↓d_isScene, ↓d_isAny, ↓ta_pb1, ↓ta_pb0, ↓ta_pb1', ↓ta_pb0', ta_lt, ta_nlt, ta_le, ta_nle, ta_eq, ta_neq, ta_nne, ta_ne, gs_id, a_gd01, a_gdT, or_true, true_or, bd_some, bW_sm, a_gd, a_ne, a_rd, Int.toNat_natCast, Int.toNat_add, Int.toNat_mul, Int.reduceToNat, a_gdp, a_cell, and_self, and_true, true_and, ↓bd_eq k2, e2, Nat.mul_comm 4 s, e3, e8]
theorem RF_day {M W : g_M} (H : RF M W) : ∃ D : Nat, D ≤ 9999 ∧ M 2 41 = D ∧ W 1 6 = D := by
  obtain ⟨P, T, S, E, C, F, hP, hT, hU, hS, hE, hC, hF, hsn, -⟩ := H
  obtain ⟨D, d1, d2, d3, -⟩ := hsn
  exact ⟨D, d1, d2, d3⟩
theorem st_45 : x_step_45 Rel := by
  intro n Mx Mm hr hn
  obtain ⟨D, d1, d2, d3⟩ := RF_day (Rel_RF hr)
  obtain ⟨M', hM⟩ : ∃ M', m_X1_copy_12_1 Mx = some M' ∧ (∀ j, j = 2 ∨ j = 3 ∨ j = 7 ∨ j = 8 ∨ j = 9 ∨ j = 11 ∨ j = 13 ∨ j = 17 → M' 12 j = Mx 1 j) ∧ (∀ j, j < 133 → M' 13 j = Mx 2 j) ∧ (∀ j, j < 3990 → M' 14 j = Mx 3 j) ∧ (∀ j, j < 48 → M' 15 j = Mx 4 j) ∧ (∀ j, j < 12 → M' 16 j = Mx 5 j) ∧ (∀ j, j < 8 → M' 17 j = Mx 6 j) ∧ (∀ j, j < 12 → M' 18 j = Mx 7 j) ∧ (∀ j, j < 4 → M' 19 j = Mx 8 j) ∧ (∀ j, j < 40 → M' 20 j = Mx 9 j) ∧ (∀ j, j < 8 → M' 21 j = Mx 10 j) ∧ (∀ j, j < 8 → M' 22 j = Mx 11 j) ∧ ∀ k, k < 12 ∨ 22 < k → M' k = Mx k := by
    unfold m_X1_copy_12_1
    simp (disch := omega) only [↓reduceIte, ↓nm_eq, ↓jn_eq, ↓c_within, ↓c_isIn, ↓c_isScene, ↓c_isPlace, ↓c_isCue, ↓c_isDigit, ↓d_isScene, ↓d_isAny, ↓ta_pb1, ↓ta_pb0, ↓ta_pb1', ↓ta_pb0', ta_lt, ta_nlt, ta_le, ta_nle, ta_eq, ta_neq, ta_nne, ta_ne, gs_id, a_gd01, a_gdT, or_true, true_or, bd_some, bW_sm, a_gd, a_ne, a_rd, Int.toNat_natCast, Int.toNat_add, Int.toNat_mul, Int.reduceToNat, a_gdp, a_cell, and_self, and_true, true_and]
    refine ⟨_, rfl, fun j hj => ?_, fun j hj => ?_, fun j hj => ?_, fun j hj => ?_, fun j hj => ?_, fun j hj => ?_, fun j hj => ?_, fun j hj => ?_, fun j hj => ?_, fun j hj => ?_, fun j hj => ?_, fun k hk => ?_⟩
    · rcases hj with rfl | rfl | rfl | rfl | rfl | rfl | rfl | rfl <;> simp (disch := omega) only [↓reduceIte, ↓nm_eq, ↓jn_eq, ↓c_within, ↓c_isIn, ↓c_isScene, ↓c_isPlace, ↓c_isCue, ↓c_isDigit, ↓d_isScene, ↓d_isAny, ↓ta_pb1, ↓ta_pb0, ↓ta_pb1', ↓ta_pb0', ta_lt, ta_nlt, ta_le, ta_nle, ta_eq, ta_neq, ta_nne, ta_ne, gs_id, a_gd01, a_gdT, or_true, true_or, bd_some, bW_sm, a_gd, a_ne, a_rd, Int.toNat_natCast, Int.toNat_add, Int.toNat_mul, Int.reduceToNat, a_gdp, a_cell, and_self, and_true, true_and, g_cp_ne]
    all_goals simp (disch := omega) only [↓reduceIte, ↓nm_eq, ↓jn_eq, ↓c_within, ↓c_isIn, ↓c_isScene, ↓c_isPlace, ↓c_isCue, ↓c_isDigit, ↓d_isScene, ↓d_isAny, ↓ta_pb1, ↓ta_pb0, ↓ta_pb1', ↓ta_pb0', ta_lt, ta_nlt, ta_le, ta_nle, ta_eq, ta_neq, ta_nne, ta_ne, gs_id, a_gd01, a_gdT, or_true, true_or, bd_some, bW_sm, a_gd, a_ne, a_rd, Int.toNat_natCast, Int.toNat_add, Int.toNat_mul, Int.reduceToNat, a_gdp, a_cell, and_self, and_true, true_and, g_cp_ne, g_cp_in, g_cp_cell, Nat.zero_add, Nat.sub_zero]
  obtain ⟨e0, e1, e2, e3, e4, e5, e6, e7, e8, e9, e10, e11, e13⟩ := hM
  obtain ⟨W', hW, hW2⟩ : ∃ W', m_X9_copy_1_2 Mm = some W' ∧ W' = fun a b => if a = 2 ∧ b < 3409 then Mm 1 b else Mm a b := ⟨_, copy12 Mm, rfl⟩
  have w1 : ∀ a b, a ≠ 2 → W' a b = Mm a b := fun a b h => by rw [hW2]; exact if_neg (by omega)
  have w2 : ∀ b, b < 3409 → W' 2 b = Mm 1 b := fun b h => by rw [hW2]; exact if_pos ⟨rfl, h⟩
  have w3 : ∀ a, a ≠ 2 → W' a = Mm a := fun a h => funext fun b => w1 a b h
  refine ⟨D, D, M', W', ?_, ?_, rfl, ?_⟩
  · unfold m_X8_image; simp (disch := omega) only [↓reduceIte, ↓nm_eq, ↓jn_eq, ↓c_within, ↓c_isIn, ↓c_isScene, ↓c_isPlace, ↓c_isCue, ↓c_isDigit, ↓d_isScene, ↓d_isAny, ↓ta_pb1, ↓ta_pb0, ↓ta_pb1', ↓ta_pb0', ta_lt, ta_nlt, ta_le, ta_nle, ta_eq, ta_neq, ta_nne, ta_ne, gs_id, a_gd01, a_gdT, or_true, true_or, bd_some, bW_sm, a_gd, a_ne, a_rd, Int.toNat_natCast, Int.toNat_add, Int.toNat_mul, Int.reduceToNat, a_gdp, a_cell, and_self, and_true, true_and, e0, e13, d2]
  · unfold m_X9_image; simp (disch := omega) only [↓reduceIte, ↓nm_eq, ↓jn_eq, ↓c_within, ↓c_isIn, ↓c_isScene, ↓c_isPlace, ↓c_isCue, ↓c_isDigit, ↓d_isScene, ↓d_isAny, ↓ta_pb1, ↓ta_pb0, ↓ta_pb1', ↓ta_pb0', ta_lt, ta_nlt, ta_le, ta_nle, ta_eq, ta_neq, ta_nne, ta_ne, gs_id, a_gd01, a_gdT, or_true, true_or, bd_some, bW_sm, a_gd, a_ne, a_rd, Int.toNat_natCast, Int.toNat_add, Int.toNat_mul, Int.reduceToNat, a_gdp, a_cell, and_self, and_true, true_and, hW, w3, d3]
  · obtain ⟨hf, hi, hle, htp, hc, htx, hb⟩ := Rel_mono hr
    refine ⟨?_, ?_, ?_, ?_, ?_, ?_, ?_⟩
    · rw [e13 1 (by omega), e13 2 (by omega), e13 3 (by omega), e13 4 (by omega), e13 5 (by omega), e13 6 (by omega), e13 7 (by omega), e13 8 (by omega), e13 9 (by omega), e13 10 (by omega), e13 11 (by omega), w3 1 (by omega)]
      exact hf
    · exact R_film_cg hf e1 e2 e3 e4 e5 e6 e7 e8 e9 e10 e11 w2
    · rw [e1 8 (by omega), e13 1 (by omega)]; exact Int.le_refl _
    · rw [e13 23 (by omega), e13 24 (by omega), w3 0 (by omega), w3 4 (by omega)]; exact htp
    · rw [w3 0 (by omega)]; exact hc
    · intro t ht
      rw [e13 1 (by omega)] at ht
      have hh := htx t ht
      have ee : (fun i => M' (41 + 6 * t + i)) = fun i => Mx (41 + 6 * t + i) := funext fun i => e13 _ (by omega)
      rw [ee, w3 3 (by omega)]
      exact hh
    · intro j hj
      rw [e13 37 (by omega), e13 38 (by omega)]
      exact hb j hj
theorem copy21 (W : g_M) : m_X9_copy_2_1 W = some (cpF W 1 0 (fun j => W 2 j) 3409) := by
  unfold m_X9_copy_2_1
  rw [nm_eq]
  refine cp_loop (fun f i M => m_X9_copy_2_1_L2 f i M) 1 0 3409 (fun j => W 2 j) W _ (fun f => ?_) (fun i f hi => ?_) g_fuel (by unfold g_fuel; omega)
  · show m_X9_copy_2_1_L2 (f + 1) _ _ = _
    rw [m_X9_copy_2_1_L2]
    simp (disch := omega) only [↓reduceIte, ↓nm_eq, ↓jn_eq, ↓c_within, ↓c_isIn, ↓c_isScene, ↓c_isPlace, ↓c_isCue, ↓c_isDigit, ↓d_isScene, ↓d_isAny, ↓ta_pb1, ↓ta_pb0, ↓ta_pb1', ↓ta_pb0', ta_lt, ta_nlt, ta_le, ta_nle, ta_eq, ta_neq, ta_nne, ta_ne, gs_id, a_gd01, a_gdT, or_true, true_or, bd_some, bW_sm, a_gd, a_ne, a_rd, Int.toNat_natCast, Int.toNat_add, Int.toNat_mul, Int.reduceToNat, a_gdp, a_cell, and_self, and_true, true_and]
  · show m_X9_copy_2_1_L2 (f + 1) _ _ = m_X9_copy_2_1_L2 f _ _
    rw [m_X9_copy_2_1_L2]
    simp (disch := omega) only [↓reduceIte, ↓nm_eq, ↓jn_eq, ↓c_within, ↓c_isIn, ↓c_isScene, ↓c_isPlace, ↓c_isCue, ↓c_isDigit, ↓d_isScene, ↓d_isAny, ↓ta_pb1, ↓ta_pb0, ↓ta_pb1', ↓ta_pb0', ta_lt, ta_nlt, ta_le, ta_nle, ta_eq, ta_neq, ta_nne, ta_ne, gs_id, a_gd01, a_gdT, or_true, true_or, bd_some, bW_sm, a_gd, a_ne, a_rd, Int.toNat_natCast, Int.toNat_add, Int.toNat_mul, Int.reduceToNat, a_gdp, a_cell, and_self, and_true, true_and, cpF_ne, Nat.zero_add]
theorem st_46 : x_step_46 Rel := by
  intro n Mx Mm hr hn
  have hi0 := hr.2.1
  obtain ⟨D, d1, d2, d3⟩ : ∃ D : Nat, D ≤ 9999 ∧ Mx 13 41 = D ∧ Mm 2 6 = D := by
    obtain ⟨P, T, S, E, C, F, hP, hT, hU, hS, hE, hC, hF, hsn, -⟩ := hi0
    obtain ⟨D, d1, d2, d3, -⟩ := hsn
    exact ⟨D, d1, d2, d3⟩
  obtain ⟨M', hM⟩ : ∃ M', m_X1_copy_1_12 Mx = some M' ∧ (∀ j, j = 2 ∨ j = 3 ∨ j = 7 ∨ j = 8 ∨ j = 9 ∨ j = 11 ∨ j = 13 ∨ j = 17 → M' 1 j = Mx 12 j) ∧ (∀ j, j < 133 → M' 2 j = Mx 13 j) ∧ (∀ j, j < 3990 → M' 3 j = Mx 14 j) ∧ (∀ j, j < 48 → M' 4 j = Mx 15 j) ∧ (∀ j, j < 12 → M' 5 j = Mx 16 j) ∧ (∀ j, j < 8 → M' 6 j = Mx 17 j) ∧ (∀ j, j < 12 → M' 7 j = Mx 18 j) ∧ (∀ j, j < 4 → M' 8 j = Mx 19 j) ∧ (∀ j, j < 40 → M' 9 j = Mx 20 j) ∧ (∀ j, j < 8 → M' 10 j = Mx 21 j) ∧ (∀ j, j < 8 → M' 11 j = Mx 22 j) ∧ ∀ k, k < 1 ∨ 11 < k → M' k = Mx k := by
    unfold m_X1_copy_1_12
    simp (disch := omega) only [↓reduceIte, ↓nm_eq, ↓jn_eq, ↓c_within, ↓c_isIn, ↓c_isScene, ↓c_isPlace, ↓c_isCue, ↓c_isDigit, ↓d_isScene, ↓d_isAny, ↓ta_pb1, ↓ta_pb0, ↓ta_pb1', ↓ta_pb0', ta_lt, ta_nlt, ta_le, ta_nle, ta_eq, ta_neq, ta_nne, ta_ne, gs_id, a_gd01, a_gdT, or_true, true_or, bd_some, bW_sm, a_gd, a_ne, a_rd, Int.toNat_natCast, Int.toNat_add, Int.toNat_mul, Int.reduceToNat, a_gdp, a_cell, and_self, and_true, true_and]
    refine ⟨_, rfl, fun j hj => ?_, fun j hj => ?_, fun j hj => ?_, fun j hj => ?_, fun j hj => ?_, fun j hj => ?_, fun j hj => ?_, fun j hj => ?_, fun j hj => ?_, fun j hj => ?_, fun j hj => ?_, fun k hk => ?_⟩
    · rcases hj with rfl | rfl | rfl | rfl | rfl | rfl | rfl | rfl <;> simp (disch := omega) only [↓reduceIte, ↓nm_eq, ↓jn_eq, ↓c_within, ↓c_isIn, ↓c_isScene, ↓c_isPlace, ↓c_isCue, ↓c_isDigit, ↓d_isScene, ↓d_isAny, ↓ta_pb1, ↓ta_pb0, ↓ta_pb1', ↓ta_pb0', ta_lt, ta_nlt, ta_le, ta_nle, ta_eq, ta_neq, ta_nne, ta_ne, gs_id, a_gd01, a_gdT, or_true, true_or, bd_some, bW_sm, a_gd, a_ne, a_rd, Int.toNat_natCast, Int.toNat_add, Int.toNat_mul, Int.reduceToNat, a_gdp, a_cell, and_self, and_true, true_and, g_cp_ne]
    all_goals simp (disch := omega) only [↓reduceIte, ↓nm_eq, ↓jn_eq, ↓c_within, ↓c_isIn, ↓c_isScene, ↓c_isPlace, ↓c_isCue, ↓c_isDigit, ↓d_isScene, ↓d_isAny, ↓ta_pb1, ↓ta_pb0, ↓ta_pb1', ↓ta_pb0', ta_lt, ta_nlt, ta_le, ta_nle, ta_eq, ta_neq, ta_nne, ta_ne, gs_id, a_gd01, a_gdT, or_true, true_or, bd_some, bW_sm, a_gd, a_ne, a_rd, Int.toNat_natCast, Int.toNat_add, Int.toNat_mul, Int.reduceToNat, a_gdp, a_cell, and_self, and_true, true_and, g_cp_ne, g_cp_in, g_cp_cell, Nat.zero_add, Nat.sub_zero]
  obtain ⟨e0, e1, e2, e3, e4, e5, e6, e7, e8, e9, e10, e11, e13⟩ := hM
  obtain ⟨W', hW, hW2⟩ : ∃ W', m_X9_copy_2_1 Mm = some W' ∧ W' = cpF Mm 1 0 (fun j => Mm 2 j) 3409 := ⟨_, copy21 Mm, rfl⟩
  have w3 : ∀ a, a ≠ 1 → W' a = Mm a := fun a h => by rw [hW2]; exact cpF_cell _ _ h
  have w2 : ∀ b, b < 3409 → W' 1 b = Mm 2 b := fun b h => by rw [hW2, cpF_in _ _ (by omega)]; rfl
  refine ⟨D, D, M', W', ?_, ?_, rfl, ?_⟩
  · unfold m_X8_back; simp (disch := omega) only [↓reduceIte, ↓nm_eq, ↓jn_eq, ↓c_within, ↓c_isIn, ↓c_isScene, ↓c_isPlace, ↓c_isCue, ↓c_isDigit, ↓d_isScene, ↓d_isAny, ↓ta_pb1, ↓ta_pb0, ↓ta_pb1', ↓ta_pb0', ta_lt, ta_nlt, ta_le, ta_nle, ta_eq, ta_neq, ta_nne, ta_ne, gs_id, a_gd01, a_gdT, or_true, true_or, bd_some, bW_sm, a_gd, a_ne, a_rd, Int.toNat_natCast, Int.toNat_add, Int.toNat_mul, Int.reduceToNat, a_gdp, a_cell, and_self, and_true, true_and, e0, e2, d2]
  · unfold m_X9_back; simp (disch := omega) only [↓reduceIte, ↓nm_eq, ↓jn_eq, ↓c_within, ↓c_isIn, ↓c_isScene, ↓c_isPlace, ↓c_isCue, ↓c_isDigit, ↓d_isScene, ↓d_isAny, ↓ta_pb1, ↓ta_pb0, ↓ta_pb1', ↓ta_pb0', ta_lt, ta_nlt, ta_le, ta_nle, ta_eq, ta_neq, ta_nne, ta_ne, gs_id, a_gd01, a_gdT, or_true, true_or, bd_some, bW_sm, a_gd, a_ne, a_rd, Int.toNat_natCast, Int.toNat_add, Int.toNat_mul, Int.reduceToNat, a_gdp, a_cell, and_self, and_true, true_and, hW, w2, d3]
  · obtain ⟨hf, hi, hle, htp, hc, htx, hb⟩ := Rel_mono hr
    refine ⟨?_, ?_, ?_, ?_, ?_, ?_, ?_⟩
    · exact R_film_cg hi e1 e2 e3 e4 e5 e6 e7 e8 e9 e10 e11 w2
    · rw [e13 12 (by omega), e13 13 (by omega), e13 14 (by omega), e13 15 (by omega), e13 16 (by omega), e13 17 (by omega), e13 18 (by omega), e13 19 (by omega), e13 20 (by omega), e13 21 (by omega), e13 22 (by omega), w3 2 (by omega)]
      exact hi
    · rw [e1 8 (by omega), e13 12 (by omega)]; exact Int.le_refl _
    · rw [e13 23 (by omega), e13 24 (by omega), w3 0 (by omega), w3 4 (by omega)]; exact htp
    · rw [w3 0 (by omega)]; exact hc
    · intro t ht
      rw [e1 8 (by omega)] at ht
      have hh := htx t (by omega)
      have ee : (fun i => M' (41 + 6 * t + i)) = fun i => Mx (41 + 6 * t + i) := funext fun i => e13 _ (by omega)
      rw [ee, w3 3 (by omega)]
      exact hh
    · intro j hj
      rw [e13 37 (by omega), e13 38 (by omega)]
      exact hb j hj
