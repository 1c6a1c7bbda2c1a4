/-! a scene is shown, in both -/
/-- what is looked at holds on -/
def LK (Mx Mm M1 : g_M) (d b p : Int) : Prop := ∀ M2 W2 : g_M, (∀ a, 35 ≤ a → a ≤ 64 → M2 a = Mx a) → M2 5 = Mx 5 → (∀ j, 21 ≤ j → j < 24 → M2 33 j = M1 33 j) → W2 3 = Mm 3 → (∀ s, s < 12 → W2 1 (114 + s) = Mm 1 (114 + s)) → (W2 1 0 = Mm 1 0 ∧ W2 1 6 = Mm 1 6 ∧ ∀ q, q < 8 → W2 1 (34 + 4 * q) = Mm 1 (34 + 4 * q) ∧ W2 1 (34 + 4 * q + 2) = Mm 1 (34 + 4 * q + 2)) → Ev Mx Mm d b p (fun s => Mx 5 s) M2 W2
/-- within an evening: what may have changed, how many changed -/
def EI (Mx Mm Ws M1 : g_M) (P x : Nat) (e c : Int) (M W : g_M) : Prop := (∀ a, a ≠ 2 → a ≠ 33 → a ≠ 34 → a ≠ 65 → M a = Mx a) ∧ (∀ j, j < 24 → M 33 j = M1 33 j) ∧ (W 3 = Mm 3 ∧ ∀ a, a ≠ 0 → a ≠ 1 → a ≠ 6 → a ≠ 7 → a ≠ 8 → W a = Ws a) ∧ (∀ j, (j < 8 ∨ j = 40 ∨ j = 41 ∨ 43 ≤ j) → M 2 j = Mx 2 j) ∧ (∀ j, (j < 7 ∨ (66 ≤ j ∧ j < 3349)) → W 1 j = Mm 1 j) ∧ (∀ q i, q < 8 → i < 4 → i ≠ 1 → W 1 (34 + 4 * q + i) = Mm 1 (34 + 4 * q + i)) ∧ (∀ s : Nat, s < 12 → (0 ≤ M 2 (16 + s) ∧ M 2 (16 + s) ≤ 12 ∧ W 1 (22 + s) = M 2 (16 + s)) ∧ 0 ≤ M 2 (28 + s) ∧ M 2 (28 + s) ≤ 9999 ∧ W 1 (10 + s) = M 2 (28 + s)) ∧ (0 ≤ M 2 42 ∧ M 2 42 < 30577 ∧ W 1 7 = M 2 42) ∧ (∀ q, q < P → 0 ≤ M 2 (8 + q) ∧ M 2 (8 + q) ≤ 99 ∧ W 1 (34 + 4 * q + 1) = M 2 (8 + q)) ∧ (M 65 4 = x ∧ W 0 25 = Ws 0 25 + x) ∧ ((∀ j, j ≠ 24 → j ≠ 25 → j ≠ 26 → W 0 j = Ws 0 j) ∧ ∀ j, (j = 9 ∨ 3349 ≤ j) → W 1 j = Ws 1 j) ∧ W 0 24 = Ws 0 24 + c ∧ W 1 8 = Mm 1 8 + e
theorem draw_next {v : Int} (h : 0 ≤ v ∧ v < 30577) : g_rem (v * 443 + 331) 30577 = (v * 443 + 331) % 30577 ∧ g_lrem (v * 443 + 331) 30577 = (v * 443 + 331) % 30577 := by
  have e : Int.tmod (v * 443 + 331) 30577 = (v * 443 + 331) % 30577 := Int.tmod_eq_emod_of_nonneg (by omega)
  constructor
  · unfold g_rem
    rw [gs_id (by omega) (by omega), gs_id (by omega) (by omega), e]
  · unfold g_lrem
    rw [L_id (by omega) (by omega), L_id (by omega) (by omega), e]
theorem draw_ten {v : Int} (h : 0 ≤ v ∧ v < 30577) : g_rem v 10 = v % 10 := by
  unfold g_rem
  rw [gs_id (by omega) (by omega), gs_id (by omega) (by omega)]
  exact Int.tmod_eq_emod_of_nonneg h.1
/-- the class's draw, then the reference's -/
theorem p_draw {M : g_M} (h : 0 ≤ M 2 42 ∧ M 2 42 < 30577) : m_X2_drawAnew M = some (g_wr M 2 42 ((M 2 42 * 443 + 331) % 30577)) := by
  unfold m_X2_drawAnew
  simp (disch := omega) only [↓reduceIte, ↓nm_eq, ↓jn_eq, ↓c_within, ↓c_isIn, ↓c_isScene, ↓c_isPlace, ↓c_isCue, ↓c_isDigit, ↓d_isScene, ↓d_isAny, ↓ta_pb1, ↓ta_pb0, ↓ta_pb1', ↓ta_pb0', ta_lt, ta_nlt, ta_le, ta_nle, ta_eq, ta_neq, ta_nne, ta_ne, gs_id, a_gd01, a_gdT, or_true, true_or, bd_some, bW_sm, a_gd, a_ne, a_rd, Int.toNat_natCast, Int.toNat_add, Int.toNat_mul, Int.reduceToNat, a_gdp, a_cell, and_self, and_true, true_and, (draw_next h).1]
theorem q_draw {W : g_M} (h : 0 ≤ W 1 7 ∧ W 1 7 < 30577) : m_X9_anew W = some (g_wr W 1 7 ((W 1 7 * 443 + 331) % 30577)) := by
  have e : gl 30577 = 30577 := L_id (by omega) (by omega)
  unfold m_X9_anew
  simp (disch := omega) only [↓reduceIte, ↓nm_eq, ↓jn_eq, ↓c_within, ↓c_isIn, ↓c_isScene, ↓c_isPlace, ↓c_isCue, ↓c_isDigit, ↓d_isScene, ↓d_isAny, ↓ta_pb1, ↓ta_pb0, ↓ta_pb1', ↓ta_pb0', ta_lt, ta_nlt, ta_le, ta_nle, ta_eq, ta_neq, ta_nne, ta_ne, gs_id, a_gd01, a_gdT, or_true, true_or, bd_some, bW_sm, a_gd, a_ne, a_rd, Int.toNat_natCast, Int.toNat_add, Int.toNat_mul, Int.reduceToNat, a_gdp, a_cell, and_self, and_true, true_and, (draw_next h).2, e]
theorem EI_Ev {Mx Mm Ws M1 : g_M} {P x : Nat} {e c d b p : Int} (l3 : LK Mx Mm M1 d b p) {M W M' : g_M} (h : EI Mx Mm Ws M1 P x e c M W) (ha : ∀ a, a ≠ 2 → M' a = M a) : Ev Mx Mm d b p (fun s => Mx 5 s) M' W := by
  obtain ⟨hA, hB, hC, hD, hE, hF, -⟩ := h
  exact l3 M' W (fun a a1 a2 => by rw [ha a (by omega)]; exact hA a (by omega) (by omega) (by omega) (by omega)) (by rw [ha 5 (by omega)]; exact hA 5 (by omega) (by omega) (by omega) (by omega)) (fun j _ hj => by rw [ha 33 (by omega)]; exact hB j hj) hC.1 (fun s hs => hE _ (by omega)) ⟨hE 0 (by omega), hE 6 (by omega), fun q hq => ⟨hF q 0 hq (by omega) (by omega), hF q 2 hq (by omega) (by omega)⟩⟩
theorem EI_law {Mx Mm Ws M1 : g_M} {P x : Nat} {e c : Int} {M W M' W' : g_M} (h : EI Mx Mm Ws M1 P x e c M W) (a1 : ∀ a, a ≠ 33 → a ≠ 34 → M' a = M a) (a2 : ∀ j, j < 24 → M' 33 j = M 33 j) (a3 : ∀ a, a ≠ 6 → a ≠ 7 → a ≠ 8 → W' a = W a) : EI Mx Mm Ws M1 P x e c M' W' := by
  have e2 : M' 2 = M 2 := a1 2 (by omega) (by omega)
  have e65 : M' 65 = M 65 := a1 65 (by omega) (by omega)
  have f0 : W' 0 = W 0 := a3 0 (by omega) (by omega) (by omega)
  have f1 : W' 1 = W 1 := a3 1 (by omega) (by omega) (by omega)
  have f3 : W' 3 = W 3 := a3 3 (by omega) (by omega) (by omega)
  obtain ⟨hA, hB, hC, hD, hE, hF, hG, hH, hI, hJ, hK, hL⟩ := h
  unfold EI
  rw [e2, e65, f0, f1, f3]
  exact ⟨fun a b1 b2 b3 b4 => (a1 a b2 b3).trans (hA a b1 b2 b3 b4), fun j hj => (a2 j hj).trans (hB j hj), ⟨hC.1, fun a b1 b2 b3 b4 b5 => (a3 a b3 b4 b5).trans (hC.2 a b1 b2 b3 b4 b5)⟩, hD, hE, hF, hG, hH, hI, hJ, hK, hL⟩
theorem EI_65 {Mx Mm Ws M1 : g_M} {P x : Nat} {e c : Int} {M W : g_M} {v : Int} (h : EI Mx Mm Ws M1 P x e c M W) : EI Mx Mm Ws M1 P x e c (g_wr M 65 3 v) W := by
  obtain ⟨hA, hB, hC, hD, hE, hF, hG, hH, hI, hJ, hK, hL⟩ := h
  unfold EI
  rw [a_cell _ (show (2 : Nat) ≠ 65 by omega), a_cell _ (show (33 : Nat) ≠ 65 by omega), a_ne _ (show (65 : Nat) ≠ 65 ∨ 4 ≠ 3 by omega)]
  exact ⟨fun a b1 b2 b3 b4 => by rw [a_cell _ b4]; exact hA a b1 b2 b3 b4, hB, hC, hD, hE, hF, hG, hH, hI, hJ, hK, hL⟩
theorem EI_lead {Mx Mm Ws M1 : g_M} {P x : Nat} {e c : Int} {M W : g_M} (hP : P ≤ 8) (h : EI Mx Mm Ws M1 P x e c M W) {s : Nat} (hs : s < 12) {v : Int} (hv : 0 ≤ v ∧ v ≤ 12) : EI Mx Mm Ws M1 P (x + 1) e c (g_wr (g_wr M 2 (16 + s) v) 65 4 (M 65 4 + 1)) (g_wr (g_wr W 1 (22 + s) v) 0 25 (W 0 25 + 1)) := by
  obtain ⟨hA, hB, hC, hD, hE, hF, hG, hH, hI, hJ, hK, hL⟩ := h
  obtain ⟨M', hM⟩ : ∃ M', M' = g_wr (g_wr M 2 (16 + s) v) 65 4 (M 65 4 + 1) := ⟨_, rfl⟩
  obtain ⟨W', hW⟩ : ∃ W', W' = g_wr (g_wr W 1 (22 + s) v) 0 25 (W 0 25 + 1) := ⟨_, rfl⟩
  rw [← hM, ← hW]
  have m0 : ∀ a, a ≠ 2 → a ≠ 65 → M' a = M a := fun a b1 b2 => by rw [hM, a_cell _ b2, a_cell _ b1]
  have m2 : ∀ j, j ≠ 16 + s → M' 2 j = M 2 j := fun j hj => by rw [hM, a_ne _ (by omega), a_ne _ (by omega)]
  have m3 : M' 2 (16 + s) = v := by rw [hM, a_ne _ (by omega)]; exact wr_at _ _ _ _
  have m4 : M' 65 4 = M 65 4 + 1 := by rw [hM]; exact wr_at _ _ _ _
  have w0 : ∀ a, a ≠ 1 → a ≠ 0 → W' a = W a := fun a b1 b2 => by rw [hW, a_cell _ b2, a_cell _ b1]
  have w1 : ∀ j, j ≠ 22 + s → W' 1 j = W 1 j := fun j hj => by rw [hW, a_ne _ (by omega), a_ne _ (by omega)]
  have w2 : W' 1 (22 + s) = v := by rw [hW, a_ne _ (by omega)]; exact wr_at _ _ _ _
  have w3 : ∀ j, j ≠ 25 → W' 0 j = W 0 j := fun j hj => by rw [hW, a_ne _ (by omega), a_ne _ (by omega)]
  have w4 : W' 0 25 = W 0 25 + 1 := by rw [hW]; exact wr_at _ _ _ _
  refine ⟨fun a b1 b2 b3 b4 => by rw [m0 a b1 b4]; exact hA a b1 b2 b3 b4, fun j hj => by rw [m0 33 (by omega) (by omega)]; exact hB j hj, ⟨by rw [w0 3 (by omega) (by omega)]; exact hC.1, fun a b1 b2 b3 b4 b5 => by rw [w0 a b2 b1]; exact hC.2 a b1 b2 b3 b4 b5⟩, fun j hj => by rw [m2 j (by omega)]; exact hD j hj, fun j hj => by rw [w1 j (by omega)]; exact hE j hj, fun q i hq hi h1 => by rw [w1 _ (by omega)]; exact hF q i hq hi h1, fun t ht => ?_, by rw [m2 42 (by omega), w1 7 (by omega)]; exact hH, fun q hq => by rw [m2 _ (by omega), w1 _ (by omega)]; exact hI q hq, ⟨by rw [m4, hJ.1]; omega, by rw [w4, hJ.2]; omega⟩, ⟨fun j b1 b2 b3 => by rw [w3 j b2]; exact hK.1 j b1 b2 b3, fun j hj => by rw [w1 j (by omega)]; exact hK.2 j hj⟩, by rw [w3 24 (by omega)]; exact hL.1, by rw [w1 8 (by omega)]; exact hL.2⟩
  rw [m2 (28 + t) (by omega), w1 (10 + t) (by omega)]
  refine ⟨?_, (hG t ht).2⟩
  by_cases e : t = s
  · subst e
    rw [m3, w2]
    exact ⟨hv.1, hv.2, rfl⟩
  · rw [m2 _ (by omega), w1 _ (by omega)]
    exact (hG t ht).1
