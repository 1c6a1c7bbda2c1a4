/-! a scene is shown, in both -/
/-- within an evening: what may have changed, how many changed -/
def EI (Mx Mm M1 : g_M) (x : Nat) (M W : g_M) : Prop := (∀ a, a ≠ 2 → a ≠ 33 → a ≠ 34 → a ≠ 65 → M a = Mx a) ∧ (∀ j, j < 24 → M 33 j = M1 33 j) ∧ (∀ a, a ≠ 0 → a ≠ 1 → a ≠ 6 → a ≠ 7 → a ≠ 8 → W a = Mm a) ∧ (∀ j, j ≠ 25 → W 0 j = Mm 0 j) ∧ (∀ j, (j < 16 ∨ 40 ≤ j) → j ≠ 42 → M 2 j = Mx 2 j) ∧ (∀ j, (j < 10 ∨ 34 ≤ j) → j ≠ 7 → W 1 j = Mm 1 j) ∧ (∀ s : Nat, s < 12 → (0 ≤ M 2 (16 + s) ∧ M 2 (16 + s) ≤ 12 ∧ W 1 (22 + s) = M 2 (16 + s)) ∧ 0 ≤ M 2 (28 + s) ∧ M 2 (28 + s) ≤ 9999 ∧ W 1 (10 + s) = M 2 (28 + s)) ∧ (0 ≤ M 2 42 ∧ M 2 42 < 30577 ∧ W 1 7 = M 2 42) ∧ M 65 4 = x ∧ W 0 25 = Mm 0 25 + x
theorem draw_next {v : Int} (h : 0 ≤ v ∧ v < 30577) : g_rem (v * 443 + 331) 30577 = (v * 443 + 331) % 30577 ∧ g_lrem (v * 443 + 331) 30577 = (v * 443 + 331) % 30577 := by
  have e : Int.tmod (v * 443 + 331) 30577 = (v * 443 + 331) % 30577 := Int.tmod_eq_emod_of_nonneg (by omega)
  constructor
  · unfold g_rem
    rw [gs_id (by omega) (by omega), gs_id (by omega) (by omega), e]
  · unfold g_lrem
    rw [L_id (by omega) (by omega), L_id (by omega) (by omega), e]
theorem draw_ten {v : Int} (h : 0 ≤ v ∧ v < 30577) : g_rem v 10 = v % 10 := by
  unfold g_rem
  rw [gs_id (by omega) (by omega), gs_id (by omega) (by omega)]
  exact Int.tmod_eq_emod_of_nonneg h.1
/-- the class's draw, then the reference's -/
theorem p_draw {M : g_M} (h : 0 ≤ M 2 42 ∧ M 2 42 < 30577) : m_X2_drawAnew M = some (g_wr M 2 42 ((M 2 42 * 443 + 331) % 30577)) := by
  unfold m_X2_drawAnew
  simp (disch := omega) only [↓reduceIte, ↓nm_eq, ↓jn_eq, ↓c_within, ↓c_isIn, ↓c_isScene, ↓c_isPlace, ↓c_isCue, ↓c_isDigit, ↓d_isScene, ↓d_isAny, ↓ta_pb1, ↓ta_pb0, ↓ta_pb1', ↓ta_pb0', ta_lt, ta_nlt, ta_le, ta_nle, ta_eq, ta_neq, ta_nne, ta_ne, gs_id, a_gd01, a_gdT, or_true, true_or, bd_some, bW_sm, a_gd, a_ne, a_rd, Int.toNat_natCast, Int.toNat_add, Int.toNat_mul, Int.reduceToNat, a_gdp, a_cell, and_self, and_true, true_and, (draw_next h).1]
theorem q_draw {W : g_M} (h : 0 ≤ W 1 7 ∧ W 1 7 < 30577) : m_X9_anew W = some (g_wr W 1 7 ((W 1 7 * 443 + 331) % 30577)) := by
  have e : gl 30577 = 30577 := L_id (by omega) (by omega)
  unfold m_X9_anew
  simp (disch := omega) only [↓reduceIte, ↓nm_eq, ↓jn_eq, ↓c_within, ↓c_isIn, ↓c_isScene, ↓c_isPlace, ↓c_isCue, ↓c_isDigit, ↓d_isScene, ↓d_isAny, ↓ta_pb1, ↓ta_pb0, ↓ta_pb1', ↓ta_pb0', ta_lt, ta_nlt, ta_le, ta_nle, ta_eq, ta_neq, ta_nne, ta_ne, gs_id, a_gd01, a_gdT, or_true, true_or, bd_some, bW_sm, a_gd, a_ne, a_rd, Int.toNat_natCast, Int.toNat_add, Int.toNat_mul, Int.reduceToNat, a_gdp, a_cell, and_self, and_true, true_and, (draw_next h).2, e]
theorem EI_Ev {n : Nat} {Mx Mm M1 : g_M} {d b p : Int} (h1 : ∀ a, a ≠ 33 → M1 a = Mx a) (l3 : ∀ M2 W2 : g_M, (∀ a, 35 ≤ a → a ≤ 64 → M2 a = Mx a) → M2 5 = Mx 5 → (∀ j, 21 ≤ j → j < 24 → M2 33 j = M1 33 j) → W2 3 = Mm 3 → (∀ s, s < 12 → W2 1 (114 + s) = Mm 1 (114 + s)) → (W2 1 0 = Mm 1 0 ∧ W2 1 6 = Mm 1 6 ∧ ∀ q, q < 8 → W2 1 (34 + 4 * q) = Mm 1 (34 + 4 * q) ∧ W2 1 (34 + 4 * q + 2) = Mm 1 (34 + 4 * q + 2)) → Ev Mx Mm d b p (fun s => Mx 5 s) M2 W2) {M W : g_M} (a1 : ∀ a, 35 ≤ a → a ≤ 64 → M a = Mx a) (a2 : M 5 = Mx 5) (a3 : ∀ j, j < 24 → M 33 j = M1 33 j) (a4 : W 3 = Mm 3) (a5 : ∀ j, (j < 10 ∨ 34 ≤ j) → j ≠ 7 → W 1 j = Mm 1 j) : Ev Mx Mm d b p (fun s => Mx 5 s) M W := l3 M W a1 a2 (fun j _ h => a3 j h) a4 (fun s hs => a5 _ (by omega) (by omega)) ⟨a5 0 (by omega) (by omega), a5 6 (by omega) (by omega), fun q hq => ⟨a5 _ (by omega) (by omega), a5 _ (by omega) (by omega)⟩⟩
