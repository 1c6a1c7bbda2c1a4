/-! feed -/
theorem and255 (x : Int) : 0 ≤ g_and x 255 ∧ g_and x 255 ≤ 255 := by
  unfold g_and
  have e : (gI x &&& gI 255).toBitVec.toNat ≤ 255 := by
    show ((gI x).toBitVec &&& (gI 255).toBitVec).toNat ≤ 255
    rw [BitVec.toNat_and, show (gI 255).toBitVec.toNat = 255 from rfl]
    exact Nat.and_le_right
  have f : (gI x &&& gI 255).toInt = ((gI x &&& gI 255).toBitVec.toNat : Int) := by
    show (gI x &&& gI 255).toBitVec.toInt = _
    rw [BitVec.toInt_eq_toNat_of_lt (by omega)]
  rw [f]
  omega
def R_tp (L : Nat) (M W : g_M) : Prop := M 23 2 = L ∧ W 0 4 = L ∧ ∀ i : Nat, i < L → 0 ≤ M 24 i ∧ M 24 i ≤ 255 ∧ W 4 i = M 24 i
def R_fr (M M' W W' : g_M) : Prop := (∀ a b : Nat, a ≠ 24 → a ≠ 23 ∨ b ≠ 2 → M' a b = M a b) ∧ ∀ a b : Nat, a ≠ 4 → a ≠ 0 ∨ b ≠ 4 → W' a b = W a b
theorem tp_one {L : Nat} {M W : g_M} (h : R_tp L M W) {v : Int} (hv : 0 ≤ v ∧ v ≤ 255) : R_tp (L + 1) (g_wr (g_wr M 24 L v) 23 2 ((L : Int) + 1)) (g_wr (g_wr W 4 L v) 0 4 ((L : Int) + 1)) ∧ R_fr M (g_wr (g_wr M 24 L v) 23 2 ((L : Int) + 1)) W (g_wr (g_wr W 4 L v) 0 4 ((L : Int) + 1)) := by
  refine ⟨⟨by rw [a_rd _ (by omega)]; omega, by rw [a_rd _ (by omega)]; omega, fun i hi => ?_⟩, fun a b c d => by rw [a_ne _ (by omega), a_ne _ (by omega)], fun a b c d => by rw [a_ne _ (by omega), a_ne _ (by omega)]⟩
  by_cases e : i = L
  · subst e
    rw [a_ne _ (by omega), a_rd _ (by omega), a_ne _ (by omega), a_rd _ (by omega)]
    exact ⟨hv.1, hv.2, rfl⟩
  · rw [a_ne _ (by omega), a_ne _ (by omega), a_ne _ (by omega), a_ne _ (by omega)]
    exact h.2.2 i (by omega)
theorem fr_trans {M M' M'' W W' W'' : g_M} (h : R_fr M M' W W') (h' : R_fr M' M'' W' W'') : R_fr M M'' W W'' := ⟨fun a b c d => (h'.1 a b c d).trans (h.1 a b c d), fun a b c d => (h'.2 a b c d).trans (h.2 a b c d)⟩
theorem tp_step {x : Int} {L k : Nat} {M W : g_M} (h : R_tp L M W) (hL : L < 300) (hk : k ≤ 24) : ∃ M' W', (∀ f, m_X4_take_L3 x (f + 1) (k : Int) M = m_X4_take_L3 x f ((k : Int) + -8) M') ∧ (∀ f, m_X9_four_L3 x (f + 1) (k : Int) W = m_X9_four_L3 x f ((k : Int) + -8) W') ∧ R_tp (L + 1) M' W' ∧ R_fr M M' W W' := by
  obtain ⟨h1, h2, h3⟩ := id h
  have hh := tp_one h (and255 (g_shr x k))
  refine ⟨_, _, fun f => ?_, fun f => ?_, hh.1, hh.2⟩
  · rw [m_X4_take_L3]
    simp (disch := omega) only [↓reduceIte, ta_nle, ta_nlt, gs_id, h1, a_gd, g_nm, Int.toNat_natCast, a_ne]
  · rw [m_X9_four_L3]
    simp (disch := omega) only [↓reduceIte, ta_nle, ta_nlt, gs_id, h2, a_gd, g_nm, Int.toNat_natCast, a_ne]
theorem tp_take {x : Int} {L : Nat} {M W : g_M} (h : R_tp L M W) (hL : L + 4 ≤ 300) : ∃ M' W', m_X4_take x M = some M' ∧ m_X9_four x W = some W' ∧ R_tp (L + 4) M' W' ∧ R_fr M M' W W' := by
  obtain ⟨M1, W1, a1, b1, c1, d1⟩ := tp_step (x := x) (k := 24) h (by omega) (by omega)
  obtain ⟨M2, W2, a2, b2, c2, d2⟩ := tp_step (x := x) (k := 16) c1 (by omega) (by omega)
  obtain ⟨M3, W3, a3, b3, c3, d3⟩ := tp_step (x := x) (k := 8) c2 (by omega) (by omega)
  obtain ⟨M4, W4, a4, b4, c4, d4⟩ := tp_step (x := x) (k := 0) c3 (by omega) (by omega)
  refine ⟨M4, W4, ?_, ?_, c4, fr_trans (fr_trans (fr_trans d1 d2) d3) d4⟩
  · unfold m_X4_take
    have e := a1 999999
    rw [show ((24 : Nat) : Int) + -8 = ((16 : Nat) : Int) from rfl, a2 999998, show ((16 : Nat) : Int) + -8 = ((8 : Nat) : Int) from rfl, a3 999997, show ((8 : Nat) : Int) + -8 = ((0 : Nat) : Int) from rfl, a4 999996] at e
    refine e.trans ?_
    rw [m_X4_take_L3]
    exact if_pos (by rw [gs_id (by omega) (by omega)]; omega)
  · unfold m_X9_four
    have e := b1 999999
    rw [show ((24 : Nat) : Int) + -8 = ((16 : Nat) : Int) from rfl, b2 999998, show ((16 : Nat) : Int) + -8 = ((8 : Nat) : Int) from rfl, b3 999997, show ((8 : Nat) : Int) + -8 = ((0 : Nat) : Int) from rfl, b4 999996] at e
    refine e.trans ?_
    rw [m_X9_four_L3]
    exact if_pos (by rw [gs_id (by omega) (by omega)]; omega)
theorem st_3 : x_step_3 Rel := by
  intro n Mx Mm hr hn a1 a2 a3 a4 a5 h1 h2 h3 h4 h5
  obtain ⟨hf, hi, hle, ⟨⟨L, l1, l2, l3, l4⟩, ⟨l5, l6, l7⟩, l8, l9, l10⟩, ⟨q1, q2, q3, q4⟩, htx, hb⟩ := id hr
  by_cases c : L ≤ 280
  · obtain ⟨M1, W1, u1, v1, r1, f1⟩ := tp_take (x := a1) (L := L) (M := Mx) (W := Mm) ⟨l2, l3, l4⟩ (by omega)
    obtain ⟨M2, W2, u2, v2, r2, f2⟩ := tp_take (x := a2) r1 (by omega)
    obtain ⟨M3, W3, u3, v3, r3, f3⟩ := tp_take (x := a3) r2 (by omega)
    obtain ⟨M4, W4, u4, v4, r4, f4⟩ := tp_take (x := a4) r3 (by omega)
    obtain ⟨M5, W5, u5, v5, r5, f5⟩ := tp_take (x := a5) r4 (by omega)
    have ff := fr_trans (fr_trans (fr_trans (fr_trans f1 f2) f3) f4) f5
    refine ⟨M5 23 2, W5 0 4, M5, W5, ?_, ?_, by rw [r5.1, r5.2.1], ?_⟩
    · unfold m_X8_feed
      simp (disch := omega) only [↓reduceIte, ta_le, gs_id, l2, u1, u2, u3, u4, u5, Option.bind_some]
    · unfold m_X9_feed
      simp (disch := omega) only [↓reduceIte, ta_le, gs_id, l3, v1, v2, v3, v4, v5, Option.bind_some]
    · have cx : ∀ a, a ≠ 23 → a ≠ 24 → M5 a = Mx a := fun a ha hb => funext fun b => ff.1 a b hb (Or.inl ha)
      have cm : ∀ a, a ≠ 0 → a ≠ 4 → W5 a = Mm a := fun a ha hb => funext fun b => ff.2 a b hb (Or.inl ha)
      have cr : ∀ b, b ≠ 2 → M5 23 b = Mx 23 b := fun b hb => ff.1 23 b (by omega) (Or.inr hb)
      have co : ∀ b, b ≠ 4 → W5 0 b = Mm 0 b := fun b hb => ff.2 0 b (by omega) (Or.inr hb)
      refine ⟨?_, ?_, ?_, ⟨⟨L + 4 + 4 + 4 + 4 + 4, by omega, r5.1, r5.2.1, r5.2.2⟩, ?_, ?_⟩, ?_, ?_, ?_⟩
      · rw [cx 1 (by omega) (by omega), cx 2 (by omega) (by omega), cx 3 (by omega) (by omega), cx 4 (by omega) (by omega), cx 5 (by omega) (by omega), cx 6 (by omega) (by omega), cx 7 (by omega) (by omega), cx 8 (by omega) (by omega), cx 9 (by omega) (by omega), cx 10 (by omega) (by omega), cx 11 (by omega) (by omega), cm 1 (by omega) (by omega)]
        exact hf
      · rw [cx 12 (by omega) (by omega), cx 13 (by omega) (by omega), cx 14 (by omega) (by omega), cx 15 (by omega) (by omega), cx 16 (by omega) (by omega), cx 17 (by omega) (by omega), cx 18 (by omega) (by omega), cx 19 (by omega) (by omega), cx 20 (by omega) (by omega), cx 21 (by omega) (by omega), cx 22 (by omega) (by omega), cm 2 (by omega) (by omega)]
        exact hi
      · rw [cx 12 (by omega) (by omega), cx 1 (by omega) (by omega)]; exact hle
      · rw [cr 3 (by omega), co 5 (by omega)]; exact ⟨l5, l6, l7⟩
      · rw [cr 4 (by omega), co 6 (by omega)]; exact ⟨l8, l9, l10⟩
      · refine R_cnt_mono ⟨?_, ?_, ?_, ?_⟩
        · rw [co 23 (by omega)]; exact q1
        · rw [co 24 (by omega)]; exact q2
        · rw [co 25 (by omega)]; exact q3
        · rw [co 25 (by omega)]; exact q4
      · intro t h
        rw [cx 1 (by omega) (by omega)] at h
        have e : (fun i => M5 (41 + 6 * t + i)) = fun i => Mx (41 + 6 * t + i) := funext fun i => cx _ (by omega) (by omega)
        rw [e, cm 3 (by omega) (by omega)]
        exact htx t h
      · intro j hj
        rw [cx 37 (by omega) (by omega), cx 38 (by omega) (by omega)]
        exact hb j hj
  · refine ⟨-1, -1, Mx, Mm, ?_, ?_, rfl, st_same hr⟩
    · unfold m_X8_feed
      simp (disch := omega) only [↓reduceIte, ta_nle, gs_id, l2]
    · unfold m_X9_feed
      simp (disch := omega) only [↓reduceIte, ta_nle, gs_id, l3]
