/-! a scene is shown: both -/
theorem both_show {n : Nat} {Mx Mm M1 : g_M} {d b p : Int} (hr : Rel n Mx Mm) (h1 : ∀ a, a ≠ 33 → M1 a = Mx a) (l3 : ∀ M2 W2 : g_M, (∀ a, 35 ≤ a → a ≤ 64 → M2 a = Mx a) → M2 5 = Mx 5 → (∀ j, 21 ≤ j → j < 24 → M2 33 j = M1 33 j) → W2 3 = Mm 3 → (∀ s, s < 12 → W2 1 (114 + s) = Mm 1 (114 + s)) → (W2 1 0 = Mm 1 0 ∧ W2 1 6 = Mm 1 6 ∧ ∀ q, q < 8 → W2 1 (34 + 4 * q) = Mm 1 (34 + 4 * q) ∧ W2 1 (34 + 4 * q + 2) = Mm 1 (34 + 4 * q + 2)) → Ev Mx Mm d b p (fun s => Mx 5 s) M2 W2) {x : Nat} (hx : x ≤ 30000) {M W : g_M} (h : EI Mx Mm M1 x M W) {s : Nat} (hs : s < 12) : ∃ (t y : Nat) (M' W' : g_M), t ≤ 12 ∧ x ≤ y ∧ y ≤ x + 1 ∧ m_X2_showScene s M = some ((t : Int), M') ∧ m_X9_show s W = some ((t : Int), W') ∧ EI Mx Mm M1 y M' W' ∧ M' 65 3 = M 65 3 := by
  obtain ⟨i1, i2, i3, i4, i5, i6, i7, ⟨v1, v2, v3⟩, i9, i10⟩ := h
  obtain ⟨⟨n1, n2, n3⟩, c1, c2, c3⟩ := i7 s hs
  obtain ⟨u1, u2, u3⟩ := Rel_u hr
  have hd : 0 ≤ (M 2 42 * 443 + 331) % 30577 ∧ (M 2 42 * 443 + 331) % 30577 < 30577 := by omega
  obtain ⟨w, hw⟩ : ∃ w : Int, w = (M 2 42 * 443 + 331) % 30577 := ⟨_, rfl⟩
  obtain ⟨z, hz⟩ : ∃ z : Int, z = if M 2 (28 + s) + 1 < 9999 then M 2 (28 + s) + 1 else 9999 := ⟨_, rfl⟩
  have hzb : 0 ≤ z ∧ z ≤ 9999 := by
    rw [hz]
    by_cases c : M 2 (28 + s) + 1 < 9999
    · rw [if_pos c]; omega
    · rw [if_neg c]; omega
  obtain ⟨Ma, hMa⟩ : ∃ Ma, Ma = g_wr (g_wr M 2 (28 + s) z) 2 42 w := ⟨_, rfl⟩
  have ma : ∀ a, a ≠ 2 → Ma a = M a := fun a ha => by rw [hMa, a_cell _ ha, a_cell _ ha]
  have ma2 : ∀ j, j ≠ 28 + s → j ≠ 42 → Ma 2 j = M 2 j := fun j h1 h2 => by rw [hMa, a_ne _ (by omega), a_ne _ (by omega)]
  have ma28 : Ma 2 (28 + s) = z := by rw [hMa, a_ne _ (by omega)]; exact wr_at _ _ _ _
  have ma42 : Ma 2 42 = w := by rw [hMa]; exact wr_at _ _ _ _
  have ev := EI_Ev (n := n) h1 l3 (M := Ma) (W := W) (fun a a1 a2 => by rw [ma a (by omega)]; exact i1 a (by omega) (by omega) (by omega) (by omega)) (by rw [ma 5 (by omega)]; exact i1 5 (by omega) (by omega) (by omega) (by omega)) (fun j hj => by rw [ma 33 (by omega)]; exact i2 j hj) (i3 3 (by omega) (by omega) (by omega) (by omega) (by omega)) i6
  have hu : W 1 2 = Mx 1 9 := by rw [i6 2 (by omega) (by omega)]; exact u3
  obtain ⟨c, Mb, Wb, k0, k1, k2, k3, k4, k5⟩ := both_cue hr ⟨u1, u2⟩ ev (by rw [ma 1 (by omega), i1 1 (by omega) (by omega) (by omega) (by omega)]) hu hs (x := M 2 (28 + s)) (y := M 2 42 % 10) ⟨c1, c2⟩ (by omega) c3
  obtain ⟨c, rfl⟩ : ∃ c' : Nat, c = c' := ⟨c.toNat, by omega⟩
  have mb2 : Mb 2 = Ma 2 := k3 2 (by omega) (by omega)
  have mb4 : Mb 4 = Mx 4 := by rw [k3 4 (by omega) (by omega), ma 4 (by omega), i1 4 (by omega) (by omega) (by omega) (by omega)]
  have wb1 : Wb 1 = W 1 := k5 1 (by omega) (by omega) (by omega)
  obtain ⟨Wa, hWa⟩ : ∃ Wa, Wa = g_wr (g_wr Wb 1 7 w) 1 (10 + s) z := ⟨_, rfl⟩
  have e1 : g_min 9999 (M 2 (28 + s) + 1) = z := by rw [g_min_of (by omega) (by omega), hz]
  have e2 := draw_ten (v := M 2 42) ⟨v1, v2⟩
  have q0 : m_X9_anew Wb = some (g_wr Wb 1 7 w) := by
    rw [q_draw (by rw [wb1, v3]; exact ⟨v1, v2⟩), wb1, v3, hw]
  have p0 : m_X2_drawAnew (g_wr M 2 (28 + s) z) = some Ma := by
    have e : g_wr M 2 (28 + s) z 2 42 = M 2 42 := a_ne _ (by omega)
    rw [p_draw (by rw [e]; exact ⟨v1, v2⟩), e, hMa, hw]
  have q1 : m_X9_cut (gs (M 2 (28 + s) + 1)) 0 9999 = some z := by
    have := q_cut (v := M 2 (28 + s) + 1) (t := 9999) (by unfold V6; omega) (by omega)
    rw [show ((9999 : Nat) : Int) = 9999 from rfl] at this
    rw [gs_id (by omega) (by omega), this, hz]
    unfold ctN
    rw [if_neg (by omega)]
    by_cases g : M 2 (28 + s) + 1 < 9999
    · rw [if_pos g, if_neg (by omega)]
    · rw [if_neg g]
      by_cases g2 : ((9999 : Nat) : Int) < M 2 (28 + s) + 1
      · rw [if_pos g2]; rfl
      · rw [if_neg g2]; congr 1; omega
  sorry
