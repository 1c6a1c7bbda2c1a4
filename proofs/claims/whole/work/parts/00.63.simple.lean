/-! steps that ask or tell little -/
theorem st_same {n : Nat} {Mx Mm : g_M} (hr : Rel n Mx Mm) : Rel (n + 1) Mx Mm := Rel_mono hr
theorem st_47 : x_step_47 Rel := by
  intro n Mx Mm hr hn a1 h1
  have g1 := gs_id h1.1 h1.2
  obtain ⟨⟨P, T, S, E, C, F, ⟨p1, p2, p3⟩, ⟨t1, t2, t3⟩, ⟨u1, u2, u3⟩, ⟨s1, s2, s3⟩, ⟨e1, e2⟩, ⟨c1, c2, c3⟩, ⟨f1, f2, f3⟩, -⟩, -, -, ⟨⟨L, l1, l2, l3, -⟩, -⟩, -⟩ := id hr
  have key : ∃ r, m_X8_about a1 Mx = some r ∧ m_X9_about a1 Mm = some r := by
    unfold m_X8_about m_X9_about
    rw [p_isIn g1 gsc_0 gsc_5]
    simp only [Option.bind_some, g1, gsc_6]
    by_cases c : 0 ≤ a1 ∧ a1 ≤ 5
    · rw [pb_t c, gsc_1, if_neg (show ¬ (1 : Int) = 0 by decide), g_gd_pos (g_ix_of c.1 (by omega) (by decide))]
      have h : a1 = 0 ∨ a1 = 1 ∨ a1 = 2 ∨ a1 = 3 ∨ a1 = 4 ∨ a1 = 5 := by omega
      rcases h with rfl | rfl | rfl | rfl | rfl | rfl
      · exact ⟨_, rfl, by rw [p2]; exact congrArg some p3⟩
      · exact ⟨_, rfl, by rw [t2]; exact congrArg some t3⟩
      · exact ⟨_, rfl, congrArg some u3⟩
      · exact ⟨_, rfl, by rw [s2]; exact congrArg some s3⟩
      · exact ⟨_, rfl, by rw [c2]; exact congrArg some c3⟩
      · exact ⟨_, rfl, by rw [f2]; exact congrArg some f3⟩
    · rw [pb_f c, gsc_0, if_pos (show (0 : Int) = 0 from rfl)]
      by_cases c6 : a1 = 6
      · subst c6
        exact ⟨_, rfl, by rw [l2]; exact congrArg some l3⟩
      · rw [if_neg (by omega), if_neg (by omega), if_neg (by omega), if_neg (by omega), if_neg (by omega), if_neg (by omega), if_neg c6]
        exact ⟨_, rfl, by rw [if_pos c6]⟩
  obtain ⟨r, k1, k2⟩ := key
  exact ⟨r, r, Mx, Mm, ⟨k1, rfl⟩, ⟨k2, rfl⟩, rfl, st_same hr⟩
theorem st_6 : x_step_6 Rel := by
  intro n Mx Mm hr hn a1 h1
  have g1 := gs_id h1.1 h1.2
  obtain ⟨-, -, -, ⟨-, ⟨-, -, q1⟩, -, -, q2⟩, -⟩ := id hr
  have key : ∃ r, m_X8_fault a1 Mx = some r ∧ m_X9_fault a1 Mm = some r := by
    unfold m_X8_fault m_X9_fault
    rw [q1, q2]
    by_cases c : gs a1 ≠ 0
    · rw [if_pos c]
      by_cases c1 : gs a1 ≠ gs 1
      · rw [if_pos c1]; exact ⟨_, rfl, rfl⟩
      · rw [if_neg c1]; exact ⟨_, rfl, rfl⟩
    · rw [if_neg c]; exact ⟨_, rfl, rfl⟩
  obtain ⟨r, k1, k2⟩ := key
  exact ⟨r, r, Mx, Mm, ⟨k1, rfl⟩, ⟨k2, rfl⟩, rfl, st_same hr⟩
/-- a write in the current film's object, or in one of its rows, and one in the reference's row -/
theorem ite_pos' {α : Sort _} {c : Prop} [Decidable c] {a b : α} (h : c) : (if c then a else b) = a := if_pos h
theorem Rel_wr {n : Nat} {Mx Mm : g_M} (h : Rel n Mx Mm) {k : Nat} (hk : 1 ≤ k ∧ k ≤ 11) {Mx' Mm' : g_M} (hx : ∀ a, ¬ (1 ≤ a ∧ a ≤ 11) → Mx' a = Mx a) (ht : Mx' 1 8 = Mx 1 8) (hm : ∀ a, a ≠ 1 → Mm' a = Mm a) (hf : R_film (Mx' 1) (Mx' 2) (Mx' 3) (Mx' 4) (Mx' 5) (Mx' 6) (Mx' 7) (Mx' 8) (Mx' 9) (Mx' 10) (Mx' 11) (Mm' 1)) : Rel (n + 1) Mx' Mm' := by
  obtain ⟨-, hi, hle, htp, hc, htx, hb⟩ := h
  refine ⟨hf, ?_, ?_, ?_, ?_, ?_, ?_⟩
  · rw [hx 12 (by omega), hx 13 (by omega), hx 14 (by omega), hx 15 (by omega), hx 16 (by omega), hx 17 (by omega), hx 18 (by omega), hx 19 (by omega), hx 20 (by omega), hx 21 (by omega), hx 22 (by omega), hm 2 (by omega)]
    exact hi
  · rw [hx 12 (by omega), ht]; exact hle
  · rw [hx 23 (by omega), hx 24 (by omega), hm 0 (by omega), hm 4 (by omega)]; exact htp
  · rw [hm 0 (by omega)]; exact R_cnt_mono hc
  · intro t h
    rw [ht] at h
    have := htx t h
    have e : (fun i => Mx' (41 + 6 * t + i)) = fun i => Mx (41 + 6 * t + i) := funext fun i => hx _ (by omega)
    rw [e, hm 3 (by omega)]
    exact this
  · intro j hj
    rw [hx 37 (by omega), hx 38 (by omega)]
    exact hb j hj
theorem R_snap_cg {P : Nat} {nw h h' : Nat → Int} {pr pr' : Nat → Nat → Int} {bk bk' : Nat → Int} (H : R_snap P nw h pr bk) (e1 : ∀ j, j < 28 → h' j = h j) (e2 : ∀ q i, q < P → i < 2 → pr' q i = pr q i) (e3 : ∀ i, i < 60 → bk' i = bk i) : R_snap P nw h' pr' bk' := by
  obtain ⟨D, d1, d2, d3, ⟨d4, d5, d6⟩, ⟨d7, d8, d9⟩, d10, d11, d12, d13, d14⟩ := H
  refine ⟨D, d1, d2, by rw [e1 0 (by omega)]; exact d3, ⟨d4, d5, by rw [e1 1 (by omega)]; exact d6⟩, ⟨d7, d8, by rw [e1 2 (by omega)]; exact d9⟩, by rw [e1 3 (by omega)]; exact d10, fun s hs => ?_, fun s hs => ?_, fun q hq => ?_, fun i hi => ?_⟩
  · rw [e1 (4 + s) (by omega)]; exact d11 s hs
  · rw [e1 (16 + s) (by omega)]; exact d12 s hs
  · rw [e2 q 0 hq (by omega), e2 q 1 hq (by omega)]; exact d13 q hq
  · rw [e3 (2 * i) (by omega), e3 (2 * i + 1) (by omega)]; exact d14 i hi
theorem R_step_cg {P E k : Nat} {st A A' : Nat → Int} (hk : k < 30) (hP : P ≤ 8) (H : R_step P E k st A) (e1 : ∀ j, 199 ≤ j → j < 3349 → A' j = A j) (e2 : ∀ q, q < P → A' (34 + 4 * q + 3) = A (34 + 4 * q + 3)) : R_step P E k st A' := by
  obtain ⟨pk, h1, h2, h3, h4⟩ := H
  refine ⟨pk, h1, by rw [e1 _ (by omega) (by omega)]; exact h2, R_snap_cg h3 (fun j hj => e1 _ (by omega) (by omega)) (fun q i hq hi => e1 _ (by omega) (by omega)) (fun i hi => e1 _ (by omega) (by omega)), fun q hq hq2 => ?_⟩
  rw [e2 q hq2]
  exact h4 q hq hq2
