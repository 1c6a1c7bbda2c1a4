/-! person -/
/-- one more person -/
theorem R_snap_more {P : Nat} {v : Int} {nw nw' h h' : Nat → Int} {pr pr' : Nat → Nat → Int} {bk bk' : Nat → Int} (hv : 0 ≤ v ∧ v ≤ 9) (hP : P < 8) (H : R_snap P nw h pr bk) (e0 : ∀ j, j < 133 → j ≠ P ∧ j ≠ 8 + P → nw' j = nw j) (f0 : nw' P = v) (f1 : nw' (8 + P) = 0) (e1 : ∀ j, j < 28 → h' j = h j) (e2 : ∀ q i, q < P → i < 2 → pr' q i = pr q i) (f2 : pr' P 0 = v) (f3 : pr' P 1 = 0) (e3 : ∀ i, i < 60 → bk' i = bk i) : R_snap (P + 1) nw' h' pr' bk' := by
  obtain ⟨D, d1, d2, d3, ⟨d4, d5, d6⟩, ⟨d7, d8, d9⟩, d10, d11, d12, d13, d14⟩ := H
  refine ⟨D, d1, by rw [e0 41 (by omega) (by omega)]; exact d2, by rw [e1 0 (by omega)]; exact d3, by rw [e1 1 (by omega), e0 42 (by omega) (by omega)]; exact ⟨d4, d5, d6⟩, by rw [e1 2 (by omega), e0 40 (by omega) (by omega)]; exact ⟨d7, d8, d9⟩, by rw [e1 3 (by omega)]; exact d10, fun s hs => ?_, fun s hs => ?_, fun q hq => ?_, R_book_cg d14 (fun j a b => e0 j (by omega) (by omega)) e3⟩
  · rw [e1 (4 + s) (by omega), e0 (28 + s) (by omega) (by omega)]; exact d11 s hs
  · rw [e1 (16 + s) (by omega), e0 (16 + s) (by omega) (by omega)]; exact d12 s hs
  · by_cases e : q = P
    · subst e
      rw [f0, f1, f2, f3]
      exact ⟨hv.1, hv.2, rfl, by omega, by omega, rfl⟩
    · rw [e2 q 0 (by omega) (by omega), e2 q 1 (by omega) (by omega), e0 q (by omega) (by omega), e0 (8 + q) (by omega) (by omega)]; exact d13 q (by omega)
theorem p_put (a1 a2 v : Int) (M : g_M) (k : Nat) (h : 34 + 4 * a1 + a2 = k) (hk : k < 3409) : m_X9_put a1 a2 v M = some (g_wr M 1 k v) := by
  unfold m_X9_put
  simp (disch := omega) only [a_gd, gs_id, g_nm, show (34 + 4 * a1 + a2).toNat = k by omega]
theorem p_get (a1 a2 : Int) (M : g_M) (k : Nat) (h : 34 + 4 * a1 + a2 = k) (hk : k < 3409) : m_X9_get a1 a2 M = some (M 1 k) := by
  unfold m_X9_get
  simp (disch := omega) only [a_gd, gs_id, show (34 + 4 * a1 + a2).toNat = k by omega]
theorem p_begin (P : Nat) (M : g_M) (hP : P < 8) : m_X9_begin P M = some (g_wr (g_wr M 1 (34 + 4 * P) (M 1 (34 + 4 * P + 3))) 1 (34 + 4 * P + 1) 0) := by
  unfold m_X9_begin
  rw [p_get _ _ _ (34 + 4 * P + 3) (by omega) (by omega), Option.bind_some, p_put _ _ _ _ (34 + 4 * P) (by omega) (by omega), Option.bind_some, p_put _ _ _ _ (34 + 4 * P + 1) (by omega) (by omega), Option.bind_some]

theorem st_2 : x_step_2 Rel := by
  intro n Mx Mm hr hn a1 a2 h1 h2
  have hr0 := hr
  obtain ⟨⟨P, T, S, E, C, F, hP, hT, hU, hS, hE, hC, hF, hsn, htd, hkd, hpl, hro, hod, hos, hsv, hlk, hfe, hst⟩, -⟩ := hr
  have hP1 := hP.1
  have hP2 := hP.2.1
  have hP3 := hP.2.2
  have hS1 := hS.1
  have hS2 := hS.2.1
  have hS3 := hS.2.2
  have hC1 := hC.1
  have hC2 := hC.2.1
  have hC3 := hC.2.2
  have hF1 := hF.1
  have hF2 := hF.2.1
  have hF3 := hF.2.2
  have i1 := h1.1
  have j1 := h1.2
  have i2 := h2.1
  have j2 := h2.2
  by_cases c1 : 0 ≤ a1 ∧ a1 ≤ 9
  rotate_left
  · refine ⟨-1, -1, Mx, Mm, ?_, ?_, rfl, st_same hr0⟩
    · simp (disch := omega) only [↓reduceIte, ↓g_nm, ↓g_jn, ↓c_within, ↓c_isIn, ↓c_isScene, ↓c_isPlace, ↓c_isCue, ↓c_isDigit, ↓d_isScene, ↓d_isAny, ↓ta_pb1, ↓ta_pb0, ↓ta_pb1', ↓ta_pb0', ta_lt, ta_nlt, ta_le, ta_nle, ta_eq, ta_neq, ta_nne, ta_ne, gs_id, a_gd01, a_gdT, or_true, true_or, Option.bind_some, bW_some, a_gd, a_ne, a_rd, Int.toNat_natCast, m_X8_person, m_X1_tellPerson, hP2]
    · simp (disch := omega) only [↓reduceIte, ↓g_nm, ↓g_jn, ↓c_within, ↓c_isIn, ↓c_isScene, ↓c_isPlace, ↓c_isCue, ↓c_isDigit, ↓d_isScene, ↓d_isAny, ↓ta_pb1, ↓ta_pb0, ↓ta_pb1', ↓ta_pb0', ta_lt, ta_nlt, ta_le, ta_nle, ta_eq, ta_neq, ta_nne, ta_ne, gs_id, a_gd01, a_gdT, or_true, true_or, Option.bind_some, bW_some, a_gd, a_ne, a_rd, Int.toNat_natCast, m_X9_person, show Int.toNat 0 = 0 from rfl, hP3]
  by_cases c2 : 0 ≤ a2 ∧ a2 ≤ 9
  rotate_left
  · refine ⟨-1, -1, Mx, Mm, ?_, ?_, rfl, st_same hr0⟩
    · simp (disch := omega) only [↓reduceIte, ↓g_nm, ↓g_jn, ↓c_within, ↓c_isIn, ↓c_isScene, ↓c_isPlace, ↓c_isCue, ↓c_isDigit, ↓d_isScene, ↓d_isAny, ↓ta_pb1, ↓ta_pb0, ↓ta_pb1', ↓ta_pb0', ta_lt, ta_nlt, ta_le, ta_nle, ta_eq, ta_neq, ta_nne, ta_ne, gs_id, a_gd01, a_gdT, or_true, true_or, Option.bind_some, bW_some, a_gd, a_ne, a_rd, Int.toNat_natCast, m_X8_person, m_X1_tellPerson, hP2]
    · simp (disch := omega) only [↓reduceIte, ↓g_nm, ↓g_jn, ↓c_within, ↓c_isIn, ↓c_isScene, ↓c_isPlace, ↓c_isCue, ↓c_isDigit, ↓d_isScene, ↓d_isAny, ↓ta_pb1, ↓ta_pb0, ↓ta_pb1', ↓ta_pb0', ta_lt, ta_nlt, ta_le, ta_nle, ta_eq, ta_neq, ta_nne, ta_ne, gs_id, a_gd01, a_gdT, or_true, true_or, Option.bind_some, bW_some, a_gd, a_ne, a_rd, Int.toNat_natCast, m_X9_person, show Int.toNat 0 = 0 from rfl, hP3]
  by_cases c3 : P < 8
  rotate_left
  · refine ⟨-1, -1, Mx, Mm, ?_, ?_, rfl, st_same hr0⟩
    · simp (disch := omega) only [↓reduceIte, ↓g_nm, ↓g_jn, ↓c_within, ↓c_isIn, ↓c_isScene, ↓c_isPlace, ↓c_isCue, ↓c_isDigit, ↓d_isScene, ↓d_isAny, ↓ta_pb1, ↓ta_pb0, ↓ta_pb1', ↓ta_pb0', ta_lt, ta_nlt, ta_le, ta_nle, ta_eq, ta_neq, ta_nne, ta_ne, gs_id, a_gd01, a_gdT, or_true, true_or, Option.bind_some, bW_some, a_gd, a_ne, a_rd, Int.toNat_natCast, m_X8_person, m_X1_tellPerson, hP2]
    · simp (disch := omega) only [↓reduceIte, ↓g_nm, ↓g_jn, ↓c_within, ↓c_isIn, ↓c_isScene, ↓c_isPlace, ↓c_isCue, ↓c_isDigit, ↓d_isScene, ↓d_isAny, ↓ta_pb1, ↓ta_pb0, ↓ta_pb1', ↓ta_pb0', ta_lt, ta_nlt, ta_le, ta_nle, ta_eq, ta_neq, ta_nne, ta_ne, gs_id, a_gd01, a_gdT, or_true, true_or, Option.bind_some, bW_some, a_gd, a_ne, a_rd, Int.toNat_natCast, m_X9_person, show Int.toNat 0 = 0 from rfl, hP3]
  obtain ⟨Mx', ex⟩ : ∃ M, M = (fun a b => if a = 3 ∧ b % 133 = 8 + P ∧ b / 133 < 30 then 0 else g_wr (fun a b => if a = 3 ∧ b % 133 = P ∧ b / 133 < 30 then a2 else g_wr (g_wr (g_wr Mx 1 7 ((P : Int) + 1)) 6 P a1) 2 P a2 a b) 2 (8 + P) 0 a b) := ⟨_, rfl⟩
  obtain ⟨Mm', em⟩ : ∃ M, M = g_wr (g_wr (g_wr (g_wr (g_wr Mm 1 (34 + 4 * P + 2) a1) 1 (34 + 4 * P + 3) a2) 1 (34 + 4 * P) a2) 1 (34 + 4 * P + 1) 0) 1 0 ((P : Int) + 1) := ⟨_, rfl⟩
  refine ⟨(P : Int), (P : Int), Mx', Mm', ?_, ?_, rfl, ?_⟩
  · have k1 := p_tellNow (g_wr (g_wr Mx 1 7 ((P : Int) + 1)) 6 P a1) P a2 (by omega)
    have k2 := p_tellNow (fun a b => if a = 3 ∧ b % 133 = P ∧ b / 133 < 30 then a2 else g_wr (g_wr (g_wr Mx 1 7 ((P : Int) + 1)) 6 P a1) 2 P a2 a b) (8 + P) 0 (by omega)
    rw [← ex] at k2
    simp (disch := omega) only [↓reduceIte, ↓g_nm, ↓g_jn, ↓c_within, ↓c_isIn, ↓c_isScene, ↓c_isPlace, ↓c_isCue, ↓c_isDigit, ↓d_isScene, ↓d_isAny, ↓ta_pb1, ↓ta_pb0, ↓ta_pb1', ↓ta_pb0', ta_lt, ta_nlt, ta_le, ta_nle, ta_eq, ta_neq, ta_nne, ta_ne, gs_id, a_gd01, a_gdT, or_true, true_or, Option.bind_some, bW_some, a_gd, a_ne, a_rd, Int.toNat_natCast, m_X8_person, m_X1_tellPerson, hP2, show (0 : Int) + (P : Int) = (P : Int) by omega, show (8 : Int) + (P : Int) = ((8 + P : Nat) : Int) by omega, k1, k2]
  · simp (disch := omega) only [↓reduceIte, ↓g_nm, ↓g_jn, ↓c_within, ↓c_isIn, ↓c_isScene, ↓c_isPlace, ↓c_isCue, ↓c_isDigit, ↓d_isScene, ↓d_isAny, ↓ta_pb1, ↓ta_pb0, ↓ta_pb1', ↓ta_pb0', ta_lt, ta_nlt, ta_le, ta_nle, ta_eq, ta_neq, ta_nne, ta_ne, gs_id, a_gd01, a_gdT, or_true, true_or, Option.bind_some, bW_some, a_gd, a_ne, a_rd, Int.toNat_natCast, m_X9_person, hP3, show Int.toNat 0 = 0 from rfl, ↓bd_eq (p_put (P : Int) 2 a1 Mm (34 + 4 * P + 2) (by omega) (by omega)), ↓bd_eq (p_put (P : Int) 3 a2 (g_wr Mm 1 (34 + 4 * P + 2) a1) (34 + 4 * P + 3) (by omega) (by omega)), ↓bd_eq (p_begin P (g_wr (g_wr Mm 1 (34 + 4 * P + 2) a1) 1 (34 + 4 * P + 3) a2) c3)]
    rw [em]
  · have cx : ∀ a : Nat, a ≠ 1 ∧ a ≠ 2 ∧ a ≠ 3 ∧ a ≠ 6 → Mx' a = Mx a := fun a ha => by
      funext b
      rw [ex]
      show (if _ then _ else _) = _
      rw [if_neg (by omega), a_ne _ (by omega)]
      show (if _ then _ else _) = _
      rw [if_neg (by omega), a_ne _ (by omega), a_ne _ (by omega), a_ne _ (by omega)]
    have cm : ∀ a : Nat, a ≠ 1 → Mm' a = Mm a := fun a ha => by
      rw [em]; simp (disch := omega) only [a_cell]
    have nx : ∀ b : Nat, b ≠ 7 → Mx' 1 b = Mx 1 b := fun b hb => by
      rw [ex]
      show (if _ then _ else _) = _
      rw [if_neg (by omega), a_ne _ (by omega)]
      show (if _ then _ else _) = _
      rw [if_neg (by omega), a_ne _ (by omega), a_ne _ (by omega), a_ne _ (by omega)]
    have x1 : Mx' 1 7 = ((P + 1 : Nat) : Int) := by
      rw [ex]
      show (if _ then _ else _) = _
      rw [if_neg (by omega), a_ne _ (by omega)]
      show (if _ then _ else _) = _
      rw [if_neg (by omega), a_ne _ (by omega), a_ne _ (by omega), a_rd _ (by omega)]
      omega
    have n2 : ∀ b : Nat, b ≠ P ∧ b ≠ 8 + P → Mx' 2 b = Mx 2 b := fun b hb => by
      rw [ex]
      show (if _ then _ else _) = _
      rw [if_neg (by omega), a_ne _ (by omega)]
      show (if _ then _ else _) = _
      rw [if_neg (by omega), a_ne _ (by omega), a_ne _ (by omega), a_ne _ (by omega)]
    have x2 : Mx' 2 P = a2 := by
      rw [ex]
      show (if _ then _ else _) = _
      rw [if_neg (by omega), a_ne _ (by omega)]
      show (if _ then _ else _) = _
      rw [if_neg (by omega), a_rd _ (by omega)]
    have x3 : Mx' 2 (8 + P) = 0 := by
      rw [ex]
      show (if _ then _ else _) = _
      rw [if_neg (by omega), a_rd _ (by omega)]
    have n6 : ∀ b : Nat, b ≠ P → Mx' 6 b = Mx 6 b := fun b hb => by
      rw [ex]
      show (if _ then _ else _) = _
      rw [if_neg (by omega), a_ne _ (by omega)]
      show (if _ then _ else _) = _
      rw [if_neg (by omega), a_ne _ (by omega), a_ne _ (by omega), a_ne _ (by omega)]
    have x6 : Mx' 6 P = a1 := by
      rw [ex]
      show (if _ then _ else _) = _
      rw [if_neg (by omega), a_ne _ (by omega)]
      show (if _ then _ else _) = _
      rw [if_neg (by omega), a_ne _ (by omega), a_rd _ (by omega)]
    have n3 : ∀ b : Nat, b % 133 ≠ P ∧ b % 133 ≠ 8 + P → Mx' 3 b = Mx 3 b := fun b hb => by
      rw [ex]
      show (if _ then _ else _) = _
      rw [if_neg (by omega), a_ne _ (by omega)]
      show (if _ then _ else _) = _
      rw [if_neg (by omega), a_ne _ (by omega), a_ne _ (by omega), a_ne _ (by omega)]
    have y3 : ∀ b : Nat, b % 133 = P → b < 3990 → Mx' 3 b = a2 := fun b hb h2 => by
      rw [ex]
      show (if _ then _ else _) = _
      rw [if_neg (by omega), a_ne _ (by omega)]
      exact if_pos ⟨rfl, hb, by omega⟩
    have z3 : ∀ b : Nat, b % 133 = 8 + P → b < 3990 → Mx' 3 b = 0 := fun b hb h2 => by
      rw [ex]
      exact if_pos ⟨rfl, hb, by omega⟩
    have ne : ∀ b : Nat, b ≠ 34 + 4 * P ∧ b ≠ 34 + 4 * P + 1 ∧ b ≠ 34 + 4 * P + 2 ∧ b ≠ 34 + 4 * P + 3 ∧ b ≠ 0 → Mm' 1 b = Mm 1 b := fun b hb => by
      rw [em]; simp (disch := omega) only [a_ne]
    have t0 : Mm' 1 0 = ((P + 1 : Nat) : Int) := by rw [em, a_rd _ (by omega)]; omega
    have t1 : Mm' 1 (34 + 4 * P) = a2 := by rw [em]; simp (disch := omega) only [a_rd, a_ne]
    have t2 : Mm' 1 (34 + 4 * P + 1) = 0 := by rw [em]; simp (disch := omega) only [a_rd, a_ne]
    have t3 : Mm' 1 (34 + 4 * P + 2) = a1 := by rw [em]; simp (disch := omega) only [a_rd, a_ne]
    have t4 : Mm' 1 (34 + 4 * P + 3) = a2 := by rw [em]; simp (disch := omega) only [a_rd, a_ne]
    clear ex em
    have hst' : ∀ k : Nat, k < S → R_step (P + 1) E k (Mx' 3) (Mm' 1) := by
      intro k hk
      obtain ⟨pk, g1, g2, g3, g4⟩ := hst k hk
      have hE1 := hE.1
      refine ⟨pk, by omega, by rw [ne _ (by omega)]; exact g2, R_snap_cx (by omega) g3 (fun j a => n3 _ (by omega)) (fun j a => ne _ (by omega)) (fun q i a b => ne _ (by omega)) (fun i a => ne _ (by omega)), fun q a b => ?_⟩
      by_cases e : q = P
      · subst e
        exact ⟨by rw [y3 _ (by omega) (by omega), t4], z3 _ (by omega) (by omega)⟩
      · rw [n3 _ (by omega), n3 _ (by omega), ne _ (by omega)]
        exact g4 q a (by omega)
    have hpl' : ∀ q : Nat, q < P + 1 → 0 ≤ Mx' 6 q ∧ Mx' 6 q ≤ 9 ∧ Mm' 1 (34 + 4 * q + 2) = Mx' 6 q ∧ 0 ≤ Mm' 1 (34 + 4 * q + 3) ∧ Mm' 1 (34 + 4 * q + 3) ≤ 9 := by
      intro q hq
      by_cases e : q = P
      · subst e
        rw [x6, t3, t4]
        exact ⟨c1.1, c1.2, rfl, c2.1, c2.2⟩
      · rw [n6 _ e, ne _ (by omega), ne _ (by omega)]
        exact hpl q (by omega)
    refine Rel_wr hr0 (k := 1) (by omega) (fun a ha => cx a (by omega)) (nx 8 (by omega)) cm ?_
    rw [cx 4 (by omega), cx 5 (by omega), cx 7 (by omega), cx 8 (by omega), cx 9 (by omega), cx 10 (by omega), cx 11 (by omega)]
    exact ⟨P + 1, T, S, E, C, F, ⟨by omega, x1, t0⟩, ⟨hT.1, by rw [nx _ (by omega)]; exact hT.2.1, by rw [ne _ (by omega)]; exact hT.2.2⟩, ⟨by rw [nx _ (by omega)]; exact hU.1, by rw [nx _ (by omega)]; exact hU.2.1, by rw [ne _ (by omega), nx _ (by omega)]; exact hU.2.2⟩, ⟨hS.1, by rw [nx _ (by omega)]; exact hS.2.1, by rw [ne _ (by omega)]; exact hS.2.2⟩, ⟨hE.1, by rw [nx _ (by omega)]; exact hE.2⟩, ⟨hC.1, by rw [nx _ (by omega)]; exact hC.2.1, by rw [ne _ (by omega)]; exact hC.2.2⟩, ⟨hF.1, by rw [nx _ (by omega)]; exact hF.2.1, by rw [ne _ (by omega)]; exact hF.2.2⟩, R_snap_more c2 c3 hsn (fun j a b => n2 j b) x2 x3 (fun j a => ne _ (by omega)) (fun q i hq hi => ne _ (by omega)) t1 t2 (fun i hi => ne _ (by omega)), (fun i hi => by rw [ne _ (by omega)]; exact htd i hi), (fun t ht => by rw [ne _ (by omega)]; exact hkd t ht), hpl', (fun i hi => by rw [ne _ (by omega)]; exact hro i hi), (fun c hc => by rw [ne _ (by omega)]; exact hod c hc), hos, ⟨by rw [nx _ (by omega)]; exact hsv.1, by rw [nx _ (by omega)]; exact hsv.2.1, by rw [ne _ (by omega), nx _ (by omega)]; exact hsv.2.2⟩, (fun i hi => by rw [ne _ (by omega)]; exact hlk i hi), (fun i hi => by rw [ne _ (by omega), ne _ (by omega)]; have := hfe i hi; omega), hst'⟩
