/-! scene, person, feed -/
theorem loop_F {α S : Type} (L : Nat → Int → S → Option α) (N : Nat) (F : Nat → S) (r : Option α) (hend : ∀ f, L (f + 1) (N : Int) (F N) = r) (hstep : ∀ i f, i < N → L (f + 1) (i : Int) (F i) = L f ((i + 1 : Nat) : Int) (F (i + 1))) : ∀ n i f, i + n = N → n < f → L f (i : Int) (F i) = r := by
  intro n
  induction n with
  | zero =>
    intro i f h1 h2
    obtain ⟨g, rfl⟩ : ∃ g, f = g + 1 := ⟨f - 1, by omega⟩
    rw [show i = N by omega]
    exact hend g
  | succ n ih =>
    intro i f h1 h2
    obtain ⟨g, rfl⟩ : ∃ g, f = g + 1 := ⟨f - 1, by omega⟩
    rw [hstep i g (by omega)]
    exact ih (i + 1) g (by omega) (by omega)
theorem p_tellNow (M : g_M) (p : Nat) (v : Int) (hp : p < 133) : m_X1_tellNow p v M = some (fun a b => if a = 3 ∧ b % 133 = p ∧ b / 133 < 30 then v else g_wr M 2 p v a b) := by
  unfold m_X1_tellNow
  simp (disch := omega) only [a_gd, gs_id, g_nm, Int.toNat_natCast]
  generalize g_wr M 2 p v = M
  have h := loop_F (m_X1_tellNow_L9 p v) 30 (fun i a b => if a = 3 ∧ b % 133 = p ∧ b / 133 < i then v else M a b) (some (fun a b => if a = 3 ∧ b % 133 = p ∧ b / 133 < 30 then v else M a b)) ?_ ?_ 30 0 g_fuel (by omega) (by unfold g_fuel; omega)
  · rw [show ((0 : Nat) : Int) = 0 from rfl] at h
    rw [← h]
    apply congrArg
    funext a b
    rw [if_neg (by omega)]
  · intro f
    rw [m_X1_tellNow_L9]
    exact if_pos (by rw [show ((30 : Nat) : Int) = 30 from rfl]; omega)
  · intro i f hi
    rw [m_X1_tellNow_L9]
    simp (disch := omega) only [↓reduceIte, ta_nle, gs_id, a_gd, g_nm]
    rw [show ((i : Int) + 1) = ((i + 1 : Nat) : Int) by omega, show ((i : Int) * 133 + (p : Int)).toNat = i * 133 + p by omega]
    apply congrArg
    funext a b
    unfold g_wr
    show (if _ then _ else if _ then _ else _) = if _ then _ else _
    by_cases c : a = 3 ∧ b = i * 133 + p
    · rw [if_pos c, if_pos (by omega)]
    · rw [if_neg c]
      by_cases d : a = 3 ∧ b % 133 = p ∧ b / 133 < i
      · rw [if_pos d, if_pos (by omega)]
      · rw [if_neg d, if_neg (by omega)]
theorem p_sceneL (M : g_M) (s S : Nat) (v : Int) (hs : s < 12) (hS : S ≤ 30) (h3 : M 1 3 = S) : m_X9_scene_L58 s v g_fuel 0 M = some (1, fun a b => if a = 1 ∧ 216 + s ≤ b ∧ (b - (216 + s)) % 105 = 0 ∧ (b - (216 + s)) / 105 < S then v else M a b) := by
  obtain ⟨F, hF⟩ : ∃ F : Nat → g_M, F = fun i a b => if a = 1 ∧ 216 + s ≤ b ∧ (b - (216 + s)) % 105 = 0 ∧ (b - (216 + s)) / 105 < i then v else M a b := ⟨_, rfl⟩
  have e3 : ∀ i, F i 1 3 = S := fun i => by rw [hF]; exact (if_neg (by omega)).trans h3
  have h := loop_F (m_X9_scene_L58 s v) S F (some (1, F S)) ?_ ?_ S 0 g_fuel (by omega) (by unfold g_fuel; omega)
  · rw [show ((0 : Nat) : Int) = 0 from rfl] at h
    have e0 : F 0 = M := by
      funext a b
      rw [hF]
      exact if_neg (by omega)
    rw [e0] at h
    rw [h, hF]
  · intro f
    rw [m_X9_scene_L58]
    simp (disch := omega) only [a_gd, gs_id, show Int.toNat 3 = 3 from rfl, e3, ↓reduceIte, ta_le]
  · intro i f hi
    rw [m_X9_scene_L58]
    simp (disch := omega) only [a_gd, gs_id, show Int.toNat 3 = 3 from rfl, g_nm, e3, ↓reduceIte, ta_nle]
    rw [show ((i : Int) + 1) = ((i + 1 : Nat) : Int) by omega, show (199 + 105 * (i : Int) + 1 + 22 - 6 + (s : Int)).toNat = 216 + s + 105 * i by omega]
    apply congrArg
    funext a b
    unfold g_wr
    rw [hF]
    show (if _ then _ else if _ then _ else _) = if _ then _ else _
    by_cases c : a = 1 ∧ b = 216 + s + 105 * i
    · rw [if_pos c, if_pos (by omega)]
    · rw [if_neg c]
      by_cases d : a = 1 ∧ 216 + s ≤ b ∧ (b - (216 + s)) % 105 = 0 ∧ (b - (216 + s)) / 105 < i
      · rw [if_pos d, if_pos (by omega)]
      · rw [if_neg d, if_neg (by omega)]
theorem R_book_cg {D : Nat} {nw nw' bk bk' : Nat → Int} (H : R_book D nw bk) (e0 : ∀ j, 43 ≤ j → j < 133 → nw' j = nw j) (e3 : ∀ i, i < 60 → bk' i = bk i) : R_book D nw' bk' := by
  intro i hi
  rw [e3 (2 * i) (by omega), e3 (2 * i + 1) (by omega), e0 (43 + _) (by omega) (by omega), e0 (73 + _) (by omega) (by omega), e0 (103 + _) (by omega) (by omega)]
  exact H i hi
/-- the snap, where the class's row agrees on what is spoken of -/
theorem R_snap_cx {P : Nat} {nw nw' h h' : Nat → Int} {pr pr' : Nat → Nat → Int} {bk bk' : Nat → Int} (hP : P ≤ 8) (H : R_snap P nw h pr bk) (e0 : ∀ j, (j < P ∨ (8 ≤ j ∧ j < 8 + P) ∨ (16 ≤ j ∧ j < 133)) → nw' j = nw j) (e1 : ∀ j, j < 28 → h' j = h j) (e2 : ∀ q i, q < P → i < 2 → pr' q i = pr q i) (e3 : ∀ i, i < 60 → bk' i = bk i) : R_snap P nw' h' pr' bk' := by
  obtain ⟨D, d1, d2, d3, ⟨d4, d5, d6⟩, ⟨d7, d8, d9⟩, d10, d11, d12, d13, d14⟩ := H
  refine ⟨D, d1, by rw [e0 41 (by omega)]; exact d2, by rw [e1 0 (by omega)]; exact d3, by rw [e1 1 (by omega), e0 42 (by omega)]; exact ⟨d4, d5, d6⟩, by rw [e1 2 (by omega), e0 40 (by omega)]; exact ⟨d7, d8, d9⟩, by rw [e1 3 (by omega)]; exact d10, fun s hs => ?_, fun s hs => ?_, fun q hq => ?_, R_book_cg d14 (fun j a b => e0 j (by omega)) e3⟩
  · rw [e1 (4 + s) (by omega), e0 (28 + s) (by omega)]; exact d11 s hs
  · rw [e1 (16 + s) (by omega), e0 (16 + s) (by omega)]; exact d12 s hs
  · rw [e2 q 0 hq (by omega), e2 q 1 hq (by omega), e0 q (by omega), e0 (8 + q) (by omega)]; exact d13 q hq
/-- another lead of one scene -/
theorem R_snap_lead {P s : Nat} {v : Int} {nw nw' h h' : Nat → Int} {pr pr' : Nat → Nat → Int} {bk bk' : Nat → Int} (hs : s < 12) (hv : 0 ≤ v ∧ v ≤ 12) (hP : P ≤ 8) (H : R_snap P nw h pr bk) (e0 : ∀ j, j < 133 → j ≠ 16 + s → nw' j = nw j) (f0 : nw' (16 + s) = v) (e1 : ∀ j, j < 28 → j ≠ 16 + s → h' j = h j) (f1 : h' (16 + s) = v) (e2 : ∀ q i, q < P → i < 2 → pr' q i = pr q i) (e3 : ∀ i, i < 60 → bk' i = bk i) : R_snap P nw' h' pr' bk' := by
  obtain ⟨D, d1, d2, d3, ⟨d4, d5, d6⟩, ⟨d7, d8, d9⟩, d10, d11, d12, d13, d14⟩ := H
  refine ⟨D, d1, by rw [e0 41 (by omega) (by omega)]; exact d2, by rw [e1 0 (by omega) (by omega)]; exact d3, by rw [e1 1 (by omega) (by omega), e0 42 (by omega) (by omega)]; exact ⟨d4, d5, d6⟩, by rw [e1 2 (by omega) (by omega), e0 40 (by omega) (by omega)]; exact ⟨d7, d8, d9⟩, by rw [e1 3 (by omega) (by omega)]; exact d10, fun t ht => ?_, fun t ht => ?_, fun q hq => ?_, R_book_cg d14 (fun j a b => e0 j (by omega) (by omega)) e3⟩
  · rw [e1 (4 + t) (by omega) (by omega), e0 (28 + t) (by omega) (by omega)]; exact d11 t ht
  · by_cases e : t = s
    · subst e
      rw [f0, f1]
      exact ⟨hv.1, hv.2, rfl⟩
    · rw [e1 (16 + t) (by omega) (by omega), e0 (16 + t) (by omega) (by omega)]; exact d12 t ht
  · rw [e2 q 0 hq (by omega), e2 q 1 hq (by omega), e0 q (by omega) (by omega), e0 (8 + q) (by omega) (by omega)]; exact d13 q hq

theorem st_0 : x_step_0 Rel := by
  intro n Mx Mm hr hn a1 a2 a3 h1 h2 h3
  have hr0 := hr
  obtain ⟨⟨P, T, S, E, C, F, hP, hT, hU, hS, hE, hC, hF, hsn, htd, hkd, hpl, hro, hod, hos, hsv, hlk, hfe, hst⟩, -⟩ := hr
  have hP1 := hP.1
  have hP2 := hP.2.1
  have hP3 := hP.2.2
  have hS1 := hS.1
  have hS2 := hS.2.1
  have hS3 := hS.2.2
  have hC1 := hC.1
  have hC2 := hC.2.1
  have hC3 := hC.2.2
  have hF1 := hF.1
  have hF2 := hF.2.1
  have hF3 := hF.2.2
  have i1 := h1.1
  have j1 := h1.2
  have i2 := h2.1
  have j2 := h2.2
  have i3 := h3.1
  have j3 := h3.2
  by_cases c1 : 0 ≤ a1 ∧ a1 ≤ 11
  rotate_left
  · refine ⟨0, 0, Mx, Mm, ?_, ?_, rfl, st_same hr0⟩
    · simp (disch := omega) only [↓reduceIte, ↓g_nm, ↓g_jn, ↓c_within, ↓c_isIn, ↓c_isScene, ↓c_isPlace, ↓c_isCue, ↓c_isDigit, ↓d_isScene, ↓d_isAny, ↓ta_pb1, ↓ta_pb0, ↓ta_pb1', ↓ta_pb0', ta_lt, ta_nlt, ta_le, ta_nle, ta_eq, ta_neq, ta_nne, ta_ne, gs_id, a_gd01, a_gdT, or_true, true_or, Option.bind_some, bW_some, a_gd, a_ne, a_rd, Int.toNat_natCast, m_X8_scene]
    · simp (disch := omega) only [↓reduceIte, ↓g_nm, ↓g_jn, ↓c_within, ↓c_isIn, ↓c_isScene, ↓c_isPlace, ↓c_isCue, ↓c_isDigit, ↓d_isScene, ↓d_isAny, ↓ta_pb1, ↓ta_pb0, ↓ta_pb1', ↓ta_pb0', ta_lt, ta_nlt, ta_le, ta_nle, ta_eq, ta_neq, ta_nne, ta_ne, gs_id, a_gd01, a_gdT, or_true, true_or, Option.bind_some, bW_some, a_gd, a_ne, a_rd, Int.toNat_natCast, m_X9_scene]
  by_cases c2 : 0 ≤ a2 ∧ a2 ≤ 3
  rotate_left
  · refine ⟨0, 0, Mx, Mm, ?_, ?_, rfl, st_same hr0⟩
    · simp (disch := omega) only [↓reduceIte, ↓g_nm, ↓g_jn, ↓c_within, ↓c_isIn, ↓c_isScene, ↓c_isPlace, ↓c_isCue, ↓c_isDigit, ↓d_isScene, ↓d_isAny, ↓ta_pb1, ↓ta_pb0, ↓ta_pb1', ↓ta_pb0', ta_lt, ta_nlt, ta_le, ta_nle, ta_eq, ta_neq, ta_nne, ta_ne, gs_id, a_gd01, a_gdT, or_true, true_or, Option.bind_some, bW_some, a_gd, a_ne, a_rd, Int.toNat_natCast, m_X8_scene]
    · simp (disch := omega) only [↓reduceIte, ↓g_nm, ↓g_jn, ↓c_within, ↓c_isIn, ↓c_isScene, ↓c_isPlace, ↓c_isCue, ↓c_isDigit, ↓d_isScene, ↓d_isAny, ↓ta_pb1, ↓ta_pb0, ↓ta_pb1', ↓ta_pb0', ta_lt, ta_nlt, ta_le, ta_nle, ta_eq, ta_neq, ta_nne, ta_ne, gs_id, a_gd01, a_gdT, or_true, true_or, Option.bind_some, bW_some, a_gd, a_ne, a_rd, Int.toNat_natCast, m_X9_scene]
  by_cases c3 : 0 ≤ a3 ∧ a3 ≤ 12
  rotate_left
  · refine ⟨0, 0, Mx, Mm, ?_, ?_, rfl, st_same hr0⟩
    · simp (disch := omega) only [↓reduceIte, ↓g_nm, ↓g_jn, ↓c_within, ↓c_isIn, ↓c_isScene, ↓c_isPlace, ↓c_isCue, ↓c_isDigit, ↓d_isScene, ↓d_isAny, ↓ta_pb1, ↓ta_pb0, ↓ta_pb1', ↓ta_pb0', ta_lt, ta_nlt, ta_le, ta_nle, ta_eq, ta_neq, ta_nne, ta_ne, gs_id, a_gd01, a_gdT, or_true, true_or, Option.bind_some, bW_some, a_gd, a_ne, a_rd, Int.toNat_natCast, m_X8_scene]
    · simp (disch := omega) only [↓reduceIte, ↓g_nm, ↓g_jn, ↓c_within, ↓c_isIn, ↓c_isScene, ↓c_isPlace, ↓c_isCue, ↓c_isDigit, ↓d_isScene, ↓d_isAny, ↓ta_pb1, ↓ta_pb0, ↓ta_pb1', ↓ta_pb0', ta_lt, ta_nlt, ta_le, ta_nle, ta_eq, ta_neq, ta_nne, ta_ne, gs_id, a_gd01, a_gdT, or_true, true_or, Option.bind_some, bW_some, a_gd, a_ne, a_rd, Int.toNat_natCast, m_X9_scene]
  obtain ⟨s, rfl⟩ : ∃ s : Nat, a1 = s := ⟨a1.toNat, by omega⟩
  obtain ⟨c, rfl⟩ : ∃ c : Nat, a2 = c := ⟨a2.toNat, by omega⟩
  have htd' : ∀ Mx' Mm' : g_M, (∀ b, b ≠ s * 4 + c → Mx' 4 b = Mx 4 b) → Mx' 4 (s * 4 + c) = a3 → (∀ i, i < 48 → i ≠ s * 4 + c → Mm' 1 (66 + i) = Mm 1 (66 + i)) → Mm' 1 (66 + (s * 4 + c)) = a3 → ∀ i : Nat, i < 48 → 0 ≤ Mx' 4 i ∧ Mx' 4 i ≤ 12 ∧ Mm' 1 (66 + i) = Mx' 4 i := by
    intro Mx' Mm' f1 f2 f3 f4 i hi
    by_cases e : i = s * 4 + c
    · rw [e, f2, f4]
      exact ⟨c3.1, c3.2, rfl⟩
    · rw [f1 i e, f3 i hi e]
      exact htd i hi
  by_cases z : c = 0
  rotate_left
  · refine ⟨1, 1, g_wr Mx 4 (s * 4 + c) (a3), g_wr Mm 1 (66 + (s * 4 + c)) (a3), ?_, ?_, rfl, ?_⟩
    · simp (disch := omega) only [↓reduceIte, ↓g_nm, ↓g_jn, ↓c_within, ↓c_isIn, ↓c_isScene, ↓c_isPlace, ↓c_isCue, ↓c_isDigit, ↓d_isScene, ↓d_isAny, ↓ta_pb1, ↓ta_pb0, ↓ta_pb1', ↓ta_pb0', ta_lt, ta_nlt, ta_le, ta_nle, ta_eq, ta_neq, ta_nne, ta_ne, gs_id, a_gd01, a_gdT, or_true, true_or, Option.bind_some, bW_some, a_gd, a_ne, a_rd, Int.toNat_natCast, m_X8_scene, m_X1_tellNext, show ((s : Int) * 4 + (c : Int)).toNat = s * 4 + c by omega]
    · simp (disch := omega) only [↓reduceIte, ↓g_nm, ↓g_jn, ↓c_within, ↓c_isIn, ↓c_isScene, ↓c_isPlace, ↓c_isCue, ↓c_isDigit, ↓d_isScene, ↓d_isAny, ↓ta_pb1, ↓ta_pb0, ↓ta_pb1', ↓ta_pb0', ta_lt, ta_nlt, ta_le, ta_nle, ta_eq, ta_neq, ta_nne, ta_ne, gs_id, a_gd01, a_gdT, or_true, true_or, Option.bind_some, bW_some, a_gd, a_ne, a_rd, Int.toNat_natCast, m_X9_scene, show (66 + 4 * (s : Int) + (c : Int)).toNat = 66 + (s * 4 + c) by omega]
    · skip
      obtain ⟨Mx', ex⟩ : ∃ M, M = g_wr Mx 4 (s * 4 + c) (a3) := ⟨_, rfl⟩
      obtain ⟨Mm', em⟩ : ∃ M, M = g_wr Mm 1 (66 + (s * 4 + c)) (a3) := ⟨_, rfl⟩
      rw [← ex, ← em]
      have cx : ∀ a : Nat, a ≠ 4 → Mx' a = Mx a := fun a ha => by rw [ex]; simp (disch := omega) only [a_cell]
      have cm : ∀ a : Nat, a ≠ 1 → Mm' a = Mm a := fun a ha => by rw [em]; simp (disch := omega) only [a_cell]
      have ne : ∀ b : Nat, b ≠ 66 + (s * 4 + c) → Mm' 1 b = Mm 1 b := fun b hb => by rw [em]; simp (disch := omega) only [a_ne]
      have at0 : Mm' 1 (66 + (s * 4 + c)) = a3 := by rw [em]; simp (disch := omega) only [a_rd, a_ne]
      have n4 : ∀ b : Nat, b ≠ s * 4 + c → Mx' 4 b = Mx 4 b := fun b hb => by rw [ex]; simp (disch := omega) only [a_ne]
      have xt0 : Mx' 4 (s * 4 + c) = a3 := by rw [ex]; simp (disch := omega) only [a_rd, a_ne]
      clear ex em
      refine Rel_wr hr0 (k := 1) (by omega) (fun a ha => cx a (by omega)) (by rw [cx 1 (by omega)]) cm ?_
      rw [cx 1 (by omega), cx 2 (by omega), cx 3 (by omega), cx 5 (by omega), cx 6 (by omega), cx 7 (by omega), cx 8 (by omega), cx 9 (by omega), cx 10 (by omega), cx 11 (by omega)]
      exact ⟨P, T, S, E, C, F, ⟨hP.1, hP.2.1, by rw [ne _ (by omega)]; exact hP.2.2⟩, ⟨hT.1, hT.2.1, by rw [ne _ (by omega)]; exact hT.2.2⟩, ⟨hU.1, hU.2.1, by rw [ne _ (by omega)]; exact hU.2.2⟩, ⟨hS.1, hS.2.1, by rw [ne _ (by omega)]; exact hS.2.2⟩, ⟨hE.1, hE.2⟩, ⟨hC.1, hC.2.1, by rw [ne _ (by omega)]; exact hC.2.2⟩, ⟨hF.1, hF.2.1, by rw [ne _ (by omega)]; exact hF.2.2⟩, R_snap_cg hsn (fun j hj => ne _ (by omega)) (fun q i hq hi => ne _ (by omega)) (fun i hi => ne _ (by omega)), htd' Mx' Mm' n4 xt0 (fun i hi hj => ne _ (by omega)) at0, (fun t ht => by rw [ne _ (by omega)]; exact hkd t ht), (fun q hq => by rw [ne _ (by omega), ne _ (by omega)]; exact hpl q hq), (fun i hi => by rw [ne _ (by omega)]; exact hro i hi), (fun c hc => by rw [ne _ (by omega)]; exact hod c hc), hos, ⟨hsv.1, hsv.2.1, by rw [ne _ (by omega)]; exact hsv.2.2⟩, (fun i hi => by rw [ne _ (by omega)]; exact hlk i hi), (fun i hi => by rw [ne _ (by omega), ne _ (by omega)]; exact hfe i hi), (fun k hk => R_step_cg (by omega) hP.1 (hst k hk) (fun j a b => ne _ (by omega)) (fun q hq => ne _ (by omega)))⟩
  · subst z
    obtain ⟨Mx', ex⟩ : ∃ M, M = (fun a b => if a = 3 ∧ b % 133 = 16 + s ∧ b / 133 < 30 then a3 else g_wr (g_wr Mx 4 (s * 4) a3) 2 (16 + s) a3 a b) := ⟨_, rfl⟩
    obtain ⟨Mm', em⟩ : ∃ M, M = (fun a b => if a = 1 ∧ 216 + s ≤ b ∧ (b - (216 + s)) % 105 = 0 ∧ (b - (216 + s)) / 105 < S then a3 else g_wr (g_wr Mm 1 (66 + s * 4) a3) 1 (22 + s) a3 a b) := ⟨_, rfl⟩
    refine ⟨1, 1, Mx', Mm', ?_, ?_, rfl, ?_⟩
    · have h := p_tellNow (g_wr Mx 4 (s * 4) a3) (16 + s) a3 (by omega)
      rw [← ex] at h
      simp (disch := omega) only [↓reduceIte, ↓g_nm, ↓g_jn, ↓c_within, ↓c_isIn, ↓c_isScene, ↓c_isPlace, ↓c_isCue, ↓c_isDigit, ↓d_isScene, ↓d_isAny, ↓ta_pb1, ↓ta_pb0, ↓ta_pb1', ↓ta_pb0', ta_lt, ta_nlt, ta_le, ta_nle, ta_eq, ta_neq, ta_nne, ta_ne, gs_id, a_gd01, a_gdT, or_true, true_or, Option.bind_some, bW_some, a_gd, a_ne, a_rd, Int.toNat_natCast, m_X8_scene, m_X1_tellNext, show (((0 : Nat) : Int)) = 0 from rfl, Int.add_zero, show ((s : Int) * 4).toNat = s * 4 by omega, show (16 : Int) + (s : Int) = ((16 + s : Nat) : Int) by omega, h]
    · have h := p_sceneL (g_wr (g_wr Mm 1 (66 + s * 4) a3) 1 (22 + s) a3) s S a3 (by omega) hS1 (by rw [a_ne _ (by omega), a_ne _ (by omega)]; exact hS3)
      rw [← em] at h
      simp (disch := omega) only [↓reduceIte, ↓g_nm, ↓g_jn, ↓c_within, ↓c_isIn, ↓c_isScene, ↓c_isPlace, ↓c_isCue, ↓c_isDigit, ↓d_isScene, ↓d_isAny, ↓ta_pb1, ↓ta_pb0, ↓ta_pb1', ↓ta_pb0', ta_lt, ta_nlt, ta_le, ta_nle, ta_eq, ta_neq, ta_nne, ta_ne, gs_id, a_gd01, a_gdT, or_true, true_or, Option.bind_some, bW_some, a_gd, a_ne, a_rd, Int.toNat_natCast, m_X9_scene, show (((0 : Nat) : Int)) = 0 from rfl, Int.add_zero, show (66 + 4 * (s : Int)).toNat = 66 + s * 4 by omega, show (22 + (s : Int)).toNat = 22 + s by omega, h]
    · have cx : ∀ a : Nat, a ≠ 2 ∧ a ≠ 3 ∧ a ≠ 4 → Mx' a = Mx a := fun a ha => by
        funext b
        rw [ex]
        show (if _ then _ else _) = _
        rw [if_neg (by omega), a_cell _ (by omega), a_cell _ (by omega)]
      have cm : ∀ a : Nat, a ≠ 1 → Mm' a = Mm a := fun a ha => by
        funext b
        rw [em]
        show (if _ then _ else _) = _
        rw [if_neg (by omega), a_cell _ (by omega), a_cell _ (by omega)]
      have n4 : ∀ b : Nat, b ≠ s * 4 → Mx' 4 b = Mx 4 b := fun b hb => by
        rw [ex]
        show (if _ then _ else _) = _
        rw [if_neg (by omega), a_ne _ (by omega), a_ne _ (by omega)]
      have x4 : Mx' 4 (s * 4) = a3 := by
        rw [ex]
        show (if _ then _ else _) = _
        rw [if_neg (by omega), a_ne _ (by omega), a_rd _ (by omega)]
      have n2 : ∀ b : Nat, b ≠ 16 + s → Mx' 2 b = Mx 2 b := fun b hb => by
        rw [ex]
        show (if _ then _ else _) = _
        rw [if_neg (by omega), a_ne _ (by omega), a_ne _ (by omega)]
      have x2 : Mx' 2 (16 + s) = a3 := by
        rw [ex]
        show (if _ then _ else _) = _
        rw [if_neg (by omega), a_rd _ (by omega)]
      have n3 : ∀ b : Nat, b % 133 ≠ 16 + s → Mx' 3 b = Mx 3 b := fun b hb => by
        rw [ex]
        show (if _ then _ else _) = _
        rw [if_neg (by omega), a_ne _ (by omega), a_ne _ (by omega)]
      have x3 : ∀ b : Nat, b % 133 = 16 + s → b < 3990 → Mx' 3 b = a3 := fun b hb h2 => by
        rw [ex]
        exact if_pos ⟨rfl, hb, by omega⟩
      have no : ∀ b : Nat, b ≠ 66 + s * 4 ∧ b ≠ 22 + s → (∀ k, k < S → b ≠ 216 + s + 105 * k) → Mm' 1 b = Mm 1 b := fun b hb h2 => by
        rw [em]
        show (if _ then _ else _) = _
        rw [if_neg (fun z => h2 _ z.2.2.2 (by omega)), a_ne _ (by omega), a_ne _ (by omega)]
      have ne : ∀ b : Nat, b ≠ 66 + s * 4 ∧ b ≠ 22 + s ∧ (b < 199 ∨ 3349 ≤ b) → Mm' 1 b = Mm 1 b := fun b hb => no b ⟨hb.1, hb.2.1⟩ (fun k hk => by omega)
      have y1 : Mm' 1 (66 + s * 4) = a3 := by
        rw [em]
        show (if _ then _ else _) = _
        rw [if_neg (by omega), a_ne _ (by omega), a_rd _ (by omega)]
      have y2 : Mm' 1 (22 + s) = a3 := by
        rw [em]
        show (if _ then _ else _) = _
        rw [if_neg (by omega), a_rd _ (by omega)]
      have y3 : ∀ k : Nat, k < S → Mm' 1 (216 + s + 105 * k) = a3 := fun k hk => by
        rw [em]
        exact if_pos ⟨rfl, by omega, by omega, by omega⟩
      clear ex em
      have hst' : ∀ k : Nat, k < S → R_step P E k (Mx' 3) (Mm' 1) := by
        intro k hk
        obtain ⟨pk, g1, g2, g3, g4⟩ := hst k hk
        have hE1 := hE.1
        have hk30 : k < 30 := by omega
        refine ⟨pk, g1, by rw [no _ (by omega) (fun k' hk' z => by rcases Nat.lt_trichotomy k' k with h | h | h <;> omega)]; exact g2, R_snap_lead (s := s) (v := a3) (by omega) c3 (by omega) g3 (fun j a b => n3 _ (by omega)) (x3 _ (by omega) (by omega)) (fun j a b => no _ (by omega) (fun k' hk' z => by rcases Nat.lt_trichotomy k' k with h | h | h <;> omega)) ?_ (fun q i a b => no _ (by omega) (fun k' hk' z => by rcases Nat.lt_trichotomy k' k with h | h | h <;> omega)) (fun i a => no _ (by omega) (fun k' hk' z => by rcases Nat.lt_trichotomy k' k with h | h | h <;> omega)), fun q a b => ?_⟩
        · show Mm' 1 (199 + 105 * k + 1 + (16 + s)) = a3
          rw [show 199 + 105 * k + 1 + (16 + s) = 216 + s + 105 * k by omega]
          exact y3 k hk
        · rw [n3 _ (by omega), n3 _ (by omega), ne _ (by omega)]
          exact g4 q a b
      refine Rel_wr hr0 (k := 1) (by omega) (fun a ha => cx a (by omega)) (by rw [cx 1 (by omega)]) cm ?_
      rw [cx 1 (by omega), cx 5 (by omega), cx 6 (by omega), cx 7 (by omega), cx 8 (by omega), cx 9 (by omega), cx 10 (by omega), cx 11 (by omega)]
      exact ⟨P, T, S, E, C, F, ⟨hP.1, hP.2.1, by rw [ne _ (by omega)]; exact hP.2.2⟩, ⟨hT.1, hT.2.1, by rw [ne _ (by omega)]; exact hT.2.2⟩, ⟨hU.1, hU.2.1, by rw [ne _ (by omega)]; exact hU.2.2⟩, ⟨hS.1, hS.2.1, by rw [ne _ (by omega)]; exact hS.2.2⟩, ⟨hE.1, hE.2⟩, ⟨hC.1, hC.2.1, by rw [ne _ (by omega)]; exact hC.2.2⟩, ⟨hF.1, hF.2.1, by rw [ne _ (by omega)]; exact hF.2.2⟩, R_snap_lead (s := s) (v := a3) (by omega) c3 hP1 hsn (fun j a b => n2 j b) x2 (fun j a b => ne _ (by omega)) (by show Mm' 1 (6 + (16 + s)) = a3; rw [show 6 + (16 + s) = 22 + s by omega]; exact y2) (fun q i hq hi => ne _ (by omega)) (fun i hi => ne _ (by omega)), htd' Mx' Mm' n4 x4 (fun i hi hj => ne _ (by omega)) y1, (fun t ht => by rw [ne _ (by omega)]; exact hkd t ht), (fun q hq => by rw [ne _ (by omega), ne _ (by omega)]; exact hpl q hq), (fun i hi => by rw [ne _ (by omega)]; exact hro i hi), (fun c hc => by rw [ne _ (by omega)]; exact hod c hc), hos, ⟨hsv.1, hsv.2.1, by rw [ne _ (by omega)]; exact hsv.2.2⟩, (fun i hi => by rw [ne _ (by omega)]; exact hlk i hi), (fun i hi => by rw [ne _ (by omega), ne _ (by omega)]; exact hfe i hi), hst'⟩
