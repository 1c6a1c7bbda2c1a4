theorem k_arrq {D : va_G} {cl : List vw_C} {q n : Nat} {cB : ClassId} {f g : Nat → Option Nat} {H : Heap} (h : ∀ j, j < n → f j = g j) (ha : va_at D cl (q, .inl (cB, n, .inr (.inr (.inr (.inr f))))) H) : va_at D cl (q, .inl (cB, n, .inr (.inr (.inr (.inr g))))) H := by
  have e : vp_cell cB (n, .inr (.inr (.inr (.inr f)))) = vp_cell cB (n, .inr (.inr (.inr (.inr g)))) := by
    rw [vp_cell_q, vp_cell_q]
    unfold arrV
    congr 2
    funext j
    show va_rf (f j) = va_rf (g j)
    rw [h j.val j.isLt]
  show H[q]? = some (vp_cell cB _)
  rw [← e]
  exact ha
theorem g_P_of {G : g_G} {V : g_V} {M : g_M} {H : Heap} (h : ∀ k, k < G.2.2.1 → va_at V.1 G.1 (V.2.2 k, g_cell V M k (G.2.1 k)) H) : va_P V.1 G.1 (g_W G V M) H := by
  intro k q hq
  have hl : k < G.2.2.1 := by
    have := (List.getElem?_eq_some_iff.mp hq).1
    simpa [g_W] using this
  rw [g_W_get hl rfl] at hq
  cases hq
  exact h k hl
theorem g_D_of {G : g_G} {V : g_V} {M : g_M} {A : Nat → Prop} {ws : va_W} (hD : va_D A ws) (h : ws.map Prod.fst = (List.range G.2.2.1).map V.2.2) : va_D A (g_W G V M) := by
  have key : ∀ (k : Nat) (q : Nat × va_E), (g_W G V M)[k]? = some q → ∃ q0, ws[k]? = some q0 ∧ q0.1 = q.1 := by
    intro k q hq
    have hl : k < G.2.2.1 := by
      have := (List.getElem?_eq_some_iff.mp hq).1
      simpa [g_W] using this
    rw [g_W_get hl rfl] at hq
    cases hq
    have e : (ws.map Prod.fst)[k]? = some (V.2.2 k) := by rw [h, List.getElem?_map, List.getElem?_range hl]; rfl
    rw [List.getElem?_map] at e
    cases hw : ws[k]? with
    | none => rw [hw] at e; cases e
    | some q0 => rw [hw] at e; exact ⟨q0, rfl, Option.some.inj e⟩
  refine ⟨fun i j x y hi hj hxy => ?_, fun k q hk => ?_⟩
  · obtain ⟨x0, h1, h2⟩ := key i x hi
    obtain ⟨y0, h3, h4⟩ := key j y hj
    exact hD.1 i j x0 y0 h1 h3 (h2.trans (hxy.trans h4.symm))
  · obtain ⟨q0, h1, h2⟩ := key k q hk
    rw [← h2]
    exact hD.2 k q0 h1
set_option maxRecDepth 100000 in
set_option maxHeartbeats 40000000 in
theorem x_W1 (D : va_G) (cA : Nat → ClassId) (h0 q1 q2 q3 q4 q5 q6 q7 q8 q9 q10 q11 q12 q13 q14 q15 q16 q17 q18 q19 q20 q21 q22 q23 q30 q24 q25 q26 q27 q28 q29 q31 q32 q39 q40 q33 q34 q35 q36 q37 q38 q41 q42 q43 q44 q45 q46 q47 q48 q49 q50 q51 q52 q53 q54 q55 q56 q57 q58 q59 q60 q61 q62 q63 q64 q65 q66 q67 q68 q69 q70 q71 q72 q73 q74 q75 q76 q77 q78 q79 q80 q81 : Nat) {H : Heap} {A : Nat → Prop} (hP : va_P D xG.1 [(h0, .inr (8, [.ref q1, .ref q12, .ref q23, .ref q31, .ref q65, .ref q67, .ref q76, .ref q77])), (q1, .inr (1, [.ref q2, .ref q3, .int 0, .int 0, .ref q4, .ref q5, .ref q6, .int 0, .int 0, .int (-1), .ref q7, .int 0, .ref q8, .int 4095, .ref q9, .ref q10, .ref q11, .int 0])), (q2, .inl (cA 0, 133, .inl (upd (upd (upd (upd (upd (upd (upd (upd (upd (upd (upd (upd (upd (fun _ => 0) 42 199) 16 1) 17 2) 18 3) 19 4) 20 5) 21 6) 22 7) 23 8) 24 9) 25 10) 26 11) 27 12))), (q3, .inl (cA 0, 3990, .inl (fun _ => 0))), (q4, .inl (cA 0, 48, .inl (upd (upd (upd (upd (upd (upd (upd (upd (upd (upd (upd (upd (upd (upd (upd (upd (upd (upd (upd (upd (upd (upd (upd (upd (upd (upd (upd (upd (upd (upd (upd (upd (upd (upd (upd (upd (upd (upd (upd (upd (upd (upd (upd (upd (upd (upd (upd (upd (fun _ => 0) 0 1) 1 1) 2 1) 3 1) 4 2) 5 2) 6 2) 7 2) 8 3) 9 3) 10 3) 11 3) 12 4) 13 4) 14 4) 15 4) 16 5) 17 5) 18 5) 19 5) 20 6) 21 6) 22 6) 23 6) 24 7) 25 7) 26 7) 27 7) 28 8) 29 8) 30 8) 31 8) 32 9) 33 9) 34 9) 35 9) 36 10) 37 10) 38 10) 39 10) 40 11) 41 11) 42 11) 43 11) 44 12) 45 12) 46 12) 47 12))), (q5, .inl (cA 0, 12, .inl (fun _ => 0))), (q6, .inl (cA 0, 8, .inl (fun _ => 0))), (q7, .inl (cA 0, 12, .inl (fun _ => 0))), (q8, .inl (cA 0, 4, .inl (upd (upd (upd (upd (fun _ => 0) 0 7) 1 1) 2 1) 3 1))), (q9, .inl (cA 0, 40, .inl (fun _ => 0))), (q10, .inl (cA 0, 8, .inl (fun _ => 0))), (q11, .inl (cA 0, 8, .inl (fun _ => 0))), (q12, .inr (1, [.ref q13, .ref q14, .int 0, .int 0, .ref q15, .ref q16, .ref q17, .int 0, .int 0, .int (-1), .ref q18, .int 0, .ref q19, .int 4095, .ref q20, .ref q21, .ref q22, .int 0])), (q13, .inl (cA 0, 133, .inl (upd (upd (upd (upd (upd (upd (upd (upd (upd (upd (upd (upd (upd (fun _ => 0) 42 199) 16 1) 17 2) 18 3) 19 4) 20 5) 21 6) 22 7) 23 8) 24 9) 25 10) 26 11) 27 12))), (q14, .inl (cA 0, 3990, .inl (fun _ => 0))), (q15, .inl (cA 0, 48, .inl (upd (upd (upd (upd (upd (upd (upd (upd (upd (upd (upd (upd (upd (upd (upd (upd (upd (upd (upd (upd (upd (upd (upd (upd (upd (upd (upd (upd (upd (upd (upd (upd (upd (upd (upd (upd (upd (upd (upd (upd (upd (upd (upd (upd (upd (upd (upd (upd (fun _ => 0) 0 1) 1 1) 2 1) 3 1) 4 2) 5 2) 6 2) 7 2) 8 3) 9 3) 10 3) 11 3) 12 4) 13 4) 14 4) 15 4) 16 5) 17 5) 18 5) 19 5) 20 6) 21 6) 22 6) 23 6) 24 7) 25 7) 26 7) 27 7) 28 8) 29 8) 30 8) 31 8) 32 9) 33 9) 34 9) 35 9) 36 10) 37 10) 38 10) 39 10) 40 11) 41 11) 42 11) 43 11) 44 12) 45 12) 46 12) 47 12))), (q16, .inl (cA 0, 12, .inl (fun _ => 0))), (q17, .inl (cA 0, 8, .inl (fun _ => 0))), (q18, .inl (cA 0, 12, .inl (fun _ => 0))), (q19, .inl (cA 0, 4, .inl (upd (upd (upd (upd (fun _ => 0) 0 7) 1 1) 2 1) 3 1))), (q20, .inl (cA 0, 40, .inl (fun _ => 0))), (q21, .inl (cA 0, 8, .inl (fun _ => 0))), (q22, .inl (cA 0, 8, .inl (fun _ => 0))), (q23, .inr (4, [.ref q24, .ref q30, .int 0, .int (-1), .int (-1), .int 0, .int 0, .int 0, .int 0, .int 0])), (q24, .inr (7, [.ref q25, .int 0, .ref q26, .ref q27, .ref q28, .ref q29, .int 0, .int 0])), (q25, .inl (cA 0, 300, .inl (fun _ => 0))), (q26, .inl (cA 0, 3, .inl (fun _ => 0))), (q27, .inl (cA 0, 3, .inl (fun _ => 0))), (q28, .inl (cA 0, 24, .inl (fun _ => 0))), (q29, .inl (cA 0, 72, .inl (fun _ => 0))), (q30, .inl (cA 0, 300, .inl (fun _ => 0))), (q31, .inr (3, [.ref q1, .ref q32, .ref q33, .ref q39, .ref q40])), (q32, .inl (cA 3, 4, .inr (.inr (.inr (.inr (va_up (va_up (va_up (va_up (fun _ => none) 0 (some q41)) 1 (some q47)) 2 (some q53)) 3 (some q59))))))), (q33, .inr (7, [.ref q34, .int 0, .ref q35, .ref q36, .ref q37, .ref q38, .int 0, .int 0])), (q34, .inl (cA 0, 300, .inl (fun _ => 0))), (q35, .inl (cA 0, 3, .inl (fun _ => 0))), (q36, .inl (cA 0, 3, .inl (fun _ => 0))), (q37, .inl (cA 0, 24, .inl (fun _ => 0))), (q38, .inl (cA 0, 72, .inl (fun _ => 0))), (q39, .inl (cA 0, 33, .inl (fun _ => 0))), (q40, .inl (cA 0, 300, .inl (fun _ => 0))), (q41, .inr (7, [.ref q42, .int 0, .ref q43, .ref q44, .ref q45, .ref q46, .int 0, .int 0])), (q42, .inl (cA 0, 300, .inl (fun _ => 0))), (q43, .inl (cA 0, 3, .inl (fun _ => 0))), (q44, .inl (cA 0, 3, .inl (fun _ => 0))), (q45, .inl (cA 0, 24, .inl (fun _ => 0))), (q46, .inl (cA 0, 72, .inl (fun _ => 0))), (q47, .inr (7, [.ref q48, .int 0, .ref q49, .ref q50, .ref q51, .ref q52, .int 0, .int 0])), (q48, .inl (cA 0, 300, .inl (fun _ => 0))), (q49, .inl (cA 0, 3, .inl (fun _ => 0))), (q50, .inl (cA 0, 3, .inl (fun _ => 0))), (q51, .inl (cA 0, 24, .inl (fun _ => 0))), (q52, .inl (cA 0, 72, .inl (fun _ => 0))), (q53, .inr (7, [.ref q54, .int 0, .ref q55, .ref q56, .ref q57, .ref q58, .int 0, .int 0])), (q54, .inl (cA 0, 300, .inl (fun _ => 0))), (q55, .inl (cA 0, 3, .inl (fun _ => 0))), (q56, .inl (cA 0, 3, .inl (fun _ => 0))), (q57, .inl (cA 0, 24, .inl (fun _ => 0))), (q58, .inl (cA 0, 72, .inl (fun _ => 0))), (q59, .inr (7, [.ref q60, .int 0, .ref q61, .ref q62, .ref q63, .ref q64, .int 0, .int 0])), (q60, .inl (cA 0, 300, .inl (fun _ => 0))), (q61, .inl (cA 0, 3, .inl (fun _ => 0))), (q62, .inl (cA 0, 3, .inl (fun _ => 0))), (q63, .inl (cA 0, 24, .inl (fun _ => 0))), (q64, .inl (cA 0, 72, .inl (fun _ => 0))), (q65, .inr (2, [.ref q1, .ref q31, .ref q66, .int 0, .int 0])), (q66, .inl (cA 0, 133, .inl (fun _ => 0))), (q67, .inr (0, [.ref q1, .ref q68, .ref q69, .ref q70, .ref q71, .ref q72, .ref q73, .ref q74, .ref q75])), (q68, .inl (cA 0, 52, .inl (fun _ => 0))), (q69, .inl (cA 0, 13, .inl (fun _ => 0))), (q70, .inl (cA 0, 13, .inl (fun _ => 0))), (q71, .inl (cA 0, 13, .inl (fun _ => 0))), (q72, .inl (cA 1, 13, .inr (.inl (fun _ => 0)))), (q73, .inl (cA 1, 13, .inr (.inl (fun _ => 0)))), (q74, .inl (cA 0, 13, .inl (fun _ => 0))), (q75, .inl (cA 0, 13, .inl (fun _ => 0))), (q76, .inr (6, [.ref q1])), (q77, .inr (5, [.ref q1, .ref q78, .ref q79, .ref q80, .ref q81])), (q78, .inl (cA 0, 8, .inl (fun _ => 0))), (q79, .inl (cA 0, 5, .inl (fun _ => 0))), (q80, .inl (cA 0, 5, .inl (fun _ => 0))), (q81, .inl (cA 0, 5, .inl (fun _ => 0)))] H) (hD : va_D A [(h0, .inr (8, [.ref q1, .ref q12, .ref q23, .ref q31, .ref q65, .ref q67, .ref q76, .ref q77])), (q1, .inr (1, [.ref q2, .ref q3, .int 0, .int 0, .ref q4, .ref q5, .ref q6, .int 0, .int 0, .int (-1), .ref q7, .int 0, .ref q8, .int 4095, .ref q9, .ref q10, .ref q11, .int 0])), (q2, .inl (cA 0, 133, .inl (upd (upd (upd (upd (upd (upd (upd (upd (upd (upd (upd (upd (upd (fun _ => 0) 42 199) 16 1) 17 2) 18 3) 19 4) 20 5) 21 6) 22 7) 23 8) 24 9) 25 10) 26 11) 27 12))), (q3, .inl (cA 0, 3990, .inl (fun _ => 0))), (q4, .inl (cA 0, 48, .inl (upd (upd (upd (upd (upd (upd (upd (upd (upd (upd (upd (upd (upd (upd (upd (upd (upd (upd (upd (upd (upd (upd (upd (upd (upd (upd (upd (upd (upd (upd (upd (upd (upd (upd (upd (upd (upd (upd (upd (upd (upd (upd (upd (upd (upd (upd (upd (upd (fun _ => 0) 0 1) 1 1) 2 1) 3 1) 4 2) 5 2) 6 2) 7 2) 8 3) 9 3) 10 3) 11 3) 12 4) 13 4) 14 4) 15 4) 16 5) 17 5) 18 5) 19 5) 20 6) 21 6) 22 6) 23 6) 24 7) 25 7) 26 7) 27 7) 28 8) 29 8) 30 8) 31 8) 32 9) 33 9) 34 9) 35 9) 36 10) 37 10) 38 10) 39 10) 40 11) 41 11) 42 11) 43 11) 44 12) 45 12) 46 12) 47 12))), (q5, .inl (cA 0, 12, .inl (fun _ => 0))), (q6, .inl (cA 0, 8, .inl (fun _ => 0))), (q7, .inl (cA 0, 12, .inl (fun _ => 0))), (q8, .inl (cA 0, 4, .inl (upd (upd (upd (upd (fun _ => 0) 0 7) 1 1) 2 1) 3 1))), (q9, .inl (cA 0, 40, .inl (fun _ => 0))), (q10, .inl (cA 0, 8, .inl (fun _ => 0))), (q11, .inl (cA 0, 8, .inl (fun _ => 0))), (q12, .inr (1, [.ref q13, .ref q14, .int 0, .int 0, .ref q15, .ref q16, .ref q17, .int 0, .int 0, .int (-1), .ref q18, .int 0, .ref q19, .int 4095, .ref q20, .ref q21, .ref q22, .int 0])), (q13, .inl (cA 0, 133, .inl (upd (upd (upd (upd (upd (upd (upd (upd (upd (upd (upd (upd (upd (fun _ => 0) 42 199) 16 1) 17 2) 18 3) 19 4) 20 5) 21 6) 22 7) 23 8) 24 9) 25 10) 26 11) 27 12))), (q14, .inl (cA 0, 3990, .inl (fun _ => 0))), (q15, .inl (cA 0, 48, .inl (upd (upd (upd (upd (upd (upd (upd (upd (upd (upd (upd (upd (upd (upd (upd (upd (upd (upd (upd (upd (upd (upd (upd (upd (upd (upd (upd (upd (upd (upd (upd (upd (upd (upd (upd (upd (upd (upd (upd (upd (upd (upd (upd (upd (upd (upd (upd (upd (fun _ => 0) 0 1) 1 1) 2 1) 3 1) 4 2) 5 2) 6 2) 7 2) 8 3) 9 3) 10 3) 11 3) 12 4) 13 4) 14 4) 15 4) 16 5) 17 5) 18 5) 19 5) 20 6) 21 6) 22 6) 23 6) 24 7) 25 7) 26 7) 27 7) 28 8) 29 8) 30 8) 31 8) 32 9) 33 9) 34 9) 35 9) 36 10) 37 10) 38 10) 39 10) 40 11) 41 11) 42 11) 43 11) 44 12) 45 12) 46 12) 47 12))), (q16, .inl (cA 0, 12, .inl (fun _ => 0))), (q17, .inl (cA 0, 8, .inl (fun _ => 0))), (q18, .inl (cA 0, 12, .inl (fun _ => 0))), (q19, .inl (cA 0, 4, .inl (upd (upd (upd (upd (fun _ => 0) 0 7) 1 1) 2 1) 3 1))), (q20, .inl (cA 0, 40, .inl (fun _ => 0))), (q21, .inl (cA 0, 8, .inl (fun _ => 0))), (q22, .inl (cA 0, 8, .inl (fun _ => 0))), (q23, .inr (4, [.ref q24, .ref q30, .int 0, .int (-1), .int (-1), .int 0, .int 0, .int 0, .int 0, .int 0])), (q24, .inr (7, [.ref q25, .int 0, .ref q26, .ref q27, .ref q28, .ref q29, .int 0, .int 0])), (q25, .inl (cA 0, 300, .inl (fun _ => 0))), (q26, .inl (cA 0, 3, .inl (fun _ => 0))), (q27, .inl (cA 0, 3, .inl (fun _ => 0))), (q28, .inl (cA 0, 24, .inl (fun _ => 0))), (q29, .inl (cA 0, 72, .inl (fun _ => 0))), (q30, .inl (cA 0, 300, .inl (fun _ => 0))), (q31, .inr (3, [.ref q1, .ref q32, .ref q33, .ref q39, .ref q40])), (q32, .inl (cA 3, 4, .inr (.inr (.inr (.inr (va_up (va_up (va_up (va_up (fun _ => none) 0 (some q41)) 1 (some q47)) 2 (some q53)) 3 (some q59))))))), (q33, .inr (7, [.ref q34, .int 0, .ref q35, .ref q36, .ref q37, .ref q38, .int 0, .int 0])), (q34, .inl (cA 0, 300, .inl (fun _ => 0))), (q35, .inl (cA 0, 3, .inl (fun _ => 0))), (q36, .inl (cA 0, 3, .inl (fun _ => 0))), (q37, .inl (cA 0, 24, .inl (fun _ => 0))), (q38, .inl (cA 0, 72, .inl (fun _ => 0))), (q39, .inl (cA 0, 33, .inl (fun _ => 0))), (q40, .inl (cA 0, 300, .inl (fun _ => 0))), (q41, .inr (7, [.ref q42, .int 0, .ref q43, .ref q44, .ref q45, .ref q46, .int 0, .int 0])), (q42, .inl (cA 0, 300, .inl (fun _ => 0))), (q43, .inl (cA 0, 3, .inl (fun _ => 0))), (q44, .inl (cA 0, 3, .inl (fun _ => 0))), (q45, .inl (cA 0, 24, .inl (fun _ => 0))), (q46, .inl (cA 0, 72, .inl (fun _ => 0))), (q47, .inr (7, [.ref q48, .int 0, .ref q49, .ref q50, .ref q51, .ref q52, .int 0, .int 0])), (q48, .inl (cA 0, 300, .inl (fun _ => 0))), (q49, .inl (cA 0, 3, .inl (fun _ => 0))), (q50, .inl (cA 0, 3, .inl (fun _ => 0))), (q51, .inl (cA 0, 24, .inl (fun _ => 0))), (q52, .inl (cA 0, 72, .inl (fun _ => 0))), (q53, .inr (7, [.ref q54, .int 0, .ref q55, .ref q56, .ref q57, .ref q58, .int 0, .int 0])), (q54, .inl (cA 0, 300, .inl (fun _ => 0))), (q55, .inl (cA 0, 3, .inl (fun _ => 0))), (q56, .inl (cA 0, 3, .inl (fun _ => 0))), (q57, .inl (cA 0, 24, .inl (fun _ => 0))), (q58, .inl (cA 0, 72, .inl (fun _ => 0))), (q59, .inr (7, [.ref q60, .int 0, .ref q61, .ref q62, .ref q63, .ref q64, .int 0, .int 0])), (q60, .inl (cA 0, 300, .inl (fun _ => 0))), (q61, .inl (cA 0, 3, .inl (fun _ => 0))), (q62, .inl (cA 0, 3, .inl (fun _ => 0))), (q63, .inl (cA 0, 24, .inl (fun _ => 0))), (q64, .inl (cA 0, 72, .inl (fun _ => 0))), (q65, .inr (2, [.ref q1, .ref q31, .ref q66, .int 0, .int 0])), (q66, .inl (cA 0, 133, .inl (fun _ => 0))), (q67, .inr (0, [.ref q1, .ref q68, .ref q69, .ref q70, .ref q71, .ref q72, .ref q73, .ref q74, .ref q75])), (q68, .inl (cA 0, 52, .inl (fun _ => 0))), (q69, .inl (cA 0, 13, .inl (fun _ => 0))), (q70, .inl (cA 0, 13, .inl (fun _ => 0))), (q71, .inl (cA 0, 13, .inl (fun _ => 0))), (q72, .inl (cA 1, 13, .inr (.inl (fun _ => 0)))), (q73, .inl (cA 1, 13, .inr (.inl (fun _ => 0)))), (q74, .inl (cA 0, 13, .inl (fun _ => 0))), (q75, .inl (cA 0, 13, .inl (fun _ => 0))), (q76, .inr (6, [.ref q1])), (q77, .inr (5, [.ref q1, .ref q78, .ref q79, .ref q80, .ref q81])), (q78, .inl (cA 0, 8, .inl (fun _ => 0))), (q79, .inl (cA 0, 5, .inl (fun _ => 0))), (q80, .inl (cA 0, 5, .inl (fun _ => 0))), (q81, .inl (cA 0, 5, .inl (fun _ => 0)))]) : va_P D xG.1 (g_W xG ((D, cA, fun k => ([h0, q1, q2, q3, q4, q5, q6, q7, q8, q9, q10, q11, q12, q13, q14, q15, q16, q17, q18, q19, q20, q21, q22, q23, q30, q24, q25, q26, q27, q28, q29, q31, q32, q39, q40, q33, q34, q35, q36, q37, q38, q41, q42, q43, q44, q45, q46, q47, q48, q49, q50, q51, q52, q53, q54, q55, q56, q57, q58, q59, q60, q61, q62, q63, q64, q65, q66, q67, q68, q69, q70, q71, q72, q73, q74, q75, q76, q77, q78, q79, q80, q81] : List Nat).getD k 0) : g_V) x_M0) H ∧ va_D A (g_W xG ((D, cA, fun k => ([h0, q1, q2, q3, q4, q5, q6, q7, q8, q9, q10, q11, q12, q13, q14, q15, q16, q17, q18, q19, q20, q21, q22, q23, q30, q24, q25, q26, q27, q28, q29, q31, q32, q39, q40, q33, q34, q35, q36, q37, q38, q41, q42, q43, q44, q45, q46, q47, q48, q49, q50, q51, q52, q53, q54, q55, q56, q57, q58, q59, q60, q61, q62, q63, q64, q65, q66, q67, q68, q69, q70, q71, q72, q73, q74, q75, q76, q77, q78, q79, q80, q81] : List Nat).getD k 0) : g_V) x_M0) := by
  refine ⟨g_P_of (V := ((D, cA, fun k => ([h0, q1, q2, q3, q4, q5, q6, q7, q8, q9, q10, q11, q12, q13, q14, q15, q16, q17, q18, q19, q20, q21, q22, q23, q30, q24, q25, q26, q27, q28, q29, q31, q32, q39, q40, q33, q34, q35, q36, q37, q38, q41, q42, q43, q44, q45, q46, q47, q48, q49, q50, q51, q52, q53, q54, q55, q56, q57, q58, q59, q60, q61, q62, q63, q64, q65, q66, q67, q68, q69, q70, q71, q72, q73, q74, q75, q76, q77, q78, q79, q80, q81] : List Nat).getD k 0) : g_V)) (fun k hk => ?_), ?_⟩
  · match k, hk with
    | 0, _ => exact hP 0 _ rfl
    | 1, _ => exact hP 1 _ rfl
    | 2, _ =>
      have e : (fun j => gI (x_M0 2 j)) = x_c2 := funext fun j => gI_of _
      show va_at D xG.1 (q2, .inl (cA 0, 133, .inl (fun j => gI (x_M0 2 j)))) H
      rw [e]
      exact hP 2 _ rfl
    | 3, _ => exact hP 3 _ rfl
    | 4, _ =>
      have e : (fun j => gI (x_M0 4 j)) = x_c4 := funext fun j => gI_of _
      show va_at D xG.1 (q4, .inl (cA 0, 48, .inl (fun j => gI (x_M0 4 j)))) H
      rw [e]
      exact hP 4 _ rfl
    | 5, _ => exact hP 5 _ rfl
    | 6, _ => exact hP 6 _ rfl
    | 7, _ => exact hP 7 _ rfl
    | 8, _ =>
      have e : (fun j => gI (x_M0 8 j)) = x_c8 := funext fun j => gI_of _
      show va_at D xG.1 (q8, .inl (cA 0, 4, .inl (fun j => gI (x_M0 8 j)))) H
      rw [e]
      exact hP 8 _ rfl
    | 9, _ => exact hP 9 _ rfl
    | 10, _ => exact hP 10 _ rfl
    | 11, _ => exact hP 11 _ rfl
    | 12, _ => exact hP 12 _ rfl
    | 13, _ =>
      have e : (fun j => gI (x_M0 13 j)) = x_c2 := funext fun j => gI_of _
      show va_at D xG.1 (q13, .inl (cA 0, 133, .inl (fun j => gI (x_M0 13 j)))) H
      rw [e]
      exact hP 13 _ rfl
    | 14, _ => exact hP 14 _ rfl
    | 15, _ =>
      have e : (fun j => gI (x_M0 15 j)) = x_c4 := funext fun j => gI_of _
      show va_at D xG.1 (q15, .inl (cA 0, 48, .inl (fun j => gI (x_M0 15 j)))) H
      rw [e]
      exact hP 15 _ rfl
    | 16, _ => exact hP 16 _ rfl
    | 17, _ => exact hP 17 _ rfl
    | 18, _ => exact hP 18 _ rfl
    | 19, _ =>
      have e : (fun j => gI (x_M0 19 j)) = x_c8 := funext fun j => gI_of _
      show va_at D xG.1 (q19, .inl (cA 0, 4, .inl (fun j => gI (x_M0 19 j)))) H
      rw [e]
      exact hP 19 _ rfl
    | 20, _ => exact hP 20 _ rfl
    | 21, _ => exact hP 21 _ rfl
    | 22, _ => exact hP 22 _ rfl
    | 23, _ => exact hP 23 _ rfl
    | 24, _ => exact hP 30 _ rfl
    | 25, _ => exact hP 24 _ rfl
    | 26, _ => exact hP 25 _ rfl
    | 27, _ => exact hP 26 _ rfl
    | 28, _ => exact hP 27 _ rfl
    | 29, _ => exact hP 28 _ rfl
    | 30, _ => exact hP 29 _ rfl
    | 31, _ => exact hP 31 _ rfl
    | 32, _ => exact k_arrq (fun j hj => by
        match j, hj with
        | 0, _ => rfl
        | 1, _ => rfl
        | 2, _ => rfl
        | 3, _ => rfl) (hP 32 _ rfl)
    | 33, _ => exact hP 39 _ rfl
    | 34, _ => exact hP 40 _ rfl
    | 35, _ => exact hP 33 _ rfl
    | 36, _ => exact hP 34 _ rfl
    | 37, _ => exact hP 35 _ rfl
    | 38, _ => exact hP 36 _ rfl
    | 39, _ => exact hP 37 _ rfl
    | 40, _ => exact hP 38 _ rfl
    | 41, _ => exact hP 41 _ rfl
    | 42, _ => exact hP 42 _ rfl
    | 43, _ => exact hP 43 _ rfl
    | 44, _ => exact hP 44 _ rfl
    | 45, _ => exact hP 45 _ rfl
    | 46, _ => exact hP 46 _ rfl
    | 47, _ => exact hP 47 _ rfl
    | 48, _ => exact hP 48 _ rfl
    | 49, _ => exact hP 49 _ rfl
    | 50, _ => exact hP 50 _ rfl
    | 51, _ => exact hP 51 _ rfl
    | 52, _ => exact hP 52 _ rfl
    | 53, _ => exact hP 53 _ rfl
    | 54, _ => exact hP 54 _ rfl
    | 55, _ => exact hP 55 _ rfl
    | 56, _ => exact hP 56 _ rfl
    | 57, _ => exact hP 57 _ rfl
    | 58, _ => exact hP 58 _ rfl
    | 59, _ => exact hP 59 _ rfl
    | 60, _ => exact hP 60 _ rfl
    | 61, _ => exact hP 61 _ rfl
    | 62, _ => exact hP 62 _ rfl
    | 63, _ => exact hP 63 _ rfl
    | 64, _ => exact hP 64 _ rfl
    | 65, _ => exact hP 65 _ rfl
    | 66, _ => exact hP 66 _ rfl
    | 67, _ => exact hP 67 _ rfl
    | 68, _ => exact hP 68 _ rfl
    | 69, _ => exact hP 69 _ rfl
    | 70, _ => exact hP 70 _ rfl
    | 71, _ => exact hP 71 _ rfl
    | 72, _ => exact hP 72 _ rfl
    | 73, _ => exact hP 73 _ rfl
    | 74, _ => exact hP 74 _ rfl
    | 75, _ => exact hP 75 _ rfl
    | 76, _ => exact hP 76 _ rfl
    | 77, _ => exact hP 77 _ rfl
    | 78, _ => exact hP 78 _ rfl
    | 79, _ => exact hP 79 _ rfl
    | 80, _ => exact hP 80 _ rfl
    | 81, _ => exact hP 81 _ rfl
    | k + 82, hk => exact absurd hk (by show ¬ k + 82 < 82; omega)
  · have hD1 := hD.sub (ws' := [(h0, .inr (8, [.ref q1, .ref q12, .ref q23, .ref q31, .ref q65, .ref q67, .ref q76, .ref q77])), (q1, .inr (1, [.ref q2, .ref q3, .int 0, .int 0, .ref q4, .ref q5, .ref q6, .int 0, .int 0, .int (-1), .ref q7, .int 0, .ref q8, .int 4095, .ref q9, .ref q10, .ref q11, .int 0])), (q2, .inl (cA 0, 133, .inl (upd (upd (upd (upd (upd (upd (upd (upd (upd (upd (upd (upd (upd (fun _ => 0) 42 199) 16 1) 17 2) 18 3) 19 4) 20 5) 21 6) 22 7) 23 8) 24 9) 25 10) 26 11) 27 12))), (q3, .inl (cA 0, 3990, .inl (fun _ => 0))), (q4, .inl (cA 0, 48, .inl (upd (upd (upd (upd (upd (upd (upd (upd (upd (upd (upd (upd (upd (upd (upd (upd (upd (upd (upd (upd (upd (upd (upd (upd (upd (upd (upd (upd (upd (upd (upd (upd (upd (upd (upd (upd (upd (upd (upd (upd (upd (upd (upd (upd (upd (upd (upd (upd (fun _ => 0) 0 1) 1 1) 2 1) 3 1) 4 2) 5 2) 6 2) 7 2) 8 3) 9 3) 10 3) 11 3) 12 4) 13 4) 14 4) 15 4) 16 5) 17 5) 18 5) 19 5) 20 6) 21 6) 22 6) 23 6) 24 7) 25 7) 26 7) 27 7) 28 8) 29 8) 30 8) 31 8) 32 9) 33 9) 34 9) 35 9) 36 10) 37 10) 38 10) 39 10) 40 11) 41 11) 42 11) 43 11) 44 12) 45 12) 46 12) 47 12))), (q5, .inl (cA 0, 12, .inl (fun _ => 0))), (q6, .inl (cA 0, 8, .inl (fun _ => 0))), (q7, .inl (cA 0, 12, .inl (fun _ => 0))), (q8, .inl (cA 0, 4, .inl (upd (upd (upd (upd (fun _ => 0) 0 7) 1 1) 2 1) 3 1))), (q9, .inl (cA 0, 40, .inl (fun _ => 0))), (q10, .inl (cA 0, 8, .inl (fun _ => 0))), (q11, .inl (cA 0, 8, .inl (fun _ => 0))), (q12, .inr (1, [.ref q13, .ref q14, .int 0, .int 0, .ref q15, .ref q16, .ref q17, .int 0, .int 0, .int (-1), .ref q18, .int 0, .ref q19, .int 4095, .ref q20, .ref q21, .ref q22, .int 0])), (q13, .inl (cA 0, 133, .inl (upd (upd (upd (upd (upd (upd (upd (upd (upd (upd (upd (upd (upd (fun _ => 0) 42 199) 16 1) 17 2) 18 3) 19 4) 20 5) 21 6) 22 7) 23 8) 24 9) 25 10) 26 11) 27 12))), (q14, .inl (cA 0, 3990, .inl (fun _ => 0))), (q15, .inl (cA 0, 48, .inl (upd (upd (upd (upd (upd (upd (upd (upd (upd (upd (upd (upd (upd (upd (upd (upd (upd (upd (upd (upd (upd (upd (upd (upd (upd (upd (upd (upd (upd (upd (upd (upd (upd (upd (upd (upd (upd (upd (upd (upd (upd (upd (upd (upd (upd (upd (upd (upd (fun _ => 0) 0 1) 1 1) 2 1) 3 1) 4 2) 5 2) 6 2) 7 2) 8 3) 9 3) 10 3) 11 3) 12 4) 13 4) 14 4) 15 4) 16 5) 17 5) 18 5) 19 5) 20 6) 21 6) 22 6) 23 6) 24 7) 25 7) 26 7) 27 7) 28 8) 29 8) 30 8) 31 8) 32 9) 33 9) 34 9) 35 9) 36 10) 37 10) 38 10) 39 10) 40 11) 41 11) 42 11) 43 11) 44 12) 45 12) 46 12) 47 12))), (q16, .inl (cA 0, 12, .inl (fun _ => 0))), (q17, .inl (cA 0, 8, .inl (fun _ => 0))), (q18, .inl (cA 0, 12, .inl (fun _ => 0))), (q19, .inl (cA 0, 4, .inl (upd (upd (upd (upd (fun _ => 0) 0 7) 1 1) 2 1) 3 1))), (q20, .inl (cA 0, 40, .inl (fun _ => 0))), (q21, .inl (cA 0, 8, .inl (fun _ => 0))), (q22, .inl (cA 0, 8, .inl (fun _ => 0))), (q23, .inr (4, [.ref q24, .ref q30, .int 0, .int (-1), .int (-1), .int 0, .int 0, .int 0, .int 0, .int 0])), (q30, .inl (cA 0, 300, .inl (fun _ => 0))), (q24, .inr (7, [.ref q25, .int 0, .ref q26, .ref q27, .ref q28, .ref q29, .int 0, .int 0])), (q25, .inl (cA 0, 300, .inl (fun _ => 0))), (q26, .inl (cA 0, 3, .inl (fun _ => 0))), (q27, .inl (cA 0, 3, .inl (fun _ => 0))), (q28, .inl (cA 0, 24, .inl (fun _ => 0))), (q29, .inl (cA 0, 72, .inl (fun _ => 0))), (q31, .inr (3, [.ref q1, .ref q32, .ref q33, .ref q39, .ref q40])), (q32, .inl (cA 3, 4, .inr (.inr (.inr (.inr (va_up (va_up (va_up (va_up (fun _ => none) 0 (some q41)) 1 (some q47)) 2 (some q53)) 3 (some q59))))))), (q39, .inl (cA 0, 33, .inl (fun _ => 0))), (q40, .inl (cA 0, 300, .inl (fun _ => 0))), (q33, .inr (7, [.ref q34, .int 0, .ref q35, .ref q36, .ref q37, .ref q38, .int 0, .int 0])), (q34, .inl (cA 0, 300, .inl (fun _ => 0))), (q35, .inl (cA 0, 3, .inl (fun _ => 0))), (q36, .inl (cA 0, 3, .inl (fun _ => 0))), (q37, .inl (cA 0, 24, .inl (fun _ => 0))), (q38, .inl (cA 0, 72, .inl (fun _ => 0))), (q41, .inr (7, [.ref q42, .int 0, .ref q43, .ref q44, .ref q45, .ref q46, .int 0, .int 0])), (q42, .inl (cA 0, 300, .inl (fun _ => 0))), (q43, .inl (cA 0, 3, .inl (fun _ => 0))), (q44, .inl (cA 0, 3, .inl (fun _ => 0))), (q45, .inl (cA 0, 24, .inl (fun _ => 0))), (q46, .inl (cA 0, 72, .inl (fun _ => 0))), (q47, .inr (7, [.ref q48, .int 0, .ref q49, .ref q50, .ref q51, .ref q52, .int 0, .int 0])), (q48, .inl (cA 0, 300, .inl (fun _ => 0))), (q49, .inl (cA 0, 3, .inl (fun _ => 0))), (q50, .inl (cA 0, 3, .inl (fun _ => 0))), (q51, .inl (cA 0, 24, .inl (fun _ => 0))), (q52, .inl (cA 0, 72, .inl (fun _ => 0))), (q53, .inr (7, [.ref q54, .int 0, .ref q55, .ref q56, .ref q57, .ref q58, .int 0, .int 0])), (q54, .inl (cA 0, 300, .inl (fun _ => 0))), (q55, .inl (cA 0, 3, .inl (fun _ => 0))), (q56, .inl (cA 0, 3, .inl (fun _ => 0))), (q57, .inl (cA 0, 24, .inl (fun _ => 0))), (q58, .inl (cA 0, 72, .inl (fun _ => 0))), (q59, .inr (7, [.ref q60, .int 0, .ref q61, .ref q62, .ref q63, .ref q64, .int 0, .int 0])), (q60, .inl (cA 0, 300, .inl (fun _ => 0))), (q61, .inl (cA 0, 3, .inl (fun _ => 0))), (q62, .inl (cA 0, 3, .inl (fun _ => 0))), (q63, .inl (cA 0, 24, .inl (fun _ => 0))), (q64, .inl (cA 0, 72, .inl (fun _ => 0))), (q65, .inr (2, [.ref q1, .ref q31, .ref q66, .int 0, .int 0])), (q66, .inl (cA 0, 133, .inl (fun _ => 0))), (q67, .inr (0, [.ref q1, .ref q68, .ref q69, .ref q70, .ref q71, .ref q72, .ref q73, .ref q74, .ref q75])), (q68, .inl (cA 0, 52, .inl (fun _ => 0))), (q69, .inl (cA 0, 13, .inl (fun _ => 0))), (q70, .inl (cA 0, 13, .inl (fun _ => 0))), (q71, .inl (cA 0, 13, .inl (fun _ => 0))), (q72, .inl (cA 1, 13, .inr (.inl (fun _ => 0)))), (q73, .inl (cA 1, 13, .inr (.inl (fun _ => 0)))), (q74, .inl (cA 0, 13, .inl (fun _ => 0))), (q75, .inl (cA 0, 13, .inl (fun _ => 0))), (q76, .inr (6, [.ref q1])), (q77, .inr (5, [.ref q1, .ref q78, .ref q79, .ref q80, .ref q81])), (q78, .inl (cA 0, 8, .inl (fun _ => 0))), (q79, .inl (cA 0, 5, .inl (fun _ => 0))), (q80, .inl (cA 0, 5, .inl (fun _ => 0))), (q81, .inl (cA 0, 5, .inl (fun _ => 0)))]) [0, 1, 2, 3, 4, 5, 6, 7, 8, 9, 10, 11, 12, 13, 14, 15, 16, 17, 18, 19, 20, 21, 22, 23, 30, 24, 25, 26, 27, 28, 29, 31, 32, 39, 40, 33, 34, 35, 36, 37, 38, 41, 42, 43, 44, 45, 46, 47, 48, 49, 50, 51, 52, 53, 54, 55, 56, 57, 58, 59, 60, 61, 62, 63, 64, 65, 66, 67, 68, 69, 70, 71, 72, 73, 74, 75, 76, 77, 78, 79, 80, 81] (by decide) rfl
    exact g_D_of hD1 rfl
