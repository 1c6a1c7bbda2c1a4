/-! the next token: both, whole -/
def NXT (L a : Nat) (b : Nat → Int) (M W : g_M) (s q T : Nat) (N : Int) (M' W' : g_M) : Prop := a ≤ s ∧ PS L b s q T N M' W' ∧ (∀ x, x ≠ 23 → M' x = M x) ∧ (∀ j, j ≠ 5 → j ≠ 6 → j ≠ 7 → j ≠ 8 → M' 23 j = M 23 j) ∧ (∀ x, x ≠ 0 → W' x = W x) ∧ ∀ j, j ≠ 7 → j ≠ 8 → j ≠ 9 → j ≠ 10 → j ≠ 11 → W' 0 j = W 0 j
theorem NX_mk {L a s q T : Nat} {N : Int} {b : Nat → Int} {M W M' W' : g_M} (h2 : M 23 2 = L) (h4 : W 0 4 = L) (ht : ∀ i, i < L → M 24 i = b i ∧ W 4 i = b i) (has : a ≤ s) (sq : s ≤ q) (ql : q ≤ L) (st : T ≠ 41 → s < q) (c1 : ∀ x, x ≠ 23 → M' x = M x) (c2 : ∀ j, j ≠ 5 → j ≠ 6 → j ≠ 7 → j ≠ 8 → M' 23 j = M 23 j) (r1 : ∀ x, x ≠ 0 → W' x = W x) (r2 : ∀ j, j ≠ 7 → j ≠ 8 → j ≠ 9 → j ≠ 10 → j ≠ 11 → W' 0 j = W 0 j) (m5 : M' 23 5 = q) (w7 : W' 0 7 = q) (m6 : M' 23 6 = s) (w8 : W' 0 8 = s) (m7 : M' 23 7 = T) (m8 : T = 40 → M' 23 8 = N) (tw : TW b s q T N W') : NXT L a b M W s q T N M' W' := ⟨has, ⟨⟨sq, ql, st⟩, ⟨by rw [c2 2 (by omega) (by omega) (by omega) (by omega)]; exact h2, by rw [r2 4 (by omega) (by omega) (by omega) (by omega) (by omega)]; exact h4, fun i hi => by rw [c1 24 (by omega), r1 4 (by omega)]; exact ht i hi⟩, ⟨m5, w7, m6, w8, m7, m8⟩, tw⟩, c1, c2, r1, r2⟩
/-- what holds where a token begins -/
def AT (L a s : Nat) (b : Nat → Int) (M W V U : g_M) : Prop := (L ≤ 300 ∧ a ≤ s ∧ s ≤ L ∧ M 23 2 = L ∧ W 0 4 = L) ∧ (∀ i, i < L → 0 ≤ b i ∧ b i ≤ 255) ∧ (∀ i, i < L → M 24 i = b i ∧ W 4 i = b i) ∧ m_X4_advance M = advT V ∧ m_X9_nextToken W = nexT U ∧ (∀ x, x ≠ 23 → V x = M x) ∧ (∀ j, j ≠ 5 → j ≠ 6 → V 23 j = M 23 j) ∧ (V 23 5 = s ∧ V 23 6 = s) ∧ (∀ x, x ≠ 0 → U x = W x) ∧ (∀ j, j ≠ 7 → j ≠ 8 → U 0 j = W 0 j) ∧ U 0 7 = s ∧ U 0 8 = s
theorem AT_ex {L a : Nat} {b : Nat → Int} {M W : g_M} (hL : L ≤ 300) (hb : ∀ i, i < L → 0 ≤ b i ∧ b i ≤ 255) (ha : a ≤ L) (h2 : M 23 2 = L) (h4 : W 0 4 = L) (ht : ∀ i, i < L → M 24 i = b i ∧ W 4 i = b i) (h5 : M 23 5 = a) (h7 : W 0 7 = a) : ∃ (s : Nat) (V U : g_M), AT L a s b M W V U := by
  obtain ⟨s, s1, s2, s3, s4⟩ := span isB b L (L - a) a (by omega)
  have hc : ∀ i, i < L → 0 ≤ b i ∧ b i ≤ 255 ∧ M 24 i = b i := fun i hi => ⟨(hb i hi).1, (hb i hi).2, (ht i hi).1⟩
  refine ⟨s, g_wr (g_wr M 23 5 s) 23 6 s, g_wr (g_wr W 0 7 s) 0 8 s, ⟨hL, s1, s2, h2, h4⟩, hb, ht, c_adv hL s2 s1 hc h2 s4 h5 s3, r_next hL s2 s1 hb h4 (fun i hi => (ht i hi).2) s4 h7 s3, fun x hx => by rw [a_cell _ hx, a_cell _ hx], fun j h1 h2 => by rw [a_ne _ (by omega), a_ne _ (by omega)], ⟨?_, wr_at _ _ _ _⟩, fun x hx => by rw [a_cell _ hx, a_cell _ hx], fun j h1 h2 => by rw [a_ne _ (by omega), a_ne _ (by omega)], ?_, wr_at _ _ _ _⟩
  · rw [a_ne _ (by omega)]; exact wr_at _ _ _ _
  · rw [a_ne _ (by omega)]; exact wr_at _ _ _ _
theorem bn_end {L a s : Nat} {b : Nat → Int} {M W V U : g_M} (h : AT L a s b M W V U) (c0 : s = L) : ∃ (s q T : Nat) (N : Int) (M' W' : g_M), m_X4_advance M = some M' ∧ m_X9_nextToken W = some W' ∧ NXT L a b M W s q T N M' W' := by
  obtain ⟨⟨hL, has, hsL, h2, h4⟩, hb, ht, eA, eN, v0, v1, ⟨v5, v6⟩, u0, u1, u7, u8⟩ := h
  refine ⟨s, s, 41, 0, g_wr V 23 7 41, g_wr U 0 9 0, ?_, ?_, NX_mk h2 h4 ht has (by omega) hsL (fun h => absurd rfl h) (fun x hx => by rw [a_cell _ hx, v0 x hx]) (fun j j1 j2 j3 j4 => by rw [a_ne _ (by omega), v1 j j1 j2]) (fun x hx => by rw [a_cell _ hx, u0 x hx]) (fun j j1 j2 j3 j4 j5 => by rw [a_ne _ (by omega), u1 j j1 j2]) (by rw [a_ne _ (by omega)]; exact v5) (by rw [a_ne _ (by omega)]; exact u7) (by rw [a_ne _ (by omega)]; exact v6) (by rw [a_ne _ (by omega)]; exact u8) (wr_at _ _ _ _) (fun h => by omega) (Or.inl ⟨rfl, wr_at _ _ _ _⟩)⟩
  · rw [eA]; exact advT_end hL (by rw [v5, c0]) (by rw [v1 2 (by omega) (by omega)]; exact h2)
  · rw [eN]; exact nexT_end hL (by rw [u7, c0]) (by rw [u1 4 (by omega) (by omega)]; exact h4)
theorem bn_word {L a s : Nat} {b : Nat → Int} {M W V U : g_M} (h : AT L a s b M W V U) (hs : s < L) (cl : isL (b s)) : ∃ (s q T : Nat) (N : Int) (M' W' : g_M), m_X4_advance M = some M' ∧ m_X9_nextToken W = some W' ∧ NXT L a b M W s q T N M' W' := by
  obtain ⟨⟨hL, has, hsL, h2, h4⟩, hb, ht, eA, eN, v0, v1, ⟨v5, v6⟩, u0, u1, u7, u8⟩ := h
  have V2 : V 23 2 = L := by rw [v1 2 (by omega) (by omega)]; exact h2
  have U4 : U 0 4 = L := by rw [u1 4 (by omega) (by omega)]; exact h4
  have Vt : ∀ i, i < L → V 24 i = b i := fun i hi => by rw [v0 24 (by omega)]; exact (ht i hi).1
  have Ut : ∀ i, i < L → U 4 i = b i := fun i hi => by rw [u0 4 (by omega)]; exact (ht i hi).2
  obtain ⟨q, q1, q2, q3, q4⟩ := span isL b L (L - s) s (by omega)
  have sq : s < q := by
    by_cases z : q = s
    · rcases q4 with q4 | q4
      · omega
      · rw [z] at q4; exact absurd cl q4
    · omega
  have hcV : ∀ i, i < L → 0 ≤ b i ∧ b i ≤ 255 ∧ V 24 i = b i := fun i hi => ⟨(hb i hi).1, (hb i hi).2, Vt i hi⟩
  have cL := fun K => c_letter (K := K) hL q2 hcV V2 q4 (q - s) s g_fuel (by omega) (by unfold g_fuel; omega) q3
  rw [wr_id V v5] at cL
  obtain ⟨V3, hV3⟩ : ∃ V3, V3 = g_wr (g_wr V 23 5 q) 23 7 42 := ⟨_, rfl⟩
  have v36 : V3 23 6 = s := by rw [hV3, a_ne _ (by omega), a_ne _ (by omega)]; exact v6
  have v35 : V3 23 5 = q := by rw [hV3, a_ne _ (by omega)]; exact wr_at _ _ _ _
  obtain ⟨T, M', t1, t2, t3, t4, t5⟩ := scan_all (L := L) (b := b) q1 q2 hL 33 0 V3 (by omega) (fun i hi => by rw [hV3, a_cell _ (by omega), a_cell _ (by omega)]; exact hcV i hi) v35 v36 (by rw [hV3]; exact wr_at _ _ _ _)
  have t2 := t2 g_fuel (by unfold g_fuel; omega)
  have eo : ((wO 0 : Nat) : Int) = 0 := rfl
  rw [eo, Int.natCast_zero] at t2
  have cS : m_X4_scanWord V = some M' := by
    unfold m_X4_scanWord
    rw [cL, nm_eq, ← hV3, nm_eq, nm_eq, v36, nm_eq]
    exact t2
  have rl := r_letter (W := g_wr U 0 9 2) (s0 := s) hL q2 hb (by rw [a_ne _ (by omega)]; exact U4) (fun i hi => by rw [a_cell _ (by omega)]; exact Ut i hi) q4 q3 (q - s) 0 g_fuel (by omega) (by unfold g_fuel; omega)
  have w0 : wv (fun i => b (s + i)) 0 = 0 := rfl
  have ru : g_wr (g_wr (g_wr U 0 9 2) 0 11 0) 0 7 ((s + 0 : Nat) : Int) = g_wr (g_wr U 0 9 2) 0 11 0 := wr_id _ (by rw [a_ne _ (by omega), a_ne _ (by omega)]; exact u7)
  rw [w0, ru] at rl
  obtain ⟨W', hW'⟩ : ∃ W', W' = g_wr (g_wr (g_wr U 0 9 2) 0 11 (wv (fun i => b (s + i)) (q - s))) 0 7 q := ⟨_, rfl⟩
  rw [← hW'] at rl
  have m0 : ∀ x, x ≠ 23 → M' x = V x := fun x hx => by rw [t4 x hx, hV3, a_cell _ hx, a_cell _ hx]
  have m1 : ∀ j, j ≠ 7 → j ≠ 5 → M' 23 j = V 23 j := fun j j1 j2 => by rw [t5 j j1, hV3, a_ne _ (by omega), a_ne _ (by omega)]
  refine ⟨s, q, T, 0, M', W', ?_, ?_, NX_mk h2 h4 ht has q1 q2 (fun _ => sq) (fun x hx => by rw [m0 x hx, v0 x hx]) (fun j j1 j2 j3 j4 => by rw [m1 j j3 j1, v1 j j1 j2]) (fun x hx => by rw [hW', a_cell _ hx, a_cell _ hx, a_cell _ hx, u0 x hx]) (fun j j1 j2 j3 j4 j5 => by rw [hW', a_ne _ (by omega), a_ne _ (by omega), a_ne _ (by omega), u1 j j1 j2]) (by rw [t5 5 (by omega)]; exact v35) (by rw [hW']; exact wr_at _ _ _ _) (by rw [t5 6 (by omega)]; exact v36) (by rw [hW', a_ne _ (by omega), a_ne _ (by omega), a_ne _ (by omega)]; exact u8) t3 (fun h => ?_) (Or.inr (Or.inr (Or.inl ⟨by rw [hW', a_ne _ (by omega), a_ne _ (by omega)]; exact wr_at _ _ _ _, q3, by rw [hW', a_ne _ (by omega)]; exact wr_at _ _ _ _, ?_⟩)))⟩
  · rw [eA]; exact advT_word hL hs v5 V2 (Vt s hs) (hb s hs) cl cS
  · rw [eN]; exact nexT_word u7 (q_byte hL U4 Ut hs) (hb s hs) cl rl
  · rcases t1 with ⟨a1, a2⟩ | ⟨a1, a2⟩ <;> omega
  · rcases t1 with ⟨a1, a2⟩ | ⟨a1, a2⟩
    · exact Or.inl ⟨a1, a2⟩
    · exact Or.inr ⟨a1, fun j hj => a2 j (by omega) hj⟩
theorem bn_num {L a s : Nat} {b : Nat → Int} {M W V U : g_M} (h : AT L a s b M W V U) (hs : s < L) (cl : ¬ isL (b s)) (cd : isD (b s)) : ∃ (s q T : Nat) (N : Int) (M' W' : g_M), m_X4_advance M = some M' ∧ m_X9_nextToken W = some W' ∧ NXT L a b M W s q T N M' W' := by
  obtain ⟨⟨hL, has, hsL, h2, h4⟩, hb, ht, eA, eN, v0, v1, ⟨v5, v6⟩, u0, u1, u7, u8⟩ := h
  have V2 : V 23 2 = L := by rw [v1 2 (by omega) (by omega)]; exact h2
  have U4 : U 0 4 = L := by rw [u1 4 (by omega) (by omega)]; exact h4
  have Vt : ∀ i, i < L → V 24 i = b i := fun i hi => by rw [v0 24 (by omega)]; exact (ht i hi).1
  have Ut : ∀ i, i < L → U 4 i = b i := fun i hi => by rw [u0 4 (by omega)]; exact (ht i hi).2
  obtain ⟨q, q1, q2, q3, q4⟩ := span isD b L (L - s) s (by omega)
  have sq : s < q := by
    by_cases z : q = s
    · rcases q4 with q4 | q4
      · omega
      · rw [z] at q4; exact absurd cd q4
    · omega
  have cD := c_digit (M := g_wr V 23 7 40) (s0 := s) hL q2 (fun i hi => ⟨(hb i hi).1, (hb i hi).2, by rw [a_cell _ (by omega)]; exact Vt i hi⟩) (by rw [a_ne _ (by omega)]; exact V2) q4 q3 (q - s) 0 g_fuel (by omega) (by unfold g_fuel; omega)
  have c00 : cn (fun i => b (s + i)) 0 = 0 := rfl
  have cu : g_wr (g_wr (g_wr V 23 7 40) 23 8 0) 23 5 ((s + 0 : Nat) : Int) = g_wr (g_wr V 23 7 40) 23 8 0 := wr_id _ (by rw [a_ne _ (by omega), a_ne _ (by omega)]; exact v5)
  rw [c00, cu] at cD
  have rD := r_digit (W := g_wr U 0 9 1) (s0 := s) hL q2 hb (by rw [a_ne _ (by omega)]; exact U4) (fun i hi => by rw [a_cell _ (by omega)]; exact Ut i hi) q4 q3 (q - s) 0 g_fuel (by omega) (by unfold g_fuel; omega)
  have r00 : rn (fun i => b (s + i)) 0 = 0 := rfl
  have ru : g_wr (g_wr (g_wr U 0 9 1) 0 10 0) 0 7 ((s + 0 : Nat) : Int) = g_wr (g_wr U 0 9 1) 0 10 0 := wr_id _ (by rw [a_ne _ (by omega), a_ne _ (by omega)]; exact u7)
  rw [r00, ru] at rD
  have nr := num_rel (f := fun i => b (s + i)) (q - s) (fun i hi => q3 _ (by omega) (by omega))
  generalize cn (fun i => b (s + i)) (q - s) = N at cD nr
  generalize rn (fun i => b (s + i)) (q - s) = R at rD nr
  refine ⟨s, q, 40, N, g_wr (g_wr (g_wr V 23 7 40) 23 8 N) 23 5 q, g_wr (g_wr (g_wr U 0 9 1) 0 10 R) 0 7 q, ?_, ?_, NX_mk h2 h4 ht has q1 q2 (fun _ => sq) (fun x hx => by rw [a_cell _ hx, a_cell _ hx, a_cell _ hx, v0 x hx]) (fun j j1 j2 j3 j4 => by rw [a_ne _ (by omega), a_ne _ (by omega), a_ne _ (by omega), v1 j j1 j2]) (fun x hx => by rw [a_cell _ hx, a_cell _ hx, a_cell _ hx, u0 x hx]) (fun j j1 j2 j3 j4 j5 => by rw [a_ne _ (by omega), a_ne _ (by omega), a_ne _ (by omega), u1 j j1 j2]) (wr_at _ _ _ _) (wr_at _ _ _ _) (by rw [a_ne _ (by omega), a_ne _ (by omega), a_ne _ (by omega)]; exact v6) (by rw [a_ne _ (by omega), a_ne _ (by omega), a_ne _ (by omega)]; exact u8) (by rw [a_ne _ (by omega), a_ne _ (by omega)]; exact wr_at _ _ _ _) (fun _ => by rw [a_ne _ (by omega)]; exact wr_at _ _ _ _) (Or.inr (Or.inl ⟨rfl, by rw [a_ne _ (by omega), a_ne _ (by omega)]; exact wr_at _ _ _ _, nr.1, by rw [a_ne _ (by omega), wr_at]; exact nr.2⟩))⟩
  · rw [eA]
    refine advT_num hL hs v5 V2 (Vt s hs) (hb s hs) cl cd ?_
    unfold m_X4_scanNumber
    rw [nm_eq, nm_eq]
    exact cD
  · rw [eN]; exact nexT_num u7 (q_byte hL U4 Ut hs) (hb s hs) cd rD
theorem bn_sign {L a s : Nat} {b : Nat → Int} {M W V U : g_M} (h : AT L a s b M W V U) (hs : s < L) (cl : ¬ isL (b s)) (cd : ¬ isD (b s)) : ∃ (s q T : Nat) (N : Int) (M' W' : g_M), m_X4_advance M = some M' ∧ m_X9_nextToken W = some W' ∧ NXT L a b M W s q T N M' W' := by
  obtain ⟨⟨hL, has, hsL, h2, h4⟩, hb, ht, eA, eN, v0, v1, ⟨v5, v6⟩, u0, u1, u7, u8⟩ := h
  have V2 : V 23 2 = L := by rw [v1 2 (by omega) (by omega)]; exact h2
  have U4 : U 0 4 = L := by rw [u1 4 (by omega) (by omega)]; exact h4
  have Vt : ∀ i, i < L → V 24 i = b i := fun i hi => by rw [v0 24 (by omega)]; exact (ht i hi).1
  have Ut : ∀ i, i < L → U 4 i = b i := fun i hi => by rw [u0 4 (by omega)]; exact (ht i hi).2
  have bs := hb s hs
  have qb := q_byte hL U4 Ut hs
  obtain ⟨-, sg⟩ := sg_c bs
  have nb : ∀ t : Int, s + 1 < L → m_X9_byteAt ((s : Int) + 1) (g_wr (g_wr U 0 9 t) 0 7 ((s : Int) + 1)) = some (b (s + 1)) := fun t hh => by
    have := q_byte (b := b) (V := g_wr (g_wr U 0 9 t) 0 7 ((s : Int) + 1)) (i := s + 1) hL (by rw [a_ne _ (by omega), a_ne _ (by omega)]; exact U4) (fun i hi => by rw [a_cell _ (by omega), a_cell _ (by omega)]; exact Ut i hi) hh
    rw [Int.natCast_add, Int.natCast_one] at this
    exact this
  have ne : ∀ t : Int, s + 1 = L → m_X9_byteAt ((s : Int) + 1) (g_wr (g_wr U 0 9 t) 0 7 ((s : Int) + 1)) = some (-1) := fun t hh => by
    have := q_byteE (V := g_wr (g_wr U 0 9 t) 0 7 ((s : Int) + 1)) hL (by rw [a_ne _ (by omega), a_ne _ (by omega)]; exact U4)
    rw [← hh, Int.natCast_add, Int.natCast_one] at this
    exact this
  have one : ∀ (T : Nat) (t : Int), ((T = 42 ∧ x_si 1 (b s) = -1) ∨ (50 ≤ T ∧ T ≤ 61 ∧ x_si 1 (b s) = T - 50)) → ((m_X9_isSign (b s) = some 0 ∧ t = 3) ∨ (m_X9_isSign (b s) = some 1 ∧ t = b s)) → ((T = 42 ∧ (t = 3 ∨ t = 58)) ∨ (50 ≤ T ∧ T ≤ 63 ∧ t = sgn T)) → (s + 1 = L ∨ (s + 1 < L ∧ (b (s + 1) ≠ 61 ∨ (T ≠ 50 ∧ T ≠ 51)))) → ((T ≠ 50 ∧ T ≠ 51) → b s ≠ 60 ∧ b s ≠ 62) → ∃ (s q T : Nat) (N : Int) (M' W' : g_M), m_X4_advance M = some M' ∧ m_X9_nextToken W = some W' ∧ NXT L a b M W s q T N M' W' := by
    intro T t p1 p2 p3 p4 p5
    refine ⟨s, s + 1, T, 0, g_wr (g_wr V 23 7 T) 23 5 ((s : Int) + 1), g_wr (g_wr U 0 9 t) 0 7 ((s : Int) + 1), ?_, ?_, NX_mk h2 h4 ht has (by omega) (by omega) (fun _ => by omega) (fun x hx => by rw [a_cell _ hx, a_cell _ hx, v0 x hx]) (fun j j1 j2 j3 j4 => by rw [a_ne _ (by omega), a_ne _ (by omega), v1 j j1 j2]) (fun x hx => by rw [a_cell _ hx, a_cell _ hx, u0 x hx]) (fun j j1 j2 j3 j4 j5 => by rw [a_ne _ (by omega), a_ne _ (by omega), u1 j j1 j2]) (by rw [wr_at]; omega) (by rw [wr_at]; omega) (by rw [a_ne _ (by omega), a_ne _ (by omega)]; exact v6) (by rw [a_ne _ (by omega), a_ne _ (by omega)]; exact u8) (by rw [a_ne _ (by omega)]; exact wr_at _ _ _ _) (fun h => ?_) ?_⟩
    · rw [eA]
      refine advT_sign hL hs v5 V2 (Vt s hs) bs cl cd (c_sign1 hL hs v5 V2 (Vt s hs) bs p1 ?_)
      rcases p4 with p4 | ⟨p4, p6⟩
      · exact Or.inl p4
      · exact Or.inr ⟨b (s + 1), Vt _ p4, (hb _ p4).1, (hb _ p4).2, p6⟩
    · rw [eN]
      refine nexT_sign1 (by omega) u7 qb bs cl cd p2 ?_
      rcases p4 with p4 | ⟨p4, p6⟩
      · exact Or.inr ⟨-1, by omega, by omega, by omega, ne t p4⟩
      · rcases p6 with p6 | p6
        · exact Or.inr ⟨b (s + 1), p6, by have := (hb _ p4).1; omega, (hb _ p4).2, nb t p4⟩
        · exact Or.inl (p5 p6)
    · rcases p3 with ⟨a1, -⟩ | ⟨a1, -⟩ <;> omega
    · have e9 : g_wr (g_wr U 0 9 t) 0 7 ((s : Int) + 1) 0 9 = t := by rw [a_ne _ (by omega)]; exact wr_at _ _ _ _
      refine Or.inr (Or.inr (Or.inr ?_))
      rw [e9]
      exact p3
  rcases sg with ⟨v, g1, g2, g3, g4, g5, g6⟩ | ⟨g1, g2, g3, t, g4, g5⟩
  rotate_left
  · refine one 42 t (Or.inl ⟨rfl, g1⟩) g5 (Or.inl ⟨rfl, g4⟩) ?_ (fun _ => ⟨g2, g3⟩)
    by_cases z : s + 1 = L
    · exact Or.inl z
    · exact Or.inr ⟨by omega, Or.inr ⟨by omega, by omega⟩⟩
  · by_cases z : s + 1 < L ∧ b (s + 1) = 61 ∧ (v = 0 ∨ v = 1)
    · obtain ⟨z1, z2, z3⟩ := z
      obtain ⟨T, hT, hT2⟩ : ∃ T : Nat, T = 50 + v ∧ ((T = 50 ∧ x_si 1 (b s) = 0) ∨ (T = 51 ∧ x_si 1 (b s) = 1)) := ⟨50 + v, rfl, by omega⟩
      obtain ⟨R, hR, hR2⟩ : ∃ R : Nat, R = 4 + v ∧ ((R = 4 ∧ b s = 60) ∨ (R = 5 ∧ b s = 62)) := ⟨4 + v, rfl, by
        rcases z3 with z3 | z3
        · exact Or.inl ⟨by omega, g5.2 z3⟩
        · exact Or.inr ⟨by omega, g6.2 z3⟩⟩
      refine ⟨s, s + 2, T + 12, 0, g_wr (g_wr (g_wr (g_wr V 23 7 T) 23 5 ((s : Int) + 1)) 23 7 ((T + 12 : Nat) : Int)) 23 5 ((s : Int) + 1 + 1), g_wr (g_wr (g_wr (g_wr U 0 9 (b s)) 0 7 ((s : Int) + 1)) 0 9 R) 0 7 ((s : Int) + 1 + 1), ?_, ?_, NX_mk h2 h4 ht has (by omega) (by omega) (fun _ => by omega) (fun x hx => by rw [a_cell _ hx, a_cell _ hx, a_cell _ hx, a_cell _ hx, v0 x hx]) (fun j j1 j2 j3 j4 => by rw [a_ne _ (by omega), a_ne _ (by omega), a_ne _ (by omega), a_ne _ (by omega), v1 j j1 j2]) (fun x hx => by rw [a_cell _ hx, a_cell _ hx, a_cell _ hx, a_cell _ hx, u0 x hx]) (fun j j1 j2 j3 j4 j5 => by rw [a_ne _ (by omega), a_ne _ (by omega), a_ne _ (by omega), a_ne _ (by omega), u1 j j1 j2]) (by rw [wr_at]; omega) (by rw [wr_at]; omega) (by rw [a_ne _ (by omega), a_ne _ (by omega), a_ne _ (by omega), a_ne _ (by omega)]; exact v6) (by rw [a_ne _ (by omega), a_ne _ (by omega), a_ne _ (by omega), a_ne _ (by omega)]; exact u8) (by rw [a_ne _ (by omega)]; exact wr_at _ _ _ _) (fun h => by omega) (Or.inr (Or.inr (Or.inr (Or.inr ⟨by omega, by omega, ?_⟩))))⟩
      · rw [eA]
        exact advT_sign hL hs v5 V2 (Vt s hs) bs cl cd (c_sign2 hL z1 v5 V2 (Vt s hs) bs hT2 (by rw [Vt _ z1]; exact z2))
      · rw [eN]
        exact nexT_sign2 (by omega) u7 qb hR2 g4 (by rw [nb (b s) z1, z2])
      · rw [a_ne _ (by omega), wr_at, hT, hR]
        rcases z3 with z3 | z3
        · rw [z3]; rfl
        · rw [z3]; rfl
    · refine one (50 + v) (b s) (Or.inr ⟨by omega, by omega, by omega⟩) (Or.inr ⟨g4, rfl⟩) (Or.inr ⟨by omega, by omega, g3.symm⟩) ?_ (fun h => ⟨fun e => ?_, fun e => ?_⟩)
      · by_cases z1 : s + 1 = L
        · exact Or.inl z1
        · refine Or.inr ⟨by omega, ?_⟩
          by_cases z2 : b (s + 1) = 61
          · by_cases z3 : v = 0 ∨ v = 1
            · exact absurd ⟨by omega, z2, z3⟩ z
            · exact Or.inr ⟨by omega, by omega⟩
          · exact Or.inl z2
      · have := g5.1 e; omega
      · have := g6.1 e; omega
theorem both_next {L a : Nat} {b : Nat → Int} {M W : g_M} (hL : L ≤ 300) (hb : ∀ i, i < L → 0 ≤ b i ∧ b i ≤ 255) (ha : a ≤ L) (h2 : M 23 2 = L) (h4 : W 0 4 = L) (ht : ∀ i, i < L → M 24 i = b i ∧ W 4 i = b i) (h5 : M 23 5 = a) (h7 : W 0 7 = a) : ∃ (s q T : Nat) (N : Int) (M' W' : g_M), m_X4_advance M = some M' ∧ m_X9_nextToken W = some W' ∧ NXT L a b M W s q T N M' W' := by
  obtain ⟨s, V, U, h⟩ := AT_ex hL hb ha h2 h4 ht h5 h7
  by_cases c0 : s = L
  · exact bn_end h c0
  · have hs : s < L := by have := h.1.2.2.1; omega
    rcases Classical.em (isL (b s)) with cl | cl
    · exact bn_word h hs cl
    · rcases Classical.em (isD (b s)) with cd | cd
      · exact bn_num h hs cl cd
      · exact bn_sign h hs cl cd
