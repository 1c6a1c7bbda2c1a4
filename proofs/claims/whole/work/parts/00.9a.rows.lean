/-! the roster: the reference's rows -/
/-- s: the row that is laid, -1 where none is; a person on p has it as s says (counted if it sits), those behind p have none -/
def Row (k P : Nat) (W0 : g_M) (p : Nat) (s : Nat → Int) (V : g_M) : Prop := (∀ a, a ≠ 15 → a ≠ 17 → V a = W0 a) ∧ p ≤ P ∧ (∀ q, q < 8 → V 15 q = s q) ∧ (∀ q, q < p → 0 ≤ s q ∧ s q < 5) ∧ (∀ q, p < q → q < P → s q = -1) ∧ (p < P → -1 ≤ s p ∧ s p < 5) ∧ (∀ e, e < 5 → occ (fun q => (s q).toNat) e p ≤ k) ∧ ∀ e, e < 5 → V 17 e = ((occ (fun q => (s q).toNat) e p + (if p < P ∧ s p = (e : Int) then 1 else 0) : Nat) : Int)
/-- what is still to come: rows that lie behind what is laid -/
def Fut (p P : Nat) (s : Nat → Int) (B : Nat → Nat) : Prop := ((∀ q, q < p → s q = (B q : Int)) ∧ (p < P → s p < (B p : Int))) ∨ ∃ j, j < p ∧ (∀ q, q < j → s q = (B q : Int)) ∧ s j < (B j : Int)
theorem occ_mono {A : Nat → Nat} {e : Nat} : ∀ d p, occ A e p ≤ occ A e (p + d) := by
  intro d
  induction d with
  | zero => exact fun p => Nat.le_refl _
  | succ d ih => intro p; have := ih p; rw [show p + (d + 1) = p + d + 1 by omega, occ_s]; omega
/-- the seat that comes next: from i on the first with room -/
theorem q_seat {Q : Int × g_M → Prop} {k : Nat} {V : g_M} {o : Nat → Nat} (h : ∀ e, e < 5 → V 17 e = (o e : Int)) (ho : ∀ e, e < 5 → o e ≤ k) (hk : k ≤ 8) (x23 : Int) (kc : Int → Option (Int × g_M)) {i : Nat} (hi : i ≤ 5) (hc : ∀ e : Nat, i ≤ e → e ≤ 5 → (∀ x, i ≤ x → x < e → o x = k) → (e < 5 → o e < k) → Ok (kc e) Q) : Ok (m_X9_isNextRow_L43 k x23 V kc g_fuel i) Q := by
  refine Ok_for 5 (fun F i (_ : Unit) => m_X9_isNextRow_L43 k x23 V kc F i) (fun j _ => i ≤ j ∧ ∀ x, i ≤ x → x < j → o x = k) (fun F u hh => ?_) (fun j F u hj hh kk => ?_) i g_fuel () hi (by unfold g_fuel; omega) ⟨Nat.le_refl _, fun x h1 h2 => by omega⟩
  · show Ok (m_X9_isNextRow_L43 k x23 V kc (F + 1) _) Q
    rw [m_X9_isNextRow_L43]
    simp (disch := omega) only [↓reduceIte, ↓nm_eq, ↓jn_eq, ↓c_within, ↓c_isIn, ↓c_isScene, ↓c_isPlace, ↓c_isCue, ↓c_isDigit, ↓d_isScene, ↓d_isAny, ↓ta_pb1, ↓ta_pb0, ↓ta_pb1', ↓ta_pb0', ta_lt, ta_nlt, ta_le, ta_nle, ta_eq, ta_neq, ta_nne, ta_ne, gs_id, a_gd01, a_gdT, or_true, true_or, bd_some, bW_sm, a_gd, a_ne, a_rd, Int.toNat_natCast, Int.toNat_add, Int.toNat_mul, Int.reduceToNat, a_gdp, a_cell, and_self, and_true, true_and]
    exact hc 5 hh.1 (Nat.le_refl _) hh.2 (fun z => by omega)
  · show Ok (m_X9_isNextRow_L43 k x23 V kc (F + 1) _) Q
    have e := h j hj
    have b := ho j hj
    rw [m_X9_isNextRow_L43]
    by_cases c : o j = k
    · simp (disch := omega) only [↓reduceIte, ↓nm_eq, ↓jn_eq, ↓c_within, ↓c_isIn, ↓c_isScene, ↓c_isPlace, ↓c_isCue, ↓c_isDigit, ↓d_isScene, ↓d_isAny, ↓ta_pb1, ↓ta_pb0, ↓ta_pb1', ↓ta_pb0', ta_lt, ta_nlt, ta_le, ta_nle, ta_eq, ta_neq, ta_nne, ta_ne, gs_id, a_gd01, a_gdT, or_true, true_or, bd_some, bW_sm, a_gd, a_ne, a_rd, Int.toNat_natCast, Int.toNat_add, Int.toNat_mul, Int.reduceToNat, a_gdp, a_cell, and_self, and_true, true_and, e]
      refine kk () ⟨by omega, fun x h1 h2 => ?_⟩
      by_cases z : x = j
      · subst z; exact c
      · exact hh.2 x h1 (by omega)
    · simp (disch := omega) only [↓reduceIte, ↓nm_eq, ↓jn_eq, ↓c_within, ↓c_isIn, ↓c_isScene, ↓c_isPlace, ↓c_isCue, ↓c_isDigit, ↓d_isScene, ↓d_isAny, ↓ta_pb1, ↓ta_pb0, ↓ta_pb1', ↓ta_pb0', ta_lt, ta_nlt, ta_le, ta_nle, ta_eq, ta_neq, ta_nne, ta_ne, gs_id, a_gd01, a_gdT, or_true, true_or, bd_some, bW_sm, a_gd, a_ne, a_rd, Int.toNat_natCast, Int.toNat_add, Int.toNat_mul, Int.reduceToNat, a_gdp, a_cell, and_self, and_true, true_and, e]
      exact hc j hh.1 (by omega) hh.2 (fun _ => by omega)
/-- what is to come, and can be -/
def FutF (k p P : Nat) (s : Nat → Int) (B : Nat → Nat) : Prop := Fea k P B ∧ Fut p P s B
theorem Fut_fwd {k P : Nat} {p : Nat} (hp : p < P) {s s' : Nat → Int} (hs : ∀ q, q ≠ p → s' q = s q) {e : Nat} (he : s p < (e : Int)) (hs' : s' p = (e : Int)) (hn : p + 1 < P → s (p + 1) = -1) (full : ∀ x : Nat, s p < (x : Int) → x < e → occ (fun q => (s q).toNat) x p = k) (B : Nat → Nat) (hB : Fea k P B) (h : Fut p P s B) : Fut (p + 1) P s' B := by
  rcases h with ⟨h1, h2⟩ | ⟨j, h1, h2, h3⟩
  · have h2 := h2 hp
    by_cases c : e ≤ B p
    · by_cases d : e = B p
      · left
        refine ⟨fun q hq => ?_, fun hp1 => by rw [hs _ (by omega), hn hp1]; omega⟩
        by_cases z : q = p
        · subst z; rw [hs', d]
        · rw [hs q z]; exact h1 q (by omega)
      · right
        exact ⟨p, by omega, fun q hq => by rw [hs q (by omega)]; exact h1 q hq, by rw [hs']; omega⟩
    · exfalso
      have f := full (B p) h2 (by omega)
      have o1 : occ B (B p) (p + 1) = k + 1 := by
        rw [occ_s, if_pos rfl, ← f]
        rw [occ_cg (A := B) (B := fun q => (s q).toNat) p (fun q hq => by have := h1 q hq; omega)]
      have o2 := hB.2 (B p) (hB.1 p hp)
      have o3 := occ_mono (A := B) (e := B p) (P - (p + 1)) (p + 1)
      rw [show p + 1 + (P - (p + 1)) = P by omega] at o3
      omega
  · right
    exact ⟨j, by omega, fun q hq => by rw [hs q (by omega)]; exact h2 q hq, by rw [hs j (by omega)]; exact h3⟩
theorem Fut_bwd {k P : Nat} {p : Nat} (hp : p + 1 < P) {s s' : Nat → Int} (hs : ∀ q, q ≠ p + 1 → s' q = s q) (full : ∀ x : Nat, s (p + 1) < (x : Int) → x < 5 → occ (fun q => (s q).toNat) x (p + 1) = k) (B : Nat → Nat) (hB : Fea k P B) (h : Fut (p + 1) P s B) : Fut p P s' B := by
  rcases h with ⟨h1, h2⟩ | ⟨j, h1, h2, h3⟩
  · have h2 := h2 hp
    exfalso
    have b5 := hB.1 (p + 1) hp
    have f := full (B (p + 1)) h2 b5
    have o1 : occ B (B (p + 1)) (p + 1 + 1) = k + 1 := by
      rw [occ_s, if_pos rfl, ← f]
      rw [occ_cg (A := B) (B := fun q => (s q).toNat) (p + 1) (fun q hq => by have := h1 q hq; omega)]
    have o2 := hB.2 (B (p + 1)) b5
    have o3 := occ_mono (A := B) (e := B (p + 1)) (P - (p + 1 + 1)) (p + 1 + 1)
    rw [show p + 1 + 1 + (P - (p + 1 + 1)) = P by omega] at o3
    omega
  · by_cases z : j = p
    · subst z
      left
      exact ⟨fun q hq => by rw [hs q (by omega)]; exact h2 q hq, fun _ => by rw [hs j (by omega)]; exact h3⟩
    · right
      exact ⟨j, by omega, fun q hq => by rw [hs q (by omega)]; exact h2 q hq, by rw [hs j (by omega)]; exact h3⟩
theorem Fut_fwd' {P : Nat} {p : Nat} (hp : p < P) {s s' : Nat → Int} (hs : ∀ q, q ≠ p → s' q = s q) {e : Nat} (he : s p < (e : Int)) (hs' : s' p = (e : Int)) (B : Nat → Nat) (h : Fut (p + 1) P s' B) : Fut p P s B := by
  rcases h with ⟨h1, -⟩ | ⟨j, h1, h2, h3⟩
  · left
    refine ⟨fun q hq => by rw [← hs q (by omega)]; exact h1 q (by omega), fun _ => ?_⟩
    have := h1 p (by omega)
    omega
  · by_cases z : j = p
    · subst z
      left
      exact ⟨fun q hq => by rw [← hs q (by omega)]; exact h2 q hq, fun _ => by omega⟩
    · right
      exact ⟨j, by omega, fun q hq => by rw [← hs q (by omega)]; exact h2 q hq, by rw [← hs j z]; exact h3⟩
theorem Fut_bwd' {P : Nat} {p : Nat} (hp : p + 1 < P) {s s' : Nat → Int} (hs : ∀ q, q ≠ p + 1 → s' q = s q) (B : Nat → Nat) (h : Fut p P s' B) : Fut (p + 1) P s B := by
  rcases h with ⟨h1, h2⟩ | ⟨j, h1, h2, h3⟩
  · right
    exact ⟨p, by omega, fun q hq => by rw [← hs q (by omega)]; exact h1 q hq, by rw [← hs p (by omega)]; exact h2 (by omega)⟩
  · right
    exact ⟨j, by omega, fun q hq => by rw [← hs q (by omega)]; exact h2 q hq, by rw [← hs j (by omega)]; exact h3⟩
/-- at the first there is none behind -/
theorem Fut_none {k P : Nat} (hp : 0 < P) {s : Nat → Int} (full : ∀ x : Nat, s 0 < (x : Int) → x < 5 → occ (fun q => (s q).toNat) x 0 = k) (hk : 1 ≤ k) (B : Nat → Nat) (hB : Fea k P B) (h : Fut 0 P s B) : False := by
  rcases h with ⟨h1, h2⟩ | ⟨j, h1, -⟩
  · have b5 := hB.1 0 hp
    have f := full (B 0) (h2 hp) b5
    have : occ (fun q => (s q).toNat) (B 0) 0 = 0 := rfl
    omega
  · omega
def NxQ (k P : Nat) (W0 : g_M) (s0 : Nat → Int) (p0 : Nat) (r : Int × g_M) : Prop := (∀ a, a ≠ 15 → a ≠ 17 → r.2 a = W0 a) ∧ ((r.1 = 1 ∧ ∃ s : Nat → Int, Row k P W0 P s r.2 ∧ (∀ B, FutF k p0 P s0 B → Fut P P s B) ∧ ∀ B, Fut P P s B → Fut p0 P s0 B) ∨ (r.1 = 0 ∧ ∀ B, ¬ FutF k p0 P s0 B))
theorem Row_room {k P : Nat} {W0 : g_M} {p : Nat} {s : Nat → Int} {V : g_M} (h : Row k P W0 p s V) (hp : p < P) (hPk : P ≤ 5 * k) : ∃ e, e < 5 ∧ occ (fun q => (s q).toNat) e p < k := by
  apply Classical.byContradiction
  intro no
  have a := occ_sum (fun q => (s q).toNat) p (fun q hq => by have := h.2.2.2.1 q hq; omega)
  have g : ∀ e, e < 5 → k ≤ occ (fun q => (s q).toNat) e p := fun e he => Classical.byContradiction fun z => no ⟨e, he, by omega⟩
  rw [sm_s, sm_s, sm_s, sm_s, sm_s, sm_0] at a
  have g0 := g 0 (by omega)
  have g1 := g 1 (by omega)
  have g2 := g 2 (by omega)
  have g3 := g 3 (by omega)
  have g4 := g 4 (by omega)
  omega
def In (k P : Nat) (W0 : g_M) (s0 : Nat → Int) (p0 n : Nat) (x : Int × g_M) : Prop := (∃ (p : Nat) (s : Nat → Int), x.1 = (p : Int) ∧ Row k P W0 p s x.2 ∧ (∀ B, FutF k p0 P s0 B → Fut p P s B) ∧ (∀ B, Fut p P s B → Fut p0 P s0 B) ∧ n = if p = P then 0 else if s p = -1 then P - p else p + P + 2) ∨ (x.1 = -1 ∧ (∀ a, a ≠ 15 → a ≠ 17 → x.2 a = W0 a) ∧ ∀ B, ¬ FutF k p0 P s0 B)
theorem q_next {k P : Nat} (hk : 1 ≤ k ∧ k ≤ 8) (hP : P ≤ 8) (hPk : P ≤ 5 * k) {W0 W : g_M} (h0 : W0 1 0 = P) {p0 : Nat} {s0 : Nat → Int} (hr : Row k P W0 p0 s0 W) : Ok (m_X9_isNextRow k p0 W) (NxQ k P W0 s0 p0) := by
  unfold m_X9_isNextRow
  rw [nm_eq]
  refine Ok_loop (fun f (x : Int × g_M) => m_X9_isNextRow_L2 k (fun (x43 : Int) (M44 : g_M) => if gs x43 < 0 then (some (0, M44)) else (some (1, M44))) f x.1 x.2) (In k P W0 s0 p0) (fun n x f h kk => ?_) (if p0 = P then 0 else if s0 p0 = -1 then P - p0 else p0 + P + 2) g_fuel ((p0 : Int), W) ?_ ?_
  rotate_left
  · have := hr.2.1
    unfold g_fuel
    by_cases c : p0 = P
    · rw [if_pos c]; omega
    · rw [if_neg c]
      by_cases d : s0 p0 = -1
      · rw [if_pos d]; omega
      · rw [if_neg d]; omega
  · exact Or.inl ⟨p0, s0, rfl, hr, fun B hB => hB.2, fun B hB => hB, rfl⟩
  · obtain ⟨x, V⟩ := x
    show Ok (m_X9_isNextRow_L2 k _ (f + 1) x V) _
    rw [m_X9_isNextRow_L2]
    rcases h with ⟨p, s, h1, h2, h3, h3b, h4⟩ | ⟨h1, h2, h3⟩
    rotate_left
    · dsimp only at h1 h2
      subst h1
      simp (disch := omega) only [↓reduceIte, ↓nm_eq, ↓jn_eq, ↓c_within, ↓c_isIn, ↓c_isScene, ↓c_isPlace, ↓c_isCue, ↓c_isDigit, ↓d_isScene, ↓d_isAny, ↓ta_pb1, ↓ta_pb0, ↓ta_pb1', ↓ta_pb0', ta_lt, ta_nlt, ta_le, ta_nle, ta_eq, ta_neq, ta_nne, ta_ne, gs_id, a_gd01, a_gdT, or_true, true_or, bd_some, bW_sm, a_gd, a_ne, a_rd, Int.toNat_natCast, Int.toNat_add, Int.toNat_mul, Int.reduceToNat, a_gdp, a_cell, and_self, and_true, true_and]
      exact Ok_some ⟨h2, Or.inr ⟨rfl, h3⟩⟩
    · dsimp only at h1 h2
      subst h1
      have hr2 := h2
      obtain ⟨r1, r2, r3, r4, r5, r6, r7, r8⟩ := h2
      have e0 : V 1 0 = P := by rw [r1 1 (by omega) (by omega)]; exact h0
      by_cases c : p = P
      · simp (disch := omega) only [↓reduceIte, ↓nm_eq, ↓jn_eq, ↓c_within, ↓c_isIn, ↓c_isScene, ↓c_isPlace, ↓c_isCue, ↓c_isDigit, ↓d_isScene, ↓d_isAny, ↓ta_pb1, ↓ta_pb0, ↓ta_pb1', ↓ta_pb0', ta_lt, ta_nlt, ta_le, ta_nle, ta_eq, ta_neq, ta_nne, ta_ne, gs_id, a_gd01, a_gdT, or_true, true_or, bd_some, bW_sm, a_gd, a_ne, a_rd, Int.toNat_natCast, Int.toNat_add, Int.toNat_mul, Int.reduceToNat, a_gdp, a_cell, and_self, and_true, true_and, e0]
        subst c
        exact Ok_some ⟨r1, Or.inl ⟨rfl, s, hr2, h3, h3b⟩⟩
      · have hp : p < P := by omega
        have r6 := r6 hp
        rw [if_neg c] at h4
        have kkd : ∀ (p' : Nat) (s' : Nat → Int) (V'' : g_M), (if p' = P then 0 else if s' p' = -1 then P - p' else p' + P + 2) < n → Row k P W0 p' s' V'' → (∀ B, FutF k p0 P s0 B → Fut p' P s' B) → (∀ B, Fut p' P s' B → Fut p0 P s0 B) → Ok (m_X9_isNextRow_L2 k (fun (x43 : Int) (M44 : g_M) => if gs x43 < 0 then (some (0, M44)) else (some (1, M44))) f (p' : Int) V'') (NxQ k P W0 s0 p0) := fun p' s' V'' a b c d => kk _ ((p' : Int), V'') a (Or.inl ⟨p', s', rfl, b, c, d, rfl⟩)
        have kkn : ∀ V'' : g_M, 0 < n → (∀ a, a ≠ 15 → a ≠ 17 → V'' a = W0 a) → (∀ B, ¬ FutF k p0 P s0 B) → Ok (m_X9_isNextRow_L2 k (fun (x43 : Int) (M44 : g_M) => if gs x43 < 0 then (some (0, M44)) else (some (1, M44))) f (-1) V'') (NxQ k P W0 s0 p0) := fun V'' a b c => kk 0 (-1, V'') a (Or.inr ⟨rfl, b, c⟩)
        clear kk
        have body : ∀ V' : g_M, (∀ a, a ≠ 15 → a ≠ 17 → V' a = W0 a) → (∀ q, q < 8 → V' 15 q = s q) → (∀ e, e < 5 → V' 17 e = (occ (fun q => (s q).toNat) e p : Int)) → Ok (m_X9_isNextRow_L43 k p V' (fun (x29 : Int) => g_jn (fun (x31 : Int) (x32 : Int) => g_jn (fun (M36 : g_M) => g_jn (fun (x38 : Int) (x39 : Int) => g_nm (x39 + x38) (fun x40 => m_X9_isNextRow_L2 k (fun (x43 : Int) (M44 : g_M) => if gs x43 < 0 then (some (0, M44)) else (some (1, M44))) f x40 M36)) (fun J37 => if gs 5 ≤ gs x29 then (J37 (-1) p) else (J37 1 p))) (fun J33 => g_gd (g_ix x32 8) (g_nm (g_wr V' 15 (gs x32).toNat x31) (fun M34 => if gs 5 ≤ gs x29 then (J33 M34) else (g_gd (g_ix x29 5) (g_gd (g_ix x29 5) (g_nm (g_wr M34 17 (gs x29).toNat ((M34 17 (gs x29).toNat) + 1)) (fun M35 => J33 M35)))))))) (fun J30 => if gs 5 ≤ gs x29 then (J30 (-1) p) else (J30 x29 p))) g_fuel (s p + 1)) (NxQ k P W0 s0 p0) := by
          intro V' v1 v2 v3
          obtain ⟨i, hi⟩ : ∃ i : Nat, s p + 1 = i := ⟨(s p + 1).toNat, by omega⟩
          rw [hi]
          refine q_seat v3 r7 hk.2 p _ (by omega) (fun e e1 e2 e3 e4 => ?_)
          by_cases c5 : e = 5
          · subst c5
            have full : ∀ x : Nat, s p < (x : Int) → x < 5 → occ (fun q => (s q).toNat) x p = k := fun x a b => e3 x (by omega) b
            obtain ⟨s', hs'⟩ : ∃ s' : Nat → Int, s' = fun q => if q = p then -1 else s q := ⟨_, rfl⟩
            have sp : s' p = -1 := by rw [hs']; exact if_pos rfl
            have sn : ∀ q, q ≠ p → s' q = s q := fun q hq => by rw [hs']; exact if_neg hq
            clear hs'
            by_cases c0 : p = 0
            · subst c0
              have none : ∀ B, ¬ FutF k p0 P s0 B := fun B hB => Fut_none hp full hk.1 B hB.1 (h3 B hB)
              simp (disch := omega) only [↓reduceIte, ↓nm_eq, ↓jn_eq, ↓c_within, ↓c_isIn, ↓c_isScene, ↓c_isPlace, ↓c_isCue, ↓c_isDigit, ↓d_isScene, ↓d_isAny, ↓ta_pb1, ↓ta_pb0, ↓ta_pb1', ↓ta_pb0', ta_lt, ta_nlt, ta_le, ta_nle, ta_eq, ta_neq, ta_nne, ta_ne, gs_id, a_gd01, a_gdT, or_true, true_or, bd_some, bW_sm, a_gd, a_ne, a_rd, Int.toNat_natCast, Int.toNat_add, Int.toNat_mul, Int.reduceToNat, a_gdp, a_cell, and_self, and_true, true_and]
              refine kkn (g_wr V' 15 0 (-1)) ?_ (fun a a1 a2 => by rw [a_cell _ a1]; exact v1 a a1 a2) none
              by_cases d : s 0 = -1
              · rw [if_pos d] at h4; omega
              · rw [if_neg d] at h4; omega
            · obtain ⟨p', rfl⟩ : ∃ p', p = p' + 1 := ⟨p - 1, by omega⟩
              have ep : ((p' + 1 : Nat) : Int) + -1 = (p' : Int) := by omega
              have down : s (p' + 1) ≠ -1 := by
                intro z
                obtain ⟨x, x1, x2⟩ := Row_room hr2 hp hPk
                have := full x (by omega) x1
                omega
              rw [if_neg down] at h4
              have occ' : ∀ e, occ (fun q => (s' q).toNat) e p' = occ (fun q => (s q).toNat) e p' := fun e => occ_cg p' (fun q hq => by rw [sn q (by omega)])
              have r4' := r4 p' (by omega)
              simp (disch := omega) only [↓reduceIte, ↓nm_eq, ↓jn_eq, ↓c_within, ↓c_isIn, ↓c_isScene, ↓c_isPlace, ↓c_isCue, ↓c_isDigit, ↓d_isScene, ↓d_isAny, ↓ta_pb1, ↓ta_pb0, ↓ta_pb1', ↓ta_pb0', ta_lt, ta_nlt, ta_le, ta_nle, ta_eq, ta_neq, ta_nne, ta_ne, gs_id, a_gd01, a_gdT, or_true, true_or, bd_some, bW_sm, a_gd, a_ne, a_rd, Int.toNat_natCast, Int.toNat_add, Int.toNat_mul, Int.reduceToNat, a_gdp, a_cell, and_self, and_true, true_and, ep]
              refine kkd p' s' (g_wr V' 15 (p' + 1) (-1)) ?_ ⟨fun a a1 a2 => by rw [a_cell _ a1]; exact v1 a a1 a2, by omega, fun q hq => ?_, fun q hq => ?_, fun q q1 q2 => ?_, fun _ => ?_, fun x hx => ?_, fun x hx => ?_⟩ (fun B hB => ?_) (fun B hB => h3b B ?_)
              · rw [if_neg (by omega), sn p' (by omega), if_neg (by omega)]; omega
              · by_cases z : q = p' + 1
                · subst z; rw [wr_at, sp]
                · rw [a_ne _ (by omega), sn q z]; exact v2 q hq
              · rw [sn q (by omega)]; exact r4 q (by omega)
              · by_cases z : q = p' + 1
                · subst z; exact sp
                · rw [sn q z]; exact r5 q (by omega) q2
              · rw [sn p' (by omega)]; omega
              · rw [occ']
                have := r7 x hx
                have := occ_mono (A := fun q => (s q).toNat) (e := x) 1 p'
                omega
              · rw [a_ne _ (by omega), v3 x hx, occ', occ_s, sn p' (by omega)]
                by_cases z : (s p').toNat = x
                · rw [if_pos z, if_pos ⟨by omega, by omega⟩]
                · rw [if_neg z, if_neg (fun y => z (by omega))]
              · exact Fut_bwd hp (fun q hq => sn q hq) full B hB.1 (h3 B hB)
              · exact Fut_bwd' hp (fun q hq => sn q hq) B hB
          · have e4 := e4 (by omega)
            have e5 : e < 5 := by omega
            obtain ⟨s', hs'⟩ : ∃ s' : Nat → Int, s' = fun q => if q = p then (e : Int) else s q := ⟨_, rfl⟩
            have sp : s' p = (e : Int) := by rw [hs']; exact if_pos rfl
            have sn : ∀ q, q ≠ p → s' q = s q := fun q hq => by rw [hs']; exact if_neg hq
            clear hs'
            have occ' : ∀ x, occ (fun q => (s' q).toNat) x p = occ (fun q => (s q).toNat) x p := fun x => occ_cg p (fun q hq => by rw [sn q (by omega)])
            have oe : ∀ x, occ (fun q => (s' q).toNat) x (p + 1) = occ (fun q => (s q).toNat) x p + if e = x then 1 else 0 := by
              intro x
              rw [occ_s, occ', sp, Int.toNat_natCast]
            have ep : (p : Int) + 1 = ((p + 1 : Nat) : Int) := by omega
            have v3e := v3 e e5
            simp (disch := omega) only [↓reduceIte, ↓nm_eq, ↓jn_eq, ↓c_within, ↓c_isIn, ↓c_isScene, ↓c_isPlace, ↓c_isCue, ↓c_isDigit, ↓d_isScene, ↓d_isAny, ↓ta_pb1, ↓ta_pb0, ↓ta_pb1', ↓ta_pb0', ta_lt, ta_nlt, ta_le, ta_nle, ta_eq, ta_neq, ta_nne, ta_ne, gs_id, a_gd01, a_gdT, or_true, true_or, bd_some, bW_sm, a_gd, a_ne, a_rd, Int.toNat_natCast, Int.toNat_add, Int.toNat_mul, Int.reduceToNat, a_gdp, a_cell, and_self, and_true, true_and]
            rw [ep]
            refine kkd (p + 1) s' (g_wr (g_wr V' 15 p (e : Int)) 17 e (V' 17 e + 1)) ?_ ⟨fun a a1 a2 => by rw [a_cell _ a2, a_cell _ a1]; exact v1 a a1 a2, by omega, fun q hq => ?_, fun q hq => ?_, fun q q1 q2 => ?_, fun q1 => ?_, fun x hx => ?_, fun x hx => ?_⟩ (fun B hB => ?_) (fun B hB => h3b B ?_)
            · by_cases z : p + 1 = P
              · rw [if_pos z]
                by_cases d : s p = -1
                · rw [if_pos d] at h4; omega
                · rw [if_neg d] at h4; omega
              · have := r5 (p + 1) (by omega) (by omega)
                rw [if_neg z, sn (p + 1) (by omega), if_pos this]
                by_cases d : s p = -1
                · rw [if_pos d] at h4; omega
                · rw [if_neg d] at h4; omega
            · by_cases z : q = p
              · subst z; rw [a_ne _ (by omega), wr_at, sp]
              · rw [a_ne _ (by omega), a_ne _ (by omega), sn q z]; exact v2 q hq
            · by_cases z : q = p
              · subst z; rw [sp]; omega
              · rw [sn q z]; exact r4 q (by omega)
            · rw [sn q (by omega)]; exact r5 q (by omega) q2
            · rw [sn (p + 1) (by omega), r5 (p + 1) (by omega) q1]; omega
            · rw [oe x]
              have := r7 x hx
              by_cases z : e = x
              · subst z; rw [if_pos rfl]; omega
              · rw [if_neg z]; omega
            · rw [oe x]
              have nz : ¬ (p + 1 < P ∧ s' (p + 1) = (x : Int)) := by
                intro ⟨z1, z2⟩
                rw [sn (p + 1) (by omega), r5 (p + 1) (by omega) z1] at z2
                omega
              rw [if_neg nz, Nat.add_zero]
              by_cases z : e = x
              · subst z
                rw [wr_at, v3e, if_pos rfl]
                rfl
              · rw [a_ne _ (by omega), a_ne _ (by omega), if_neg z]
                exact v3 x hx
            · exact Fut_fwd hp (fun q hq => sn q hq) (by omega) sp (fun z => r5 (p + 1) (by omega) z) (fun x a b => e3 x (by omega) b) B hB.1 (h3 B hB)
            · exact Fut_fwd' hp (fun q hq => sn q hq) (by omega) sp B hB
        by_cases d : s p = -1
        · have e15 : V 15 p = -1 := by rw [r3 p (by omega)]; exact d
          have v17 : ∀ e, e < 5 → V 17 e = (occ (fun q => (s q).toNat) e p : Int) := by
            intro e he
            rw [r8 e he, if_neg (fun z => by have := z.2; omega), Nat.add_zero]
          have b := body V r1 r3 v17
          rw [if_neg (by rw [gs_id (by omega) (by omega)]; omega), g_gd_pos (g_ix_of (by omega) (by omega) (by omega)), if_neg (by rw [show (gs 0).toNat = 0 by rw [gs_id (by omega) (by omega)]; rfl, e0, gs_id (by omega) (by omega), gs_id (by omega) (by omega)]; omega), jn_eq, g_gd_pos (g_ix_of (by omega) (by omega) (by omega)), nm_eq, show (gs (p : Int)).toNat = p by rw [gs_id (by omega) (by omega)]; omega, e15, if_pos (by rw [gs_id (by omega) (by omega)]; omega)]
          dsimp only
          rw [nm_eq]
          rw [d] at b
          exact b
        · obtain ⟨u, hu⟩ : ∃ u : Nat, s p = u := ⟨(s p).toNat, by omega⟩
          have e15 : V 15 p = (u : Int) := by rw [r3 p (by omega)]; exact hu
          have e17 : V 17 u = ((occ (fun q => (s q).toNat) u p + 1 : Nat) : Int) := by rw [r8 u (by omega), if_pos ⟨hp, hu⟩]
          have b := body (g_wr V 17 u ((occ (fun q => (s q).toNat) u p : Nat) : Int)) (fun a a1 a2 => by rw [a_cell _ a2]; exact r1 a a1 a2) (fun q hq => by rw [a_ne _ (by omega)]; exact r3 q hq) (fun e he => by
            by_cases z : e = u
            · subst z; rw [wr_at]
            · rw [a_ne _ (by omega), r8 e he, if_neg (fun y => z (by have := y.2; omega)), Nat.add_zero])
          rw [if_neg (by rw [gs_id (by omega) (by omega)]; omega), g_gd_pos (g_ix_of (by omega) (by omega) (by omega)), if_neg (by rw [show (gs 0).toNat = 0 by rw [gs_id (by omega) (by omega)]; rfl, e0, gs_id (by omega) (by omega), gs_id (by omega) (by omega)]; omega), jn_eq, g_gd_pos (g_ix_of (by omega) (by omega) (by omega)), nm_eq, show (gs (p : Int)).toNat = p by rw [gs_id (by omega) (by omega)]; omega, e15, if_neg (by rw [gs_id (by omega) (by omega)]; omega), g_gd_pos (g_ix_of (by omega) (by omega) (by omega)), g_gd_pos (g_ix_of (by omega) (by omega) (by omega)), nm_eq]
          dsimp only
          rw [nm_eq, show (gs (u : Int)).toNat = u by rw [gs_id (by omega) (by omega)]; omega, e17, show (((occ (fun q => (s q).toNat) u p + 1 : Nat) : Int) - 1) = ((occ (fun q => (s q).toNat) u p : Nat) : Int) by omega]
          rw [hu] at b
          exact b
