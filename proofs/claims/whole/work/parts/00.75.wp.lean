/-! what a method comes to: Ok o Q -/
/- (not by rfl: else the kernel unfolds loops) -/
theorem nm_eq {α β : Type} (v : α) (f : α → β) : g_nm v f = f v := Eq.trans (Eq.refl (g_nm v f)) (Eq.refl (f v))
theorem jn_eq {γ α : Type} (K : γ) (b : γ → α) : g_jn K b = b K := Eq.trans (Eq.refl (g_jn K b)) (Eq.refl (b K))
theorem bd_some {α β : Type} (x : α) (f : α → Option β) : (some x).bind f = f x := Eq.trans (Eq.refl ((some x).bind f)) (Eq.refl (f x))
theorem bW_sm {β : Type} (x : Int) (M : g_M) (f : Int → g_M → Option β) : g_bW (some (x, M)) f = f x M := Eq.trans (Eq.refl (g_bW (some (x, M)) f)) (Eq.refl (f x M))
def Ok {α : Type} (o : Option α) (Q : α → Prop) : Prop := ∃ a, o = some a ∧ Q a
theorem Ok_some {α : Type} {a : α} {Q : α → Prop} (h : Q a) : Ok (some a) Q := ⟨a, rfl, h⟩
theorem Ok_mono {α : Type} {o : Option α} {Q Q' : α → Prop} (h : Ok o Q) (k : ∀ a, Q a → Q' a) : Ok o Q' := by
  obtain ⟨a, e, q⟩ := h
  exact ⟨a, e, k a q⟩
theorem Ok_bind {α β : Type} {o : Option α} {f : α → Option β} {Q : β → Prop} {R : α → Prop} (h : Ok o R) (k : ∀ a, R a → Ok (f a) Q) : Ok (o.bind f) Q := by
  obtain ⟨a, e, q⟩ := h
  rw [e]
  exact k a q
theorem Ok_bW {β : Type} {o : Option (Int × g_M)} {f : Int → g_M → Option β} {Q : β → Prop} {R : Int × g_M → Prop} (h : Ok o R) (k : ∀ x M, R (x, M) → Ok (f x M) Q) : Ok (g_bW o f) Q := by
  obtain ⟨⟨x, M⟩, e, q⟩ := h
  rw [e]
  exact k x M q
theorem Ok_eq {α : Type} {o o' : Option α} {Q : α → Prop} (h : Ok o Q) (e : o' = o) : Ok o' Q := by rw [e]; exact h
theorem Ok_loop {α S : Type} {Q : α → Prop} (L : Nat → S → Option α) (I : Nat → S → Prop) (hstep : ∀ n s f, I n s → (∀ m s', m < n → I m s' → Ok (L f s') Q) → Ok (L (f + 1) s) Q) : ∀ n f s, n < f → I n s → Ok (L f s) Q := by
  intro n
  induction n using Nat.strongRecOn with
  | ind n ih =>
    intro f s h1 h2
    obtain ⟨g, rfl⟩ : ∃ g, f = g + 1 := ⟨f - 1, by omega⟩
    exact hstep n s g h2 (fun m s' h3 h4 => ih m h3 g s' (by omega) h4)
theorem Ok_for {α S : Type} {Q : α → Prop} (N : Nat) (L : Nat → Int → S → Option α) (I : Nat → S → Prop) (hend : ∀ f s, I N s → Ok (L (f + 1) (N : Int) s) Q) (hstep : ∀ (i : Nat) f s, i < N → I i s → (∀ s', I (i + 1) s' → Ok (L f ((i : Int) + 1) s') Q) → Ok (L (f + 1) (i : Int) s) Q) : ∀ (i f : Nat) (s : S), i ≤ N → N - i < f → I i s → Ok (L f (i : Int) s) Q := by
  intro i f s h1 h2 h3
  obtain ⟨n, hn⟩ : ∃ n, i + n = N := ⟨N - i, by omega⟩
  induction n generalizing i f s with
  | zero =>
    obtain ⟨g, rfl⟩ : ∃ g, f = g + 1 := ⟨f - 1, by omega⟩
    obtain rfl : i = N := by omega
    exact hend g s h3
  | succ n ih =>
    obtain ⟨g, rfl⟩ : ∃ g, f = g + 1 := ⟨f - 1, by omega⟩
    refine hstep i g s (by omega) h3 (fun s' h4 => ?_)
    have := ih (i + 1) g s' (by omega) (by omega) h4 (by omega)
    rw [Int.natCast_add] at this
    exact this
/-- a row filled from a place on -/
def cpF (M : g_M) (c d : Nat) (V : Nat → Int) (i : Nat) : g_M := fun a b => if a = c ∧ d ≤ b ∧ b < d + i then V (b - d) else M a b
theorem cpF_0 (M : g_M) (c d : Nat) (V : Nat → Int) : cpF M c d V 0 = M := by
  funext a b
  unfold cpF
  rw [if_neg (by omega)]
theorem cpF_succ (M : g_M) (c d : Nat) (V : Nat → Int) (i : Nat) : g_wr (cpF M c d V i) c (d + i) (V i) = cpF M c d V (i + 1) := by
  funext a b
  unfold cpF g_wr
  show (if _ then _ else if _ then _ else _) = if _ then _ else _
  by_cases h : a = c ∧ b = d + i
  · rw [if_pos h, if_pos (by omega)]
    apply congrArg
    omega
  · rw [if_neg h]
    by_cases h2 : a = c ∧ d ≤ b ∧ b < d + i
    · rw [if_pos h2, if_pos (by omega)]
    · rw [if_neg h2, if_neg (by omega)]
theorem cpF_ne (M : g_M) {c d : Nat} (V : Nat → Int) {i a b : Nat} (h : a ≠ c ∨ b < d ∨ d + i ≤ b) : cpF M c d V i a b = M a b := if_neg (by omega)
theorem cpF_cell (M : g_M) {c d : Nat} (V : Nat → Int) {i a : Nat} (h : a ≠ c) : cpF M c d V i a = M a := funext fun b => if_neg (by omega)
theorem cpF_in (M : g_M) {c d : Nat} (V : Nat → Int) {i b : Nat} (h : d ≤ b ∧ b < d + i) : cpF M c d V i c b = V (b - d) := if_pos ⟨rfl, h⟩
theorem cpF_at (M : g_M) {c d : Nat} (V : Nat → Int) {i j : Nat} (h : j < i) : cpF M c d V i c (d + j) = V j := by
  rw [cpF_in M V (by omega)]
  apply congrArg
  omega
theorem cp_loop {α : Type} (L : Nat → Int → g_M → Option α) (c d N : Nat) (V : Nat → Int) (M : g_M) (r : Option α) (hend : ∀ f, L (f + 1) (N : Int) (cpF M c d V N) = r) (hstep : ∀ (i : Nat) f, i < N → L (f + 1) (i : Int) (cpF M c d V i) = L f ((i : Int) + 1) (g_wr (cpF M c d V i) c (d + i) (V i))) (f : Nat) (hf : N < f) : L f 0 M = r := by
  have h := loop_F L N (fun i => cpF M c d V i) r hend (fun i f hi => by
    rw [hstep i f hi, cpF_succ, Int.natCast_add]
    rfl) N 0 f (by omega) hf
  rw [cpF_0] at h
  exact h
/-- the film's relation speaks of what its rows hold in their bounds alone -/
theorem R_film_cg {X nw st td kd pl ro od lk fw fg A X' nw' st' td' kd' pl' ro' od' lk' fw' fg' A' : Nat → Int} (H : R_film X nw st td kd pl ro od lk fw fg A) (x : ∀ j, j = 2 ∨ j = 3 ∨ j = 7 ∨ j = 8 ∨ j = 9 ∨ j = 11 ∨ j = 13 ∨ j = 17 → X' j = X j) (e1 : ∀ j, j < 133 → nw' j = nw j) (e2 : ∀ j, j < 3990 → st' j = st j) (e3 : ∀ j, j < 48 → td' j = td j) (e4 : ∀ j, j < 12 → kd' j = kd j) (e5 : ∀ j, j < 8 → pl' j = pl j) (e6 : ∀ j, j < 12 → ro' j = ro j) (e7 : ∀ j, j < 4 → od' j = od j) (e8 : ∀ j, j < 40 → lk' j = lk j) (e9 : ∀ j, j < 8 → fw' j = fw j) (e10 : ∀ j, j < 8 → fg' j = fg j) (ea : ∀ j, j < 3409 → A' j = A j) : R_film X' nw' st' td' kd' pl' ro' od' lk' fw' fg' A' := by
  obtain ⟨P, T, S, E, C, F, hP, hT, hU, hS, hE, hC, hF, hsn, htd, hkd, hpl, hro, hod, hos, hsv, hlk, hfe, hst⟩ := H
  have hP1 := hP.1
  refine ⟨P, T, S, E, C, F, ?_, ?_, ?_, ?_, ?_, ?_, ?_, ?_, ?_, ?_, ?_, ?_, ?_, ?_, ?_, ?_, ?_, ?_⟩
  · rw [x 7 (by omega), ea 0 (by omega)]; exact hP
  · rw [x 8 (by omega), ea 1 (by omega)]; exact hT
  · rw [x 9 (by omega), ea 2 (by omega)]; exact hU
  · rw [x 3 (by omega), ea 3 (by omega)]; exact hS
  · rw [x 2 (by omega)]; exact hE
  · rw [x 11 (by omega), ea 4 (by omega)]; exact hC
  · rw [x 17 (by omega), ea 5 (by omega)]; exact hF
  · exact R_snap_cx hP1 hsn (fun j hj => e1 j (by omega)) (fun j hj => ea _ (by omega)) (fun q i hq hi => ea _ (by omega)) (fun i hi => ea _ (by omega))
  · intro i hi; rw [e3 i hi, ea _ (by omega)]; exact htd i hi
  · intro i hi; rw [e4 i hi, ea _ (by omega)]; exact hkd i hi
  · intro q hq; rw [e5 q (by omega), ea _ (by omega), ea _ (by omega)]; exact hpl q hq
  · intro i hi; rw [e6 i (by omega), ea _ (by omega)]; exact hro i hi
  · intro i hi; rw [e7 i hi, ea _ (by omega)]; exact hod i hi
  · rw [e7 0 (by omega), e7 1 (by omega), e7 2 (by omega), e7 3 (by omega)]; exact hos
  · rw [x 13 (by omega), ea _ (by omega)]; exact hsv
  · intro i hi; rw [e8 i hi, ea _ (by omega)]; exact hlk i hi
  · intro i hi; rw [e9 i (by omega), e10 i (by omega), ea _ (by omega), ea _ (by omega)]; exact hfe i hi
  · intro k hk
    obtain ⟨pk, h1, h2, h3, h4⟩ := hst k hk
    refine ⟨pk, h1, by rw [ea _ (by omega)]; exact h2, R_snap_cx (by omega) h3 (fun j hj => e2 _ (by omega)) (fun j hj => ea _ (by omega)) (fun q i hq hi => ea _ (by omega)) (fun i hi => ea _ (by omega)), fun q hq hq2 => ?_⟩
    rw [e2 _ (by omega), e2 _ (by omega), ea _ (by omega)]
    exact h4 q hq hq2
/-- another snap of now, all else the same -/
theorem R_film_snap {X nw st td kd pl ro od lk fw fg A nw' A' : Nat → Int} (H : R_film X nw st td kd pl ro od lk fw fg A) (hs : ∀ P : Nat, P ≤ 8 → X 7 = P → R_snap P nw (fun j => A (6 + j)) (fun q i => A (34 + 4 * q + i)) (fun i => A (3349 + i)) → R_snap P nw' (fun j => A' (6 + j)) (fun q i => A' (34 + 4 * q + i)) (fun i => A' (3349 + i))) (e1 : ∀ j, j < 6 ∨ (66 ≤ j ∧ j < 3349) → A' j = A j) (e2 : ∀ q, q < 8 → A' (34 + 4 * q + 2) = A (34 + 4 * q + 2) ∧ A' (34 + 4 * q + 3) = A (34 + 4 * q + 3)) : R_film X nw' st td kd pl ro od lk fw fg A' := by
  obtain ⟨P, T, S, E, C, F, hP, hT, hU, hS, hE, hC, hF, hsn, htd, hkd, hpl, hro, hod, hos, hsv, hlk, hfe, hst⟩ := H
  have hP1 := hP.1
  refine ⟨P, T, S, E, C, F, ?_, ?_, ?_, ?_, hE, ?_, ?_, hs P hP1 hP.2.1 hsn, ?_, ?_, ?_, ?_, ?_, hos, ?_, ?_, ?_, ?_⟩
  · rw [e1 0 (by omega)]; exact hP
  · rw [e1 1 (by omega)]; exact hT
  · rw [e1 2 (by omega)]; exact hU
  · rw [e1 3 (by omega)]; exact hS
  · rw [e1 4 (by omega)]; exact hC
  · rw [e1 5 (by omega)]; exact hF
  · intro i hi; rw [e1 _ (by omega)]; exact htd i hi
  · intro i hi; rw [e1 _ (by omega)]; exact hkd i hi
  · intro q hq; rw [(e2 q (by omega)).1, (e2 q (by omega)).2]; exact hpl q hq
  · intro i hi; rw [e1 _ (by omega)]; exact hro i hi
  · intro i hi; rw [e1 _ (by omega)]; exact hod i hi
  · rw [e1 _ (by omega)]; exact hsv
  · intro i hi; rw [e1 _ (by omega)]; exact hlk i hi
  · intro i hi; rw [e1 _ (by omega), e1 _ (by omega)]; exact hfe i hi
  · exact fun k hk => R_step_cg (by omega) hP1 (hst k hk) (fun j a b => e1 _ (by omega)) (fun q hq => (e2 q (by omega)).2)
/-- one more step is kept -/
theorem R_keep {X nw st td kd pl ro od lk fw fg A X' st' A' : Nat → Int} {S E S1 E1 : Nat} (H : R_film X nw st td kd pl ro od lk fw fg A) (hS0 : X 3 = S) (hE0 : X 2 = E) (hc : (S < 30 ∧ S1 = S ∧ E1 = E) ∨ (S = 30 ∧ S1 = 29 ∧ E1 = (E + 1) % 30)) (x3 : X' 3 = ((S1 + 1 : Nat) : Int)) (x2 : X' 2 = E1) (xx : ∀ j, j ≠ 2 → j ≠ 3 → X' j = X j) (est : ∀ b, st' b = if (E + S) % 30 * 133 ≤ b ∧ b < (E + S) % 30 * 133 + 133 then nw (b - (E + S) % 30 * 133) else st b) (a3 : A' 3 = ((S1 + 1 : Nat) : Int)) (aa : ∀ j, j ≠ 3 → (j < 199 ∨ 3349 ≤ j) → A' j = A j) (ao : ∀ k j, k < S1 → j < 105 → A' (199 + 105 * k + j) = A (199 + 105 * (k + (S - S1)) + j)) (an0 : A' (199 + 105 * S1) = A 0) (an1 : ∀ j, j < 28 → A' (199 + 105 * S1 + 1 + j) = A (6 + j)) (an2 : ∀ q i, q < 8 → i < 2 → A' (199 + 105 * S1 + 29 + 2 * q + i) = A (34 + 4 * q + i)) (an3 : ∀ i, i < 60 → A' (199 + 105 * S1 + 45 + i) = A (3349 + i)) : R_film X' nw st' td kd pl ro od lk fw fg A' := by
  obtain ⟨P, T, S0, E0, C, F, hP, hT, hU, hS, hE, hC, hF, hsn, htd, hkd, hpl, hro, hod, hos, hsv, hlk, hfe, hst⟩ := H
  have hP1 := hP.1
  have hE1 := hE.1
  have eS : S0 = S := by
    have := hS.2.1
    omega
  have eE : E0 = E := by
    have := hE.2
    omega
  subst eS eE
  have sl : (E1 + S1) % 30 = (E0 + S0) % 30 := by omega
  refine ⟨P, T, S1 + 1, E1, C, F, ?_, ?_, ?_, ⟨by omega, x3, a3⟩, ⟨by omega, x2⟩, ?_, ?_, ?_, ?_, ?_, ?_, ?_, ?_, hos, ?_, ?_, ?_, ?_⟩
  · rw [xx 7 (by omega) (by omega), aa 0 (by omega) (by omega)]; exact hP
  · rw [xx 8 (by omega) (by omega), aa 1 (by omega) (by omega)]; exact hT
  · rw [xx 9 (by omega) (by omega), aa 2 (by omega) (by omega)]; exact hU
  · rw [xx 11 (by omega) (by omega), aa 4 (by omega) (by omega)]; exact hC
  · rw [xx 17 (by omega) (by omega), aa 5 (by omega) (by omega)]; exact hF
  · exact R_snap_cg hsn (fun j hj => aa _ (by omega) (by omega)) (fun q i hq hi => aa _ (by omega) (by omega)) (fun i hi => aa _ (by omega) (by omega))
  · intro i hi; rw [aa _ (by omega) (by omega)]; exact htd i hi
  · intro i hi; rw [aa _ (by omega) (by omega)]; exact hkd i hi
  · intro q hq; rw [aa _ (by omega) (by omega), aa _ (by omega) (by omega)]; exact hpl q hq
  · intro i hi; rw [aa _ (by omega) (by omega)]; exact hro i hi
  · intro i hi; rw [aa _ (by omega) (by omega)]; exact hod i hi
  · rw [xx 13 (by omega) (by omega), aa _ (by omega) (by omega)]; exact hsv
  · intro i hi; rw [aa _ (by omega) (by omega)]; exact hlk i hi
  · intro i hi; rw [aa _ (by omega) (by omega), aa _ (by omega) (by omega)]; exact hfe i hi
  · intro k hk
    by_cases e : k = S1
    · subst e
      refine ⟨P, Nat.le_refl _, by rw [an0]; exact hP.2.2, R_snap_cx hP1 hsn (fun j hj => ?_) an1 (fun q i hq hi => an2 q i (by omega) hi) an3, fun q h1 h2 => by omega⟩
      rw [est, if_pos (by omega)]
      apply congrArg
      omega
    · obtain ⟨pk, h1, h2, h3, h4⟩ := hst (k + (S0 - S1)) (by omega)
      have sk : (E1 + k) % 30 = (E0 + (k + (S0 - S1))) % 30 := by omega
      have sne : (E1 + k) % 30 ≠ (E0 + S0) % 30 := by omega
      have old : ∀ j, j < 133 → st' ((E1 + k) % 30 * 133 + j) = st ((E0 + (k + (S0 - S1))) % 30 * 133 + j) := by
        intro j hj
        rw [est, if_neg (by omega), sk]
      have a0 := ao k 0 (by omega) (by omega)
      simp only [Nat.add_zero] at a0
      refine ⟨pk, h1, a0.trans h2, R_snap_cx (by omega) h3 (fun j hj => old j (by omega)) (fun j hj => ?_) (fun q i hq hi => ?_) (fun i hi => ?_), fun q hq hq2 => ?_⟩
      · have := ao k (1 + j) (by omega) (by omega)
        rw [← Nat.add_assoc, ← Nat.add_assoc] at this
        exact this
      · have := ao k (29 + 2 * q + i) (by omega) (by omega)
        rw [← Nat.add_assoc, ← Nat.add_assoc, ← Nat.add_assoc, ← Nat.add_assoc] at this
        exact this
      · have := ao k (45 + i) (by omega) (by omega)
        rw [← Nat.add_assoc, ← Nat.add_assoc] at this
        exact this
      · rw [old q (by omega), old (8 + q) (by omega), aa _ (by omega) (by omega)]
        exact h4 q hq hq2
