/-! a play of two -/
def Wn (nx : Nat → Nat → Nat) : Nat → Nat → Prop
  | 0, x => x % 13 = 12
  | k + 1, x => Wn nx k x ∨ (x < 13 ∧ ∃ c, c < 4 ∧ Wn nx k (13 + nx x c)) ∨ (13 ≤ x ∧ ∀ c, c < 4 → Wn nx k (nx (x - 13) c))
theorem Wn_mono {nx : Nat → Nat → Nat} {x : Nat} : ∀ d j, Wn nx j x → Wn nx (j + d) x := by
  intro d
  induction d with
  | zero => exact fun j h => h
  | succ d ih => exact fun j h => Or.inl (ih j h)
theorem Wn_le {nx : Nat → Nat → Nat} {x j k : Nat} (h : Wn nx j x) (hk : j ≤ k) : Wn nx k x := by
  have := Wn_mono (k - j) j h
  rw [show j + (k - j) = k by omega] at this
  exact this
def vP (nx : Nat → Nat → Nat) (g : Nat → Nat) (x : Nat) : Nat :=
  if x < 13 then (if min (min (g (13 + nx x 0)) (g (13 + nx x 1))) (min (g (13 + nx x 2)) (g (13 + nx x 3))) = 1000000 then 1000000 else min (min (g (13 + nx x 0)) (g (13 + nx x 1))) (min (g (13 + nx x 2)) (g (13 + nx x 3))) + 1)
  else (if max (max (g (nx (x - 13) 0)) (g (nx (x - 13) 1))) (max (g (nx (x - 13) 2)) (g (nx (x - 13) 3))) = 1000000 then 1000000 else max (max (g (nx (x - 13) 0)) (g (nx (x - 13) 1))) (max (g (nx (x - 13) 2)) (g (nx (x - 13) 3))) + 1)
def pl (nx : Nat → Nat → Nat) : Nat → Nat → Nat
  | 0, x => if x % 13 = 12 then 0 else 1000000
  | k + 1, x => if pl nx k x = 1000000 ∧ vP nx (pl nx k) x = k + 1 then k + 1 else pl nx k x
theorem pl_succ (nx : Nat → Nat → Nat) (k x : Nat) : pl nx (k + 1) x = if pl nx k x = 1000000 ∧ vP nx (pl nx k) x = k + 1 then k + 1 else pl nx k x := rfl
theorem all4 {p : Nat → Prop} : (∀ c, c < 4 → p c) ↔ (p 0 ∧ p 1 ∧ p 2 ∧ p 3) := by
  constructor
  · intro h
    exact ⟨h 0 (by omega), h 1 (by omega), h 2 (by omega), h 3 (by omega)⟩
  · rintro ⟨h0, h1, h2, h3⟩ c hc
    have : c = 0 ∨ c = 1 ∨ c = 2 ∨ c = 3 := by omega
    rcases this with rfl | rfl | rfl | rfl
    · exact h0
    · exact h1
    · exact h2
    · exact h3
theorem pl_spec {nx : Nat → Nat → Nat} (hn : ∀ s c, s ≤ 12 → c < 4 → nx s c ≤ 12) : ∀ k, k < 1000 → (∀ x, x < 26 → (pl nx k x ≤ k ∨ pl nx k x = 1000000) ∧ ∀ j, j ≤ k → (pl nx k x ≤ j ↔ Wn nx j x)) := by
  intro k
  induction k with
  | zero =>
    intro _ x hx
    have e : pl nx 0 x = if x % 13 = 12 then 0 else 1000000 := rfl
    by_cases c : x % 13 = 12
    · rw [if_pos c] at e
      refine ⟨by omega, fun j hj => ?_⟩
      obtain rfl : j = 0 := by omega
      exact ⟨fun _ => c, fun _ => by omega⟩
    · rw [if_neg c] at e
      refine ⟨by omega, fun j hj => ?_⟩
      obtain rfl : j = 0 := by omega
      exact ⟨fun h => by omega, fun h => absurd h c⟩
  | succ k ih =>
    intro hk x hx
    have ih := ih (by omega)
    have e := pl_succ nx k x
    obtain ⟨b, w⟩ := ih x hx
    generalize pl nx (k + 1) x = P at e ⊢
    by_cases c : pl nx k x = 1000000
    · have nk : ¬ Wn nx k x := fun h => by have := (w k (Nat.le_refl _)).2 h; omega
      have key : (vP nx (pl nx k) x ≤ k + 1 ↔ Wn nx (k + 1) x) ∧ (vP nx (pl nx k) x ≤ k + 1 → vP nx (pl nx k) x = k + 1) := by
        unfold vP
        by_cases hx13 : x < 13
        · rw [if_pos hx13]
          have u : ∀ c, c < 4 → 13 + nx x c < 26 := fun c hc => by have := hn x c (by omega) hc; omega
          obtain ⟨b0, w0⟩ := ih _ (u 0 (by omega))
          obtain ⟨b1, w1⟩ := ih _ (u 1 (by omega))
          obtain ⟨b2, w2⟩ := ih _ (u 2 (by omega))
          obtain ⟨b3, w3⟩ := ih _ (u 3 (by omega))
          have eq : Wn nx (k + 1) x ↔ (pl nx k (13 + nx x 0) ≤ k ∨ pl nx k (13 + nx x 1) ≤ k ∨ pl nx k (13 + nx x 2) ≤ k ∨ pl nx k (13 + nx x 3) ≤ k) := by
            rw [w0 k (Nat.le_refl _), w1 k (Nat.le_refl _), w2 k (Nat.le_refl _), w3 k (Nat.le_refl _)]
            constructor
            · rintro (h | ⟨-, h⟩ | ⟨h, -⟩)
              · exact absurd h nk
              · exact four.1 h
              · omega
            · exact fun h => Or.inr (Or.inl ⟨hx13, four.2 h⟩)
          have low : ∀ j, j < k → ¬ (pl nx k (13 + nx x 0) ≤ j ∨ pl nx k (13 + nx x 1) ≤ j ∨ pl nx k (13 + nx x 2) ≤ j ∨ pl nx k (13 + nx x 3) ≤ j) := by
            intro j hj h
            rw [w0 j (by omega), w1 j (by omega), w2 j (by omega), w3 j (by omega)] at h
            exact nk (Wn_le (j := j + 1) (Or.inr (Or.inl ⟨hx13, four.2 h⟩)) (by omega))
          have low' : k = 0 ∨ ¬ (pl nx k (13 + nx x 0) ≤ k - 1 ∨ pl nx k (13 + nx x 1) ≤ k - 1 ∨ pl nx k (13 + nx x 2) ≤ k - 1 ∨ pl nx k (13 + nx x 3) ≤ k - 1) := by
            by_cases z : k = 0
            · exact Or.inl z
            · exact Or.inr (low (k - 1) (by omega))
          rw [eq]
          clear w0 w1 w2 w3 eq low ih w nk e u
          generalize pl nx k (13 + nx x 0) = g0 at *
          generalize pl nx k (13 + nx x 1) = g1 at *
          generalize pl nx k (13 + nx x 2) = g2 at *
          generalize pl nx k (13 + nx x 3) = g3 at *
          by_cases z : min (min g0 g1) (min g2 g3) = 1000000
          · rw [if_pos z]; omega
          · rw [if_neg z]; omega
        · rw [if_neg hx13]
          have u : ∀ c, c < 4 → nx (x - 13) c < 26 := fun c hc => by have := hn (x - 13) c (by omega) hc; omega
          obtain ⟨b0, w0⟩ := ih _ (u 0 (by omega))
          obtain ⟨b1, w1⟩ := ih _ (u 1 (by omega))
          obtain ⟨b2, w2⟩ := ih _ (u 2 (by omega))
          obtain ⟨b3, w3⟩ := ih _ (u 3 (by omega))
          have eq : Wn nx (k + 1) x ↔ (pl nx k (nx (x - 13) 0) ≤ k ∧ pl nx k (nx (x - 13) 1) ≤ k ∧ pl nx k (nx (x - 13) 2) ≤ k ∧ pl nx k (nx (x - 13) 3) ≤ k) := by
            rw [w0 k (Nat.le_refl _), w1 k (Nat.le_refl _), w2 k (Nat.le_refl _), w3 k (Nat.le_refl _)]
            constructor
            · rintro (h | ⟨h, -⟩ | ⟨-, h⟩)
              · exact absurd h nk
              · omega
              · exact all4.1 h
            · exact fun h => Or.inr (Or.inr ⟨by omega, all4.2 h⟩)
          have low : ∀ j, j < k → ¬ (pl nx k (nx (x - 13) 0) ≤ j ∧ pl nx k (nx (x - 13) 1) ≤ j ∧ pl nx k (nx (x - 13) 2) ≤ j ∧ pl nx k (nx (x - 13) 3) ≤ j) := by
            intro j hj h
            rw [w0 j (by omega), w1 j (by omega), w2 j (by omega), w3 j (by omega)] at h
            exact nk (Wn_le (j := j + 1) (Or.inr (Or.inr ⟨by omega, all4.2 h⟩)) (by omega))
          have low' : k = 0 ∨ ¬ (pl nx k (nx (x - 13) 0) ≤ k - 1 ∧ pl nx k (nx (x - 13) 1) ≤ k - 1 ∧ pl nx k (nx (x - 13) 2) ≤ k - 1 ∧ pl nx k (nx (x - 13) 3) ≤ k - 1) := by
            by_cases z : k = 0
            · exact Or.inl z
            · exact Or.inr (low (k - 1) (by omega))
          rw [eq]
          clear w0 w1 w2 w3 eq low ih w nk e u
          generalize pl nx k (nx (x - 13) 0) = g0 at *
          generalize pl nx k (nx (x - 13) 1) = g1 at *
          generalize pl nx k (nx (x - 13) 2) = g2 at *
          generalize pl nx k (nx (x - 13) 3) = g3 at *
          by_cases z : max (max g0 g1) (max g2 g3) = 1000000
          · rw [if_pos z]; omega
          · rw [if_neg z]; omega
      obtain ⟨k1, k2⟩ := key
      generalize vP nx (pl nx k) x = v at e k1 k2
      have low : ∀ j, j ≤ k → ¬ Wn nx j x := fun j hj h => nk (Wn_le h hj)
      by_cases d : v = k + 1
      · rw [if_pos ⟨c, d⟩] at e
        refine ⟨by omega, fun j hj => ?_⟩
        by_cases ej : j = k + 1
        · subst ej
          rw [← k1]
          omega
        · exact ⟨fun h => by omega, fun h => absurd h (low j (by omega))⟩
      · rw [if_neg (fun z => d z.2)] at e
        refine ⟨by omega, fun j hj => ?_⟩
        by_cases ej : j = k + 1
        · subst ej
          rw [← k1]
          have : ¬ v ≤ k + 1 := fun h => d (k2 h)
          omega
        · exact ⟨fun h => by omega, fun h => absurd h (low j (by omega))⟩
    · rw [if_neg (fun z => c z.1)] at e
      refine ⟨by omega, fun j hj => ?_⟩
      by_cases ej : j = k + 1
      · subst ej
        have := (w k (Nat.le_refl _)).1 (by omega)
        exact ⟨fun _ => Or.inl this, fun _ => by omega⟩
      · rw [e]; exact w j (by omega)
theorem Wn_25 {nx : Nat → Nat → Nat} (hn : ∀ s c, s ≤ 12 → c < 4 → nx s c ≤ 12) {j x : Nat} (hx : x < 26) (h : Wn nx j x) : Wn nx 25 x := by
  refine stab 26 (Wn nx) (fun k s _ h => Or.inl h) (fun k hst s hs h => ?_) ⟨12, by omega, rfl⟩ j x hx h
  rcases h with h | ⟨h1, c, hc, h2⟩ | ⟨h1, h2⟩
  · exact h
  · exact Or.inr (Or.inl ⟨h1, c, hc, hst _ (by have := hn s c (by omega) hc; omega) h2⟩)
  · exact Or.inr (Or.inr ⟨h1, fun c hc => hst _ (by have := hn (s - 13) c (by omega) hc; omega) (h2 c hc)⟩)
def psn (nx : Nat → Nat → Nat) (x : Nat) : Nat := pl nx 26 x
theorem psn_spec {nx : Nat → Nat → Nat} (hn : ∀ s c, s ≤ 12 → c < 4 → nx s c ≤ 12) {x : Nat} (hx : x < 26) : (psn nx x = 1000000 ∧ ∀ j, ¬ Wn nx j x) ∨ (psn nx x ≤ 26 ∧ Wn nx (psn nx x) x ∧ ∀ j, j < psn nx x → ¬ Wn nx j x) := by
  obtain ⟨b, w⟩ := pl_spec hn 26 (by omega) x hx
  unfold psn
  generalize pl nx 26 x = p at b w ⊢
  rcases b with b | b
  · exact Or.inr ⟨b, (w p b).1 (Nat.le_refl _), fun j hj h => by have := (w j (by omega)).2 h; omega⟩
  · refine Or.inl ⟨b, fun j h => ?_⟩
    have := (w 25 (by omega)).2 (Wn_25 hn hx h)
    omega
theorem psn_of {nx : Nat → Nat → Nat} (hn : ∀ s c, s ≤ 12 → c < 4 → nx s c ≤ 12) {V : Nat → Int} (so : ∀ x, x < 26 → V x = 1000 ∨ ∃ d : Nat, d < 1000 ∧ V x = d ∧ Wn nx d x) (co : ∀ j x, x < 26 → j ≤ 26 → Wn nx j x → V x ≤ j) {x : Nat} (hx : x < 26) : V x = if psn nx x = 1000000 then 1000 else (psn nx x : Int) := by
  have sp := fun x hx => psn_spec (x := x) hn hx
  generalize psn nx = f at sp ⊢
  rcases sp x hx with ⟨h1, h2⟩ | ⟨h1, h2, h3⟩
  · rw [if_pos h1]
    rcases so x hx with h | ⟨d, -, -, h⟩
    · exact h
    · exact absurd h (h2 d)
  · rw [if_neg (by omega)]
    have a := co _ x hx h1 h2
    rcases so x hx with h | ⟨d, -, e, h⟩
    · omega
    · have b : ¬ d < f x := fun z => h3 d z h
      omega
/-- the first lowest, the first highest of four -/
def amn (h : Nat → Int) : Nat → Nat
  | 0 => 0
  | n + 1 => if h (n + 1) < h (amn h n) then n + 1 else amn h n
def amx (h : Nat → Int) : Nat → Nat
  | 0 => 0
  | n + 1 => if h (amx h n) < h (n + 1) then n + 1 else amx h n
theorem amn_t {h : Nat → Int} {n : Nat} (c : h (n + 1) < h (amn h n)) : amn h (n + 1) = n + 1 := if_pos c
theorem amn_f {h : Nat → Int} {n : Nat} (c : ¬ h (n + 1) < h (amn h n)) : amn h (n + 1) = amn h n := if_neg c
theorem amx_t {h : Nat → Int} {n : Nat} (c : h (amx h n) < h (n + 1)) : amx h (n + 1) = n + 1 := if_pos c
theorem amx_f {h : Nat → Int} {n : Nat} (c : ¬ h (amx h n) < h (n + 1)) : amx h (n + 1) = amx h n := if_neg c
theorem amn_le (h : Nat → Int) : ∀ n, amn h n ≤ n ∧ ∀ c, c ≤ n → h (amn h n) ≤ h c := by
  intro n
  induction n with
  | zero => exact ⟨Nat.le_refl _, fun c hc => by have e : c = 0 := (by omega); subst e; exact Int.le_refl _⟩
  | succ n ih =>
    by_cases c : h (n + 1) < h (amn h n)
    · rw [amn_t c]
      refine ⟨Nat.le_refl _, fun d hd => ?_⟩
      by_cases e : d = n + 1
      · subst e; exact Int.le_refl _
      · have := ih.2 d (by omega); omega
    · rw [amn_f c]
      refine ⟨by have := ih.1; omega, fun d hd => ?_⟩
      by_cases e : d = n + 1
      · subst e; omega
      · exact ih.2 d (by omega)
theorem amx_le (h : Nat → Int) : ∀ n, amx h n ≤ n ∧ ∀ c, c ≤ n → h c ≤ h (amx h n) := by
  intro n
  induction n with
  | zero => exact ⟨Nat.le_refl _, fun c hc => by have e : c = 0 := (by omega); subst e; exact Int.le_refl _⟩
  | succ n ih =>
    by_cases c : h (amx h n) < h (n + 1)
    · rw [amx_t c]
      refine ⟨Nat.le_refl _, fun d hd => ?_⟩
      by_cases e : d = n + 1
      · subst e; exact Int.le_refl _
      · have := ih.2 d (by omega); omega
    · rw [amx_f c]
      refine ⟨by have := ih.1; omega, fun d hd => ?_⟩
      by_cases e : d = n + 1
      · subst e; omega
      · exact ih.2 d (by omega)
theorem amn_cg {h g : Nat → Int} (e : ∀ c d, c ≤ 3 → d ≤ 3 → (h c < h d ↔ g c < g d)) : ∀ n, n ≤ 3 → amn h n = amn g n := by
  intro n
  induction n with
  | zero => exact fun _ => rfl
  | succ n ih =>
    intro hn
    have ih := ih (by omega)
    have b := (amn_le g n).1
    by_cases c : h (n + 1) < h (amn h n)
    · rw [amn_t c]
      rw [ih] at c
      rw [amn_t ((e _ _ hn (by omega)).1 c)]
    · rw [amn_f c, ih]
      rw [ih] at c
      rw [amn_f (fun z => c ((e _ _ hn (by omega)).2 z))]
theorem amx_cg {h g : Nat → Int} (e : ∀ c d, c ≤ 3 → d ≤ 3 → (h c < h d ↔ g c < g d)) : ∀ n, n ≤ 3 → amx h n = amx g n := by
  intro n
  induction n with
  | zero => exact fun _ => rfl
  | succ n ih =>
    intro hn
    have ih := ih (by omega)
    have b := (amx_le g n).1
    by_cases c : h (amx h n) < h (n + 1)
    · rw [amx_t c]
      rw [ih] at c
      rw [amx_t ((e _ _ (by omega) hn).1 c)]
    · rw [amx_f c, ih]
      rw [ih] at c
      rw [amx_f (fun z => c ((e _ _ (by omega) hn).2 z))]
