/-! ways between places: how many cues at least -/
noncomputable def cnt (p : Nat → Prop) : Nat → Nat
  | 0 => 0
  | n + 1 => cnt p n + @ite Nat (p n) (Classical.propDecidable (p n)) 1 0
theorem cnt_t {p : Nat → Prop} {n : Nat} (h : p n) : cnt p (n + 1) = cnt p n + 1 := congrArg (cnt p n + ·) (@if_pos (p n) (Classical.propDecidable (p n)) h Nat 1 0)
theorem cnt_f {p : Nat → Prop} {n : Nat} (h : ¬ p n) : cnt p (n + 1) = cnt p n := congrArg (cnt p n + ·) (@if_neg (p n) (Classical.propDecidable (p n)) h Nat 1 0)
theorem cnt_le (p : Nat → Prop) : ∀ n, cnt p n ≤ n := by
  intro n
  induction n with
  | zero => exact Nat.le_refl _
  | succ n ih =>
    by_cases c : p n
    · rw [cnt_t c]; omega
    · rw [cnt_f c]; omega
theorem cnt_mono {p q : Nat → Prop} : ∀ n, (∀ i, i < n → p i → q i) → cnt p n ≤ cnt q n := by
  intro n
  induction n with
  | zero => intro h; exact Nat.le_refl _
  | succ n ih =>
    intro h
    have a := ih (fun i hi => h i (by omega))
    by_cases c : p n
    · rw [cnt_t c, cnt_t (h n (by omega) c)]; omega
    · rw [cnt_f c]
      by_cases d : q n
      · rw [cnt_t d]; omega
      · rw [cnt_f d]; exact a
theorem cnt_lt {p q : Nat → Prop} : ∀ n, (∀ i, i < n → p i → q i) → (∃ i, i < n ∧ q i ∧ ¬ p i) → cnt p n < cnt q n := by
  intro n
  induction n with
  | zero => rintro h ⟨i, hi, -⟩; omega
  | succ n ih =>
    rintro h ⟨i, hi, h1, h2⟩
    have a := cnt_mono n (fun i hi => h i (by omega))
    by_cases e : i = n
    · subst e
      rw [cnt_f h2, cnt_t h1]; omega
    · have b := ih (fun i hi => h i (by omega)) ⟨i, by omega, h1, h2⟩
      by_cases c : p n
      · rw [cnt_t c, cnt_t (h n (by omega) c)]; omega
      · rw [cnt_f c]
        by_cases d : q n
        · rw [cnt_t d]; omega
        · rw [cnt_f d]; exact b
/-- what grows step by step, and stays once it has stood still, stands still behind n steps -/
theorem stab (n : Nat) (P : Nat → Nat → Prop) (mono : ∀ k s, s < n → P k s → P (k + 1) s) (step : ∀ k, (∀ s, s < n → P (k + 1) s → P k s) → ∀ s, s < n → P (k + 2) s → P (k + 1) s) (h0 : ∃ s, s < n ∧ P 0 s) : ∀ k s, s < n → P k s → P (n - 1) s := by
  have up : ∀ d k s, s < n → P k s → P (k + d) s := by
    intro d
    induction d with
    | zero => intro k s _ h; exact h
    | succ d ih => intro k s hs h; exact mono _ s hs (ih k s hs h)
  by_cases ex : ∃ j, j ≤ n - 1 ∧ ∀ s, s < n → P (j + 1) s → P j s
  · obtain ⟨j, hj, hst⟩ := ex
    have still : ∀ d s, s < n → P (j + d + 1) s → P (j + d) s := by
      intro d
      induction d with
      | zero => exact hst
      | succ d ih => exact fun s hs h => step (j + d) ih s hs h
    have down : ∀ d s, s < n → P (j + d) s → P j s := by
      intro d
      induction d with
      | zero => intro s _ h; exact h
      | succ d ih => intro s hs h; exact ih s hs (still d s hs h)
    intro k s hs h
    have a : P j s := by
      by_cases c : j ≤ k
      · have := down (k - j) s hs
        rw [show j + (k - j) = k by omega] at this
        exact this h
      · have := up (j - k) k s hs h
        rw [show k + (j - k) = j by omega] at this
        exact this
    have b := up (n - 1 - j) j s hs a
    rw [show j + (n - 1 - j) = n - 1 by omega] at b
    exact b
  · exfalso
    have grow : ∀ j, j ≤ n → j + 1 ≤ cnt (P j) n := by
      intro j
      induction j with
      | zero =>
        intro _
        obtain ⟨s, hs, h⟩ := h0
        have a := cnt_lt (p := fun _ => False) (q := P 0) n (fun i _ z => z.elim) ⟨s, hs, h, fun z => z⟩
        omega
      | succ j ih =>
        intro hj
        have a := ih (by omega)
        have b := cnt_lt (p := P j) (q := P (j + 1)) n (fun i hi h => mono j i hi h) (by
          apply Classical.byContradiction
          intro z
          exact ex ⟨j, by omega, fun s hs h => Classical.byContradiction fun w => z ⟨s, hs, h, w⟩⟩)
        omega
    have a := grow n (Nat.le_refl _)
    have b := cnt_le (P n) n
    omega
def Rch (nx : Nat → Nat → Nat) (to : Nat) : Nat → Nat → Prop
  | 0, s => s = to
  | k + 1, s => ∃ c, c < 4 ∧ Rch nx to k (nx s c)
def dl (nx : Nat → Nat → Nat) (to : Nat) : Nat → Nat → Nat
  | 0, s => if s = to then 0 else 1000000
  | k + 1, s => if dl nx to k s = 1000000 ∧ (dl nx to k (nx s 0) = k ∨ dl nx to k (nx s 1) = k ∨ dl nx to k (nx s 2) = k ∨ dl nx to k (nx s 3) = k) then k + 1 else dl nx to k s
theorem four {p : Nat → Prop} : (∃ c, c < 4 ∧ p c) ↔ (p 0 ∨ p 1 ∨ p 2 ∨ p 3) := by
  constructor
  · rintro ⟨c, hc, h⟩
    have : c = 0 ∨ c = 1 ∨ c = 2 ∨ c = 3 := by omega
    rcases this with rfl | rfl | rfl | rfl
    · exact Or.inl h
    · exact Or.inr (Or.inl h)
    · exact Or.inr (Or.inr (Or.inl h))
    · exact Or.inr (Or.inr (Or.inr h))
  · rintro (h | h | h | h)
    · exact ⟨0, by omega, h⟩
    · exact ⟨1, by omega, h⟩
    · exact ⟨2, by omega, h⟩
    · exact ⟨3, by omega, h⟩
theorem dl_succ (nx : Nat → Nat → Nat) (to k s : Nat) : dl nx to (k + 1) s = if dl nx to k s = 1000000 ∧ (dl nx to k (nx s 0) = k ∨ dl nx to k (nx s 1) = k ∨ dl nx to k (nx s 2) = k ∨ dl nx to k (nx s 3) = k) then k + 1 else dl nx to k s := rfl
theorem dl_spec (nx : Nat → Nat → Nat) (to : Nat) : ∀ k, k < 1000 → ∀ s, (dl nx to k s = 1000000 ∧ ∀ j, j ≤ k → ¬ Rch nx to j s) ∨ (dl nx to k s ≤ k ∧ Rch nx to (dl nx to k s) s ∧ ∀ j, j < dl nx to k s → ¬ Rch nx to j s) := by
  intro k
  induction k with
  | zero =>
    intro _ s
    by_cases c : s = to
    · right
      rw [show dl nx to 0 s = 0 from if_pos c]
      exact ⟨Nat.le_refl _, c, fun j hj => by omega⟩
    · left
      refine ⟨if_neg c, fun j hj => ?_⟩
      obtain rfl : j = 0 := by omega
      exact c
  | succ k ih =>
    intro hk s
    have ih := ih (by omega)
    rcases ih s with ⟨h1, h2⟩ | ⟨h1, h2, h3⟩
    · by_cases c : ∃ c, c < 4 ∧ dl nx to k (nx s c) = k
      · right
        rw [dl_succ, if_pos ⟨h1, four.1 c⟩]
        obtain ⟨c, hc, e⟩ := c
        refine ⟨Nat.le_refl _, ⟨c, hc, ?_⟩, fun j hj => h2 j (by omega)⟩
        rcases ih (nx s c) with ⟨a, -⟩ | ⟨-, a, -⟩
        · omega
        · rw [e] at a; exact a
      · left
        rw [dl_succ, if_neg (fun z => c (four.2 z.2))]
        refine ⟨h1, fun j hj z => ?_⟩
        by_cases e : j ≤ k
        · exact h2 j e z
        · obtain rfl : j = k + 1 := by omega
          obtain ⟨d, hd, r⟩ := z
          rcases ih (nx s d) with ⟨-, a⟩ | ⟨a1, a2, a3⟩
          · exact a k (Nat.le_refl _) r
          · by_cases e2 : dl nx to k (nx s d) = k
            · exact c ⟨d, hd, e2⟩
            · exact h2 (dl nx to k (nx s d) + 1) (by omega) ⟨d, hd, a2⟩
    · right
      rw [dl_succ, if_neg (fun z => by omega)]
      exact ⟨by omega, h2, h3⟩
theorem Rch_12 {nx : Nat → Nat → Nat} {to : Nat} (hto : to ≤ 12) (hn : ∀ s c, s ≤ 12 → c < 4 → nx s c ≤ 12) {j s : Nat} (hs : s ≤ 12) (h : Rch nx to j s) : ∃ i, i ≤ 12 ∧ Rch nx to i s := by
  refine stab 13 (fun k s => ∃ i, i ≤ k ∧ Rch nx to i s) (fun k s _ h => ?_) (fun k hst s hs h => ?_) ⟨to, by omega, 0, Nat.le_refl _, rfl⟩ j s (by omega) ⟨j, Nat.le_refl _, h⟩
  · obtain ⟨i, h1, h2⟩ := h
    exact ⟨i, by omega, h2⟩
  · obtain ⟨i, h1, h2⟩ := h
    cases i with
    | zero => exact ⟨0, by omega, h2⟩
    | succ i =>
      obtain ⟨c, hc, h3⟩ := h2
      obtain ⟨i', h4, h5⟩ := hst (nx s c) (by have := hn s c (by omega) hc; omega) ⟨i, by omega, h3⟩
      exact ⟨i' + 1, by omega, c, hc, h5⟩
/-- how many cues at least (1000000: never) -/
def dst (nx : Nat → Nat → Nat) (to s : Nat) : Nat := dl nx to 12 s
theorem dst_spec {nx : Nat → Nat → Nat} {to : Nat} (hto : to ≤ 12) (hn : ∀ s c, s ≤ 12 → c < 4 → nx s c ≤ 12) {s : Nat} (hs : s ≤ 12) : (dst nx to s = 1000000 ∧ ∀ j, ¬ Rch nx to j s) ∨ (dst nx to s ≤ 12 ∧ Rch nx to (dst nx to s) s ∧ ∀ j, j < dst nx to s → ¬ Rch nx to j s) := by
  rcases dl_spec nx to 12 (by omega) s with ⟨h1, h2⟩ | h
  · left
    refine ⟨h1, fun j h => ?_⟩
    obtain ⟨i, h3, h4⟩ := Rch_12 hto hn hs h
    exact h2 i h3 h4
  · exact Or.inr h
/-- what is sound and leaves out nothing is it -/
theorem dst_of {nx : Nat → Nat → Nat} {to : Nat} (hto : to ≤ 12) (hn : ∀ s c, s ≤ 12 → c < 4 → nx s c ≤ 12) {D : Nat → Int} (so : ∀ s, s ≤ 12 → D s = 1000 ∨ ∃ d : Nat, d < 1000 ∧ D s = d ∧ Rch nx to d s) (co : ∀ j s, s ≤ 12 → j ≤ 12 → Rch nx to j s → D s ≤ j) {s : Nat} (hs : s ≤ 12) : D s = if dst nx to s = 1000000 then 1000 else (dst nx to s : Int) := by
  have sp := fun s hs => dst_spec (s := s) hto hn hs
  generalize dst nx to = f at sp ⊢
  rcases sp s hs with ⟨h1, h2⟩ | ⟨h1, h2, h3⟩
  · rw [if_pos h1]
    rcases so s hs with h | ⟨d, -, -, h⟩
    · exact h
    · exact absurd h (h2 d)
  · rw [if_neg (by omega)]
    have a := co _ s hs h1 h2
    rcases so s hs with h | ⟨d, -, e, h⟩
    · omega
    · have b : ¬ d < f s := fun z => h3 d z h
      omega
theorem dst_step {nx : Nat → Nat → Nat} {to : Nat} (hto : to ≤ 12) (hn : ∀ s c, s ≤ 12 → c < 4 → nx s c ≤ 12) {s : Nat} (hs : s ≤ 12) {d : Nat} (hd : dst nx to s = d + 1) (h12 : d < 12) : ∃ c, c < 4 ∧ dst nx to (nx s c) = d := by
  have sp := fun s hs => dst_spec (s := s) hto hn hs
  generalize dst nx to = f at sp hd ⊢
  rcases sp s hs with ⟨h1, h2⟩ | ⟨h1, h2, h3⟩
  · omega
  · rw [hd] at h2 h3
    obtain ⟨c, hc, h⟩ := h2
    refine ⟨c, hc, ?_⟩
    rcases sp _ (hn s c hs hc) with ⟨-, a⟩ | ⟨-, a, b⟩
    · exact absurd h (a d)
    · have u : ¬ d < f (nx s c) := fun z => b d z h
      have w : ¬ f (nx s c) + 1 < d + 1 := fun z => h3 _ z ⟨c, hc, a⟩
      omega
