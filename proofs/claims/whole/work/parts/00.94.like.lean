/-! like scenes -/
def Ek (K : Nat → Int) (nx : Nat → Nat → Nat) : Nat → Nat → Nat → Prop
  | 0, a, b => K a = K b
  | k + 1, a, b => Ek K nx k a b ∧ ∀ c, c < 4 → Ek K nx k (nx a c) (nx b c)
def Eqv (E : Nat → Nat → Prop) : Prop := (∀ a, E a a) ∧ (∀ a b, E a b → E b a) ∧ ∀ a b c, E a b → E b c → E a c
def fin (nx : Nat → Nat → Nat) (E : Nat → Nat → Prop) (a b : Nat) : Prop := E a b ∧ ∀ c, c < 4 → E (nx a c) (nx b c)
theorem fin_eqv {nx : Nat → Nat → Nat} {E : Nat → Nat → Prop} (h : Eqv E) : Eqv (fin nx E) := ⟨fun a => ⟨h.1 a, fun c _ => h.1 _⟩, fun a b z => ⟨h.2.1 _ _ z.1, fun c hc => h.2.1 _ _ (z.2 c hc)⟩, fun a b c z w => ⟨h.2.2 _ _ _ z.1 w.1, fun d hd => h.2.2 _ _ _ (z.2 d hd) (w.2 d hd)⟩⟩
theorem Ek_eqv (K : Nat → Int) (nx : Nat → Nat → Nat) : ∀ k, Eqv (Ek K nx k) := by
  intro k
  induction k with
  | zero => exact ⟨fun a => rfl, fun a b h => Eq.symm h, fun a b c h h' => Eq.trans h h'⟩
  | succ k ih => exact fin_eqv ih
theorem Ek_le {K : Nat → Int} {nx : Nat → Nat → Nat} {a b : Nat} : ∀ d j, Ek K nx (j + d) a b → Ek K nx j a b := by
  intro d
  induction d with
  | zero => exact fun j h => h
  | succ d ih => exact fun j h => ih j h.1
theorem Ek_low {K : Nat → Int} {nx : Nat → Nat → Nat} {a b j k : Nat} (h : Ek K nx k a b) (hj : j ≤ k) : Ek K nx j a b := by
  refine Ek_le (k - j) j ?_
  rw [show j + (k - j) = k by omega]
  exact h
def rep (E : Nat → Nat → Prop) (s : Nat) : Prop := ∀ q, q < s → ¬ E s q
def IsLow (E : Nat → Nat → Prop) (s p : Nat) : Prop := p ≤ s ∧ E s p ∧ ∀ q, q < p → ¬ E s q
theorem least {p : Nat → Prop} : ∀ n, p n → ∃ x, x ≤ n ∧ p x ∧ ∀ y, y < x → ¬ p y := by
  intro n
  induction n using Nat.strongRecOn with
  | ind n ih =>
    intro h
    by_cases c : ∃ m, m < n ∧ p m
    · obtain ⟨m, h1, h2⟩ := c
      obtain ⟨x, h3, h4, h5⟩ := ih m h1 h2
      exact ⟨x, by omega, h4, h5⟩
    · exact ⟨n, Nat.le_refl _, h, fun y hy z => c ⟨y, hy, z⟩⟩
theorem low_ex {E : Nat → Nat → Prop} (h : Eqv E) (s : Nat) : ∃ p, IsLow E s p := by
  obtain ⟨x, h1, h2, h3⟩ := least (p := fun q => E s q) s (h.1 s)
  exact ⟨x, h1, h2, h3⟩
theorem low_rep {E : Nat → Nat → Prop} (h : Eqv E) {s p : Nat} (l : IsLow E s p) : rep E p := fun q hq z => l.2.2 q hq (h.2.2 _ _ _ l.2.1 z)
theorem low_uniq {E : Nat → Nat → Prop} {s p q : Nat} (l : IsLow E s p) (l' : IsLow E s q) : p = q := by
  by_cases c : p < q
  · exact absurd l.2.1 (l'.2.2 p c)
  · by_cases d : q < p
    · exact absurd l'.2.1 (l.2.2 q d)
    · omega
theorem low_cg {E : Nat → Nat → Prop} (h : Eqv E) {s t p : Nat} (hst : E s t) (l : IsLow E s p) : IsLow E t p := by
  have e : E t p := h.2.2 _ _ _ (h.2.1 _ _ hst) l.2.1
  refine ⟨?_, e, fun q hq z => l.2.2 q hq (h.2.2 _ _ _ hst z)⟩
  by_cases c : t < p
  · exact absurd hst (l.2.2 t c)
  · omega
/-- one sort more, where something is parted -/
theorem rep_new {nx : Nat → Nat → Nat} {E : Nat → Nat → Prop} (h : Eqv E) {n : Nat} (no : ∀ s, s < n → rep (fin nx E) s → rep E s) : ∀ a b, a < n → b < n → E a b → fin nx E a b := by
  intro a b ha hb hab
  have hf := fin_eqv (nx := nx) h
  apply Classical.byContradiction
  intro nab
  obtain ⟨m, hm⟩ := low_ex h a
  have mb := low_cg h hab hm
  have bad : (E a m ∧ ¬ fin nx E m a) ∨ (E b m ∧ ¬ fin nx E m b) := by
    by_cases c : fin nx E m a
    · right
      refine ⟨mb.2.1, fun d => nab (hf.2.2 _ _ _ (hf.2.1 _ _ c) d)⟩
    · exact Or.inl ⟨hm.2.1, c⟩
  have ex : ∃ x, x < n ∧ E m x ∧ ¬ fin nx E m x := by
    rcases bad with ⟨h1, h2⟩ | ⟨h1, h2⟩
    · exact ⟨a, ha, h.2.1 _ _ h1, h2⟩
    · exact ⟨b, hb, h.2.1 _ _ h1, h2⟩
  obtain ⟨x0, hx0, h1, h2⟩ := ex
  obtain ⟨x, hx, ⟨h3, h4⟩, h5⟩ := least (p := fun x => E m x ∧ ¬ fin nx E m x) x0 ⟨h1, h2⟩
  have rx : rep (fin nx E) x := by
    intro y hy z
    have ey : E m y := h.2.2 _ _ _ h3 z.1
    by_cases c : fin nx E m y
    · exact h4 (hf.2.2 _ _ _ c (hf.2.1 _ _ z))
    · exact h5 y hy ⟨ey, c⟩
  have rx' := no x (by omega) rx
  have mx : m < x := by
    by_cases c : m = x
    · subst c; exact absurd (hf.1 m) h4
    · by_cases d : x < m
      · have hax : E a x := h.2.2 _ _ _ hm.2.1 h3
        exact absurd hax (hm.2.2 x d)
      · omega
  exact rx' m mx (h.2.1 _ _ h3)
theorem Ek_12 {K : Nat → Int} {nx : Nat → Nat → Nat} (hn : ∀ s c, s ≤ 12 → c < 4 → nx s c ≤ 12) : ∀ k a b, a ≤ 12 → b ≤ 12 → 12 ≤ k → Ek K nx 12 a b → Ek K nx k a b := by
  have st : ∀ k s, s < 13 → rep (Ek K nx k) s → rep (Ek K nx 12) s := by
    refine stab 13 (fun k => rep (Ek K nx k)) (fun k s hs h q hq z => h q hq z.1) (fun k no s hs h => ?_) ⟨0, by omega, fun q hq => by omega⟩
    have e := rep_new (nx := nx) (Ek_eqv K nx k) (n := 13) no
    intro q hq z
    refine h q hq ⟨z, fun c hc => ?_⟩
    exact e _ _ (by have := hn s c (by omega) hc; omega) (by have := hn q c (by omega) hc; omega) (z.2 c hc)
  have one := rep_new (nx := nx) (Ek_eqv K nx 12) (n := 13) (st 13)
  have all : ∀ d a b, a ≤ 12 → b ≤ 12 → Ek K nx 12 a b → Ek K nx (12 + d) a b := by
    intro d
    induction d with
    | zero => exact fun a b _ _ h => h
    | succ d ih =>
      intro a b ha hb h
      have f := one a b (by omega) (by omega) h
      exact ⟨ih a b ha hb h, fun c hc => ih _ _ (hn a c ha hc) (hn b c hb hc) (f.2 c hc)⟩
  intro k a b ha hb hk h
  have := all (k - 12) a b ha hb h
  rw [show 12 + (k - 12) = k by omega] at this
  exact this
/-- once nothing is parted, nothing ever is -/
theorem Ek_still {K : Nat → Int} {nx : Nat → Nat → Nat} (hn : ∀ s c, s ≤ 12 → c < 4 → nx s c ≤ 12) {k : Nat} (h : ∀ a b, a ≤ 12 → b ≤ 12 → Ek K nx k a b → Ek K nx (k + 1) a b) : ∀ a b, a ≤ 12 → b ≤ 12 → (Ek K nx k a b ↔ Ek K nx 12 a b) := by
  have all : ∀ d a b, a ≤ 12 → b ≤ 12 → Ek K nx k a b → Ek K nx (k + d) a b := by
    intro d
    induction d with
    | zero => exact fun a b _ _ h => h
    | succ d ih =>
      intro a b ha hb z
      have f := h a b ha hb z
      exact ⟨ih a b ha hb z, fun c hc => ih _ _ (hn a c ha hc) (hn b c hb hc) (f.2 c hc)⟩
  intro a b ha hb
  by_cases c : k ≤ 12
  · constructor
    · intro z
      have := all (12 - k) a b ha hb z
      rw [show k + (12 - k) = 12 by omega] at this
      exact this
    · exact fun z => Ek_low z c
  · exact ⟨fun z => Ek_low z (by omega), fun z => Ek_12 hn k a b ha hb (by omega) z⟩
theorem cnt_cg {p q : Nat → Prop} (n : Nat) (h : ∀ i, i < n → (p i ↔ q i)) : cnt p n = cnt q n := by
  have a := cnt_mono n (fun i hi => (h i hi).1)
  have b := cnt_mono n (fun i hi => (h i hi).2)
  omega
theorem cnt_up {p : Nat → Prop} : ∀ d n, cnt p n ≤ cnt p (n + d) := by
  intro d
  induction d with
  | zero => exact fun n => Nat.le_refl _
  | succ d ih =>
    intro n
    have a := ih n
    by_cases c : p (n + d)
    · have := cnt_t c
      rw [show n + (d + 1) = n + d + 1 by omega]; omega
    · have := cnt_f c
      rw [show n + (d + 1) = n + d + 1 by omega]; omega
/-- the number of a sort tells the sort -/
theorem cnt_inj {p : Nat → Prop} {a b : Nat} (ha : p a) (hb : p b) (h : cnt p a = cnt p b) : a = b := by
  by_cases c : a < b
  · have := cnt_up (p := p) (b - (a + 1)) (a + 1)
    rw [cnt_t ha, show a + 1 + (b - (a + 1)) = b by omega] at this
    omega
  · by_cases d : b < a
    · have := cnt_up (p := p) (a - (b + 1)) (b + 1)
      rw [cnt_t hb, show b + 1 + (a - (b + 1)) = a by omega] at this
      omega
    · omega
/-! the reference's levels -/
def pd (K : Nat → Int) (nx : Nat → Nat → Nat) : Nat → Nat → Nat → Nat
  | 0, p, q => if K p = K q then 1000000 else 0
  | k + 1, p, q => if pd K nx k p q = 1000000 ∧ (pd K nx k (nx p 0) (nx q 0) = k ∨ pd K nx k (nx p 1) (nx q 1) = k ∨ pd K nx k (nx p 2) (nx q 2) = k ∨ pd K nx k (nx p 3) (nx q 3) = k) then k + 1 else pd K nx k p q
theorem pd_succ (K : Nat → Int) (nx : Nat → Nat → Nat) (k p q : Nat) : pd K nx (k + 1) p q = if pd K nx k p q = 1000000 ∧ (pd K nx k (nx p 0) (nx q 0) = k ∨ pd K nx k (nx p 1) (nx q 1) = k ∨ pd K nx k (nx p 2) (nx q 2) = k ∨ pd K nx k (nx p 3) (nx q 3) = k) then k + 1 else pd K nx k p q := rfl
theorem pd_spec (K : Nat → Int) (nx : Nat → Nat → Nat) : ∀ k, k < 1000 → ∀ p q, (pd K nx k p q = 1000000 ∧ Ek K nx k p q) ∨ (pd K nx k p q ≤ k ∧ ¬ Ek K nx (pd K nx k p q) p q ∧ ∀ j, j < pd K nx k p q → Ek K nx j p q) := by
  intro k
  induction k with
  | zero =>
    intro _ p q
    by_cases c : K p = K q
    · exact Or.inl ⟨if_pos c, c⟩
    · right
      rw [show pd K nx 0 p q = 0 from if_neg c]
      exact ⟨Nat.le_refl _, c, fun j hj => by omega⟩
  | succ k ih =>
    intro hk p q
    have ih := ih (by omega)
    rcases ih p q with ⟨h1, h2⟩ | ⟨h1, h2, h3⟩
    · by_cases c : ∃ c, c < 4 ∧ pd K nx k (nx p c) (nx q c) = k
      · right
        rw [pd_succ, if_pos ⟨h1, four.1 c⟩]
        obtain ⟨c, hc, e⟩ := c
        refine ⟨Nat.le_refl _, fun z => ?_, fun j hj => Ek_low h2 (by omega)⟩
        rcases ih (nx p c) (nx q c) with ⟨a, -⟩ | ⟨-, a, -⟩
        · omega
        · rw [e] at a; exact a (z.2 c hc)
      · left
        rw [pd_succ, if_neg (fun z => c (four.2 z.2))]
        refine ⟨h1, h2, fun d hd => ?_⟩
        rcases ih (nx p d) (nx q d) with ⟨-, a⟩ | ⟨a1, a2, a3⟩
        · exact a
        · by_cases e2 : pd K nx k (nx p d) (nx q d) = k
          · exact absurd ⟨d, hd, e2⟩ c
          · have : Ek K nx (pd K nx k (nx p d) (nx q d) + 1) p q := Ek_low h2 (by omega)
            exact absurd (this.2 d hd) a2
    · right
      rw [pd_succ, if_neg (fun z => by omega)]
      exact ⟨by omega, h2, h3⟩
def pdd (K : Nat → Int) (nx : Nat → Nat → Nat) (p q : Nat) : Nat := pd K nx 12 p q
theorem pdd_spec (K : Nat → Int) (nx : Nat → Nat → Nat) (p q : Nat) : (pdd K nx p q = 1000000 ∧ Ek K nx 12 p q) ∨ (pdd K nx p q ≤ 12 ∧ ¬ Ek K nx (pdd K nx p q) p q ∧ ∀ j, j < pdd K nx p q → Ek K nx j p q) := pd_spec K nx 12 (by omega) p q
