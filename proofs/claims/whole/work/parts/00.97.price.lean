/-! the roster: prices -/
def occ (A : Nat → Nat) (e : Nat) : Nat → Nat
  | 0 => 0
  | p + 1 => occ A e p + if A p = e then 1 else 0
theorem occ_s (A : Nat → Nat) (e p : Nat) : occ A e (p + 1) = occ A e p + if A p = e then 1 else 0 := rfl
theorem occ_cg {A B : Nat → Nat} {e : Nat} : ∀ p, (∀ q, q < p → A q = B q) → occ A e p = occ B e p := by
  intro p
  induction p with
  | zero => exact fun _ => rfl
  | succ p ih => intro h; rw [occ_s, occ_s, ih (fun q hq => h q (by omega)), h p (by omega)]
theorem sm_le {f g : Nat → Int} : ∀ n, (∀ i, i < n → f i ≤ g i) → sm f n ≤ sm g n := by
  intro n
  induction n with
  | zero => exact fun _ => Int.le_refl _
  | succ n ih => intro h; rw [sm_s, sm_s]; have a := ih (fun i hi => h i (by omega)); have b := h n (by omega); omega
theorem sm_add (f g : Nat → Int) : ∀ n, sm (fun i => f i + g i) n = sm f n + sm g n := by
  intro n
  induction n with
  | zero => rfl
  | succ n ih => rw [sm_s, sm_s, sm_s, ih]; omega
theorem sm_sub (f g : Nat → Int) : ∀ n, sm (fun i => f i - g i) n = sm f n - sm g n := by
  intro n
  induction n with
  | zero => rfl
  | succ n ih => rw [sm_s, sm_s, sm_s, ih]; omega
theorem price_sum (y : Nat → Int) (A : Nat → Nat) : ∀ p, (∀ q, q < p → A q < 5) → sm (fun q => y (A q)) p = sm (fun e => y e * (occ A e p : Int)) 5 := by
  intro p
  induction p with
  | zero =>
    intro _
    rw [sm_0, sm_cg (f := fun e => y e * (occ A e 0 : Int)) (g := fun _ => 0) 5 (fun i hi => by rw [show occ A i 0 = 0 from rfl]; exact Int.mul_zero _), sm_zero]
  | succ p ih =>
    intro h
    have hp := h p (by omega)
    rw [sm_s, ih (fun q hq => h q (by omega))]
    have e : sm (fun e => y e * (occ A e (p + 1) : Int)) 5 = sm (fun e => y e * (occ A e p : Int) + (if e = A p then 1 else 0) * y e) 5 := by
      refine sm_cg 5 (fun i hi => ?_)
      rw [occ_s]
      by_cases c : A p = i
      · rw [if_pos c, if_pos c.symm, Int.natCast_add, Int.mul_add, Int.one_mul, Int.natCast_one, Int.mul_one]
      · rw [if_neg c, if_neg (fun z => c z.symm), Nat.add_zero, Int.zero_mul, Int.add_zero]
    rw [e, sm_add, sm_one, if_pos hp]
theorem occ_sum (A : Nat → Nat) (p : Nat) (h : ∀ q, q < p → A q < 5) : sm (fun e => (occ A e p : Int)) 5 = p := by
  have a := price_sum (fun _ => 1) A p h
  have b : ∀ n : Nat, sm (fun _ => (1 : Int)) n = n := by
    intro n
    induction n with
    | zero => rfl
    | succ n ih => rw [sm_s, ih]; rfl
  rw [b] at a
  rw [a]
  exact sm_cg 5 (fun i hi => (Int.one_mul _).symm)
/-- a row of evenings that can be -/
def Fea (k P : Nat) (A : Nat → Nat) : Prop := (∀ q, q < P → A q < 5) ∧ ∀ e, e < 5 → occ A e P ≤ k
/-- a row, and prices that show it best -/
def Pri (w : Nat → Nat → Int) (k p : Nat) (A : Nat → Nat) (y : Nat → Int) : Prop := Fea k p A ∧ (∀ e, e < 5 → 0 ≤ y e ∧ y e ≤ 40000000 * (p : Int)) ∧ (∀ e, e < 5 → occ A e p < k → y e = 0) ∧ ∀ q e, q < p → e < 5 → w q e - y e ≤ w q (A q) - y (A q)
theorem Pri_best {w : Nat → Nat → Int} {k p : Nat} {A : Nat → Nat} {y : Nat → Int} (h : Pri w k p A y) {B : Nat → Nat} (hB : Fea k p B) : sm (fun q => w q (B q)) p ≤ sm (fun q => w q (A q)) p := by
  obtain ⟨⟨a1, a2⟩, y1, y2, y3⟩ := h
  have s1 : sm (fun q => w q (B q) - y (B q)) p ≤ sm (fun q => w q (A q) - y (A q)) p := sm_le p (fun q hq => y3 q (B q) hq (hB.1 q hq))
  rw [sm_sub (fun q => w q (B q)) (fun q => y (B q)), sm_sub (fun q => w q (A q)) (fun q => y (A q)), price_sum y A p a1, price_sum y B p hB.1] at s1
  have s2 : sm (fun e => y e * (occ B e p : Int)) 5 ≤ sm (fun e => y e * (occ A e p : Int)) 5 := by
    refine sm_le 5 (fun e he => ?_)
    have b := hB.2 e he
    by_cases c : occ A e p < k
    · rw [y2 e he c, Int.zero_mul, Int.zero_mul]
      exact Int.le_refl _
    · exact Int.mul_le_mul_of_nonneg_left (by omega) (y1 e he).1
  omega
/-! what a new one wins by an evening more -/
/-- by d: what is won; mv: who moves on there (p itself: none); R: the order in which they came -/
def Won (w : Nat → Nat → Int) (p : Nat) (A : Nat → Nat) (d : Nat → Int) (mv : Nat → Int) (R : Nat → Nat) : Prop := ∀ e, e < 5 → w p e ≤ d e ∧ ((mv e = -1 ∧ d e = w p e) ∨ ∃ q : Nat, q < p ∧ mv e = q ∧ A q ≠ e ∧ d e ≤ d (A q) - w q (A q) + w q e ∧ (R (A q) < R e ∨ d e < d (A q) - w q (A q) + w q e))
def upI (f : Nat → Int) (e : Nat) (v : Int) : Nat → Int := fun x => if x = e then v else f x
theorem upI_at (f : Nat → Int) (e : Nat) (v : Int) : upI f e v e = v := if_pos rfl
theorem upI_ne (f : Nat → Int) {e x : Nat} (v : Int) (h : x ≠ e) : upI f e v x = f x := if_neg h
theorem Won_up {w : Nat → Nat → Int} {p : Nat} {A : Nat → Nat} {d : Nat → Int} {mv : Nat → Int} {R : Nat → Nat} (h : Won w p A d mv R) (hA : ∀ q, q < p → A q < 5) {q e : Nat} (hq : q < p) (he : e < 5) (hne : e ≠ A q) (hv : d e < d (A q) - w q (A q) + w q e) : ∃ R', Won w p A (upI d e (d (A q) - w q (A q) + w q e)) (upI mv e q) R' := by
  obtain ⟨t, ht⟩ : ∃ t, ∀ x, x < 5 → R x < t := ⟨R 0 + R 1 + R 2 + R 3 + R 4 + 1, fun x hx => by
    have : x = 0 ∨ x = 1 ∨ x = 2 ∨ x = 3 ∨ x = 4 := by omega
    rcases this with rfl | rfl | rfl | rfl | rfl <;> omega⟩
  refine ⟨fun x => if x = e then t else R x, fun x hx => ?_⟩
  have hAq := hA q hq
  by_cases c : x = e
  · subst c
    rw [upI_at, upI_at]
    refine ⟨by have := (h x hx).1; omega, Or.inr ⟨q, hq, rfl, fun z => hne z.symm, ?_, Or.inl ?_⟩⟩
    · rw [upI_ne _ _ (fun z => hne z.symm)]
      exact Int.le_refl _
    · show (if A q = x then t else R (A q)) < (if x = x then t else R x)
      rw [if_neg (fun z => hne z.symm), if_pos rfl]
      exact ht _ hAq
  · obtain ⟨h1, h2⟩ := h x hx
    rw [upI_ne _ _ c, upI_ne _ _ c]
    refine ⟨h1, ?_⟩
    rcases h2 with h2 | ⟨q', g1, g2, g3, g4, g5⟩
    · exact Or.inl h2
    · refine Or.inr ⟨q', g1, g2, g3, ?_⟩
      by_cases z : A q' = e
      · rw [z] at g4 ⊢
        rw [upI_at]
        exact ⟨by omega, Or.inr (by omega)⟩
      · rw [upI_ne _ _ z]
        show _ ∧ ((if A q' = e then t else R (A q')) < (if x = e then t else R x) ∨ _)
        rw [if_neg z, if_neg c]
        exact ⟨g4, g5⟩
/-- those that F names, and m, stand fast in this round -/
def Fast (w : Nat → Nat → Int) (p : Nat) (A : Nat → Nat) (y : Nat → Int) (F : Nat → Prop) (m : Nat) (D d : Nat → Int) : Prop := (∀ e, e < 5 → F e ∨ e = m → d e = D e) ∧ (∀ e, e < 5 → D e ≤ d e) ∧ (∀ e, e < 5 → ¬ F e → d e - y e ≤ D m - y m) ∧ ((∀ e, e < 5 → F e) ∨ (¬ F m ∧ ∀ e, e < 5 → F e → D m - y m ≤ D e - y e)) ∧ ∀ q e, q < p → e < 5 → F (A q) → d (A q) - w q (A q) + w q e ≤ d e
theorem Fast_up {w : Nat → Nat → Int} {k p : Nat} {A : Nat → Nat} {y : Nat → Int} (hP : Pri w k p A y) {F : Nat → Prop} {m : Nat} (hm : m < 5) {D d : Nat → Int} (h : Fast w p A y F m D d) {q e : Nat} (hq : q < p) (he : e < 5) (hne : e ≠ A q) (hv : d e < d (A q) - w q (A q) + w q e) : Fast w p A y F m D (upI d e (d (A q) - w q (A q) + w q e)) := by
  obtain ⟨f1, f2, f3, f4, f5⟩ := h
  have hA := hP.1.1 q hq
  have g := hP.2.2.2 q e hq he
  have nl : ¬ F (A q) := fun z => by have := f5 q e hq he z; omega
  have dl := f3 (A q) hA nl
  rcases f4 with f4 | ⟨f4, f6⟩
  · exact absurd (f4 _ hA) nl
  have ne : ¬ F e := fun z => by
    have a := f1 e he (Or.inl z)
    have b := f6 e he z
    omega
  have nm : e ≠ m := fun z => by
    subst z
    have a := f1 e he (Or.inr rfl)
    omega
  refine ⟨fun x hx h => ?_, fun x hx => ?_, fun x hx h => ?_, Or.inr ⟨f4, f6⟩, fun q' x hq' hx h => ?_⟩
  · have c : x ≠ e := fun z => by
      subst z
      rcases h with h | h
      · exact ne h
      · exact nm h
    rw [upI_ne _ _ c]
    exact f1 x hx h
  · by_cases c : x = e
    · subst c; rw [upI_at]; have := f2 x hx; omega
    · rw [upI_ne _ _ c]; exact f2 x hx
  · by_cases c : x = e
    · subst c; rw [upI_at]; omega
    · rw [upI_ne _ _ c]; exact f3 x hx h
  · have c : A q' ≠ e := fun z => by rw [z] at h; exact ne h
    rw [upI_ne _ _ c]
    have b := f5 q' x hq' hx h
    by_cases c2 : x = e
    · subst c2; rw [upI_at]; omega
    · rw [upI_ne _ _ c2]; exact b
/-- behind r rounds r of them are done with -/
def Rnd (w : Nat → Nat → Int) (p : Nat) (A : Nat → Nat) (y : Nat → Int) (r : Nat) (d : Nat → Int) : Prop := ∃ F : Nat → Prop, r ≤ cnt F 5 ∧ (∀ e x, e < 5 → x < 5 → F e → ¬ F x → d x - y x ≤ d e - y e) ∧ ∀ q e, q < p → e < 5 → F (A q) → d (A q) - w q (A q) + w q e ≤ d e
theorem Rnd_0 (w : Nat → Nat → Int) (p : Nat) (A : Nat → Nat) (y : Nat → Int) (d : Nat → Int) : Rnd w p A y 0 d := ⟨fun _ => False, by omega, fun e x _ _ h => h.elim, fun q e _ _ h => h.elim⟩
theorem max_ex (f : Nat → Int) (F : Nat → Prop) : ∀ n, (∃ e, e < n ∧ ¬ F e) → ∃ m, m < n ∧ ¬ F m ∧ ∀ e, e < n → ¬ F e → f e ≤ f m := by
  intro n
  induction n with
  | zero => rintro ⟨e, he, -⟩; omega
  | succ n ih =>
    rintro ⟨e, he, h⟩
    by_cases c : ∃ e, e < n ∧ ¬ F e
    · obtain ⟨m, m1, m2, m3⟩ := ih c
      by_cases d : ¬ F n ∧ f m < f n
      · refine ⟨n, by omega, d.1, fun x hx hxF => ?_⟩
        by_cases z : x = n
        · subst z; exact Int.le_refl _
        · have := m3 x (by omega) hxF
          omega
      · refine ⟨m, by omega, m2, fun x hx hxF => ?_⟩
        by_cases z : x = n
        · subst z
          apply Classical.byContradiction
          intro y
          exact d ⟨hxF, by omega⟩
        · exact m3 x (by omega) hxF
    · have : e = n := by
        apply Classical.byContradiction
        intro z
        exact c ⟨e, by omega, h⟩
      subst this
      refine ⟨e, by omega, h, fun x hx hxF => ?_⟩
      by_cases z : x = e
      · subst z; exact Int.le_refl _
      · exact absurd ⟨x, by omega, hxF⟩ c
/-- a round begins: who stands fast -/
theorem Rnd_begin {w : Nat → Nat → Int} {p : Nat} {A : Nat → Nat} {y : Nat → Int} {r : Nat} {d : Nat → Int} (h : Rnd w p A y r d) : ∃ (F : Nat → Prop) (m : Nat), m < 5 ∧ r ≤ cnt F 5 ∧ Fast w p A y F m d d := by
  obtain ⟨F, h1, h2, h3⟩ := h
  by_cases c : ∃ e, e < 5 ∧ ¬ F e
  · obtain ⟨m, m1, m2, m3⟩ := max_ex (fun e => d e - y e) F 5 c
    exact ⟨F, m, m1, h1, fun e _ _ => rfl, fun e _ => Int.le_refl _, fun e he hF => m3 e he hF, Or.inr ⟨m2, fun e he hF => h2 e m he m1 hF m2⟩, h3⟩
  · have full : ∀ e, e < 5 → F e := fun e he => Classical.byContradiction fun z => c ⟨e, he, z⟩
    exact ⟨F, 0, by omega, h1, fun e _ _ => rfl, fun e _ => Int.le_refl _, fun e he hF => absurd (full e he) hF, Or.inl full, h3⟩
/-- and ends: one more -/
theorem Rnd_end {w : Nat → Nat → Int} {p : Nat} {A : Nat → Nat} {y : Nat → Int} {r : Nat} (hr : r < 5) {F : Nat → Prop} {m : Nat} (hm : m < 5) (hc : r ≤ cnt F 5) {D d : Nat → Int} (h : Fast w p A y F m D d) (hb : ∀ q e, q < p → e < 5 → A q = m → d m - w q m + w q e ≤ d e) : Rnd w p A y (r + 1) d := by
  obtain ⟨f1, f2, f3, f4, f5⟩ := h
  rcases f4 with f4 | ⟨f4, f6⟩
  · refine ⟨F, ?_, fun e x _ hx _ z => absurd (f4 x hx) z, f5⟩
    have : cnt F 5 = 5 := by
      have := cnt_cg (p := F) (q := fun _ => True) 5 (fun i hi => ⟨fun _ => trivial, fun _ => f4 i hi⟩)
      rw [this, cnt_t trivial, cnt_t trivial, cnt_t trivial, cnt_t trivial, cnt_t trivial]
      rfl
    omega
  · refine ⟨fun e => F e ∨ e = m, ?_, fun e x he hx h1 h2 => ?_, fun q e hq he h1 => ?_⟩
    · have := cnt_lt (p := F) (q := fun e => F e ∨ e = m) 5 (fun i _ z => Or.inl z) ⟨m, hm, Or.inr rfl, f4⟩
      omega
    · have a := f3 x hx (fun z => h2 (Or.inl z))
      rcases h1 with h1 | h1
      · have b := f1 e he (Or.inl h1)
        have c := f6 e he h1
        omega
      · subst h1
        have b := f1 e he (Or.inr rfl)
        omega
    · rcases h1 with h1 | h1
      · exact f5 q e hq he h1
      · have := hb q e hq he h1
        rw [h1]; exact this
/-- behind four rounds nothing is won any more -/
theorem Rnd_4 {w : Nat → Nat → Int} {k p : Nat} {A : Nat → Nat} {y : Nat → Int} (hP : Pri w k p A y) {d : Nat → Int} (h : Rnd w p A y 4 d) : ∀ q e, q < p → e < 5 → d (A q) - w q (A q) + w q e ≤ d e := by
  obtain ⟨F, h1, h2, h3⟩ := h
  intro q e hq he
  by_cases c : F (A q)
  · exact h3 q e hq he c
  · have hA := hP.1.1 q hq
    have g := hP.2.2.2 q e hq he
    by_cases z : e = A q
    · subst z; omega
    · have Fe : F e := by
        apply Classical.byContradiction
        intro ne
        have a := cnt_lt (p := F) (q := fun x => F x ∨ x = e) 5 (fun i _ z => Or.inl z) ⟨e, he, Or.inr rfl, ne⟩
        have b := cnt_lt (p := fun x => F x ∨ x = e) (q := fun x => (F x ∨ x = e) ∨ x = A q) 5 (fun i _ z => Or.inl z) ⟨A q, hA, Or.inr rfl, fun y => by
          rcases y with y | y
          · exact c y
          · exact z y.symm⟩
        have d := cnt_le (fun x => (F x ∨ x = e) ∨ x = A q) 5
        omega
      have := h2 e (A q) he hA Fe c
      omega
/-- the new prices -/
def prN (y d : Nat → Int) (m : Nat) : Nat → Int := fun e => y e + (if d m - y m < d e - y e then d e - y e - (d m - y m) else 0)
theorem prN_hi {y d : Nat → Int} {m e : Nat} (h : d m - y m ≤ d e - y e) : prN y d m e = d e - (d m - y m) := by
  unfold prN
  by_cases c : d m - y m < d e - y e
  · rw [if_pos c]; omega
  · rw [if_neg c]; omega
theorem prN_ge (y d : Nat → Int) (m e : Nat) : y e ≤ prN y d m e ∧ d e - (d m - y m) ≤ prN y d m e := by
  unfold prN
  by_cases c : d m - y m < d e - y e
  · rw [if_pos c]; omega
  · rw [if_neg c]; omega
/-- at the new prices each of the elder sits best where it sat -/
theorem prN_best {w : Nat → Nat → Int} {k p : Nat} {A : Nat → Nat} {y d : Nat → Int} (hP : Pri w k p A y) (hB : ∀ q e, q < p → e < 5 → d (A q) - w q (A q) + w q e ≤ d e) (m : Nat) : ∀ q e, q < p → e < 5 → w q e - prN y d m e ≤ w q (A q) - prN y d m (A q) := by
  intro q e hq he
  have g := hP.2.2.2 q e hq he
  have b := hB q e hq he
  obtain ⟨n1, n2⟩ := prN_ge y d m e
  by_cases c : d m - y m < d (A q) - y (A q)
  · rw [prN_hi (e := A q) (by omega)]; omega
  · have : prN y d m (A q) = y (A q) := by unfold prN; rw [if_neg c]; omega
    omega
/-- on the way from the last of the moves back to the new one -/
def Way (w : Nat → Nat → Int) (p : Nat) (A A' : Nat → Nat) (y d : Nat → Int) (R : Nat → Nat) (m c i : Nat) : Prop := c < 5 ∧ d m - y m ≤ d c - y c ∧ (∀ q, q < p → A' q < 5) ∧ (∀ q e, q < p → e < 5 → w q e - prN y d m e ≤ w q (A' q) - prN y d m (A' q)) ∧ (∀ e, e < 5 → occ A' e p + (if e = c then 1 else 0) = occ A e p + (if e = m then 1 else 0)) ∧ (∀ q, q < p → A' q = A q ∨ R c ≤ R (A q)) ∧ ∃ F : Nat → Prop, cnt F 5 = i + 1 ∧ F c ∧ ∀ e, e < 5 → F e → R c ≤ R e
theorem Way_0 {w : Nat → Nat → Int} {k p : Nat} {A : Nat → Nat} {y d : Nat → Int} {R : Nat → Nat} (hP : Pri w k p A y) (hB : ∀ q e, q < p → e < 5 → d (A q) - w q (A q) + w q e ≤ d e) {m : Nat} (hm : m < 5) : Way w p A A y d R m m 0 := by
  refine ⟨hm, Int.le_refl _, hP.1.1, prN_best hP hB m, fun e he => rfl, fun q hq => Or.inl rfl, fun e => e = m, ?_, rfl, fun e he h => by rw [h]; exact Nat.le_refl _⟩
  have h0 := cnt_cg (p := fun e => e = m) (q := fun e => e = m) 5 (fun i hi => Iff.rfl)
  have one : ∀ n, n ≤ 5 → cnt (fun e => e = m) n = if m < n then 1 else 0 := by
    intro n
    induction n with
    | zero => intro _; rfl
    | succ n ih =>
      intro hn
      by_cases c : n = m
      · rw [cnt_t (p := fun e => e = m) (show n = m from c), ih (by omega), if_neg (by omega), if_pos (by omega)]
      · rw [cnt_f (p := fun e => e = m) (show ¬ n = m from c), ih (by omega)]
        by_cases d : m < n
        · rw [if_pos d, if_pos (by omega)]
        · rw [if_neg d, if_neg (by omega)]
  rw [one 5 (by omega), if_pos hm]
theorem Way_lt {w : Nat → Nat → Int} {p : Nat} {A A' : Nat → Nat} {y d : Nat → Int} {R : Nat → Nat} {m c i : Nat} (h : Way w p A A' y d R m c i) : i < 5 := by
  obtain ⟨-, -, -, -, -, -, F, h, -⟩ := h
  have := cnt_le F 5
  omega
def upN (f : Nat → Nat) (q v : Nat) : Nat → Nat := fun x => if x = q then v else f x
theorem upN_at (f : Nat → Nat) (q v : Nat) : upN f q v q = v := if_pos rfl
theorem upN_ne (f : Nat → Nat) {q x : Nat} (v : Nat) (h : x ≠ q) : upN f q v x = f x := if_neg h
theorem occ_up (A : Nat → Nat) {q v : Nat} (e : Nat) : ∀ p, q < p → occ (upN A q v) e p + (if A q = e then 1 else 0) = occ A e p + (if v = e then 1 else 0) := by
  intro p
  induction p with
  | zero => intro h; omega
  | succ p ih =>
    intro h
    rw [occ_s, occ_s]
    by_cases c : p = q
    · subst c
      rw [upN_at, occ_cg (A := upN A p v) (B := A) p (fun x hx => upN_ne _ _ (by omega))]
      omega
    · rw [upN_ne _ _ c]
      have := ih (by omega)
      omega
theorem Way_step {w : Nat → Nat → Int} {k p : Nat} {A A' : Nat → Nat} {y d : Nat → Int} {mv : Nat → Int} {R : Nat → Nat} {m c i : Nat} (hP : Pri w k p A y) (hW : Won w p A d mv R) (hB : ∀ q e, q < p → e < 5 → d (A q) - w q (A q) + w q e ≤ d e) (h : Way w p A A' y d R m c i) {q : Nat} (hq : mv c = (q : Int)) : q < p ∧ A' q = A q ∧ A q < 5 ∧ Way w p A (upN A' q c) y d R m (A q) (i + 1) := by
  obtain ⟨h1, h2, h3, h4, h5, h6, F, h7, h8, h9⟩ := h
  rcases (hW c h1).2 with ⟨g, -⟩ | ⟨q', g1, g2, g3, g4, g5⟩
  · omega
  obtain rfl : q' = q := by omega
  have b := hB q' c g1 h1
  have lt : R (A q') < R c := by
    rcases g5 with g5 | g5
    · exact g5
    · omega
  have g := hP.2.2.2 q' c g1 h1
  have a5 := hP.1.1 q' g1
  have same : A' q' = A q' := by
    rcases h6 q' g1 with z | z
    · exact z
    · omega
  have hl : d m - y m ≤ d (A q') - y (A q') := by omega
  refine ⟨g1, same, a5, a5, hl, fun x hx => ?_, fun x e hx he => ?_, fun e he => ?_, fun x hx => ?_, fun e => F e ∨ e = A q', ?_, Or.inr rfl, fun e he z => ?_⟩
  · by_cases z : x = q'
    · subst z; rw [upN_at]; exact h1
    · rw [upN_ne _ _ z]; exact h3 x hx
  · by_cases z : x = q'
    · subst z
      rw [upN_at]
      have u := prN_best hP hB m x e hx he
      rw [prN_hi h2]
      rw [prN_hi hl] at u
      omega
    · rw [upN_ne _ _ z]; exact h4 x e hx he
  · have u := occ_up A' (q := q') (v := c) e p g1
    have v := h5 e he
    rw [same] at u
    by_cases z1 : e = c
    · subst z1
      rw [if_pos rfl] at u v
      by_cases z2 : e = A q'
      · exact absurd z2.symm g3
      · rw [if_neg (show ¬ A q' = e from fun z => z2 z.symm)] at u
        rw [if_neg z2]
        omega
    · rw [if_neg (show ¬ c = e from fun z => z1 z.symm)] at u
      rw [if_neg z1] at v
      by_cases z2 : e = A q'
      · rw [if_pos (show A q' = e from z2.symm)] at u
        rw [if_pos z2]
        omega
      · rw [if_neg (show ¬ A q' = e from fun z => z2 z.symm)] at u
        rw [if_neg z2]
        omega
  · by_cases z : x = q'
    · subst z; exact Or.inr (Nat.le_refl _)
    · rw [upN_ne _ _ z]
      rcases h6 x hx with y | y
      · exact Or.inl y
      · exact Or.inr (by omega)
  · have nF : ¬ F (A q') := fun z => by have := h9 _ a5 z; omega
    have key : ∀ n, n ≤ 5 → cnt (fun e => F e ∨ e = A q') n = cnt F n + if A q' < n then 1 else 0 := by
      intro n
      induction n with
      | zero => intro _; rfl
      | succ n ih =>
        intro hn
        have ih := ih (by omega)
        by_cases z : n = A q'
        · rw [cnt_t (p := fun e => F e ∨ e = A q') (Or.inr z), cnt_f (p := F) (by rw [z]; exact nF), ih, if_neg (by omega), if_pos (by omega)]
        · have e2 : (if A q' < n + 1 then 1 else 0) = if A q' < n then 1 else 0 := by
            by_cases y : A q' < n
            · rw [if_pos y, if_pos (by omega)]
            · rw [if_neg y, if_neg (by omega)]
          rw [e2]
          by_cases fn : F n
          · rw [cnt_t (p := fun e => F e ∨ e = A q') (Or.inl fn), cnt_t fn, ih]; omega
          · rw [cnt_f (p := fun e => F e ∨ e = A q') (fun y => by rcases y with y | y; exact fn y; exact z y), cnt_f fn, ih]
    rw [key 5 (by omega), if_pos a5, h7]
  · rcases z with z | z
    · have := h9 e he z; omega
    · rw [z]; exact Nat.le_refl _
/-- at the end of the way: all sit best, and one more sits there -/
theorem Way_end {w : Nat → Nat → Int} {k p : Nat} {A A' : Nat → Nat} {y d : Nat → Int} {mv : Nat → Int} {R : Nat → Nat} {m c i : Nat} (hP : Pri w k p A y) (hW : Won w p A d mv R) (hp : p < 8) (hw : ∀ e, e < 5 → -312500 ≤ w p e) (hd : ∀ e, e < 5 → d e - y e ≤ 38671875) (hm : m < 5) (hroom : occ A m p < k) (hbest : ∀ e, e < 5 → occ A e p < k → d e ≤ d m) (h : Way w p A A' y d R m c i) (hc : mv c = -1) : Pri w k (p + 1) (upN A' p c) (prN y d m) ∧ ∀ e, e < 5 → occ (upN A' p c) e (p + 1) = occ A e p + if e = m then 1 else 0 := by
  obtain ⟨h1, h2, h3, h4, h5, h6, -⟩ := h
  have dc : d c = w p c := by
    rcases (hW c h1).2 with ⟨-, g⟩ | ⟨q, -, g, -⟩
    · exact g
    · omega
  have ym := hP.2.2.1 m hm hroom
  have oc : ∀ e, e < 5 → occ (upN A' p c) e (p + 1) = occ A e p + if e = m then 1 else 0 := by
    intro e he
    rw [occ_s, upN_at, occ_cg (A := upN A' p c) (B := A') p (fun x hx => upN_ne _ _ (by omega)), ← h5 e he]
    by_cases z : c = e
    · rw [if_pos z, if_pos z.symm]
    · rw [if_neg z, if_neg (fun y => z y.symm)]
  refine ⟨⟨⟨fun q hq => ?_, fun e he => ?_⟩, fun e he => ?_, fun e he h => ?_, fun q e hq he => ?_⟩, oc⟩
  · by_cases z : q = p
    · subst z; rw [upN_at]; exact h1
    · rw [upN_ne _ _ z]; exact h3 q (by omega)
  · rw [oc e he]
    have := hP.1.2 e he
    by_cases z : e = m
    · subst z; rw [if_pos rfl]; omega
    · rw [if_neg z]; omega
  · have a := hP.2.1 e he
    have b := hd e he
    have c1 := (hW m hm).1
    have c2 := hw m hm
    unfold prN
    by_cases z : d m - y m < d e - y e
    · rw [if_pos z]; omega
    · rw [if_neg z]; omega
  · rw [oc e he] at h
    have ho : occ A e p < k := by omega
    have a := hP.2.2.1 e he ho
    have b := hbest e he ho
    unfold prN
    rw [if_neg (by omega), a]
    rfl
  · by_cases z : q = p
    · subst z
      rw [upN_at, prN_hi h2]
      have a := (prN_ge y d m e).2
      have b := (hW e he).1
      omega
    · rw [upN_ne _ _ z]
      exact h4 q e (by omega) he
