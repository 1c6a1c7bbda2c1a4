/-! the relation of the two memories -/
/-- the book: the class's ring by day, the reference's row -/
def R_book (D : Nat) (nw bk : Nat → Int) : Prop := ∀ i : Nat, i < min 30 D → bk (2 * i) = ((D - min 30 D + i : Nat) : Int) ∧ bk (2 * i + 1) = (nw (43 + (D - min 30 D + i) % 30) * 2 + nw (73 + (D - min 30 D + i) % 30)) * 64 + nw (103 + (D - min 30 D + i) % 30) ∧ (0 ≤ nw (43 + (D - min 30 D + i) % 30) ∧ nw (43 + (D - min 30 D + i) % 30) ≤ 30) ∧ (nw (73 + (D - min 30 D + i) % 30) = 0 ∨ nw (73 + (D - min 30 D + i) % 30) = 1) ∧ 0 ≤ nw (103 + (D - min 30 D + i) % 30) ∧ nw (103 + (D - min 30 D + i) % 30) ≤ 30
/-- what a step takes back: day, draw, ended, how many are written, shown, next by cue 0, rows and glad of P persons, the book -/
def R_snap (P : Nat) (nw h : Nat → Int) (pr : Nat → Nat → Int) (bk : Nat → Int) : Prop := ∃ D : Nat, D ≤ 9999 ∧ nw 41 = D ∧ h 0 = D ∧ (0 ≤ nw 42 ∧ nw 42 < 30577 ∧ h 1 = nw 42) ∧ (0 ≤ nw 40 ∧ nw 40 ≤ D ∧ h 2 = nw 40) ∧ h 3 = ((min 30 D : Nat) : Int) ∧ (∀ s : Nat, s < 12 → 0 ≤ nw (28 + s) ∧ nw (28 + s) ≤ 9999 ∧ h (4 + s) = nw (28 + s)) ∧ (∀ s : Nat, s < 12 → 0 ≤ nw (16 + s) ∧ nw (16 + s) ≤ 12 ∧ h (16 + s) = nw (16 + s)) ∧ (∀ q : Nat, q < P → 0 ≤ nw q ∧ nw q ≤ 9 ∧ pr q 0 = nw q ∧ 0 ≤ nw (8 + q) ∧ nw (8 + q) ≤ 99 ∧ pr q 1 = nw (8 + q)) ∧ R_book D nw bk
/-- the k-th step: the class's ring, the reference's row -/
def R_step (P E k : Nat) (st A : Nat → Int) : Prop := ∃ pk : Nat, pk ≤ P ∧ A (199 + 105 * k) = pk ∧ R_snap pk (fun j => st ((E + k) % 30 * 133 + j)) (fun j => A (199 + 105 * k + 1 + j)) (fun q i => A (199 + 105 * k + 29 + 2 * q + i)) (fun i => A (199 + 105 * k + 45 + i)) ∧ ∀ q : Nat, pk ≤ q → q < P → st ((E + k) % 30 * 133 + q) = A (34 + 4 * q + 3) ∧ st ((E + k) % 30 * 133 + (8 + q)) = 0
/-- one film of the class (its object X and its rows), one row A of the reference -/
def R_film (X nw st td kd pl ro od lk fw fg A : Nat → Int) : Prop := ∃ P T S E C F : Nat, (P ≤ 8 ∧ X 7 = P ∧ A 0 = P) ∧ (T ≤ 4 ∧ X 8 = T ∧ A 1 = T) ∧ (-1 ≤ X 9 ∧ X 9 < T ∧ A 2 = X 9) ∧ (S ≤ 30 ∧ X 3 = S ∧ A 3 = S) ∧ (E < 30 ∧ X 2 = E) ∧ (C ≤ 12 ∧ X 11 = C ∧ A 4 = C) ∧ (F ≤ 8 ∧ X 17 = F ∧ A 5 = F)
  ∧ R_snap P nw (fun j => A (6 + j)) (fun q i => A (34 + 4 * q + i)) (fun i => A (3349 + i))
  ∧ (∀ i : Nat, i < 48 → 0 ≤ td i ∧ td i ≤ 12 ∧ A (66 + i) = td i) ∧ (∀ s : Nat, s < 12 → 0 ≤ kd s ∧ kd s ≤ 3 ∧ A (114 + s) = kd s)
  ∧ (∀ q : Nat, q < P → 0 ≤ pl q ∧ pl q ≤ 9 ∧ A (34 + 4 * q + 2) = pl q ∧ 0 ≤ A (34 + 4 * q + 3) ∧ A (34 + 4 * q + 3) ≤ 9)
  ∧ (∀ i : Nat, i < C → 0 ≤ ro i ∧ ro i ≤ 3 ∧ A (126 + i) = ro i) ∧ (∀ c : Nat, c < 4 → 0 ≤ od c ∧ od c ≤ 10 ∧ A (138 + c) = od c) ∧ od 0 + od 1 + od 2 + od 3 = 10
  ∧ (0 ≤ X 13 ∧ X 13 ≤ 4095 ∧ A 142 = X 13) ∧ (∀ i : Nat, i < 40 → 0 ≤ lk i ∧ lk i ≤ 99 ∧ A (143 + i) = lk i)
  ∧ (∀ i : Nat, i < F → 0 ≤ fw i ∧ fw i < P ∧ A (183 + 2 * i) = fw i ∧ 0 ≤ fg i ∧ fg i ≤ 99 ∧ A (183 + 2 * i + 1) = fg i)
  ∧ ∀ k : Nat, k < S → R_step P E k st A
def R_tape (r tp o t4 : Nat → Int) : Prop := (∃ L : Nat, L ≤ 300 ∧ r 2 = L ∧ o 4 = L ∧ ∀ i : Nat, i < L → 0 ≤ tp i ∧ tp i ≤ 255 ∧ t4 i = tp i) ∧ (-1 ≤ r 3 ∧ r 3 ≤ 6 ∧ o 5 = r 3) ∧ -1 ≤ r 4 ∧ r 4 ≤ 300 ∧ o 6 = r 4
def R_cnt (n : Nat) (o : Nat → Int) : Prop := o 23 = 1 ∧ (0 ≤ o 24 ∧ o 24 ≤ 30000 * n) ∧ 0 ≤ o 25 ∧ o 25 ≤ 30000 * n
def Rel (n : Nat) (Mx Mm : g_M) : Prop := R_film (Mx 1) (Mx 2) (Mx 3) (Mx 4) (Mx 5) (Mx 6) (Mx 7) (Mx 8) (Mx 9) (Mx 10) (Mx 11) (Mm 1) ∧ R_film (Mx 12) (Mx 13) (Mx 14) (Mx 15) (Mx 16) (Mx 17) (Mx 18) (Mx 19) (Mx 20) (Mx 21) (Mx 22) (Mm 2) ∧ Mx 12 8 ≤ Mx 1 8 ∧ R_tape (Mx 23) (Mx 24) (Mm 0) (Mm 4) ∧ R_cnt n (Mm 0) ∧ (∀ t : Nat, (t : Int) < Mx 1 8 → R_text (fun i => Mx (41 + 6 * t + i)) (fun j => Mm 3 (705 * t + j))) ∧ ∀ j : Nat, j < 3 → Mx 37 j = 0 ∧ Mx 38 j = 0
/-- what is asked only changes what the relation doesn't speak of -/
theorem R_cnt_mono {n : Nat} {o : Nat → Int} (h : R_cnt n o) : R_cnt (n + 1) o := by
  obtain ⟨h1, ⟨h2, h3⟩, h4, h5⟩ := h
  exact ⟨h1, ⟨h2, by omega⟩, h4, by omega⟩
theorem Rel_mono {n : Nat} {Mx Mm : g_M} (h : Rel n Mx Mm) : Rel (n + 1) Mx Mm := ⟨h.1, h.2.1, h.2.2.1, h.2.2.2.1, R_cnt_mono h.2.2.2.2.1, h.2.2.2.2.2⟩
def R_kx (k : Nat) : Prop := (1 ≤ k ∧ k ≤ 22) ∨ k = 24 ∨ (35 ≤ k ∧ k ≤ 64)
theorem Rel_keep {n : Nat} {Mx Mm Mx' Mm' : g_M} (h : Rel n Mx Mm) (hx : ∀ k, R_kx k → Mx' k = Mx k) (h2 : Mx' 23 2 = Mx 23 2) (h3 : Mx' 23 3 = Mx 23 3) (h4 : Mx' 23 4 = Mx 23 4) (hm : ∀ k, 1 ≤ k → k ≤ 4 → Mm' k = Mm k) (ho : ∀ j, j = 4 ∨ j = 5 ∨ j = 6 ∨ j = 23 ∨ j = 24 ∨ j = 25 → Mm' 0 j = Mm 0 j) : Rel (n + 1) Mx' Mm' := by
  obtain ⟨hf, hi, hle, ⟨⟨L, l1, l2, l3, l4⟩, ⟨l5, l6, l7⟩, l8, l9, l10⟩, ⟨c1, ⟨c2, c3⟩, c4, c5⟩, ht, hb⟩ := h
  have e : ∀ k, 1 ≤ k → k ≤ 22 → Mx' k = Mx k := fun k a b => hx k (Or.inl ⟨a, b⟩)
  have e5 : ∀ k, 35 ≤ k → k ≤ 64 → Mx' k = Mx k := fun k a b => hx k (Or.inr (Or.inr ⟨a, b⟩))
  have e24 : Mx' 24 = Mx 24 := hx 24 (Or.inr (Or.inl rfl))
  refine ⟨?_, ?_, ?_, ⟨⟨L, l1, by rw [h2]; exact l2, by rw [ho 4 (by omega)]; exact l3, ?_⟩, ⟨by rw [h3]; exact l5, by rw [h3]; exact l6, by rw [h3, ho 5 (by omega)]; exact l7⟩, by rw [h4]; exact l8, by rw [h4]; exact l9, by rw [h4, ho 6 (by omega)]; exact l10⟩, ⟨by rw [ho 23 (by omega)]; exact c1, ⟨by rw [ho 24 (by omega)]; exact c2, by rw [ho 24 (by omega)]; omega⟩, by rw [ho 25 (by omega)]; exact c4, by rw [ho 25 (by omega)]; omega⟩, ?_, ?_⟩
  · rw [e 1 (by omega) (by omega), e 2 (by omega) (by omega), e 3 (by omega) (by omega), e 4 (by omega) (by omega), e 5 (by omega) (by omega), e 6 (by omega) (by omega), e 7 (by omega) (by omega), e 8 (by omega) (by omega), e 9 (by omega) (by omega), e 10 (by omega) (by omega), e 11 (by omega) (by omega), hm 1 (by omega) (by omega)]
    exact hf
  · rw [e 12 (by omega) (by omega), e 13 (by omega) (by omega), e 14 (by omega) (by omega), e 15 (by omega) (by omega), e 16 (by omega) (by omega), e 17 (by omega) (by omega), e 18 (by omega) (by omega), e 19 (by omega) (by omega), e 20 (by omega) (by omega), e 21 (by omega) (by omega), e 22 (by omega) (by omega), hm 2 (by omega) (by omega)]
    exact hi
  · rw [e 1 (by omega) (by omega), e 12 (by omega) (by omega)]
    exact hle
  · rw [e24, hm 4 (by omega) (by omega)]
    exact l4
  · intro t h
    rw [e 1 (by omega) (by omega)] at h
    have ht4 : t < 4 := by
      obtain ⟨P, T, S, E, C, F, -, ⟨t1, t2, -⟩, -⟩ := hf
      omega
    have hh := ht t h
    rw [hm 3 (by omega) (by omega)]
    exact R_text_cg hh (fun i hi => e5 (41 + 6 * t + i) (by omega) (by omega))
  · intro j hj
    rw [e5 37 (by omega) (by omega), e5 38 (by omega) (by omega)]
    exact hb j hj
