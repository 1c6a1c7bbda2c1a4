/-! a text in both: its clauses, and what its laws say -/
def V6 (v : Int) : Prop := -1000000 ≤ v ∧ v ≤ 1000000
def nmOk (l n : Nat) : Prop := n < 3 ∨ (n = 3 ∧ l ≤ 1) ∨ (4 ≤ n ∧ n ≤ 5 ∧ l = 0) ∨ (6 ≤ n ∧ n ≤ 7 ∧ l = 1) ∨ (8 ≤ n ∧ n ≤ 11 ∧ l = 2)
def EnvOk (l : Nat) (en kd : Nat → Int) : Prop := (∀ n, nmOk l n → V6 (en n)) ∧ ∀ s, s < 12 → 0 ≤ kd s ∧ kd s ≤ 3
def CEnv (l : Nat) (en kd : Nat → Int) (M : g_M) : Prop := (∀ n, nmOk l n → M 33 (21 + n) = en n) ∧ ∀ s : Nat, s < 12 → M 5 s = kd s
def REnv (l : Nat) (en kd : Nat → Int) (W : g_M) : Prop := (∀ n, nmOk l n → W 6 n = en n ∧ V6 (en n)) ∧ ∀ s : Nat, s < 12 → W 1 (114 + s) = kd s ∧ 0 ≤ kd s ∧ kd s ≤ 3
def CEv (l : Nat) (Cc en kd : Nat → Int) (i j : Nat) (v : Int) : Prop := ∀ (t to x : Nat) (k : Int → g_M → Option (Int × g_M)) (M : g_M), t + 1 ≠ 34 → to ≤ 300 → j ≤ to → x ≤ i → (∀ y, i ≤ y → y < j → M (t + 1) y = Cc y) → CEnv l en kd M → ∃ (n : Nat) (M' : g_M), n ≤ j - i ∧ (∀ f, m_X3_value_L24 t to k (f + n) x i M = m_X3_value_L24 t to k f ((x + 1 : Nat) : Int) j M') ∧ (∀ a, a ≠ 34 → M' a = M a) ∧ (∀ y, y < x → M' 34 y = M 34 y) ∧ M' 34 x = v
def RCd (Bc : Nat → Int) (Y i j : Nat) (W : g_M) : Prop := ∀ y, i ≤ y → y < j → W 3 (Y + 2 * y) = Bc (2 * y) ∧ W 3 (Y + 2 * y + 1) = Bc (2 * y + 1)
def REv (l : Nat) (Bc en kd : Nat → Int) (i j : Nat) (v : Int) : Prop := ∀ (X Y TO n m : Nat) (k : g_M → Option (Int × g_M)) (W : g_M), X + 2 < 2820 → Y ≤ 2212 → W 3 (X + 2) = TO → TO ≤ 304 → j ≤ TO → n ≤ i → m ≤ i → RCd Bc Y i j W → REnv l en kd W → ∃ W' : g_M, (∀ f, m_X9_summedUp_L38 X Y k (f + (j - i)) n m i W = m_X9_summedUp_L38 X Y k f ((n + 1 : Nat) : Int) m j W') ∧ (∀ a, a ≠ 7 → a ≠ 8 → W' a = W a) ∧ (∀ y, y < n → W' 7 y = W 7 y) ∧ (∀ y, y < m → W' 8 y = W 8 y) ∧ W' 7 n = v
/-- a SUM: the orders of both say the same -/
def RS (l : Nat) (Cc : Nat → Int) (i j : Nat) (Bc : Nat → Int) (i' j' : Nat) : Prop := i < j ∧ i' < j' ∧ ∀ en kd, EnvOk l en kd → ∃ v, V6 v ∧ CEv l Cc en kd i j v ∧ REv l Bc en kd i' j' v
/-- a clause: its head and its numbers; the heads of the class and of the reference -/
def R_clause (hd : Int) (nu rb : Nat → Int) : Prop := ∃ h r : Nat, hd = h ∧ rb 0 = r ∧ ((h < 3 ∧ r = h) ∨ (h = 24 ∧ r = 3 ∧ (0 ≤ nu 0 ∧ nu 0 ≤ 11 ∧ rb 1 = nu 0) ∧ (0 ≤ nu 1 ∧ nu 1 ≤ 3 ∧ rb 2 = nu 1) ∧ 0 ≤ nu 2 ∧ nu 2 ≤ 12 ∧ rb 3 = nu 2) ∨ (h = 3 ∧ r = 4 ∧ (0 ≤ nu 0 ∧ nu 0 ≤ 3 ∧ rb 1 = nu 0) ∧ 0 ≤ nu 1 ∧ nu 1 ≤ 11 ∧ rb 2 = nu 1) ∨ (h = 4 ∧ r = 5 ∧ (0 ≤ nu 0 ∧ nu 0 ≤ 9 ∧ rb 1 = nu 0) ∧ 0 ≤ nu 1 ∧ nu 1 ≤ 9 ∧ rb 2 = nu 1) ∨ (h = 5 ∧ r = 6 ∧ (0 ≤ nu 0 ∧ nu 0 ≤ 7 ∧ rb 1 = nu 0) ∧ 0 ≤ nu 1 ∧ nu 1 ≤ 9 ∧ rb 2 = nu 1) ∨ (h = 6 ∧ r = 7 ∧ (0 ≤ nu 0 ∧ nu 0 ≤ 11 ∧ rb 1 = nu 0) ∧ 1 ≤ nu 1 ∧ nu 1 ≤ 3 ∧ rb 2 = nu 1) ∨ (h = 7 ∧ r = 8 ∧ 0 ≤ nu 0 ∧ nu 0 ≤ 11 ∧ rb 1 = nu 0) ∨ (h = 8 ∧ r = 9 ∧ 1 ≤ nu 0 ∧ nu 0 ≤ 40 ∧ rb 1 = nu 0))
/-- a law: neither has it, or what both say is the same -/
def R_law (l n : Nat) (c1 c2 c3 B : Nat → Int) : Prop := (c2 l = 0 ∧ c3 l = 0 ∧ ∀ k : Nat, k < n → B (1 + 4 * k) ≠ l) ∨ ∃ k i j i' j' : Nat, k < n ∧ B (1 + 4 * k) = l ∧ (∀ y : Nat, y < k → B (1 + 4 * y) ≠ l) ∧ c2 l = i ∧ c3 l = j ∧ j ≤ 300 ∧ B (1 + 4 * k + 1) = i' ∧ B (1 + 4 * k + 2) = j' ∧ j' ≤ 304 ∧ RS l c1 i j (fun y => B (97 + y)) i' j'
/-- a text of the class (its cells C 0 .. C 5) and one of the reference (its row B) say the same -/
def R_text (C : Nat → Nat → Int) (B : Nat → Int) : Prop := ∃ n : Nat, n ≤ 24 ∧ C 0 6 = n ∧ B 0 = n ∧ (∀ k : Nat, k < n → R_clause (C 4 k) (fun j => C 5 (3 * k + j)) (fun j => B (1 + 4 * k + j))) ∧ ∀ l : Nat, l < 3 → R_law l n (C 1) (C 2) (C 3) B
theorem R_text_cg {C C' : Nat → Nat → Int} {B : Nat → Int} (h : R_text C B) (e : ∀ i, i < 6 → C' i = C i) : R_text C' B := by
  unfold R_text at *
  rw [e 0 (by decide), e 1 (by decide), e 2 (by decide), e 3 (by decide), e 4 (by decide), e 5 (by decide)]
  exact h
