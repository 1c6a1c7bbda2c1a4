/-! rows for simp with omega as discharger -/
theorem a_gd {α : Type} {x : Int} {n : Nat} {a : Option α} (h0 : 0 ≤ x) (h1 : x < n) (hn : n ≤ 2147483648) : g_gd (g_ix x n) a = a := g_gd_pos (g_ix_of h0 h1 hn)
theorem a_gdp {α : Type} {p : Prop} [Decidable p] {a : Option α} (h : p) : g_gd p a = a := g_gd_pos h
theorem a_within {a b c : Int} (ha : -2147483648 ≤ a ∧ a < 2147483648) (hb : -2147483648 ≤ b ∧ b < 2147483648) (hc : -2147483648 ≤ c ∧ c < 2147483648) : m_X8_within a b c = some (pb (b ≤ a ∧ a ≤ c)) := p_within (gs_id ha.1 ha.2) (gs_id hb.1 hb.2) (gs_id hc.1 hc.2)
theorem a_isIn {a b c : Int} (ha : -2147483648 ≤ a ∧ a < 2147483648) (hb : -2147483648 ≤ b ∧ b < 2147483648) (hc : -2147483648 ≤ c ∧ c < 2147483648) : m_X9_isIn a b c = some (pb (b ≤ a ∧ a ≤ c)) := p_isIn (gs_id ha.1 ha.2) (gs_id hb.1 hb.2) (gs_id hc.1 hc.2)
theorem a_isScene {a : Int} (ha : -2147483648 ≤ a ∧ a < 2147483648) : m_X8_isScene a = some (pb (0 ≤ a ∧ a ≤ 11)) := p_isScene (gs_id ha.1 ha.2)
theorem a_isPlace {a : Int} (ha : -2147483648 ≤ a ∧ a < 2147483648) : m_X8_isPlace a = some (pb (0 ≤ a ∧ a ≤ 12)) := p_isPlace (gs_id ha.1 ha.2)
theorem a_isCue {a : Int} (ha : -2147483648 ≤ a ∧ a < 2147483648) : m_X8_isCue a = some (pb (0 ≤ a ∧ a ≤ 3)) := p_isCue (gs_id ha.1 ha.2)
theorem a_isDigit {a : Int} (ha : -2147483648 ≤ a ∧ a < 2147483648) : m_X8_isDigit a = some (pb (0 ≤ a ∧ a ≤ 9)) := p_isDigit (gs_id ha.1 ha.2)
theorem b_isScene {a : Int} (ha : -2147483648 ≤ a ∧ a < 2147483648) : m_X9_isScene a = some (pb (0 ≤ a ∧ a ≤ 11)) := q_isScene (gs_id ha.1 ha.2)
theorem b_isAny {a : Int} (ha : -2147483648 ≤ a ∧ a < 2147483648) : m_X9_isAny a = some (pb (0 ≤ a ∧ a ≤ 12)) := q_isAny (gs_id ha.1 ha.2)
theorem a_gd01 {α : Type} {p : Prop} [Decidable p] {a : Option α} : g_gd (pb p = 0 ∨ pb p = 1) a = a := g_gd_pos (pb_01 p)
theorem a_gdT {α : Type} {a : Option α} : g_gd True a = a := g_gd_pos trivial
theorem pb_iff {p q : Prop} [Decidable p] [Decidable q] (h : p ↔ q) : pb p = pb q := by
  by_cases c : p
  · rw [pb_t c, pb_t (h.1 c)]
  · rw [pb_f c, pb_f (fun z => c (h.2 z))]
theorem b_isPerson {a : Int} {M : g_M} {P : Nat} (h0 : M 1 0 = P) (ha : -2147483648 ≤ a ∧ a < 2147483648) (hP : P ≤ 8) : m_X9_isPerson a M = some (pb (0 ≤ a ∧ a < P)) := by
  unfold m_X9_isPerson
  simp (disch := omega) only [a_gd, gs_id, show Int.toNat 0 = 0 from rfl, h0, a_isIn, Option.bind_some]
  rw [a_gd01]
  exact congrArg some (pb_iff (by omega))
theorem a_isPerson {a : Int} {M : g_M} {P : Nat} (h0 : M 1 7 = P) (ha : -2147483648 ≤ a ∧ a < 2147483648) (hP : P ≤ 8) : m_X1_isPerson a M = some (pb (0 ≤ a ∧ a < P)) := by
  unfold m_X1_isPerson
  simp (disch := omega) only [g_jn, gs_id, h0]
  by_cases c : 0 ≤ a ∧ a < P
  · simp (disch := omega) only [if_neg, pb_t]
  · by_cases c1 : a < 0
    · simp (disch := omega) only [if_pos, pb_f]
    · simp (disch := omega) only [if_neg, if_pos, pb_f]
theorem a_rd (M : g_M) {k j : Nat} {v : Int} {a b : Nat} (h : a = k ∧ b = j) : g_wr M k j v a b = v := if_pos h
theorem a_ne (M : g_M) {k j : Nat} {v : Int} {a b : Nat} (h : a ≠ k ∨ b ≠ j) : g_wr M k j v a b = M a b := g_wr_ne' h
theorem a_cell (M : g_M) {k j : Nat} {v : Int} {a : Nat} (h : a ≠ k) : g_wr M k j v a = M a := wr_cell M k j v a h
theorem a_nat (x : Int) {k : Nat} (h : x = k) : x.toNat = k := by omega
theorem bd_eq {α β : Type} {o : Option α} {x : α} {f : α → Option β} (h : o = some x) : o.bind f = f x := by rw [h]; rfl
theorem bW_eq {β : Type} {o : Option (Int × g_M)} {x : Int} {M : g_M} {f : Int → g_M → Option β} (h : o = some (x, M)) : g_bW o f = f x M := by rw [h]; rfl
theorem c_within {β : Type} {a b c : Int} {f : Int → Option β} (ha : -2147483648 ≤ a ∧ a < 2147483648) (hb : -2147483648 ≤ b ∧ b < 2147483648) (hc : -2147483648 ≤ c ∧ c < 2147483648) : (m_X8_within a b c).bind f = f (pb (b ≤ a ∧ a ≤ c)) := bd_eq (a_within ha hb hc)
theorem c_isIn {β : Type} {a b c : Int} {f : Int → Option β} (ha : -2147483648 ≤ a ∧ a < 2147483648) (hb : -2147483648 ≤ b ∧ b < 2147483648) (hc : -2147483648 ≤ c ∧ c < 2147483648) : (m_X9_isIn a b c).bind f = f (pb (b ≤ a ∧ a ≤ c)) := bd_eq (a_isIn ha hb hc)
theorem c_isScene {β : Type} {a : Int} {f : Int → Option β} (ha : -2147483648 ≤ a ∧ a < 2147483648) : (m_X8_isScene a).bind f = f (pb (0 ≤ a ∧ a ≤ 11)) := bd_eq (a_isScene ha)
theorem c_isPlace {β : Type} {a : Int} {f : Int → Option β} (ha : -2147483648 ≤ a ∧ a < 2147483648) : (m_X8_isPlace a).bind f = f (pb (0 ≤ a ∧ a ≤ 12)) := bd_eq (a_isPlace ha)
theorem c_isCue {β : Type} {a : Int} {f : Int → Option β} (ha : -2147483648 ≤ a ∧ a < 2147483648) : (m_X8_isCue a).bind f = f (pb (0 ≤ a ∧ a ≤ 3)) := bd_eq (a_isCue ha)
theorem c_isDigit {β : Type} {a : Int} {f : Int → Option β} (ha : -2147483648 ≤ a ∧ a < 2147483648) : (m_X8_isDigit a).bind f = f (pb (0 ≤ a ∧ a ≤ 9)) := bd_eq (a_isDigit ha)
theorem d_isScene {β : Type} {a : Int} {f : Int → Option β} (ha : -2147483648 ≤ a ∧ a < 2147483648) : (m_X9_isScene a).bind f = f (pb (0 ≤ a ∧ a ≤ 11)) := bd_eq (b_isScene ha)
theorem d_isAny {β : Type} {a : Int} {f : Int → Option β} (ha : -2147483648 ≤ a ∧ a < 2147483648) : (m_X9_isAny a).bind f = f (pb (0 ≤ a ∧ a ≤ 12)) := bd_eq (b_isAny ha)
theorem ta_lt {a b : Int} (h : a < b) : (a < b) = True := eq_true h
theorem ta_nlt {a b : Int} (h : b ≤ a) : (a < b) = False := eq_false (by omega)
theorem ta_le {a b : Int} (h : a ≤ b) : (a ≤ b) = True := eq_true h
theorem ta_nle {a b : Int} (h : b < a) : (a ≤ b) = False := eq_false (by omega)
theorem ta_eq {a b : Int} (h : a = b) : (a = b) = True := eq_true h
theorem ta_neq {a b : Int} (h : ¬ a = b) : (a = b) = False := eq_false h
theorem ta_nne {a b : Int} (h : a = b) : (a ≠ b) = False := eq_false (fun z => z h)
theorem ta_ne {a b : Int} (h : ¬ a = b) : (a ≠ b) = True := eq_true h
theorem ta_pb1 {p : Prop} [Decidable p] (h : p) : (gs (pb p) = 0) = False := eq_false (fun z => (pb_eq0.1 z) h)
theorem ta_pb0 {p : Prop} [Decidable p] (h : ¬ p) : (gs (pb p) = 0) = True := eq_true (pb_eq0.2 h)
theorem ta_pb1' {p : Prop} [Decidable p] (h : p) : (gs (pb p) ≠ 0) = True := eq_true (fun z => (pb_eq0.1 z) h)
theorem ta_pb0' {p : Prop} [Decidable p] (h : ¬ p) : (gs (pb p) ≠ 0) = False := eq_false (fun z => z (pb_eq0.2 h))
