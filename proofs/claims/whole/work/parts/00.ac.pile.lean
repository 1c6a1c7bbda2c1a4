/-! the reference's pile -/
def rk (o : Int) : Int := if 40 ≤ o then 0 else if o = 22 then 1 else if o = 21 then 2 else if o = 20 then 3 else if 10 ≤ o then 4 else if o = 4 ∨ o = 2 then 7 else if 7 ≤ o then 6 else 5
theorem rk_tab : (List.range 44).all (fun o => decide (m_X9_rank (o : Int) = some (rk (o : Int)) ∧ 0 ≤ rk (o : Int) ∧ rk (o : Int) ≤ 7)) = true := by decide +kernel
def OPv (o : Int) : Prop := 0 ≤ o ∧ o ≤ 43
theorem q_rank {o : Int} (h : OPv o) : m_X9_rank o = some (rk o) ∧ 0 ≤ rk o ∧ rk o ≤ 7 := by
  unfold OPv at h
  obtain ⟨o, rfl⟩ : ∃ y : Nat, o = y := ⟨o.toNat, by omega⟩
  exact of_decide_eq_true (all_of rk_tab (show o < 44 by omega))
def EM (Z w : Nat) (o v : Int) (W W' : g_M) : Prop := (∀ a, a ≠ 0 → a ≠ 3 → W' a = W a) ∧ (∀ j, j ≠ 13 → W' 0 j = W 0 j) ∧ W' 0 13 = ((w + 1 : Nat) : Int) ∧ W' 3 (Z + 97 + 2 * w) = o ∧ W' 3 (Z + 97 + 2 * w + 1) = v ∧ ∀ y, y < Z + 97 + 2 * w → W' 3 y = W 3 y
theorem q_emit {W : g_M} {Z w : Nat} (o v : Int) (hZ : W 0 12 = Z) (hw : W 0 13 = w) (z1 : Z ≤ 2115) (w1 : w ≤ 303) : ∃ W', m_X9_emit o v W = some W' ∧ EM Z w o v W W' := by
  refine ⟨g_wr (g_wr (g_wr W 3 (Z + 97 + 2 * w) o) 3 (Z + 97 + 2 * w + 1) v) 0 13 ((w : Int) + 1), ?_, fun a h0 h3 => ?_, fun j hj => ?_, ?_, ?_, ?_, fun y hy => ?_⟩
  · unfold m_X9_emit
    simp (disch := omega) only [↓reduceIte, ↓nm_eq, ↓jn_eq, ↓c_within, ↓c_isIn, ↓c_isScene, ↓c_isPlace, ↓c_isCue, ↓c_isDigit, ↓d_isScene, ↓d_isAny, ↓ta_pb1, ↓ta_pb0, ↓ta_pb1', ↓ta_pb0', ta_lt, ta_nlt, ta_le, ta_nle, ta_eq, ta_neq, ta_nne, ta_ne, gs_id, a_gd01, a_gdT, or_true, true_or, bd_some, bW_sm, a_gd, a_ne, a_rd, Int.toNat_natCast, Int.toNat_add, Int.toNat_mul, Int.reduceToNat, a_gdp, a_cell, and_self, and_true, true_and, hZ, hw]
  · rw [a_cell _ h0, a_cell _ h3, a_cell _ h3]
  · rw [a_ne _ (by omega), a_ne _ (by omega), a_ne _ (by omega)]
  · rw [wr_at]; omega
  · rw [a_ne _ (by omega), a_ne _ (by omega)]; exact wr_at _ _ _ _
  · rw [a_ne _ (by omega)]; exact wr_at _ _ _ _
  · rw [a_ne _ (by omega), a_ne _ (by omega), a_ne _ (by omega)]
def dc (o : Int) : Nat := if rk o = 7 ∨ o = 20 then 1 else 0
def dcn (p : Nat → Int) (n : Nat) : Nat → Nat
  | 0 => 0
  | k + 1 => dcn p n k + dc (p (n + k))
theorem dcn_cg {p p' : Nat → Int} {n : Nat} : ∀ k, (∀ y, n ≤ y → y < n + k → p' y = p y) → dcn p' n k = dcn p n k := by
  intro k
  induction k with
  | zero => intro _; rfl
  | succ k ih =>
    intro h
    show dcn p' n k + dc (p' (n + k)) = dcn p n k + dc (p (n + k))
    rw [ih (fun y h1 h2 => h y h1 (by omega)), h (n + k) (by omega) (by omega)]
theorem dcn_0 {p : Nat → Int} {n : Nat} : ∀ k, (∀ y, n ≤ y → y < n + k → 4 ≤ rk (p y) ∧ rk (p y) ≤ 6) → dcn p n k = 0 := by
  intro k
  induction k with
  | zero => intro _; rfl
  | succ k ih =>
    intro h
    show dcn p n k + dc (p (n + k)) = 0
    have a := h (n + k) (by omega) (by omega)
    have e : dc (p (n + k)) = 0 := by
      refine if_neg (fun z => ?_)
      rcases z with z | z
      · omega
      · rw [z] at a
        have : rk 20 = 3 := rfl
        omega
    rw [ih (fun y h1 h2 => h y h1 (by omega)), e]
theorem dcn_u {p : Nat → Int} {n : Nat} : ∀ k, (∀ y, n ≤ y → y < n + k → rk (p y) = 7) → dcn p n k = k := by
  intro k
  induction k with
  | zero => intro _; rfl
  | succ k ih =>
    intro h
    show dcn p n k + dc (p (n + k)) = k + 1
    rw [ih (fun y h1 h2 => h y h1 (by omega)), show dc (p (n + k)) = 1 from if_pos (Or.inl (h (n + k) (by omega) (by omega)))]
theorem dcn_first {p : Nat → Int} {n : Nat} : ∀ k, dcn p n (k + 1) = dc (p n) + dcn p (n + 1) k := by
  intro k
  induction k with
  | zero => show 0 + dc (p (n + 0)) = dc (p n) + 0; rw [Nat.add_zero]; omega
  | succ k ih =>
    show dcn p n (k + 1) + dc (p (n + (k + 1))) = dc (p n) + (dcn p (n + 1) k + dc (p (n + 1 + k)))
    rw [ih, show n + (k + 1) = n + 1 + k by omega]
    omega
def STL (Z n k w : Nat) (W W' : g_M) : Prop := (∀ a, a ≠ 0 → a ≠ 3 → W' a = W a) ∧ (∀ j, j ≠ 13 → j ≠ 16 → j ≠ 17 → W' 0 j = W 0 j) ∧ W' 0 16 = n ∧ W' 0 13 = ((w + k : Nat) : Int) ∧ W' 0 17 = W 0 17 - (dcn (W 5) n k : Int) ∧ (∀ i, i < k → W' 3 (Z + 97 + 2 * (w + i)) = W 5 (n + k - 1 - i) ∧ W' 3 (Z + 97 + 2 * (w + i) + 1) = 0) ∧ ∀ y, y < Z + 97 + 2 * w → W' 3 y = W 3 y
theorem settle_1 {W : g_M} {Z n w f : Nat} {r : Int} (hZ : W 0 12 = Z) (hw : W 0 13 = w) (z1 : Z ≤ 2115) (w1 : w ≤ 303) (h16 : W 0 16 = ((n + 1 : Nat) : Int)) (hn : n < 160) (hp : OPv (W 5 n)) (hr : 0 ≤ r ∧ r ≤ rk (W 5 n)) : ∃ W', m_X9_settle_L0 r (f + 1) W = m_X9_settle_L0 r f W' ∧ STL Z n 1 w W W' := by
  obtain ⟨q1, q2, q3⟩ := q_rank hp
  have i1 : (((n + 1 : Nat) : Int) - 1).toNat = n := by omega
  have hp2 := hp
  unfold OPv at hp2
  obtain ⟨W2, e2, E1, E2, E3, E4, E5, E6⟩ := q_emit (W := g_wr W 0 16 (((n + 1 : Nat) : Int) - 1)) (Z := Z) (w := w) (W 5 n) 0 (by rw [a_ne _ (by omega)]; exact hZ) (by rw [a_ne _ (by omega)]; exact hw) z1 w1
  have f16 : W2 0 16 = ((n + 1 : Nat) : Int) - 1 := by rw [E2 16 (by omega)]; exact wr_at _ _ _ _
  have f17 : W2 0 17 = W 0 17 := by rw [E2 17 (by omega), a_ne _ (by omega)]
  have f5 : W2 5 = W 5 := by rw [E1 5 (by omega) (by omega), a_cell _ (by omega)]
  have mk : ∀ W' : g_M, (∀ a, a ≠ 0 → W' a = W2 a) → (∀ j, j ≠ 17 → W' 0 j = W2 0 j) → W' 0 17 = W 0 17 - (dc (W 5 n) : Int) → STL Z n 1 w W W' := by
    intro W' k1 k2 k3
    refine ⟨fun a h0 h3 => by rw [k1 a h0, E1 a h0 h3, a_cell _ h0], fun j j1 j2 j3 => by rw [k2 j j3, E2 j j1, a_ne _ (by omega)], by rw [k2 16 (by omega), f16]; omega, by rw [k2 13 (by omega), E3], ?_, fun i hi => ?_, fun y hy => by rw [k1 3 (by omega), E6 y hy, a_cell _ (by omega)]⟩
    · rw [k3]
      show _ = W 0 17 - ((0 + dc (W 5 (n + 0)) : Nat) : Int)
      rw [Nat.add_zero, Nat.zero_add]
    · obtain rfl : i = 0 := by omega
      rw [k1 3 (by omega), Nat.add_zero, show n + 1 - 1 - 0 = n by omega]
      exact ⟨E4, E5⟩
  by_cases c7 : rk (W 5 n) = 7
  · refine ⟨g_wr W2 0 17 (W 0 17 - 1), ?_, mk _ (fun a ha => a_cell _ ha) (fun j hj => a_ne _ (by omega)) (by rw [wr_at, show dc (W 5 n) = 1 from if_pos (Or.inl c7)]; rfl)⟩
    rw [m_X9_settle_L0]
    simp (disch := omega) only [↓reduceIte, ↓nm_eq, ↓jn_eq, ↓c_within, ↓c_isIn, ↓c_isScene, ↓c_isPlace, ↓c_isCue, ↓c_isDigit, ↓d_isScene, ↓d_isAny, ↓ta_pb1, ↓ta_pb0, ↓ta_pb1', ↓ta_pb0', ta_lt, ta_nlt, ta_le, ta_nle, ta_eq, ta_neq, ta_nne, ta_ne, gs_id, a_gd01, a_gdT, or_true, true_or, bd_some, bW_sm, a_gd, a_ne, a_rd, Int.toNat_natCast, Int.toNat_add, Int.toNat_mul, Int.reduceToNat, a_gdp, a_cell, and_self, and_true, true_and, h16, i1, q1, e2, f16, f5, f17]
  · by_cases c20 : W 5 n = 20
    · refine ⟨g_wr W2 0 17 (W 0 17 - 1), ?_, mk _ (fun a ha => a_cell _ ha) (fun j hj => a_ne _ (by omega)) (by rw [wr_at, show dc (W 5 n) = 1 from if_pos (Or.inr c20)]; rfl)⟩
      rw [m_X9_settle_L0]
      simp (disch := omega) only [↓reduceIte, ↓nm_eq, ↓jn_eq, ↓c_within, ↓c_isIn, ↓c_isScene, ↓c_isPlace, ↓c_isCue, ↓c_isDigit, ↓d_isScene, ↓d_isAny, ↓ta_pb1, ↓ta_pb0, ↓ta_pb1', ↓ta_pb0', ta_lt, ta_nlt, ta_le, ta_nle, ta_eq, ta_neq, ta_nne, ta_ne, gs_id, a_gd01, a_gdT, or_true, true_or, bd_some, bW_sm, a_gd, a_ne, a_rd, Int.toNat_natCast, Int.toNat_add, Int.toNat_mul, Int.reduceToNat, a_gdp, a_cell, and_self, and_true, true_and, h16, i1, q1, e2, f16, f5, f17]
    · refine ⟨W2, ?_, mk _ (fun a ha => rfl) (fun j hj => rfl) (by rw [f17, show dc (W 5 n) = 0 from if_neg (by omega)]; omega)⟩
      rw [m_X9_settle_L0]
      simp (disch := omega) only [↓reduceIte, ↓nm_eq, ↓jn_eq, ↓c_within, ↓c_isIn, ↓c_isScene, ↓c_isPlace, ↓c_isCue, ↓c_isDigit, ↓d_isScene, ↓d_isAny, ↓ta_pb1, ↓ta_pb0, ↓ta_pb1', ↓ta_pb0', ta_lt, ta_nlt, ta_le, ta_nle, ta_eq, ta_neq, ta_nne, ta_ne, gs_id, a_gd01, a_gdT, or_true, true_or, bd_some, bW_sm, a_gd, a_ne, a_rd, Int.toNat_natCast, Int.toNat_add, Int.toNat_mul, Int.reduceToNat, a_gdp, a_cell, and_self, and_true, true_and, h16, i1, q1, e2, f16, f5, f17]
/-- what waits is settled, as far as it binds as closely as that -/
theorem settle_L {Z : Nat} {r : Int} (z1 : Z ≤ 2115) (hr : 0 ≤ r ∧ r ≤ 7) : ∀ (k n w f : Nat) (W : g_M), W 0 12 = Z → W 0 13 = w → w + k ≤ 304 → W 0 16 = ((n + k : Nat) : Int) → n + k ≤ 160 → (∀ y, y < n + k → OPv (W 5 y)) → (∀ y, n ≤ y → y < n + k → r ≤ rk (W 5 y)) → (∀ y, y + 1 = n → rk (W 5 y) < r) → k < f → ∃ W', m_X9_settle_L0 r f W = some W' ∧ STL Z n k w W W' := by
  intro k
  induction k with
  | zero =>
    intro n w f W hZ hw hk h16 hn hv hq ht hf
    obtain ⟨f, rfl⟩ : ∃ g, f = g + 1 := ⟨f - 1, by omega⟩
    refine ⟨W, ?_, fun a _ _ => rfl, fun j _ _ _ => rfl, h16, hw, ?_, fun i hi => by omega, fun y _ => rfl⟩
    · rw [m_X9_settle_L0]
      by_cases c : n = 0
      · simp (disch := omega) only [↓reduceIte, ↓nm_eq, ↓jn_eq, ↓c_within, ↓c_isIn, ↓c_isScene, ↓c_isPlace, ↓c_isCue, ↓c_isDigit, ↓d_isScene, ↓d_isAny, ↓ta_pb1, ↓ta_pb0, ↓ta_pb1', ↓ta_pb0', ta_lt, ta_nlt, ta_le, ta_nle, ta_eq, ta_neq, ta_nne, ta_ne, gs_id, a_gd01, a_gdT, or_true, true_or, bd_some, bW_sm, a_gd, a_ne, a_rd, Int.toNat_natCast, Int.toNat_add, Int.toNat_mul, Int.reduceToNat, a_gdp, a_cell, and_self, and_true, true_and, h16]
      · have i1 : (((n + 0 : Nat) : Int) - 1).toNat = n - 1 := by omega
        have t := ht (n - 1) (by omega)
        obtain ⟨q1, q2, q3⟩ := q_rank (hv (n - 1) (by omega))
        simp (disch := omega) only [↓reduceIte, ↓nm_eq, ↓jn_eq, ↓c_within, ↓c_isIn, ↓c_isScene, ↓c_isPlace, ↓c_isCue, ↓c_isDigit, ↓d_isScene, ↓d_isAny, ↓ta_pb1, ↓ta_pb0, ↓ta_pb1', ↓ta_pb0', ta_lt, ta_nlt, ta_le, ta_nle, ta_eq, ta_neq, ta_nne, ta_ne, gs_id, a_gd01, a_gdT, or_true, true_or, bd_some, bW_sm, a_gd, a_ne, a_rd, Int.toNat_natCast, Int.toNat_add, Int.toNat_mul, Int.reduceToNat, a_gdp, a_cell, and_self, and_true, true_and, h16, i1, q1]
    · show W 0 17 = W 0 17 - ((0 : Nat) : Int)
      omega
  | succ k ih =>
    intro n w f W hZ hw hk h16 hn hv hq ht hf
    obtain ⟨f, rfl⟩ : ∃ g, f = g + 1 := ⟨f - 1, by omega⟩
    obtain ⟨W1, e1, s1, s2, s3, s4, s5, s6, s7⟩ := settle_1 (f := f) (n := n + k) (r := r) hZ hw z1 (by omega) h16 (by omega) (hv _ (by omega)) ⟨hr.1, hq _ (by omega) (by omega)⟩
    have w5 : W1 5 = W 5 := s1 5 (by omega) (by omega)
    obtain ⟨W2, e2, t1, t2, t3, t4, t5, t6, t7⟩ := ih n (w + 1) f W1 (by rw [s2 12 (by omega) (by omega) (by omega)]; exact hZ) (by rw [s4]) (by omega) s3 (by omega) (fun y hy => by rw [w5]; exact hv y (by omega)) (fun y y1 y2 => by rw [w5]; exact hq y y1 (by omega)) (fun y hy => by rw [w5]; exact ht y hy) (by omega)
    refine ⟨W2, by rw [e1]; exact e2, fun a h0 h3 => by rw [t1 a h0 h3, s1 a h0 h3], fun j j1 j2 j3 => by rw [t2 j j1 j2 j3, s2 j j1 j2 j3], t3, by rw [t4]; omega, ?_, fun i hi => ?_, fun y hy => by rw [t7 y (by omega), s7 y hy]⟩
    · rw [t5, s5, w5]
      show W 0 17 - ((0 + dc (W 5 (n + k + 0)) : Nat) : Int) - (dcn (W 5) n k : Int) = W 0 17 - ((dcn (W 5) n k + dc (W 5 (n + k)) : Nat) : Int)
      rw [Nat.add_zero]
      omega
    · by_cases z : i = 0
      · subst z
        obtain ⟨a, a'⟩ := s6 0 (by omega)
        rw [t7 _ (by omega), t7 _ (by omega)]
        refine ⟨?_, a'⟩
        rw [a]
        rw [show n + k + 1 - 1 - 0 = n + (k + 1) - 1 - 0 by omega]
      · obtain ⟨a, a'⟩ := t6 (i - 1) (by omega)
        rw [show w + 1 + (i - 1) = w + i by omega] at a a'
        refine ⟨?_, a'⟩
        rw [a, w5, show n + k - 1 - (i - 1) = n + (k + 1) - 1 - i by omega]
theorem q_settle {Z n k w : Nat} {r : Int} {W : g_M} (z1 : Z ≤ 2115) (hr : 0 ≤ r ∧ r ≤ 7) (hZ : W 0 12 = Z) (hw : W 0 13 = w) (hk : w + k ≤ 304) (h16 : W 0 16 = ((n + k : Nat) : Int)) (hn : n + k ≤ 160) (hv : ∀ y, y < n + k → OPv (W 5 y)) (hq : ∀ y, n ≤ y → y < n + k → r ≤ rk (W 5 y)) (ht : ∀ y, y + 1 = n → rk (W 5 y) < r) : ∃ W', m_X9_settle r W = some W' ∧ STL Z n k w W W' :=
  settle_L z1 hr k n w g_fuel W hZ hw hk h16 hn hv hq ht (by unfold g_fuel; omega)
