/-! what is open, what is compared; names -/
def VP (n : Nat) (W : g_M) : Prop := n ≤ 160 ∧ W 0 16 = n ∧ ∀ y, y < n → OPv (W 5 y)
theorem openAt_L {W : g_M} {n m : Nat} (hv : VP n W) (hm : m < n) (h40 : 40 ≤ W 5 m) (ha : ∀ y, m < y → y < n → W 5 y < 40) : ∀ (d f : Nat), m + d < n → d < f → m_X9_openAt_L7 W f ((m + d : Nat) : Int) = some (m : Int) := by
  obtain ⟨hn, h16, hp⟩ := hv
  intro d
  induction d with
  | zero =>
    intro f hd hf
    obtain ⟨f, rfl⟩ : ∃ g, f = g + 1 := ⟨f - 1, by omega⟩
    have o := hp m hm
    unfold OPv at o
    rw [m_X9_openAt_L7, Nat.add_zero]
    simp (disch := omega) only [↓reduceIte, ↓nm_eq, ↓jn_eq, ↓c_within, ↓c_isIn, ↓c_isScene, ↓c_isPlace, ↓c_isCue, ↓c_isDigit, ↓d_isScene, ↓d_isAny, ↓ta_pb1, ↓ta_pb0, ↓ta_pb1', ↓ta_pb0', ta_lt, ta_nlt, ta_le, ta_nle, ta_eq, ta_neq, ta_nne, ta_ne, gs_id, a_gd01, a_gdT, or_true, true_or, bd_some, bW_sm, a_gd, a_ne, a_rd, Int.toNat_natCast, Int.toNat_add, Int.toNat_mul, Int.reduceToNat, a_gdp, a_cell, and_self, and_true, true_and]
  | succ d ih =>
    intro f hd hf
    obtain ⟨f, rfl⟩ : ∃ g, f = g + 1 := ⟨f - 1, by omega⟩
    have o := hp (m + (d + 1)) (by omega)
    have a := ha (m + (d + 1)) (by omega) (by omega)
    unfold OPv at o
    have i := ih f (by omega) (by omega)
    have e : ((m + (d + 1) : Nat) : Int) + -1 = ((m + d : Nat) : Int) := by omega
    rw [m_X9_openAt_L7]
    simp (disch := omega) only [↓reduceIte, ↓nm_eq, ↓jn_eq, ↓c_within, ↓c_isIn, ↓c_isScene, ↓c_isPlace, ↓c_isCue, ↓c_isDigit, ↓d_isScene, ↓d_isAny, ↓ta_pb1, ↓ta_pb0, ↓ta_pb1', ↓ta_pb0', ta_lt, ta_nlt, ta_le, ta_nle, ta_eq, ta_neq, ta_nne, ta_ne, gs_id, a_gd01, a_gdT, or_true, true_or, bd_some, bW_sm, a_gd, a_ne, a_rd, Int.toNat_natCast, Int.toNat_add, Int.toNat_mul, Int.reduceToNat, a_gdp, a_cell, and_self, and_true, true_and, e, i]
theorem q_openAt {W : g_M} {n m : Nat} (hv : VP n W) (hm : m < n) (h40 : 40 ≤ W 5 m) (ha : ∀ y, m < y → y < n → W 5 y < 40) : m_X9_openAt W = some (m : Int) := by
  have a := openAt_L hv hm h40 ha (n - 1 - m) g_fuel (by omega) (by unfold g_fuel; have := hv.1; omega)
  unfold m_X9_openAt
  rw [nm_eq, hv.2.1, ← a]
  rw [show ((m + (n - 1 - m) : Nat) : Int) = (n : Int) - 1 by omega]
theorem q_openNow {W : g_M} {n m : Nat} (hv : VP n W) (hm : m < n) (h40 : 40 ≤ W 5 m) (ha : ∀ y, m < y → y < n → W 5 y < 40) : m_X9_openNow W = some (W 5 m) := by
  have e := q_openAt hv hm h40 ha
  have hn := hv.1
  unfold m_X9_openNow
  simp (disch := omega) only [↓reduceIte, ↓nm_eq, ↓jn_eq, ↓c_within, ↓c_isIn, ↓c_isScene, ↓c_isPlace, ↓c_isCue, ↓c_isDigit, ↓d_isScene, ↓d_isAny, ↓ta_pb1, ↓ta_pb0, ↓ta_pb1', ↓ta_pb0', ta_lt, ta_nlt, ta_le, ta_nle, ta_eq, ta_neq, ta_nne, ta_ne, gs_id, a_gd01, a_gdT, or_true, true_or, bd_some, bW_sm, a_gd, a_ne, a_rd, Int.toNat_natCast, Int.toNat_add, Int.toNat_mul, Int.reduceToNat, a_gdp, a_cell, and_self, and_true, true_and, e]
theorem openAt_N {W : g_M} {n : Nat} (hv : VP n W) (ha : ∀ y, y < n → W 5 y < 40) : ∀ (d f : Nat), d ≤ n → d < f → m_X9_openAt_L7 W f ((d : Int) - 1) = some (-1) := by
  obtain ⟨hn, h16, hp⟩ := hv
  intro d
  induction d with
  | zero =>
    intro f hd hf
    obtain ⟨f, rfl⟩ : ∃ g, f = g + 1 := ⟨f - 1, by omega⟩
    have e : ((0 : Nat) : Int) - 1 = -1 := rfl
    rw [m_X9_openAt_L7, e]
    simp (disch := omega) only [↓reduceIte, ↓nm_eq, ↓jn_eq, ↓c_within, ↓c_isIn, ↓c_isScene, ↓c_isPlace, ↓c_isCue, ↓c_isDigit, ↓d_isScene, ↓d_isAny, ↓ta_pb1, ↓ta_pb0, ↓ta_pb1', ↓ta_pb0', ta_lt, ta_nlt, ta_le, ta_nle, ta_eq, ta_neq, ta_nne, ta_ne, gs_id, a_gd01, a_gdT, or_true, true_or, bd_some, bW_sm, a_gd, a_ne, a_rd, Int.toNat_natCast, Int.toNat_add, Int.toNat_mul, Int.reduceToNat, a_gdp, a_cell, and_self, and_true, true_and]
  | succ d ih =>
    intro f hd hf
    obtain ⟨f, rfl⟩ : ∃ g, f = g + 1 := ⟨f - 1, by omega⟩
    have o := hp d (by omega)
    have a := ha d (by omega)
    unfold OPv at o
    have i := ih f (by omega) (by omega)
    have e0 : ((d + 1 : Nat) : Int) - 1 = (d : Int) := by omega
    have e : (d : Int) + -1 = (d : Int) - 1 := by omega
    rw [m_X9_openAt_L7, e0]
    simp (disch := omega) only [↓reduceIte, ↓nm_eq, ↓jn_eq, ↓c_within, ↓c_isIn, ↓c_isScene, ↓c_isPlace, ↓c_isCue, ↓c_isDigit, ↓d_isScene, ↓d_isAny, ↓ta_pb1, ↓ta_pb0, ↓ta_pb1', ↓ta_pb0', ta_lt, ta_nlt, ta_le, ta_nle, ta_eq, ta_neq, ta_nne, ta_ne, gs_id, a_gd01, a_gdT, or_true, true_or, bd_some, bW_sm, a_gd, a_ne, a_rd, Int.toNat_natCast, Int.toNat_add, Int.toNat_mul, Int.reduceToNat, a_gdp, a_cell, and_self, and_true, true_and, e, i]
theorem q_openNone {W : g_M} {n : Nat} (hv : VP n W) (ha : ∀ y, y < n → W 5 y < 40) : m_X9_openNow W = some (-1) := by
  have a := openAt_N hv ha n g_fuel (by omega) (by unfold g_fuel; have := hv.1; omega)
  have e : m_X9_openAt W = some (-1) := by
    unfold m_X9_openAt
    rw [nm_eq, hv.2.1]
    exact a
  unfold m_X9_openNow
  simp (disch := omega) only [↓reduceIte, ↓nm_eq, ↓jn_eq, ↓c_within, ↓c_isIn, ↓c_isScene, ↓c_isPlace, ↓c_isCue, ↓c_isDigit, ↓d_isScene, ↓d_isAny, ↓ta_pb1, ↓ta_pb0, ↓ta_pb1', ↓ta_pb0', ta_lt, ta_nlt, ta_le, ta_nle, ta_eq, ta_neq, ta_nne, ta_ne, gs_id, a_gd01, a_gdT, or_true, true_or, bd_some, bW_sm, a_gd, a_ne, a_rd, Int.toNat_natCast, Int.toNat_add, Int.toNat_mul, Int.reduceToNat, a_gdp, a_cell, and_self, and_true, true_and, e]
theorem open_ex {p : Nat → Int} : ∀ n : Nat, (∃ m, m < n ∧ 40 ≤ p m ∧ ∀ y, m < y → y < n → p y < 40) ∨ ∀ y, y < n → p y < 40 := by
  intro n
  induction n with
  | zero => exact Or.inr (fun y hy => by omega)
  | succ n ih =>
    by_cases c : 40 ≤ p n
    · exact Or.inl ⟨n, by omega, c, fun y h1 h2 => by omega⟩
    · rcases ih with ⟨m, h1, h2, h3⟩ | h
      · refine Or.inl ⟨m, by omega, h2, fun y y1 y2 => ?_⟩
        by_cases z : y = n
        · rw [z]; omega
        · exact h3 y y1 (by omega)
      · refine Or.inr (fun y hy => ?_)
        by_cases z : y = n
        · rw [z]; omega
        · exact h y (by omega)
theorem cmp_L {W : g_M} {n z : Nat} {K : Int → Option Int} (hv : VP n W) (h4 : rk (W 5 z) ≤ 4) (ha : ∀ y, z < y → y < n → 4 < rk (W 5 y)) : ∀ (d f : Nat), z + d < n → d < f → m_X9_isCompared_L7 W K f ((z + d : Nat) : Int) = K (z : Int) := by
  obtain ⟨hn, h16, hp⟩ := hv
  intro d
  induction d with
  | zero =>
    intro f hd hf
    obtain ⟨f, rfl⟩ : ∃ g, f = g + 1 := ⟨f - 1, by omega⟩
    obtain ⟨q1, q2, q3⟩ := q_rank (hp z (by omega))
    rw [m_X9_isCompared_L7, Nat.add_zero]
    simp (disch := omega) only [↓reduceIte, ↓nm_eq, ↓jn_eq, ↓c_within, ↓c_isIn, ↓c_isScene, ↓c_isPlace, ↓c_isCue, ↓c_isDigit, ↓d_isScene, ↓d_isAny, ↓ta_pb1, ↓ta_pb0, ↓ta_pb1', ↓ta_pb0', ta_lt, ta_nlt, ta_le, ta_nle, ta_eq, ta_neq, ta_nne, ta_ne, gs_id, a_gd01, a_gdT, or_true, true_or, bd_some, bW_sm, a_gd, a_ne, a_rd, Int.toNat_natCast, Int.toNat_add, Int.toNat_mul, Int.reduceToNat, a_gdp, a_cell, and_self, and_true, true_and, q1]
  | succ d ih =>
    intro f hd hf
    obtain ⟨f, rfl⟩ : ∃ g, f = g + 1 := ⟨f - 1, by omega⟩
    obtain ⟨q1, q2, q3⟩ := q_rank (hp (z + (d + 1)) (by omega))
    have a := ha (z + (d + 1)) (by omega) (by omega)
    have i := ih f (by omega) (by omega)
    have e : ((z + (d + 1) : Nat) : Int) + -1 = ((z + d : Nat) : Int) := by omega
    rw [m_X9_isCompared_L7]
    simp (disch := omega) only [↓reduceIte, ↓nm_eq, ↓jn_eq, ↓c_within, ↓c_isIn, ↓c_isScene, ↓c_isPlace, ↓c_isCue, ↓c_isDigit, ↓d_isScene, ↓d_isAny, ↓ta_pb1, ↓ta_pb0, ↓ta_pb1', ↓ta_pb0', ta_lt, ta_nlt, ta_le, ta_nle, ta_eq, ta_neq, ta_nne, ta_ne, gs_id, a_gd01, a_gdT, or_true, true_or, bd_some, bW_sm, a_gd, a_ne, a_rd, Int.toNat_natCast, Int.toNat_add, Int.toNat_mul, Int.reduceToNat, a_gdp, a_cell, and_self, and_true, true_and, q1, e, i]
theorem q_isCompared {W : g_M} {n z : Nat} (hv : VP n W) (hz : z < n) (h4 : rk (W 5 z) ≤ 4) (ha : ∀ y, z < y → y < n → 4 < rk (W 5 y)) : m_X9_isCompared W = some (pb (rk (W 5 z) = 4)) := by
  obtain ⟨q1, q2, q3⟩ := q_rank (hv.2.2 z hz)
  have hn := hv.1
  have a := fun K => cmp_L (K := K) hv h4 ha (n - 1 - z) g_fuel (by omega) (by unfold g_fuel; omega)
  unfold m_X9_isCompared
  rw [nm_eq, hv.2.1, show (n : Int) - 1 = ((z + (n - 1 - z) : Nat) : Int) by omega, a]
  by_cases c : rk (W 5 z) = 4
  · rw [pb_t c]
    simp (disch := omega) only [↓reduceIte, ↓nm_eq, ↓jn_eq, ↓c_within, ↓c_isIn, ↓c_isScene, ↓c_isPlace, ↓c_isCue, ↓c_isDigit, ↓d_isScene, ↓d_isAny, ↓ta_pb1, ↓ta_pb0, ↓ta_pb1', ↓ta_pb0', ta_lt, ta_nlt, ta_le, ta_nle, ta_eq, ta_neq, ta_nne, ta_ne, gs_id, a_gd01, a_gdT, or_true, true_or, bd_some, bW_sm, a_gd, a_ne, a_rd, Int.toNat_natCast, Int.toNat_add, Int.toNat_mul, Int.reduceToNat, a_gdp, a_cell, and_self, and_true, true_and, q1]
  · rw [pb_f c]
    simp (disch := omega) only [↓reduceIte, ↓nm_eq, ↓jn_eq, ↓c_within, ↓c_isIn, ↓c_isScene, ↓c_isPlace, ↓c_isCue, ↓c_isDigit, ↓d_isScene, ↓d_isAny, ↓ta_pb1, ↓ta_pb0, ↓ta_pb1', ↓ta_pb0', ta_lt, ta_nlt, ta_le, ta_nle, ta_eq, ta_neq, ta_nne, ta_ne, gs_id, a_gd01, a_gdT, or_true, true_or, bd_some, bW_sm, a_gd, a_ne, a_rd, Int.toNat_natCast, Int.toNat_add, Int.toNat_mul, Int.reduceToNat, a_gdp, a_cell, and_self, and_true, true_and, q1]
/-- nothing can be asked from here on -/
def NAtop (n : Nat) (W : g_M) : Prop := ∀ y, y + 1 = n → 4 ≤ rk (W 5 y) ∨ W 5 y = 40 ∨ W 5 y = 42 ∨ W 5 y = 43
theorem q_askNo {W : g_M} {n : Nat} (hv : VP n W) (h : NAtop n W) : m_X9_isAskAhead W = some 0 := by
  have hn := hv.1
  have h16 := hv.2.1
  unfold m_X9_isAskAhead
  rcases open_ex (p := W 5) n with ⟨m, m1, m2, m3⟩ | m3
  · have o := q_openNow hv m1 m2 m3
    have ov := hv.2.2 m m1
    unfold OPv at ov
    by_cases c : W 5 m = 41
    · have i1 : ((n : Int) - 1).toNat = n - 1 := by omega
      have t := h (n - 1) (by omega)
      have nm : m ≠ n - 1 := fun z => by
        rw [← z, c] at t
        have : rk 41 = 0 := rfl
        omega
      have t40 := m3 (n - 1) (by omega) (by omega)
      have tv := hv.2.2 (n - 1) (by omega)
      obtain ⟨q1, q2, q3⟩ := q_rank tv
      unfold OPv at tv
      have t4 : 4 ≤ rk (W 5 (n - 1)) := by omega
      simp (disch := omega) only [↓reduceIte, ↓nm_eq, ↓jn_eq, ↓c_within, ↓c_isIn, ↓c_isScene, ↓c_isPlace, ↓c_isCue, ↓c_isDigit, ↓d_isScene, ↓d_isAny, ↓ta_pb1, ↓ta_pb0, ↓ta_pb1', ↓ta_pb0', ta_lt, ta_nlt, ta_le, ta_nle, ta_eq, ta_neq, ta_nne, ta_ne, gs_id, a_gd01, a_gdT, or_true, true_or, bd_some, bW_sm, a_gd, a_ne, a_rd, Int.toNat_natCast, Int.toNat_add, Int.toNat_mul, Int.reduceToNat, a_gdp, a_cell, and_self, and_true, true_and, o, c, h16, i1, q1]
    · simp (disch := omega) only [↓reduceIte, ↓nm_eq, ↓jn_eq, ↓c_within, ↓c_isIn, ↓c_isScene, ↓c_isPlace, ↓c_isCue, ↓c_isDigit, ↓d_isScene, ↓d_isAny, ↓ta_pb1, ↓ta_pb0, ↓ta_pb1', ↓ta_pb0', ta_lt, ta_nlt, ta_le, ta_nle, ta_eq, ta_neq, ta_nne, ta_ne, gs_id, a_gd01, a_gdT, or_true, true_or, bd_some, bW_sm, a_gd, a_ne, a_rd, Int.toNat_natCast, Int.toNat_add, Int.toNat_mul, Int.reduceToNat, a_gdp, a_cell, and_self, and_true, true_and, o]
  · have o := q_openNone hv m3
    simp (disch := omega) only [↓reduceIte, ↓nm_eq, ↓jn_eq, ↓c_within, ↓c_isIn, ↓c_isScene, ↓c_isPlace, ↓c_isCue, ↓c_isDigit, ↓d_isScene, ↓d_isAny, ↓ta_pb1, ↓ta_pb0, ↓ta_pb1', ↓ta_pb0', ta_lt, ta_nlt, ta_le, ta_nle, ta_eq, ta_neq, ta_nne, ta_ne, gs_id, a_gd01, a_gdT, or_true, true_or, bd_some, bW_sm, a_gd, a_ne, a_rd, Int.toNat_natCast, Int.toNat_add, Int.toNat_mul, Int.reduceToNat, a_gdp, a_cell, and_self, and_true, true_and, o]
theorem q_askYes {W : g_M} {n m : Nat} (hv : VP n W) (hm : m < n) (h41 : W 5 m = 41) (ha : ∀ y, m < y → y < n → W 5 y < 40) (ht : ∀ y, y + 1 = n → rk (W 5 y) < 4) : m_X9_isAskAhead W = some 1 := by
  have hn := hv.1
  have h16 := hv.2.1
  have o := q_openNow hv hm (by omega) ha
  have i1 : ((n : Int) - 1).toNat = n - 1 := by omega
  have tv := hv.2.2 (n - 1) (by omega)
  have t := ht (n - 1) (by omega)
  obtain ⟨q1, q2, q3⟩ := q_rank tv
  unfold OPv at tv
  unfold m_X9_isAskAhead
  by_cases c : 40 ≤ W 5 (n - 1)
  · simp (disch := omega) only [↓reduceIte, ↓nm_eq, ↓jn_eq, ↓c_within, ↓c_isIn, ↓c_isScene, ↓c_isPlace, ↓c_isCue, ↓c_isDigit, ↓d_isScene, ↓d_isAny, ↓ta_pb1, ↓ta_pb0, ↓ta_pb1', ↓ta_pb0', ta_lt, ta_nlt, ta_le, ta_nle, ta_eq, ta_neq, ta_nne, ta_ne, gs_id, a_gd01, a_gdT, or_true, true_or, bd_some, bW_sm, a_gd, a_ne, a_rd, Int.toNat_natCast, Int.toNat_add, Int.toNat_mul, Int.reduceToNat, a_gdp, a_cell, and_self, and_true, true_and, o, h41, h16, i1]
  · have t1 : 1 ≤ rk (W 5 (n - 1)) := by
      unfold rk
      rw [if_neg c]
      unfold rk at t
      rw [if_neg c] at t
      by_cases a1 : W 5 (n - 1) = 22
      · rw [if_pos a1]; omega
      · rw [if_neg a1]
        by_cases a2 : W 5 (n - 1) = 21
        · rw [if_pos a2]; omega
        · rw [if_neg a2]
          by_cases a3 : W 5 (n - 1) = 20
          · rw [if_pos a3]; omega
          · rw [if_neg a1, if_neg a2, if_neg a3] at t
            by_cases a4 : 10 ≤ W 5 (n - 1)
            · rw [if_pos a4] at t; omega
            · rw [if_neg a4] at t
              by_cases a5 : W 5 (n - 1) = 4 ∨ W 5 (n - 1) = 2
              · rw [if_pos a5] at t; omega
              · rw [if_neg a5] at t
                by_cases a6 : 7 ≤ W 5 (n - 1)
                · rw [if_pos a6] at t; omega
                · rw [if_neg a6] at t; omega
    simp (disch := omega) only [↓reduceIte, ↓nm_eq, ↓jn_eq, ↓c_within, ↓c_isIn, ↓c_isScene, ↓c_isPlace, ↓c_isCue, ↓c_isDigit, ↓d_isScene, ↓d_isAny, ↓ta_pb1, ↓ta_pb0, ↓ta_pb1', ↓ta_pb0', ta_lt, ta_nlt, ta_le, ta_nle, ta_eq, ta_neq, ta_nne, ta_ne, gs_id, a_gd01, a_gdT, or_true, true_or, bd_some, bW_sm, a_gd, a_ne, a_rd, Int.toNat_natCast, Int.toNat_add, Int.toNat_mul, Int.reduceToNat, a_gdp, a_cell, and_self, and_true, true_and, o, h41, h16, i1, q1]
theorem nm_st {b : Nat → Int} {s q T : Nat} {N : Int} {W : g_M} (h : TW b s q T N W) (h2 : W 0 9 = 2) {k : Nat} {o : Option Int} {A B : Option Int} (ho : o = some (cw k)) (hk : k < 33) (k2 : k ≠ 2) (k8 : k ≠ 8) : (o.bind fun x => if gs (g_cmp (W 0 11) x) ≠ 0 then A else B) = if T = k then B else A := by
  have t := t_cmp h h2 hk k2 k8
  rw [bd_eq ho]
  by_cases c : T = k
  · rw [if_pos c, if_neg (fun z => z (t.1 c))]
  · rw [if_neg c, if_pos (t.2 c)]
theorem q_nameOf {b : Nat → Int} {s q T : Nat} {N : Int} {W : g_M} (h : TW b s q T N W) : m_X9_nameOf W = some (if 21 ≤ T ∧ T ≤ 32 then (T : Int) - 21 else -1) := by
  unfold m_X9_nameOf
  by_cases c : W 0 9 = 2
  · rw [if_pos (by rw [c])]
    rw [nm_st h c cwe_21 (by omega) (by omega) (by omega), nm_st h c cwe_22 (by omega) (by omega) (by omega), nm_st h c cwe_23 (by omega) (by omega) (by omega), nm_st h c cwe_24 (by omega) (by omega) (by omega), nm_st h c cwe_25 (by omega) (by omega) (by omega), nm_st h c cwe_26 (by omega) (by omega) (by omega), nm_st h c cwe_27 (by omega) (by omega) (by omega), nm_st h c cwe_28 (by omega) (by omega) (by omega), nm_st h c cwe_29 (by omega) (by omega) (by omega), nm_st h c cwe_30 (by omega) (by omega) (by omega), nm_st h c cwe_31 (by omega) (by omega) (by omega), nm_st h c cwe_32 (by omega) (by omega) (by omega)]
    clear h c
    have a : T = 21 ∨ T = 22 ∨ T = 23 ∨ T = 24 ∨ T = 25 ∨ T = 26 ∨ T = 27 ∨ T = 28 ∨ T = 29 ∨ T = 30 ∨ T = 31 ∨ T = 32 ∨ ¬ (21 ≤ T ∧ T ≤ 32) := by omega
    rcases a with a | a | a | a | a | a | a | a | a | a | a | a | a
    all_goals first
      | (subst a; rfl)
      | rw [if_neg (show ¬ T = 21 by omega), if_neg (show ¬ T = 22 by omega), if_neg (show ¬ T = 23 by omega), if_neg (show ¬ T = 24 by omega), if_neg (show ¬ T = 25 by omega), if_neg (show ¬ T = 26 by omega), if_neg (show ¬ T = 27 by omega), if_neg (show ¬ T = 28 by omega), if_neg (show ¬ T = 29 by omega), if_neg (show ¬ T = 30 by omega), if_neg (show ¬ T = 31 by omega), if_neg (show ¬ T = 32 by omega), if_neg a]
  · have n := TW_9 h
    rw [if_neg (fun z => c (by rw [gs_id (by omega) (by omega), gs_id (by omega) (by omega)] at z; exact z)), if_neg (fun z => c (n.2.2.2.2.2.1 (by omega)))]
theorem isOf_tab : (List.range 3).all (fun l => (List.range 12).all (fun n => decide ((n < 3 ∨ (n = 3 ∧ l ≤ 1) ∨ (4 ≤ n ∧ n ≤ 5 ∧ l = 0) ∨ (6 ≤ n ∧ n ≤ 7 ∧ l = 1) ∨ (8 ≤ n ∧ n ≤ 11 ∧ l = 2)) → m_X9_isOf (n : Int) (fun _ _ => (l : Int)) = some 1 ∧ gs (g_and (g_shr (x_nl n) (l : Int)) 1) ≠ 0) && decide (¬ (n < 3 ∨ (n = 3 ∧ l ≤ 1) ∨ (4 ≤ n ∧ n ≤ 5 ∧ l = 0) ∨ (6 ≤ n ∧ n ≤ 7 ∧ l = 1) ∨ (8 ≤ n ∧ n ≤ 11 ∧ l = 2)) → m_X9_isOf (n : Int) (fun _ _ => (l : Int)) = some 0 ∧ gs (g_and (g_shr (x_nl n) (l : Int)) 1) = 0))) = true := by decide +kernel
theorem q_isOf {l n : Nat} {W : g_M} (hl : l < 3) (hn : n < 12) (h14 : W 0 14 = l) : (nmOk l n → m_X9_isOf (n : Int) W = some 1 ∧ gs (g_and (g_shr (x_nl n) (l : Int)) 1) ≠ 0) ∧ (¬ nmOk l n → m_X9_isOf (n : Int) W = some 0 ∧ gs (g_and (g_shr (x_nl n) (l : Int)) 1) = 0) := by
  have a := all_of (all_of isOf_tab hl) hn
  rw [Bool.and_eq_true] at a
  have e : m_X9_isOf (n : Int) W = m_X9_isOf (n : Int) (fun _ _ => W 0 14) := rfl
  rw [e, h14]
  have a1 := of_decide_eq_true a.1
  have a2 := of_decide_eq_true a.2
  exact ⟨a1, a2⟩
def cmpR (T : Nat) : Int := if T = 50 then 10 else if T = 62 then 11 else if T = 51 then 12 else if T = 63 then 13 else if T = 52 then 14 else if T = 53 then 15 else -1
theorem cmp_tab : (List.range 14).all (fun k => decide (m_X9_compareOf (fun _ _ => sgn (50 + k)) = some (cmpR (50 + k)))) = true := by decide +kernel
theorem cmp_tab0 : m_X9_compareOf (fun _ _ => 0) = some (-1) ∧ m_X9_compareOf (fun _ _ => 1) = some (-1) ∧ m_X9_compareOf (fun _ _ => 2) = some (-1) ∧ m_X9_compareOf (fun _ _ => 3) = some (-1) ∧ m_X9_compareOf (fun _ _ => 58) = some (-1) := by decide +kernel
theorem TW_v {b : Nat → Int} {s q T : Nat} {N : Int} {W : g_M} (h : TW b s q T N W) : (50 ≤ T ∧ T ≤ 63 ∧ W 0 9 = sgn T) ∨ (T < 50 ∧ (W 0 9 = 0 ∨ W 0 9 = 1 ∨ W 0 9 = 2 ∨ W 0 9 = 3 ∨ W 0 9 = 58)) := by
  rcases h with ⟨a, c⟩ | ⟨a, c, -⟩ | ⟨c, -, -, a⟩ | ⟨a, c⟩ | ⟨a, a', c⟩
  · exact Or.inr ⟨by omega, Or.inl c⟩
  · exact Or.inr ⟨by omega, Or.inr (Or.inl c)⟩
  · refine Or.inr ⟨?_, Or.inr (Or.inr (Or.inl c))⟩
    rcases a with ⟨a, -⟩ | ⟨a, -⟩ <;> omega
  · exact Or.inr ⟨by omega, Or.inr (Or.inr (Or.inr c))⟩
  · exact Or.inl ⟨a, a', c⟩
theorem q_compareOf {b : Nat → Int} {s q T : Nat} {N : Int} {W : g_M} (h : TW b s q T N W) : m_X9_compareOf W = some (cmpR T) := by
  have e : m_X9_compareOf W = m_X9_compareOf (fun _ _ => W 0 9) := rfl
  rw [e]
  rcases TW_v h with ⟨a, a', c⟩ | ⟨a, c⟩
  · obtain ⟨k, rfl⟩ : ∃ k, T = 50 + k := ⟨T - 50, by omega⟩
    rw [c]
    exact of_decide_eq_true (all_of cmp_tab (show k < 14 by omega))
  · have z : cmpR T = -1 := by
      unfold cmpR
      rw [if_neg (by omega), if_neg (by omega), if_neg (by omega), if_neg (by omega), if_neg (by omega), if_neg (by omega)]
    rw [z]
    rcases c with c | c | c | c | c
    · rw [c]; exact cmp_tab0.1
    · rw [c]; exact cmp_tab0.2.1
    · rw [c]; exact cmp_tab0.2.2.1
    · rw [c]; exact cmp_tab0.2.2.2.1
    · rw [c]; exact cmp_tab0.2.2.2.2
