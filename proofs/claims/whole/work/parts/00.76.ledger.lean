/-! by the book -/
def sm (f : Nat → Int) : Nat → Int
  | 0 => 0
  | n + 1 => sm f n + f n
theorem sm_cg {f g : Nat → Int} : ∀ n, (∀ i, i < n → f i = g i) → sm f n = sm g n := by
  intro n
  induction n with
  | zero => intro h; rfl
  | succ n ih =>
    intro h
    show sm f n + f n = sm g n + g n
    rw [ih (fun i hi => h i (by omega)), h n (by omega)]
theorem sm_shift (f : Nat → Int) : ∀ n, sm (fun i => f (i + 1)) n = sm f n + f n - f 0 := by
  intro n
  induction n with
  | zero => show (0 : Int) = 0 + f 0 - f 0; omega
  | succ n ih =>
    show sm (fun i => f (i + 1)) n + f (n + 1) = sm f n + f n + f (n + 1) - f 0
    rw [ih]
    omega
theorem sm_rot (f : Nat → Int) : ∀ t, sm (fun i => f ((t + i) % 30)) 30 = sm f 30 := by
  intro t
  induction t with
  | zero => exact sm_cg 30 (fun i hi => by rw [Nat.zero_add, Nat.mod_eq_of_lt hi])
  | succ t ih =>
    rw [← ih]
    have h := sm_shift (fun i => f ((t + i) % 30)) 30
    rw [show (t + 30) % 30 = (t + 0) % 30 by omega] at h
    have e : (fun i => f ((t + 1 + i) % 30)) = fun i => f ((t + (i + 1)) % 30) := by
      funext i
      rw [show t + 1 + i = t + (i + 1) by omega]
    rw [e, h]
    omega
theorem sm_01 (f : Nat → Int) : ∀ n, (∀ i, i < n → f i = 0 ∨ f i = 1) → 0 ≤ sm f n ∧ sm f n ≤ n := by
  intro n
  induction n with
  | zero => intro h; exact ⟨by show (0 : Int) ≤ 0; omega, by show (0 : Int) ≤ 0; omega⟩
  | succ n ih =>
    intro h
    have a := ih (fun i hi => h i (by omega))
    have b := h n (by omega)
    show 0 ≤ sm f n + f n ∧ sm f n + f n ≤ _
    omega
theorem sm_not (f : Nat → Int) : ∀ n : Nat, sm (fun i => 1 - f i) n = n - sm f n := by
  intro n
  induction n with
  | zero => rfl
  | succ n ih =>
    show sm (fun i => 1 - f i) n + (1 - f n) = _ - (sm f n + f n)
    rw [ih]
    omega
theorem sm_at (f : Nat → Int) (n : Nat) : sm f n + f n = sm f (n + 1) := rfl
theorem st_44 : x_step_44 Rel := by
  intro n Mx Mm hr hn z hz
  have hr0 := hr
  obtain ⟨⟨P, T, S, E, C, F, hP, hT, hU, hS, hE, hC, hF, hsn, htd, hkd, hpl, hro, hod, hos, hsv, hlk, hfe, hst⟩, -⟩ := hr
  obtain ⟨D, d1, d2, d3, ⟨d4, d5, d6⟩, ⟨d7, d8, d9⟩, d10, d11, d12, d13, d14⟩ := hsn
  obtain ⟨m, hm⟩ : ∃ m, m = min 30 D := ⟨_, rfl⟩
  have hm30 : m ≤ 30 := by omega
  have d14' := d14
  unfold R_book at d14'
  have hw := p_written (M := Mx) d2 d1
  have d10' : Mm 1 9 = ((min 30 D : Nat) : Int) := d10
  rw [← hm] at hw d14' d10'
  have v01 : ∀ i, i < m → Mx 2 (73 + (D - m + i) % 30) = 0 ∨ Mx 2 (73 + (D - m + i) % 30) = 1 := fun i hi => (d14' i hi).2.2.2.1
  have hrot : sm (fun i => Mx 2 (73 + (D - m + i) % 30)) m = sm (fun i => Mx 2 (73 + i)) m := by
    by_cases c : D < 30
    · refine sm_cg m (fun i hi => ?_)
      rw [show (D - m + i) % 30 = i by omega]
    · rw [show m = 30 by omega]
      exact sm_rot (fun i => Mx 2 (73 + i)) (D - 30)
  have w01 : ∀ i, i < m → Mx 2 (73 + i) = 0 ∨ Mx 2 (73 + i) = 1 := by
    intro i hi
    by_cases c : D < 30
    · have := v01 i hi
      rw [show (D - m + i) % 30 = i by omega] at this
      exact this
    · have := v01 ((i + (30 - (D - m) % 30)) % 30) (by omega)
      rw [show (D - m + (i + (30 - (D - m) % 30)) % 30) % 30 = i by omega] at this
      exact this
  have hx : m_X8_ledger z Mx = some (if z = 0 then (m : Int) - sm (fun i => Mx 2 (73 + i)) m else sm (fun i => Mx 2 (73 + i)) m) := by
    unfold m_X8_ledger
    rw [hw]
    simp only [Option.bind_some, g_nm]
    have h := loop_F (fun f i (s : Int) => m_X8_ledger_L13 z m Mx (fun (x24 : Int) => if gs z = 0 then (some ((m : Int) - x24)) else (some x24)) f s i) m (fun i => sm (fun i => Mx 2 (73 + i)) i) (some (if z = 0 then (m : Int) - sm (fun i => Mx 2 (73 + i)) m else sm (fun i => Mx 2 (73 + i)) m)) ?_ ?_ m 0 g_fuel (by omega) (by unfold g_fuel; omega)
    · exact h
    · intro f
      show m_X8_ledger_L13 z m Mx _ (f + 1) _ (m : Int) = _
      rw [m_X8_ledger_L13]
      simp (disch := omega) only [↓reduceIte, ta_le, gs_id]
      split <;> rfl
    · intro i f hi
      show m_X8_ledger_L13 z m Mx _ (f + 1) _ (i : Int) = m_X8_ledger_L13 z m Mx _ f _ _
      rw [m_X8_ledger_L13]
      simp (disch := omega) only [↓reduceIte, ↓nm_eq, ↓jn_eq, ↓c_within, ↓c_isIn, ↓c_isScene, ↓c_isPlace, ↓c_isCue, ↓c_isDigit, ↓d_isScene, ↓d_isAny, ↓ta_pb1, ↓ta_pb0, ↓ta_pb1', ↓ta_pb0', ta_lt, ta_nlt, ta_le, ta_nle, ta_eq, ta_neq, ta_nne, ta_ne, gs_id, a_gd01, a_gdT, or_true, true_or, bd_some, bW_sm, a_gd, a_ne, a_rd, Int.toNat_natCast, Int.toNat_add, Int.toNat_mul, Int.reduceToNat, a_gdp, a_cell, and_self, and_true, true_and, sm_at (fun i => Mx 2 (73 + i)) i, Int.natCast_add, Int.natCast_one]
  have hb : ∀ i : Nat, i < m → m_X9_book i 2 Mm = some (Mx 2 (73 + (D - m + i) % 30)) := by
    intro i hi
    obtain ⟨r, e1, e2⟩ := p_book (Mx := Mx) (Mm := Mm) d1 d2 d10 d14 i 2 (by omega) (by omega)
    rw [e2, ← e1]
    have hd : (((D : Int) - (m : Int) + (i : Int)) % 30) = (((D - m + i) % 30 : Nat) : Int) := by omega
    have hl : (D - m + i) % 30 < 30 := by omega
    unfold m_X8_book
    simp (disch := omega) only [↓reduceIte, ↓nm_eq, ↓jn_eq, ↓c_within, ↓c_isIn, ↓c_isScene, ↓c_isPlace, ↓c_isCue, ↓c_isDigit, ↓d_isScene, ↓d_isAny, ↓ta_pb1, ↓ta_pb0, ↓ta_pb1', ↓ta_pb0', ta_lt, ta_nlt, ta_le, ta_nle, ta_eq, ta_neq, ta_nne, ta_ne, gs_id, a_gd01, a_gdT, or_true, true_or, bd_some, bW_sm, a_gd, a_ne, a_rd, Int.toNat_natCast, Int.toNat_add, Int.toNat_mul, Int.reduceToNat, a_gdp, a_cell, and_self, and_true, true_and, hw, d2, g_rem_nn, hd]
  have hy : m_X9_ledger z Mm = some (sm (fun i => if Mx 2 (73 + (D - m + i) % 30) = z then 1 else 0) m) := by
    unfold m_X9_ledger
    simp only [g_nm]
    have h := loop_F (fun f i (s : Int) => m_X9_ledger_L4 z Mm f s i) m (fun i => sm (fun i => if Mx 2 (73 + (D - m + i) % 30) = z then 1 else 0) i) (some (sm (fun i => if Mx 2 (73 + (D - m + i) % 30) = z then 1 else 0) m)) ?_ ?_ m 0 g_fuel (by omega) (by unfold g_fuel; omega)
    · exact h
    · intro f
      show m_X9_ledger_L4 z Mm (f + 1) _ (m : Int) = _
      rw [m_X9_ledger_L4]
      simp (disch := omega) only [↓reduceIte, ↓nm_eq, ↓jn_eq, ↓c_within, ↓c_isIn, ↓c_isScene, ↓c_isPlace, ↓c_isCue, ↓c_isDigit, ↓d_isScene, ↓d_isAny, ↓ta_pb1, ↓ta_pb0, ↓ta_pb1', ↓ta_pb0', ta_lt, ta_nlt, ta_le, ta_nle, ta_eq, ta_neq, ta_nne, ta_ne, gs_id, a_gd01, a_gdT, or_true, true_or, bd_some, bW_sm, a_gd, a_ne, a_rd, Int.toNat_natCast, Int.toNat_add, Int.toNat_mul, Int.reduceToNat, a_gdp, a_cell, and_self, and_true, true_and, d10']
    · intro i f hi
      show m_X9_ledger_L4 z Mm (f + 1) _ (i : Int) = m_X9_ledger_L4 z Mm f _ _
      rw [m_X9_ledger_L4]
      have v := v01 i hi
      rw [show sm (fun i => if Mx 2 (73 + (D - m + i) % 30) = z then 1 else 0) (i + 1) = sm (fun i => if Mx 2 (73 + (D - m + i) % 30) = z then 1 else 0) i + (if Mx 2 (73 + (D - m + i) % 30) = z then 1 else 0) from rfl]
      generalize sm (fun i => if Mx 2 (73 + (D - m + i) % 30) = z then 1 else 0) i = s0
      rcases v with v | v <;> rcases hz with rfl | rfl <;> simp (disch := omega) only [↓reduceIte, ↓nm_eq, ↓jn_eq, ↓c_within, ↓c_isIn, ↓c_isScene, ↓c_isPlace, ↓c_isCue, ↓c_isDigit, ↓d_isScene, ↓d_isAny, ↓ta_pb1, ↓ta_pb0, ↓ta_pb1', ↓ta_pb0', ta_lt, ta_nlt, ta_le, ta_nle, ta_eq, ta_neq, ta_nne, ta_ne, gs_id, a_gd01, a_gdT, or_true, true_or, bd_some, bW_sm, a_gd, a_ne, a_rd, Int.toNat_natCast, Int.toNat_add, Int.toNat_mul, Int.reduceToNat, a_gdp, a_cell, and_self, and_true, true_and, hb i hi, d10', v, Int.natCast_add, Int.natCast_one, if_neg (show ¬ (0 : Int) = 1 by decide), if_neg (show ¬ (1 : Int) = 0 by decide)]
  rcases hz with rfl | rfl
  · rw [if_pos rfl] at hx
    refine ⟨_, _, Mx, Mm, ⟨hx, rfl⟩, ⟨hy, rfl⟩, ?_, st_same hr0⟩
    apply congrArg
    rw [← hrot, ← sm_not]
    refine sm_cg m (fun i hi => ?_)
    rcases v01 i hi with v | v <;> rw [v] <;> rfl
  · rw [if_neg (by decide)] at hx
    refine ⟨_, _, Mx, Mm, ⟨hx, rfl⟩, ⟨hy, rfl⟩, ?_, st_same hr0⟩
    apply congrArg
    rw [← hrot]
    refine sm_cg m (fun i hi => ?_)
    rcases v01 i hi with v | v <;> rw [v] <;> rfl
