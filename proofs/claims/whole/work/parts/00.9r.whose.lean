/-! whose -/
theorem or_all : (List.range 16).all (fun a => (List.range 4).all (fun t => decide (g_or (a : Int) 0 = (a : Int) ∧ 0 ≤ g_or (a : Int) (g_shl 1 (t : Int)) ∧ g_or (a : Int) (g_shl 1 (t : Int)) < 16))) = true := by decide +kernel
theorem or_16 {a t : Nat} (ha : a < 16) (ht : t < 4) : g_or (a : Int) 0 = (a : Int) ∧ 0 ≤ g_or (a : Int) (g_shl 1 (t : Int)) ∧ g_or (a : Int) (g_shl 1 (t : Int)) < 16 := of_decide_eq_true (all_of (p := fun t => decide (g_or (a : Int) 0 = (a : Int) ∧ 0 ≤ g_or (a : Int) (g_shl 1 (t : Int)) ∧ g_or (a : Int) (g_shl 1 (t : Int)) < 16)) (all_of or_all ha) ht)
def Wf (M1 Mm M W : g_M) : Prop := (∀ a, a ≠ 33 → a ≠ 34 → M a = M1 a) ∧ (∀ j, j < 24 → M 33 j = M1 33 j) ∧ ∀ a, a ≠ 6 → a ≠ 7 → a ≠ 8 → W a = Mm a
theorem whose_dead {x t : Int} {k : Int → g_M → Option (Int × g_M)} {W : g_M} {F : Nat} (hF : F ≤ 8) (h5 : W 1 5 = F) : ∀ d i f : Nat, i + d = F → m_X9_whose_L19 x t k (f + d + 1) 0 i W = k 0 W := by
  intro d
  induction d with
  | zero =>
    intro i f h
    rw [m_X9_whose_L19]
    simp (disch := omega) only [↓reduceIte, ↓nm_eq, ↓jn_eq, ↓c_within, ↓c_isIn, ↓c_isScene, ↓c_isPlace, ↓c_isCue, ↓c_isDigit, ↓d_isScene, ↓d_isAny, ↓ta_pb1, ↓ta_pb0, ↓ta_pb1', ↓ta_pb0', ta_lt, ta_nlt, ta_le, ta_nle, ta_eq, ta_neq, ta_nne, ta_ne, gs_id, a_gd01, a_gdT, or_true, true_or, bd_some, bW_sm, a_gd, a_ne, a_rd, Int.toNat_natCast, Int.toNat_add, Int.toNat_mul, Int.reduceToNat, a_gdp, a_cell, and_self, and_true, true_and, h5]
  | succ d ih =>
    intro i f h
    have := ih (i + 1) f (by omega)
    rw [show f + (d + 1) + 1 = (f + d + 1) + 1 by omega, m_X9_whose_L19]
    rw [Int.natCast_add, Int.natCast_one] at this
    simp (disch := omega) only [↓reduceIte, ↓nm_eq, ↓jn_eq, ↓c_within, ↓c_isIn, ↓c_isScene, ↓c_isPlace, ↓c_isCue, ↓c_isDigit, ↓d_isScene, ↓d_isAny, ↓ta_pb1, ↓ta_pb0, ↓ta_pb1', ↓ta_pb0', ta_lt, ta_nlt, ta_le, ta_nle, ta_eq, ta_neq, ta_nne, ta_ne, gs_id, a_gd01, a_gdT, or_true, true_or, bd_some, bW_sm, a_gd, a_ne, a_rd, Int.toNat_natCast, Int.toNat_add, Int.toNat_mul, Int.reduceToNat, a_gdp, a_cell, and_self, and_true, true_and, h5, this]
theorem whose_in {n : Nat} {Mx Mm M1 : g_M} (hr : Rel n Mx Mm) {d0 b0 p0 : Int} (h1 : ∀ a, a ≠ 33 → M1 a = Mx a) (hev : ∀ M W, Wf M1 Mm M W → Ev Mx Mm d0 b0 p0 (fun s => Mx 5 s) M W) {F t : Nat} (ht : (t : Int) < Mx 1 8) (hF : F ≤ 8) (f1 : Mx 1 17 = F) (f2 : Mm 1 5 = F) (ff : ∀ i, i < F → ∃ q : Nat, q < 8 ∧ Mx 10 i = q ∧ Mm 1 (183 + 2 * i) = q ∧ (0 ≤ Mx 11 i ∧ Mx 11 i ≤ 99 ∧ Mm 1 (183 + 2 * i + 1) = Mx 11 i) ∧ (0 ≤ Mx 2 q ∧ Mx 2 q ≤ 9 ∧ Mm 1 (34 + 4 * q) = Mx 2 q) ∧ (0 ≤ Mx 2 (8 + q) ∧ Mx 2 (8 + q) ≤ 99 ∧ Mm 1 (34 + 4 * q + 1) = Mx 2 (8 + q)) ∧ (0 ≤ Mx 6 q ∧ Mx 6 q ≤ 9 ∧ Mm 1 (34 + 4 * q + 2) = Mx 6 q)) {x : Int} {k : Int → g_M → Option (Int × g_M)} : ∀ d i f g : Nat, i + d = F → d < f → d < g → ∀ M W, Wf M1 Mm M W → ∃ (r : Nat) (M' W' : g_M), r ≤ 1 ∧ m_X3_explains_L2 t f i M = some ((r : Int), M') ∧ m_X9_whose_L19 x t k g 1 i W = k r W' ∧ Wf M1 Mm M' W' := by
  intro d
  induction d with
  | zero =>
    intro i f g h a b M W hw
    obtain ⟨f, rfl⟩ : ∃ f', f = f' + 1 := ⟨f - 1, by omega⟩
    obtain ⟨g, rfl⟩ : ∃ f', g = f' + 1 := ⟨g - 1, by omega⟩
    have e1 : M 1 17 = F := by rw [hw.1 1 (by omega) (by omega), h1 1 (by omega)]; exact f1
    have e2 : W 1 5 = F := by rw [hw.2.2 1 (by omega) (by omega) (by omega)]; exact f2
    refine ⟨1, M, W, by omega, ?_, ?_, hw⟩
    · rw [m_X3_explains_L2]; simp (disch := omega) only [↓reduceIte, ↓nm_eq, ↓jn_eq, ↓c_within, ↓c_isIn, ↓c_isScene, ↓c_isPlace, ↓c_isCue, ↓c_isDigit, ↓d_isScene, ↓d_isAny, ↓ta_pb1, ↓ta_pb0, ↓ta_pb1', ↓ta_pb0', ta_lt, ta_nlt, ta_le, ta_nle, ta_eq, ta_neq, ta_nne, ta_ne, gs_id, a_gd01, a_gdT, or_true, true_or, bd_some, bW_sm, a_gd, a_ne, a_rd, Int.toNat_natCast, Int.toNat_add, Int.toNat_mul, Int.reduceToNat, a_gdp, a_cell, and_self, and_true, true_and, e1]; rfl
    · rw [m_X9_whose_L19]; simp (disch := omega) only [↓reduceIte, ↓nm_eq, ↓jn_eq, ↓c_within, ↓c_isIn, ↓c_isScene, ↓c_isPlace, ↓c_isCue, ↓c_isDigit, ↓d_isScene, ↓d_isAny, ↓ta_pb1, ↓ta_pb0, ↓ta_pb1', ↓ta_pb0', ta_lt, ta_nlt, ta_le, ta_nle, ta_eq, ta_neq, ta_nne, ta_ne, gs_id, a_gd01, a_gdT, or_true, true_or, bd_some, bW_sm, a_gd, a_ne, a_rd, Int.toNat_natCast, Int.toNat_add, Int.toNat_mul, Int.reduceToNat, a_gdp, a_cell, and_self, and_true, true_and, e2]; rfl
  | succ d ih =>
    intro i f g h a b M W hw
    obtain ⟨f, rfl⟩ : ∃ f', f = f' + 1 := ⟨f - 1, by omega⟩
    obtain ⟨g, rfl⟩ : ∃ f', g = f' + 1 := ⟨g - 1, by omega⟩
    have e1 : M 1 17 = F := by rw [hw.1 1 (by omega) (by omega), h1 1 (by omega)]; exact f1
    have e2 : W 1 5 = F := by rw [hw.2.2 1 (by omega) (by omega) (by omega)]; exact f2
    obtain ⟨q, q1, q2, q3, q4, q5, q6, q7⟩ := ff i (by omega)
    have m2 : M 2 = Mx 2 := by rw [hw.1 2 (by omega) (by omega), h1 2 (by omega)]
    have m6 : M 6 = Mx 6 := by rw [hw.1 6 (by omega) (by omega), h1 6 (by omega)]
    have m10 : M 10 i = q := by rw [hw.1 10 (by omega) (by omega), h1 10 (by omega)]; exact q2
    have w1 : W 1 = Mm 1 := hw.2.2 1 (by omega) (by omega) (by omega)
    obtain ⟨c, M', W', v1, v2, v3, v4, v5, v6⟩ := both_glad hr (u := t) ⟨by omega, ht⟩ (hev M W hw) q1 (x := 1) (by omega) (by rw [m2, w1]; exact q5) (by rw [m2, w1]; exact q6) (by rw [m6, w1]; exact q7)
    have hw' : Wf M1 Mm M' W' := ⟨fun a a1 a2 => by rw [v4 a a1 a2]; exact hw.1 a a1 a2, fun j hj => by rw [v5 j hj]; exact hw.2.1 j hj, fun a a1 a2 a3 => by rw [v6 a a1 a2 a3]; exact hw.2.2 a a1 a2 a3⟩
    have m11 : M' 11 i = Mx 11 i := by rw [hw'.1 11 (by omega) (by omega), h1 11 (by omega)]
    have w11 : W' 1 (183 + 2 * i + 1) = Mx 11 i := by rw [hw'.2.2 1 (by omega) (by omega) (by omega)]; exact q4.2.2
    have w10 : W 1 (183 + 2 * i) = q := by rw [w1]; exact q3
    have e3 : W' 1 5 = F := by rw [hw'.2.2 1 (by omega) (by omega) (by omega)]; exact f2
    by_cases z : c = Mx 11 i
    · obtain ⟨r, M2, W2, r1, r2, r3, r4⟩ := ih (i + 1) f g (by omega) (by omega) (by omega) M' W' hw'
      rw [Int.natCast_add, Int.natCast_one] at r2 r3
      refine ⟨r, M2, W2, r1, ?_, ?_, r4⟩
      · rw [m_X3_explains_L2]; simp (disch := omega) only [↓reduceIte, ↓nm_eq, ↓jn_eq, ↓c_within, ↓c_isIn, ↓c_isScene, ↓c_isPlace, ↓c_isCue, ↓c_isDigit, ↓d_isScene, ↓d_isAny, ↓ta_pb1, ↓ta_pb0, ↓ta_pb1', ↓ta_pb0', ta_lt, ta_nlt, ta_le, ta_nle, ta_eq, ta_neq, ta_nne, ta_ne, gs_id, a_gd01, a_gdT, or_true, true_or, bd_some, bW_sm, a_gd, a_ne, a_rd, Int.toNat_natCast, Int.toNat_add, Int.toNat_mul, Int.reduceToNat, a_gdp, a_cell, and_self, and_true, true_and, e1, m10, v2, m11, r2]
      · rw [m_X9_whose_L19]; simp (disch := omega) only [↓reduceIte, ↓nm_eq, ↓jn_eq, ↓c_within, ↓c_isIn, ↓c_isScene, ↓c_isPlace, ↓c_isCue, ↓c_isDigit, ↓d_isScene, ↓d_isAny, ↓ta_pb1, ↓ta_pb0, ↓ta_pb1', ↓ta_pb0', ta_lt, ta_nlt, ta_le, ta_nle, ta_eq, ta_neq, ta_nne, ta_ne, gs_id, a_gd01, a_gdT, or_true, true_or, bd_some, bW_sm, a_gd, a_ne, a_rd, Int.toNat_natCast, Int.toNat_add, Int.toNat_mul, Int.reduceToNat, a_gdp, a_cell, and_self, and_true, true_and, e2, w10, v3, w11, r3]
    · obtain ⟨g', hg'⟩ : ∃ g', g = g' + d + 1 := ⟨g - d - 1, by omega⟩
      have r3 := whose_dead (x := x) (t := t) (k := k) hF e3 d (i + 1) g' (by omega)
      rw [Int.natCast_add, Int.natCast_one, ← hg'] at r3
      refine ⟨0, M', W', by omega, ?_, ?_, hw'⟩
      · rw [m_X3_explains_L2]; simp (disch := omega) only [↓reduceIte, ↓nm_eq, ↓jn_eq, ↓c_within, ↓c_isIn, ↓c_isScene, ↓c_isPlace, ↓c_isCue, ↓c_isDigit, ↓d_isScene, ↓d_isAny, ↓ta_pb1, ↓ta_pb0, ↓ta_pb1', ↓ta_pb0', ta_lt, ta_nlt, ta_le, ta_nle, ta_eq, ta_neq, ta_nne, ta_ne, gs_id, a_gd01, a_gdT, or_true, true_or, bd_some, bW_sm, a_gd, a_ne, a_rd, Int.toNat_natCast, Int.toNat_add, Int.toNat_mul, Int.reduceToNat, a_gdp, a_cell, and_self, and_true, true_and, e1, m10, v2, m11]; rfl
      · rw [m_X9_whose_L19]; simp (disch := omega) only [↓reduceIte, ↓nm_eq, ↓jn_eq, ↓c_within, ↓c_isIn, ↓c_isScene, ↓c_isPlace, ↓c_isCue, ↓c_isDigit, ↓d_isScene, ↓d_isAny, ↓ta_pb1, ↓ta_pb0, ↓ta_pb1', ↓ta_pb0', ta_lt, ta_nlt, ta_le, ta_nle, ta_eq, ta_neq, ta_nne, ta_ne, gs_id, a_gd01, a_gdT, or_true, true_or, bd_some, bW_sm, a_gd, a_ne, a_rd, Int.toNat_natCast, Int.toNat_add, Int.toNat_mul, Int.reduceToNat, a_gdp, a_cell, and_self, and_true, true_and, e2, w10, v3, w11, r3]; rfl
theorem st_39 : x_step_39 Rel := by
  intro n Mx Mm hr hn
  have H := Rel_RF hr
  obtain ⟨P, T, S, E, C, F, hP, hT, hU, hS, hE, hC, hF, hsn, htd, hkd, hpl, hro, hod, hos, hsv, hlk, hfe, hst⟩ := id H
  obtain ⟨D, D1, D2, D3, D4, D5, D6, D7, D8, D9, D10⟩ := hsn
  obtain ⟨d0, b0, p0, M1, l1, l2, l3⟩ := Ev_start hr
  have hev : ∀ M W, Wf M1 Mm M W → Ev Mx Mm d0 b0 p0 (fun s => Mx 5 s) M W := fun M W hw => l3 M W (fun a a1 a2 => by rw [hw.1 a (by omega) (by omega), l2 a (by omega)]) (by rw [hw.1 5 (by omega) (by omega), l2 5 (by omega)]) (fun j _ h => hw.2.1 j h) (hw.2.2 3 (by omega) (by omega) (by omega)) (fun s _ => by rw [hw.2.2 1 (by omega) (by omega) (by omega)]) (by rw [hw.2.2 1 (by omega) (by omega) (by omega)]; exact ⟨rfl, rfl, fun _ _ => ⟨rfl, rfl⟩⟩)
  have ff : ∀ i, i < F → ∃ q : Nat, q < 8 ∧ Mx 10 i = q ∧ Mm 1 (183 + 2 * i) = q ∧ (0 ≤ Mx 11 i ∧ Mx 11 i ≤ 99 ∧ Mm 1 (183 + 2 * i + 1) = Mx 11 i) ∧ (0 ≤ Mx 2 q ∧ Mx 2 q ≤ 9 ∧ Mm 1 (34 + 4 * q) = Mx 2 q) ∧ (0 ≤ Mx 2 (8 + q) ∧ Mx 2 (8 + q) ≤ 99 ∧ Mm 1 (34 + 4 * q + 1) = Mx 2 (8 + q)) ∧ (0 ≤ Mx 6 q ∧ Mx 6 q ≤ 9 ∧ Mm 1 (34 + 4 * q + 2) = Mx 6 q) := fun i hi => by
    obtain ⟨f1, f2, f3, f4, f5, f6⟩ := hfe i hi
    obtain ⟨q, hq⟩ : ∃ q : Nat, Mx 10 i = q := ⟨(Mx 10 i).toNat, by omega⟩
    obtain ⟨r1, r2, r3, r4, r5, r6⟩ := D9 q (by omega)
    obtain ⟨s1, s2, s3, -⟩ := hpl q (by omega)
    exact ⟨q, by omega, hq, by rw [f3]; exact hq, ⟨f4, f5, f6⟩, ⟨r1, r2, r3⟩, ⟨r4, r5, r6⟩, s1, s2, s3⟩
  have key : ∀ d i f g acc : Nat, i + d = T → d < f → d < g → acc < 16 → ∀ M W, Wf M1 Mm M W → ∃ (r : Int) (M' W' : g_M), m_X8_whose_L11 f acc i M = some (r, M') ∧ m_X9_whose_L4 g acc i W = some (r, W') ∧ Wf M1 Mm M' W' := by
    intro d
    induction d with
    | zero =>
      intro i f g acc h a b h16 M W hw
      obtain ⟨f, rfl⟩ : ∃ f', f = f' + 1 := ⟨f - 1, by omega⟩
      obtain ⟨g, rfl⟩ : ∃ f', g = f' + 1 := ⟨g - 1, by omega⟩
      have e1 : M 1 8 = T := by rw [hw.1 1 (by omega) (by omega), l2 1 (by omega)]; exact hT.2.1
      have e2 : W 1 1 = T := by rw [hw.2.2 1 (by omega) (by omega) (by omega)]; exact hT.2.2
      have hT1 := hT.1
      refine ⟨acc, M, W, ?_, ?_, hw⟩
      · rw [m_X8_whose_L11]; simp (disch := omega) only [↓reduceIte, ↓nm_eq, ↓jn_eq, ↓c_within, ↓c_isIn, ↓c_isScene, ↓c_isPlace, ↓c_isCue, ↓c_isDigit, ↓d_isScene, ↓d_isAny, ↓ta_pb1, ↓ta_pb0, ↓ta_pb1', ↓ta_pb0', ta_lt, ta_nlt, ta_le, ta_nle, ta_eq, ta_neq, ta_nne, ta_ne, gs_id, a_gd01, a_gdT, or_true, true_or, bd_some, bW_sm, a_gd, a_ne, a_rd, Int.toNat_natCast, Int.toNat_add, Int.toNat_mul, Int.reduceToNat, a_gdp, a_cell, and_self, and_true, true_and, e1]
      · rw [m_X9_whose_L4]; simp (disch := omega) only [↓reduceIte, ↓nm_eq, ↓jn_eq, ↓c_within, ↓c_isIn, ↓c_isScene, ↓c_isPlace, ↓c_isCue, ↓c_isDigit, ↓d_isScene, ↓d_isAny, ↓ta_pb1, ↓ta_pb0, ↓ta_pb1', ↓ta_pb0', ta_lt, ta_nlt, ta_le, ta_nle, ta_eq, ta_neq, ta_nne, ta_ne, gs_id, a_gd01, a_gdT, or_true, true_or, bd_some, bW_sm, a_gd, a_ne, a_rd, Int.toNat_natCast, Int.toNat_add, Int.toNat_mul, Int.reduceToNat, a_gdp, a_cell, and_self, and_true, true_and, e2]
    | succ d ih =>
      intro i f g acc h a b h16 M W hw
      obtain ⟨f, rfl⟩ : ∃ f', f = f' + 1 := ⟨f - 1, by omega⟩
      obtain ⟨g, rfl⟩ : ∃ f', g = f' + 1 := ⟨g - 1, by omega⟩
      have e1 : M 1 8 = T := by rw [hw.1 1 (by omega) (by omega), l2 1 (by omega)]; exact hT.2.1
      have e2 : W 1 1 = T := by rw [hw.2.2 1 (by omega) (by omega) (by omega)]; exact hT.2.2
      have hT1 := hT.1
      obtain ⟨o1, o2, o3⟩ := or_16 h16 (show i < 4 by omega)
      obtain ⟨nx, hnx⟩ : ∃ nx : Nat, g_or (acc : Int) (g_shl 1 (i : Int)) = nx := ⟨(g_or (acc : Int) (g_shl 1 (i : Int))).toNat, by omega⟩
      obtain ⟨k, hk⟩ : ∃ k : Int → g_M → Option (Int × g_M), k = fun (x35 : Int) (M36 : g_M) => g_jn (fun (x38 : Int) (x39 : Int) => g_nm (g_or x39 x38) (fun x40 => g_nm ((i : Int) + 1) (fun x41 => m_X9_whose_L4 g x40 x41 M36))) (fun J37 => if gs x35 = 0 then (J37 0 acc) else (J37 (g_shl 1 (i : Int)) acc)) := ⟨_, rfl⟩
      obtain ⟨r, M', W', r1, r2, r3, hw'⟩ := whose_in hr l2 hev (show (i : Int) < Mx 1 8 by rw [hT.2.1]; omega) hF.1 hF.2.1 hF.2.2 ff (x := acc) (k := k) F 0 g_fuel g_fuel (by omega) (by have := hF.1; unfold g_fuel; omega) (by have := hF.1; unfold g_fuel; omega) M W hw
      rw [Int.natCast_zero] at r2 r3
      obtain ⟨y, hy1, hy2⟩ : ∃ y : Nat, y < 16 ∧ (y = if r = 0 then acc else nx) := ⟨if r = 0 then acc else nx, by
        by_cases c : r = 0
        · rw [if_pos c]; exact h16
        · rw [if_neg c]; omega, rfl⟩
      obtain ⟨v, M2, W2, v1, v2, v3⟩ := ih (i + 1) f g y (by omega) (by omega) (by omega) hy1 M' W' hw'
      rw [Int.natCast_add, Int.natCast_one] at v1 v2
      refine ⟨v, M2, W2, ?_, ?_, v3⟩
      · rw [m_X8_whose_L11]
        unfold m_X3_explains
        by_cases c : r = 0
        · rw [if_pos c] at hy2
          rw [hy2] at v1
          rw [c] at r2
          simp (disch := omega) only [↓reduceIte, ↓nm_eq, ↓jn_eq, ↓c_within, ↓c_isIn, ↓c_isScene, ↓c_isPlace, ↓c_isCue, ↓c_isDigit, ↓d_isScene, ↓d_isAny, ↓ta_pb1, ↓ta_pb0, ↓ta_pb1', ↓ta_pb0', ta_lt, ta_nlt, ta_le, ta_nle, ta_eq, ta_neq, ta_nne, ta_ne, gs_id, a_gd01, a_gdT, or_true, true_or, bd_some, bW_sm, a_gd, a_ne, a_rd, Int.toNat_natCast, Int.toNat_add, Int.toNat_mul, Int.reduceToNat, a_gdp, a_cell, and_self, and_true, true_and, e1, r2, v1]
        · rw [if_neg c] at hy2
          rw [hy2] at v1
          obtain rfl : r = 1 := by omega
          rw [show ((1 : Nat) : Int) = 1 from rfl] at r2
          simp (disch := omega) only [↓reduceIte, ↓nm_eq, ↓jn_eq, ↓c_within, ↓c_isIn, ↓c_isScene, ↓c_isPlace, ↓c_isCue, ↓c_isDigit, ↓d_isScene, ↓d_isAny, ↓ta_pb1, ↓ta_pb0, ↓ta_pb1', ↓ta_pb0', ta_lt, ta_nlt, ta_le, ta_nle, ta_eq, ta_neq, ta_nne, ta_ne, gs_id, a_gd01, a_gdT, or_true, true_or, bd_some, bW_sm, a_gd, a_ne, a_rd, Int.toNat_natCast, Int.toNat_add, Int.toNat_mul, Int.reduceToNat, a_gdp, a_cell, and_self, and_true, true_and, e1, r2, hnx, v1]
      · rw [m_X9_whose_L4, ← hk]
        by_cases c : r = 0
        · rw [if_pos c] at hy2
          rw [hy2] at v2
          rw [c] at r3
          simp (disch := omega) only [↓reduceIte, ↓nm_eq, ↓jn_eq, ↓c_within, ↓c_isIn, ↓c_isScene, ↓c_isPlace, ↓c_isCue, ↓c_isDigit, ↓d_isScene, ↓d_isAny, ↓ta_pb1, ↓ta_pb0, ↓ta_pb1', ↓ta_pb0', ta_lt, ta_nlt, ta_le, ta_nle, ta_eq, ta_neq, ta_nne, ta_ne, gs_id, a_gd01, a_gdT, or_true, true_or, bd_some, bW_sm, a_gd, a_ne, a_rd, Int.toNat_natCast, Int.toNat_add, Int.toNat_mul, Int.reduceToNat, a_gdp, a_cell, and_self, and_true, true_and, e2, r3]
          rw [hk]
          simp (disch := omega) only [↓reduceIte, ↓nm_eq, ↓jn_eq, ↓c_within, ↓c_isIn, ↓c_isScene, ↓c_isPlace, ↓c_isCue, ↓c_isDigit, ↓d_isScene, ↓d_isAny, ↓ta_pb1, ↓ta_pb0, ↓ta_pb1', ↓ta_pb0', ta_lt, ta_nlt, ta_le, ta_nle, ta_eq, ta_neq, ta_nne, ta_ne, gs_id, a_gd01, a_gdT, or_true, true_or, bd_some, bW_sm, a_gd, a_ne, a_rd, Int.toNat_natCast, Int.toNat_add, Int.toNat_mul, Int.reduceToNat, a_gdp, a_cell, and_self, and_true, true_and, o1, v2]
        · rw [if_neg c] at hy2
          rw [hy2] at v2
          obtain rfl : r = 1 := by omega
          rw [show ((1 : Nat) : Int) = 1 from rfl] at r3
          simp (disch := omega) only [↓reduceIte, ↓nm_eq, ↓jn_eq, ↓c_within, ↓c_isIn, ↓c_isScene, ↓c_isPlace, ↓c_isCue, ↓c_isDigit, ↓d_isScene, ↓d_isAny, ↓ta_pb1, ↓ta_pb0, ↓ta_pb1', ↓ta_pb0', ta_lt, ta_nlt, ta_le, ta_nle, ta_eq, ta_neq, ta_nne, ta_ne, gs_id, a_gd01, a_gdT, or_true, true_or, bd_some, bW_sm, a_gd, a_ne, a_rd, Int.toNat_natCast, Int.toNat_add, Int.toNat_mul, Int.reduceToNat, a_gdp, a_cell, and_self, and_true, true_and, e2, r3]
          rw [hk]
          simp (disch := omega) only [↓reduceIte, ↓nm_eq, ↓jn_eq, ↓c_within, ↓c_isIn, ↓c_isScene, ↓c_isPlace, ↓c_isCue, ↓c_isDigit, ↓d_isScene, ↓d_isAny, ↓ta_pb1, ↓ta_pb0, ↓ta_pb1', ↓ta_pb0', ta_lt, ta_nlt, ta_le, ta_nle, ta_eq, ta_neq, ta_nne, ta_ne, gs_id, a_gd01, a_gdT, or_true, true_or, bd_some, bW_sm, a_gd, a_ne, a_rd, Int.toNat_natCast, Int.toNat_add, Int.toNat_mul, Int.reduceToNat, a_gdp, a_cell, and_self, and_true, true_and, hnx, v2]
  obtain ⟨r, M', W', r1, r2, r3⟩ := key T 0 g_fuel g_fuel 0 (by omega) (by have := hT.1; unfold g_fuel; omega) (by have := hT.1; unfold g_fuel; omega) (by omega) M1 Mm ⟨fun _ _ _ => rfl, fun _ _ => rfl, fun _ _ _ _ => rfl⟩
  rw [Int.natCast_zero] at r1 r2
  refine ⟨r, r, M', W', ?_, ?_, rfl, Rel_law hr (fun a h1 h2 => by rw [r3.1 a h1 h2]; exact l2 a h1) r3.2.2⟩
  · unfold m_X8_whose
    simp (disch := omega) only [↓reduceIte, ↓nm_eq, ↓jn_eq, ↓c_within, ↓c_isIn, ↓c_isScene, ↓c_isPlace, ↓c_isCue, ↓c_isDigit, ↓d_isScene, ↓d_isAny, ↓ta_pb1, ↓ta_pb0, ↓ta_pb1', ↓ta_pb0', ta_lt, ta_nlt, ta_le, ta_nle, ta_eq, ta_neq, ta_nne, ta_ne, gs_id, a_gd01, a_gdT, or_true, true_or, bd_some, bW_sm, a_gd, a_ne, a_rd, Int.toNat_natCast, Int.toNat_add, Int.toNat_mul, Int.reduceToNat, a_gdp, a_cell, and_self, and_true, true_and, l1, r1]
  · unfold m_X9_whose
    simp (disch := omega) only [↓reduceIte, ↓nm_eq, ↓jn_eq, ↓c_within, ↓c_isIn, ↓c_isScene, ↓c_isPlace, ↓c_isCue, ↓c_isDigit, ↓d_isScene, ↓d_isAny, ↓ta_pb1, ↓ta_pb0, ↓ta_pb1', ↓ta_pb0', ta_lt, ta_nlt, ta_le, ta_nle, ta_eq, ta_neq, ta_nne, ta_ne, gs_id, a_gd01, a_gdT, or_true, true_or, bd_some, bW_sm, a_gd, a_ne, a_rd, Int.toNat_natCast, Int.toNat_add, Int.toNat_mul, Int.reduceToNat, a_gdp, a_cell, and_self, and_true, true_and, r2]
