/-! the first law, in both -/
def En (d b p : Int) (l : Nat) (e : Nat → Int) : Nat → Int := fun n => if n = 0 then d else if n = 1 then b else if n = 2 then p else e n
theorem En_ok {d b p : Int} {l : Nat} {e kd : Nat → Int} (hd : V6 d) (hb : V6 b) (hp : V6 p) (he : ∀ n, 3 ≤ n → nmOk l n → V6 (e n)) (hk : ∀ s, s < 12 → 0 ≤ kd s ∧ kd s ≤ 3) : EnvOk l (En d b p l e) kd := by
  refine ⟨fun n hn => ?_, hk⟩
  unfold En
  by_cases c0 : n = 0
  · rw [if_pos c0]; exact hd
  · rw [if_neg c0]
    by_cases c1 : n = 1
    · rw [if_pos c1]; exact hb
    · rw [if_neg c1]
      by_cases c2 : n = 2
      · rw [if_pos c2]; exact hp
      · rw [if_neg c2]; exact he n (by omega) hn
theorem En_c {d b p : Int} {l : Nat} {e kd : Nat → Int} {M : g_M} (h0 : M 33 21 = d) (h1 : M 33 22 = b) (h2 : M 33 23 = p) (he : ∀ n, 3 ≤ n → nmOk l n → M 33 (21 + n) = e n) (hk : ∀ s : Nat, s < 12 → M 5 s = kd s) : CEnv l (En d b p l e) kd M := by
  refine ⟨fun n hn => ?_, hk⟩
  unfold En
  by_cases c0 : n = 0
  · rw [if_pos c0, c0]; exact h0
  · rw [if_neg c0]
    by_cases c1 : n = 1
    · rw [if_pos c1, c1]; exact h1
    · rw [if_neg c1]
      by_cases c2 : n = 2
      · rw [if_pos c2, c2]; exact h2
      · rw [if_neg c2]; exact he n (by omega) hn
theorem En_r {d b p : Int} {l : Nat} {e kd : Nat → Int} {W : g_M} (h0 : W 6 0 = d) (h1 : W 6 1 = b) (h2 : W 6 2 = p) (he : ∀ n, 3 ≤ n → nmOk l n → W 6 n = e n) (hk : ∀ s : Nat, s < 12 → W 1 (114 + s) = kd s) (ok : EnvOk l (En d b p l e) kd) : REnv l (En d b p l e) kd W := by
  refine ⟨fun n hn => ⟨?_, ok.1 n hn⟩, fun s hs => ⟨hk s hs, ok.2 s hs⟩⟩
  unfold En
  by_cases c0 : n = 0
  · rw [if_pos c0, c0]; exact h0
  · rw [if_neg c0]
    by_cases c1 : n = 1
    · rw [if_pos c1, c1]; exact h1
    · rw [if_neg c1]
      by_cases c2 : n = 2
      · rw [if_pos c2, c2]; exact h2
      · rw [if_neg c2]; exact he n (by omega) hn
/-- as it stands within an evening: texts, ruling, what was looked at, the kinds -/
def Ev (M0 W0 : g_M) (d b p : Int) (kd : Nat → Int) (M W : g_M) : Prop := Tsame M0 W0 M W ∧ (V6 d ∧ V6 b ∧ V6 p) ∧ (M 33 21 = d ∧ M 33 22 = b ∧ M 33 23 = p) ∧ (∀ s : Nat, s < 12 → M 5 s = kd s ∧ W 1 (114 + s) = kd s ∧ 0 ≤ kd s ∧ kd s ≤ 3) ∧ m_X9_name W = some (g_wr (g_wr (g_wr W 6 0 d) 6 1 b) 6 2 p)
theorem both_cue {n : Nat} {M0 W0 M W : g_M} {d b p u : Int} {kd : Nat → Int} (hr : Rel n M0 W0) (hu : -1 ≤ u ∧ u < M0 1 8) (h : Ev M0 W0 d b p kd M W) (hM : M 1 9 = u) (hW : W 1 2 = u) {s : Nat} (hs : s < 12) {x y : Int} (hx : 0 ≤ x ∧ x ≤ 9999) (hy : 0 ≤ y ∧ y ≤ 9) (hsh : W 1 (10 + s) = x) : ∃ (c : Int) (M' W' : g_M), (0 ≤ c ∧ c ≤ 3) ∧ m_X3_cueSaid s x y M = some (c, M') ∧ m_X9_cueOf s y W = some (c, W') ∧ (∀ a, a ≠ 33 → a ≠ 34 → M' a = M a) ∧ (∀ j, j < 24 → M' 33 j = M 33 j) ∧ ∀ a, a ≠ 6 → a ≠ 7 → a ≠ 8 → W' a = W a := by
  obtain ⟨ts, ⟨d6, b6, p6⟩, ⟨l1, l2, l3⟩, hk, hn⟩ := h
  obtain ⟨t, t1, t2, t3, t4⟩ := law_of hr hu
  have tg : ∀ {α : Type} (o : Option α), g_gd (xT t) o = o := fun o => g_gd_pos t2
  have u4 : u < 4 := by
    obtain ⟨hf, -⟩ := hr
    obtain ⟨P, T, S, E, C, F, -, ⟨q1, q2, -⟩, -⟩ := hf
    omega
  have ok : EnvOk 0 (En d b p 0 (fun n => if n = 3 then (s : Int) else if n = 4 then x else y)) kd := by
    refine En_ok d6 b6 p6 (fun n h3 hn => ?_) (fun s hs => (hk s hs).2.2)
    unfold V6
    by_cases c3 : n = 3
    · rw [if_pos c3]; omega
    · rw [if_neg c3]
      by_cases c4 : n = 4
      · rw [if_pos c4]; omega
      · rw [if_neg c4]; omega
  obtain ⟨W2, hW2⟩ : ∃ W2, W2 = g_wr (g_wr (g_wr (g_wr (g_wr (g_wr W 6 0 d) 6 1 b) 6 2 p) 6 3 s) 6 4 x) 6 5 y := ⟨_, rfl⟩
  have w2 : ∀ a, a ≠ 6 → W2 a = W a := fun a ha => by rw [hW2, a_cell _ ha, a_cell _ ha, a_cell _ ha, a_cell _ ha, a_cell _ ha, a_cell _ ha]
  have w26 : W2 6 0 = d ∧ W2 6 1 = b ∧ W2 6 2 = p ∧ W2 6 3 = s ∧ W2 6 4 = x ∧ W2 6 5 = y := by
    rw [hW2]
    refine ⟨?_, ?_, ?_, ?_, ?_, ?_⟩ <;> simp (disch := omega) only [↓reduceIte, ↓nm_eq, ↓jn_eq, ↓c_within, ↓c_isIn, ↓c_isScene, ↓c_isPlace, ↓c_isCue, ↓c_isDigit, ↓d_isScene, ↓d_isAny, ↓ta_pb1, ↓ta_pb0, ↓ta_pb1', ↓ta_pb0', ta_lt, ta_nlt, ta_le, ta_nle, ta_eq, ta_neq, ta_nne, ta_ne, gs_id, a_gd01, a_gdT, or_true, true_or, bd_some, bW_sm, a_gd, a_ne, a_rd, Int.toNat_natCast, Int.toNat_add, Int.toNat_mul, Int.reduceToNat, a_gdp, a_cell, and_self, and_true, true_and]
  have ts2 : Tsame M0 W0 M W2 := ⟨ts.1, by rw [w2 3 (by omega)]; exact ts.2⟩
  have rc : ∀ (c : Int) (V : g_M), m_X9_says u 0 (if y > 3 ∨ b = 0 then 0 else y) 3 W2 = some (c, V) → m_X9_cueOf s y W = some (c, V) := fun c V hq => by
    unfold m_X9_cueOf
    simp (disch := omega) only [↓reduceIte, ↓nm_eq, ↓jn_eq, ↓c_within, ↓c_isIn, ↓c_isScene, ↓c_isPlace, ↓c_isCue, ↓c_isDigit, ↓d_isScene, ↓d_isAny, ↓ta_pb1, ↓ta_pb0, ↓ta_pb1', ↓ta_pb0', ta_lt, ta_nlt, ta_le, ta_nle, ta_eq, ta_neq, ta_nne, ta_ne, gs_id, a_gd01, a_gdT, or_true, true_or, bd_some, bW_sm, a_gd, a_ne, a_rd, Int.toNat_natCast, Int.toNat_add, Int.toNat_mul, Int.reduceToNat, a_gdp, a_cell, and_self, and_true, true_and, hn, hsh]
    rw [← hW2]
    by_cases c1 : 3 < y
    · rw [if_pos (show y > 3 ∨ b = 0 from Or.inl c1)] at hq
      simp (disch := omega) only [↓reduceIte, ↓nm_eq, ↓jn_eq, ↓c_within, ↓c_isIn, ↓c_isScene, ↓c_isPlace, ↓c_isCue, ↓c_isDigit, ↓d_isScene, ↓d_isAny, ↓ta_pb1, ↓ta_pb0, ↓ta_pb1', ↓ta_pb0', ta_lt, ta_nlt, ta_le, ta_nle, ta_eq, ta_neq, ta_nne, ta_ne, gs_id, a_gd01, a_gdT, or_true, true_or, bd_some, bW_sm, a_gd, a_ne, a_rd, Int.toNat_natCast, Int.toNat_add, Int.toNat_mul, Int.reduceToNat, a_gdp, a_cell, and_self, and_true, true_and, w2, hW, hq]
    · by_cases c2 : b = 0
      · rw [if_pos (show y > 3 ∨ b = 0 from Or.inr c2)] at hq
        unfold V6 at b6
        simp (disch := omega) only [↓reduceIte, ↓nm_eq, ↓jn_eq, ↓c_within, ↓c_isIn, ↓c_isScene, ↓c_isPlace, ↓c_isCue, ↓c_isDigit, ↓d_isScene, ↓d_isAny, ↓ta_pb1, ↓ta_pb0, ↓ta_pb1', ↓ta_pb0', ta_lt, ta_nlt, ta_le, ta_nle, ta_eq, ta_neq, ta_nne, ta_ne, gs_id, a_gd01, a_gdT, or_true, true_or, bd_some, bW_sm, a_gd, a_ne, a_rd, Int.toNat_natCast, Int.toNat_add, Int.toNat_mul, Int.reduceToNat, a_gdp, a_cell, and_self, and_true, true_and, w2, hW, w26.2.1, hq]
      · rw [if_neg (show ¬ (y > 3 ∨ b = 0) by omega)] at hq
        unfold V6 at b6
        simp (disch := omega) only [↓reduceIte, ↓nm_eq, ↓jn_eq, ↓c_within, ↓c_isIn, ↓c_isScene, ↓c_isPlace, ↓c_isCue, ↓c_isDigit, ↓d_isScene, ↓d_isAny, ↓ta_pb1, ↓ta_pb0, ↓ta_pb1', ↓ta_pb0', ta_lt, ta_nlt, ta_le, ta_nle, ta_eq, ta_neq, ta_nne, ta_ne, gs_id, a_gd01, a_gdT, or_true, true_or, bd_some, bW_sm, a_gd, a_ne, a_rd, Int.toNat_natCast, Int.toNat_add, Int.toNat_mul, Int.reduceToNat, a_gdp, a_cell, and_self, and_true, true_and, w2, hW, w26.2.1, hq]
  rcases t4 0 (by omega) with h | h
  · obtain ⟨g1, -⟩ := h M W ts
    have g2 := (h M W2 ts2).2 (if y > 3 ∨ b = 0 then 0 else y) 3 (by
      unfold V6
      by_cases c : y > 3 ∨ b = 0
      · rw [if_pos c]; omega
      · rw [if_neg c]; omega) (by omega)
    rw [show ((3 : Nat) : Int) = 3 from rfl, show ((0 : Nat) : Int) = 0 from rfl] at g2
    rw [show ((0 : Nat) : Int) = 0 from rfl] at g1
    refine ⟨if y > 3 ∨ b = 0 then 0 else y, M, W2, ?_, ?_, ?_, fun a _ _ => rfl, fun j _ => rfl, fun a a1 a2 a3 => w2 a a1⟩
    · by_cases c : y > 3 ∨ b = 0
      · rw [if_pos c]; omega
      · rw [if_neg c]; omega
    · unfold m_X3_cueSaid
      unfold V6 at b6
      by_cases c1 : 3 < y
      · rw [if_pos (show y > 3 ∨ b = 0 from Or.inl c1)]
        simp (disch := omega) only [↓reduceIte, ↓nm_eq, ↓jn_eq, ↓c_within, ↓c_isIn, ↓c_isScene, ↓c_isPlace, ↓c_isCue, ↓c_isDigit, ↓d_isScene, ↓d_isAny, ↓ta_pb1, ↓ta_pb0, ↓ta_pb1', ↓ta_pb0', ta_lt, ta_nlt, ta_le, ta_nle, ta_eq, ta_neq, ta_nne, ta_ne, gs_id, a_gd01, a_gdT, or_true, true_or, bd_some, bW_sm, a_gd, a_ne, a_rd, Int.toNat_natCast, Int.toNat_add, Int.toNat_mul, Int.reduceToNat, a_gdp, a_cell, and_self, and_true, true_and, hM, t3, tg, g1]
      · by_cases c2 : b = 0
        · rw [if_pos (show y > 3 ∨ b = 0 from Or.inr c2)]
          simp (disch := omega) only [↓reduceIte, ↓nm_eq, ↓jn_eq, ↓c_within, ↓c_isIn, ↓c_isScene, ↓c_isPlace, ↓c_isCue, ↓c_isDigit, ↓d_isScene, ↓d_isAny, ↓ta_pb1, ↓ta_pb0, ↓ta_pb1', ↓ta_pb0', ta_lt, ta_nlt, ta_le, ta_nle, ta_eq, ta_neq, ta_nne, ta_ne, gs_id, a_gd01, a_gdT, or_true, true_or, bd_some, bW_sm, a_gd, a_ne, a_rd, Int.toNat_natCast, Int.toNat_add, Int.toNat_mul, Int.reduceToNat, a_gdp, a_cell, and_self, and_true, true_and, hM, t3, tg, g1, l2]
        · rw [if_neg (show ¬ (y > 3 ∨ b = 0) by omega)]
          simp (disch := omega) only [↓reduceIte, ↓nm_eq, ↓jn_eq, ↓c_within, ↓c_isIn, ↓c_isScene, ↓c_isPlace, ↓c_isCue, ↓c_isDigit, ↓d_isScene, ↓d_isAny, ↓ta_pb1, ↓ta_pb0, ↓ta_pb1', ↓ta_pb0', ta_lt, ta_nlt, ta_le, ta_nle, ta_eq, ta_neq, ta_nne, ta_ne, gs_id, a_gd01, a_gdT, or_true, true_or, bd_some, bW_sm, a_gd, a_ne, a_rd, Int.toNat_natCast, Int.toNat_add, Int.toNat_mul, Int.reduceToNat, a_gdp, a_cell, and_self, and_true, true_and, hM, t3, tg, g1, l2]
    · refine rc _ _ ?_
      rw [g2, ctN_id]
      by_cases c : y > 3 ∨ b = 0
      · rw [if_pos c]; omega
      · rw [if_neg c]; omega
  · obtain ⟨g1, g2⟩ := h M W ts
    obtain ⟨v, v6, hv⟩ := g2 _ _ ok
    obtain ⟨M2, hM2⟩ : ∃ M2, M2 = g_wr (g_wr (g_wr M 33 24 s) 33 25 x) 33 26 y := ⟨_, rfl⟩
    have m2 : ∀ a, a ≠ 33 → M2 a = M a := fun a ha => by rw [hM2, a_cell _ ha, a_cell _ ha, a_cell _ ha]
    have m3 : ∀ j, j < 24 → M2 33 j = M 33 j := fun j hj => by rw [hM2, a_ne _ (by omega), a_ne _ (by omega), a_ne _ (by omega)]
    have m4 : M2 33 24 = s ∧ M2 33 25 = x ∧ M2 33 26 = y := by
      rw [hM2]
      refine ⟨?_, ?_, ?_⟩ <;> simp (disch := omega) only [↓reduceIte, ↓nm_eq, ↓jn_eq, ↓c_within, ↓c_isIn, ↓c_isScene, ↓c_isPlace, ↓c_isCue, ↓c_isDigit, ↓d_isScene, ↓d_isAny, ↓ta_pb1, ↓ta_pb0, ↓ta_pb1', ↓ta_pb0', ta_lt, ta_nlt, ta_le, ta_nle, ta_eq, ta_neq, ta_nne, ta_ne, gs_id, a_gd01, a_gdT, or_true, true_or, bd_some, bW_sm, a_gd, a_ne, a_rd, Int.toNat_natCast, Int.toNat_add, Int.toNat_mul, Int.reduceToNat, a_gdp, a_cell, and_self, and_true, true_and]
    have nm : ∀ n, 3 ≤ n → nmOk 0 n → n = 3 ∨ n = 4 ∨ n = 5 := fun n h3 hn => by
      unfold nmOk at hn; omega
    have ce : CEnv 0 (En d b p 0 (fun n => if n = 3 then (s : Int) else if n = 4 then x else y)) kd M2 := by
      refine En_c (by rw [m3 21 (by omega)]; exact l1) (by rw [m3 22 (by omega)]; exact l2) (by rw [m3 23 (by omega)]; exact l3) (fun n h3 hn => ?_) (fun s hs => by rw [m2 5 (by omega)]; exact (hk s hs).1)
      rcases nm n h3 hn with rfl | rfl | rfl
      · exact m4.1
      · exact m4.2.1
      · exact m4.2.2
    have re : REnv 0 (En d b p 0 (fun n => if n = 3 then (s : Int) else if n = 4 then x else y)) kd W2 := by
      refine En_r w26.1 w26.2.1 w26.2.2.1 (fun n h3 hn => ?_) (fun s hs => by rw [w2 1 (by omega)]; exact (hk s hs).2.1) ok
      rcases nm n h3 hn with rfl | rfl | rfl
      · exact w26.2.2.2.1
      · exact w26.2.2.2.2.1
      · exact w26.2.2.2.2.2
    obtain ⟨M3, W3, f1, f2, f3, f4⟩ := hv M2 W2 ⟨fun a a1 a2 => by rw [m2 a (by omega)]; exact ts.1 a a1 a2, ts2.2⟩ ce re
    have f5 := f4 (if y > 3 ∨ b = 0 then 0 else y) 3 (by omega)
    rw [show ((3 : Nat) : Int) = 3 from rfl, show ((0 : Nat) : Int) = 0 from rfl] at f5
    rw [show ((0 : Nat) : Int) = 0 from rfl] at g1 f1
    have bd := p_bounded (t := 3) v6 (by omega)
    rw [show ((3 : Nat) : Int) = 3 from rfl] at bd
    have cb := ctN_b v 3
    refine ⟨ctN v 3, M3, W3, by omega, ?_, rc _ _ f5, fun a a1 a2 => by rw [f2 a a2]; exact m2 a a1, fun j hj => by rw [f2 33 (by omega)]; exact m3 j hj, fun a a1 a2 a3 => by rw [f3 a a2 a3]; exact w2 a a1⟩
    unfold m_X3_cueSaid
    simp (disch := omega) only [↓reduceIte, ↓nm_eq, ↓jn_eq, ↓c_within, ↓c_isIn, ↓c_isScene, ↓c_isPlace, ↓c_isCue, ↓c_isDigit, ↓d_isScene, ↓d_isAny, ↓ta_pb1, ↓ta_pb0, ↓ta_pb1', ↓ta_pb0', ta_lt, ta_nlt, ta_le, ta_nle, ta_eq, ta_neq, ta_nne, ta_ne, gs_id, a_gd01, a_gdT, or_true, true_or, bd_some, bW_sm, a_gd, a_ne, a_rd, Int.toNat_natCast, Int.toNat_add, Int.toNat_mul, Int.reduceToNat, a_gdp, a_cell, and_self, and_true, true_and, hM, t3, tg, g1]
    rw [← hM2]
    simp (disch := omega) only [↓reduceIte, ↓nm_eq, ↓jn_eq, ↓c_within, ↓c_isIn, ↓c_isScene, ↓c_isPlace, ↓c_isCue, ↓c_isDigit, ↓d_isScene, ↓d_isAny, ↓ta_pb1, ↓ta_pb0, ↓ta_pb1', ↓ta_pb0', ta_lt, ta_nlt, ta_le, ta_nle, ta_eq, ta_neq, ta_nne, ta_ne, gs_id, a_gd01, a_gdT, or_true, true_or, bd_some, bW_sm, a_gd, a_ne, a_rd, Int.toNat_natCast, Int.toNat_add, Int.toNat_mul, Int.reduceToNat, a_gdp, a_cell, and_self, and_true, true_and, f1, bd]
