/-! loops, bits -/
theorem loop_2 {α β S T : Type} (L1 : Nat → Int → S → Option α) (L2 : Nat → Int → T → Option β) (N : Nat) (I : Nat → S → T → Prop) (R : α → β → Prop) (hend : ∀ s t, I N s t → ∃ a b, (∀ f, L1 (f + 1) (N : Int) s = some a) ∧ (∀ f, L2 (f + 1) (N : Int) t = some b) ∧ R a b) (hstep : ∀ (i : Nat) s t, i < N → I i s t → ∃ s' t', (∀ f, L1 (f + 1) (i : Int) s = L1 f ((i + 1 : Nat) : Int) s') ∧ (∀ f, L2 (f + 1) (i : Int) t = L2 f ((i + 1 : Nat) : Int) t') ∧ I (i + 1) s' t') : ∀ n (i : Nat) s t f g, i + n = N → n < f → n < g → I i s t → ∃ a b, L1 f (i : Int) s = some a ∧ L2 g (i : Int) t = some b ∧ R a b := by
  intro n
  induction n with
  | zero =>
    intro i s t f g h1 h2 h3 h4
    obtain ⟨f, rfl⟩ : ∃ u, f = u + 1 := ⟨f - 1, by omega⟩
    obtain ⟨g, rfl⟩ : ∃ u, g = u + 1 := ⟨g - 1, by omega⟩
    obtain rfl : i = N := by omega
    obtain ⟨a, b, e1, e2, e3⟩ := hend s t h4
    exact ⟨a, b, e1 f, e2 g, e3⟩
  | succ n ih =>
    intro i s t f g h1 h2 h3 h4
    obtain ⟨f, rfl⟩ : ∃ u, f = u + 1 := ⟨f - 1, by omega⟩
    obtain ⟨g, rfl⟩ : ∃ u, g = u + 1 := ⟨g - 1, by omega⟩
    obtain ⟨s', t', e1, e2, e3⟩ := hstep i s t (by omega) h4
    rw [e1 f, e2 g]
    exact ih (i + 1) s' t' f g (by omega) (by omega) (by omega) e3
def it {S : Type} (F : Nat → S → S) : Nat → Nat → S → S
  | _, 0, s => s
  | i, n + 1, s => it F (i + 1) n (F i s)
theorem loop_it {α S : Type} (L : Nat → Int → S → Option α) (N : Nat) (F : Nat → S → S) (k : S → Option α) (I : Nat → S → Prop) (hend : ∀ f s, I N s → L (f + 1) (N : Int) s = k s) (hstep : ∀ (i : Nat) f s, i < N → I i s → L (f + 1) (i : Int) s = L f ((i + 1 : Nat) : Int) (F i s)) (hI : ∀ i s, i < N → I i s → I (i + 1) (F i s)) : ∀ n (i : Nat) s f, i + n = N → n < f → I i s → L f (i : Int) s = k (it F i n s) ∧ I N (it F i n s) := by
  intro n
  induction n with
  | zero =>
    intro i s f h1 h2 h4
    obtain ⟨f, rfl⟩ : ∃ u, f = u + 1 := ⟨f - 1, by omega⟩
    obtain rfl : i = N := by omega
    exact ⟨hend f s h4, h4⟩
  | succ n ih =>
    intro i s f h1 h2 h4
    obtain ⟨f, rfl⟩ : ∃ u, f = u + 1 := ⟨f - 1, by omega⟩
    rw [hstep i f s (by omega) h4]
    exact ih (i + 1) _ f (by omega) (by omega) (hI i s (by omega) h4)
theorem gI_bv (x : Nat) : (gI (x : Int)).toBitVec = BitVec.ofNat 32 x := BitVec.ofInt_natCast 32 x
theorem bv_int {b : BitVec 32} {k : Nat} (h : b.toNat = k) (hk : k < 2147483648) : b.toInt = (k : Int) := by
  rw [BitVec.toInt_eq_toNat_of_lt (by omega), h]
theorem or_nat {x y : Nat} (hx : x < 2147483648) (hy : y < 2147483648) : g_or x y = ((x ||| y : Nat) : Int) := by
  show ((gI (x : Int)).toBitVec ||| (gI (y : Int)).toBitVec).toInt = _
  have h : x ||| y < 2 ^ 31 := Nat.or_lt_two_pow hx hy
  refine bv_int ?_ (by omega)
  rw [BitVec.toNat_or, gI_bv, gI_bv, BitVec.toNat_ofNat, BitVec.toNat_ofNat, Nat.mod_eq_of_lt (by omega), Nat.mod_eq_of_lt (by omega)]
theorem and_nat {x y : Nat} (hx : x < 2147483648) (hy : y < 2147483648) : g_and x y = ((x &&& y : Nat) : Int) := by
  show ((gI (x : Int)).toBitVec &&& (gI (y : Int)).toBitVec).toInt = _
  have h : x &&& y ≤ x := Nat.and_le_left
  refine bv_int ?_ (by omega)
  rw [BitVec.toNat_and, gI_bv, gI_bv, BitVec.toNat_ofNat, BitVec.toNat_ofNat, Nat.mod_eq_of_lt (by omega), Nat.mod_eq_of_lt (by omega)]
theorem shl1_fin : ∀ i : Fin 31, g_shl 1 (i.val : Int) = ((2 ^ i.val : Nat) : Int) := by decide +kernel
theorem shl1 {i : Nat} (h : i < 31) : g_shl 1 (i : Int) = ((2 ^ i : Nat) : Int) := shl1_fin ⟨i, h⟩
theorem shm_fin : ∀ i : Fin 31, ((gI (i.val : Int) &&& 31).toBitVec.smod 32).toNat = i.val := by decide +kernel
theorem shr_nat {x i : Nat} (hx : x < 2147483648) (hi : i < 31) : g_shr (x : Int) (i : Int) = ((x >>> i : Nat) : Int) := by
  show (BitVec.sshiftRight' (gI (x : Int)).toBitVec ((gI (i : Int) &&& 31).toBitVec.smod 32)).toInt = _
  show (BitVec.sshiftRight (gI (x : Int)).toBitVec ((gI (i : Int) &&& 31).toBitVec.smod 32).toNat).toInt = _
  rw [shm_fin ⟨i, hi⟩, BitVec.toInt_sshiftRight, gI_bv, bv_int (k := x) (by rw [BitVec.toNat_ofNat]; omega) hx]
  rfl
theorem and1 (x : Int) : g_and x 1 = 0 ∨ g_and x 1 = 1 := by
  have e : (gI x &&& gI 1).toBitVec.toNat ≤ 1 := by
    show ((gI x).toBitVec &&& (gI 1).toBitVec).toNat ≤ 1
    rw [BitVec.toNat_and, show (gI 1).toBitVec.toNat = 1 from rfl]
    exact Nat.and_le_right
  have f : g_and x 1 = ((gI x &&& gI 1).toBitVec.toNat : Int) := by
    show (gI x &&& gI 1).toBitVec.toInt = _
    rw [BitVec.toInt_eq_toNat_of_lt (by omega)]
  rw [f]
  omega
theorem or_bit {x n : Nat} (i : Nat) (hx : x < 2 ^ n) (hi : i < n) (hn : n ≤ 30) : ∃ y : Nat, g_or (x : Int) (g_shl 1 (i : Int)) = y ∧ y < 2 ^ n := by
  have h1 : 2 ^ n ≤ 2 ^ 30 := Nat.pow_le_pow_right (by omega) hn
  have h2 : 2 ^ i < 2 ^ n := Nat.pow_lt_pow_right (by omega) hi
  refine ⟨x ||| 2 ^ i, ?_, Nat.or_lt_two_pow hx h2⟩
  rw [shl1 (by omega), or_nat (by omega) (by omega)]
theorem or_0 {x : Nat} (hx : x < 2147483648) : g_or (x : Int) 0 = x := by
  have h := or_nat (x := x) (y := 0) hx (by omega)
  rw [Nat.or_zero] at h
  exact h
/-! seen, front, lead -/
theorem p_seenx {P q : Nat} {M : g_M} (hP : P ≤ 8) (hq : q < P) (h : 0 ≤ M 2 q ∧ M 2 q ≤ 9) : m_X1_isSeen q M = some (pb (1 ≤ M 2 q ∧ M 2 q ≤ 6)) := by
  obtain ⟨h1, h2⟩ := h
  unfold m_X1_isSeen
  simp (disch := omega) only [a_gd, gs_id, show (0 : Int) + (q : Int) = (q : Int) by omega, Int.toNat_natCast, a_within, Option.bind_some, a_gd01]
theorem q_seenx {P q : Nat} {M : g_M} (hP : P ≤ 8) (hq : q < P) (h : 0 ≤ M 1 (34 + 4 * q) ∧ M 1 (34 + 4 * q) ≤ 9) : m_X9_isSeen q M = some (pb (1 ≤ M 1 (34 + 4 * q) ∧ M 1 (34 + 4 * q) ≤ 6)) := by
  obtain ⟨h1, h2⟩ := h
  unfold m_X9_isSeen
  rw [p_get _ _ _ (34 + 4 * q) (by omega) (by omega)]
  simp (disch := omega) only [a_isIn, Option.bind_some, a_gd01]
theorem p_seen {P : Nat} {M W : g_M} (hP : P ≤ 8) (h7 : M 1 7 = P) (h0 : W 1 0 = P) (hr : ∀ q : Nat, q < P → 0 ≤ M 2 q ∧ M 2 q ≤ 9 ∧ W 1 (34 + 4 * q) = M 2 q) : ∃ v : Nat, v < 2 ^ 8 ∧ m_X1_seenBits M = some (v : Int) ∧ m_X9_seen W = some (v : Int) := by
  have h := loop_2 (fun f i s => m_X1_seenBits_L4 M f s i) (fun f i s => m_X9_seen_L4 W f s i) P (fun i s t => s = t ∧ ∃ v : Nat, v < 2 ^ 8 ∧ s = (v : Int)) (fun a b => a = b ∧ ∃ v : Nat, v < 2 ^ 8 ∧ a = (v : Int)) ?_ ?_ P 0 0 0 g_fuel g_fuel (by omega) (by unfold g_fuel; omega) (by unfold g_fuel; omega) ⟨rfl, 0, by omega, rfl⟩
  · obtain ⟨a, b, e1, e2, e3, v, hv, e4⟩ := h
    refine ⟨v, hv, ?_, ?_⟩
    · rw [← e4]; exact e1
    · rw [← e4, e3]; exact e2
  · rintro s t ⟨rfl, v, hv, rfl⟩
    refine ⟨v, v, fun f => ?_, fun f => ?_, rfl, v, hv, rfl⟩
    · show m_X1_seenBits_L4 M (f + 1) v P = _
      rw [m_X1_seenBits_L4]
      simp (disch := omega) only [↓reduceIte, ta_le, gs_id, h7]
    · show m_X9_seen_L4 W (f + 1) v P = _
      rw [m_X9_seen_L4]
      simp (disch := omega) only [↓reduceIte, ta_le, gs_id, h0, a_gd, show Int.toNat 0 = 0 from rfl]
  · rintro i s t hi ⟨rfl, v, hv, rfl⟩
    obtain ⟨r1, r2, r3⟩ := hr i hi
    by_cases c : 1 ≤ M 2 i ∧ M 2 i ≤ 6
    · obtain ⟨y, hy, hy2⟩ := or_bit i hv (by omega) (by omega)
      refine ⟨y, y, fun f => ?_, fun f => ?_, rfl, y, hy2, rfl⟩
      · show m_X1_seenBits_L4 M (f + 1) v i = m_X1_seenBits_L4 M f y _
        rw [m_X1_seenBits_L4]
        simp (disch := omega) only [↓reduceIte, ↓g_nm, ↓g_jn, ta_nle, gs_id, h7, ↓bd_eq (p_seenx hP hi ⟨r1, r2⟩), ↓ta_pb1, hy, Int.natCast_add, Int.natCast_one]
      · show m_X9_seen_L4 W (f + 1) v i = m_X9_seen_L4 W f y _
        rw [m_X9_seen_L4]
        simp (disch := omega) only [↓reduceIte, ↓g_nm, ↓g_jn, ta_nle, gs_id, h0, a_gd, show Int.toNat 0 = 0 from rfl, ↓bd_eq (q_seenx (M := W) hP hi (by omega)), r3, ↓ta_pb1, hy, Int.natCast_add, Int.natCast_one]
    · refine ⟨v, v, fun f => ?_, fun f => ?_, rfl, v, hv, rfl⟩
      · show m_X1_seenBits_L4 M (f + 1) v i = m_X1_seenBits_L4 M f v _
        rw [m_X1_seenBits_L4]
        simp (disch := omega) only [↓reduceIte, ↓g_nm, ↓g_jn, ta_nle, gs_id, h7, ↓bd_eq (p_seenx hP hi ⟨r1, r2⟩), ↓ta_pb0, Int.natCast_add, Int.natCast_one]
      · show m_X9_seen_L4 W (f + 1) v i = m_X9_seen_L4 W f v _
        rw [m_X9_seen_L4]
        have hz := or_0 (x := v) (by omega)
        simp (disch := omega) only [↓reduceIte, ↓g_nm, ↓g_jn, ta_nle, gs_id, h0, a_gd, show Int.toNat 0 = 0 from rfl, ↓bd_eq (q_seenx (M := W) hP hi (by omega)), r3, ↓ta_pb0, hz, Int.natCast_add, Int.natCast_one]
theorem p_front {P : Nat} {M W : g_M} (hP : P ≤ 8) (h7 : M 1 7 = P) (h0 : W 1 0 = P) (hr : ∀ q : Nat, q < P → 0 ≤ M 2 q ∧ M 2 q ≤ 9 ∧ W 1 (34 + 4 * q) = M 2 q) (hp : ∀ q : Nat, q < P → 0 ≤ M 6 q ∧ M 6 q ≤ 9 ∧ W 1 (34 + 4 * q + 2) = M 6 q) : ∃ v : Int, (0 ≤ v ∧ v ≤ 72) ∧ m_X1_plainTogether M = some v ∧ m_X9_front W = some v := by
  have h := loop_2 (fun f i s => m_X1_plainTogether_L4 M f s i) (fun f i s => m_X9_front_L4 W f s i) P (fun i s t => s = t ∧ 0 ≤ s ∧ s ≤ 9 * (i : Int)) (fun a b => a = b ∧ 0 ≤ a ∧ a ≤ 72) ?_ ?_ P 0 0 0 g_fuel g_fuel (by omega) (by unfold g_fuel; omega) (by unfold g_fuel; omega) ⟨rfl, by omega, by omega⟩
  · obtain ⟨a, b, e1, e2, e3, e4⟩ := h
    refine ⟨a, e4, e1, ?_⟩
    rw [e3]; exact e2
  · rintro s t ⟨rfl, v1, v2⟩
    refine ⟨s, s, fun f => ?_, fun f => ?_, rfl, v1, by omega⟩
    · show m_X1_plainTogether_L4 M (f + 1) s P = _
      rw [m_X1_plainTogether_L4]
      simp (disch := omega) only [↓reduceIte, ta_le, gs_id, h7]
    · show m_X9_front_L4 W (f + 1) s P = _
      rw [m_X9_front_L4]
      simp (disch := omega) only [↓reduceIte, ta_le, gs_id, h0, a_gd, show Int.toNat 0 = 0 from rfl]
  · rintro i s t hi ⟨rfl, v1, v2⟩
    obtain ⟨r1, r2, r3⟩ := hr i hi
    obtain ⟨r4, r5, r6⟩ := hp i hi
    by_cases c : 1 ≤ M 2 i ∧ M 2 i ≤ 6
    · refine ⟨s + M 6 i, s + M 6 i, fun f => ?_, fun f => ?_, rfl, by omega, by omega⟩
      · show m_X1_plainTogether_L4 M (f + 1) s i = m_X1_plainTogether_L4 M f _ _
        rw [m_X1_plainTogether_L4]
        simp (disch := omega) only [↓reduceIte, ↓g_nm, ↓g_jn, ta_nle, gs_id, h7, ↓bd_eq (p_seenx hP hi ⟨r1, r2⟩), ↓ta_pb1, a_gd, Int.toNat_natCast, Int.natCast_add, Int.natCast_one]
      · show m_X9_front_L4 W (f + 1) s i = m_X9_front_L4 W f _ _
        rw [m_X9_front_L4]
        simp (disch := omega) only [↓reduceIte, ↓g_nm, ↓g_jn, ta_nle, gs_id, h0, a_gd, show Int.toNat 0 = 0 from rfl, ↓bd_eq (q_seenx (M := W) hP hi (by omega)), ↓bd_eq (p_get (i : Int) 2 W (34 + 4 * i + 2) (by omega) (by omega)), r3, r6, ↓ta_pb1, Int.natCast_add, Int.natCast_one]
    · refine ⟨s, s, fun f => ?_, fun f => ?_, rfl, by omega, by omega⟩
      · show m_X1_plainTogether_L4 M (f + 1) s i = m_X1_plainTogether_L4 M f _ _
        rw [m_X1_plainTogether_L4]
        simp (disch := omega) only [↓reduceIte, ↓g_nm, ↓g_jn, ta_nle, gs_id, h7, ↓bd_eq (p_seenx hP hi ⟨r1, r2⟩), ↓ta_pb0, Int.natCast_add, Int.natCast_one]
      · show m_X9_front_L4 W (f + 1) s i = m_X9_front_L4 W f _ _
        rw [m_X9_front_L4]
        simp (disch := omega) only [↓reduceIte, ↓g_nm, ↓g_jn, ta_nle, gs_id, h0, a_gd, show Int.toNat 0 = 0 from rfl, ↓bd_eq (q_seenx (M := W) hP hi (by omega)), r3, ↓ta_pb0, Int.add_zero, Int.natCast_add, Int.natCast_one]
