/-! the roster -/
def sN (s : Nat → Int) : Nat → Nat := fun q => (s q).toNat
theorem Fut_of {P : Nat} (hP : 0 < P) {s : Nat → Int} (h5 : ∀ q, q < P → 0 ≤ s q ∧ s q < 5) {B : Nat → Nat} (hB : ∀ q, q < P → B q < 5) (h : nv (sN s) P < nv B P) : Fut (P - 1) P s B := by
  obtain ⟨j, h1, h2, h3⟩ := nv_part (s := sN s) (t := B) (fun q hq => by have := h5 q hq; unfold sN; omega) hB h
  have eq : ∀ q, q < j → s q = (B q : Int) := fun q hq => by have a := h5 q (by omega); have b := h2 q hq; unfold sN at b; omega
  have lt : s j < (B j : Int) := by have a := h5 j h1; unfold sN at h3; omega
  by_cases z : j = P - 1
  · subst z
    exact Or.inl ⟨eq, fun _ => lt⟩
  · exact Or.inr ⟨j, by omega, eq, lt⟩
theorem nv_of {P p : Nat} (hp : p + 1 = P) {s : Nat → Int} (h5 : ∀ q, q < P → 0 ≤ s q ∧ s q < 5) {B : Nat → Nat} (h : Fut p P s B) : nv (sN s) P < nv B P := by
  have go : ∀ j, j < P → (∀ q, q < j → s q = (B q : Int)) → s j < (B j : Int) → nv (sN s) P < nv B P := by
    intro j hj h1 h2
    have := nv_lt (s := sN s) (t := B) (j := j) (fun q hq => by have := h1 q hq; unfold sN; omega) (by have := h5 j hj; unfold sN; omega) (P - (j + 1)) (fun q hq => by have := h5 q (by omega); unfold sN; omega)
    rw [show j + 1 + (P - (j + 1)) = P by omega] at this
    exact this
  rcases h with ⟨h1, h2⟩ | ⟨j, h1, h2, h3⟩
  · exact go p (by omega) h1 (h2 (by omega))
  · exact go j (by omega) h2 h3
theorem nv_ofP {P : Nat} {s : Nat → Int} (h5 : ∀ q, q < P → 0 ≤ s q ∧ s q < 5) {B : Nat → Nat} (h : Fut P P s B) : nv (sN s) P ≤ nv B P := by
  rcases h with ⟨h1, -⟩ | ⟨j, h1, h2, h3⟩
  · rw [nv_cg (s := sN s) (t := B) P (fun q hq => by have := h1 q hq; unfold sN; omega)]
    exact Nat.le_refl _
  · have := nv_lt (s := sN s) (t := B) (j := j) (fun q hq => by have := h2 q hq; unfold sN; omega) (by have := h5 j h1; unfold sN; omega) (P - (j + 1)) (fun q hq => by have := h5 q (by omega); unfold sN; omega)
    rw [show j + 1 + (P - (j + 1)) = P by omega] at this
    omega
theorem Row_fea {k P : Nat} {W0 : g_M} {s : Nat → Int} {V : g_M} (h : Row k P W0 P s V) : Fea k P (sN s) := ⟨fun q hq => by have := h.2.2.2.1 q hq; unfold sN; omega, h.2.2.2.2.2.2.1⟩
/-- a full row, seen from its last -/
theorem Row_last {k P : Nat} {W0 : g_M} {s : Nat → Int} {V : g_M} {p : Nat} (hp : p + 1 = P) (h : Row k P W0 P s V) : Row k P V p s V := by
  obtain ⟨r1, r2, r3, r4, r5, r6, r7, r8⟩ := h
  have a := r4 p (by omega)
  refine ⟨fun a _ _ => rfl, by omega, r3, fun q hq => r4 q (by omega), fun q q1 q2 => by omega, fun _ => by omega, fun e he => ?_, fun e he => ?_⟩
  · have b := r7 e he
    have c := occ_mono (A := fun q => (s q).toNat) (e := e) 1 p
    rw [hp] at c
    omega
  · rw [r8 e he, if_neg (by omega), Nat.add_zero, ← hp, occ_s]
    by_cases z : (s p).toNat = e
    · rw [if_pos z, if_pos ⟨by omega, by omega⟩]
    · rw [if_neg z, if_neg (fun y => z (by have := y.2; omega))]
theorem Row_self {k P : Nat} {W0 : g_M} {p : Nat} {s : Nat → Int} {V : g_M} (h : Row k P W0 p s V) : Row k P V p s V := ⟨fun _ _ _ => rfl, h.2⟩
/-- what is laid, with another row kept aside -/
theorem Row_16 {k P : Nat} {W0 : g_M} {p : Nat} {s : Nat → Int} {V V' : g_M} (h : Row k P W0 p s V) (hV : ∀ a, a ≠ 16 → V' a = V a) : Row k P V' p s V' := by
  obtain ⟨r1, r2, r3, r4, r5, r6, r7, r8⟩ := h
  exact ⟨fun _ _ _ => rfl, r2, fun q hq => by rw [hV 15 (by omega)]; exact r3 q hq, r4, r5, r6, r7, fun e he => by rw [hV 17 (by omega)]; exact r8 e he⟩
def LkS (lk : Nat → Int) (P : Nat) (B : Nat → Nat) : Int := sm (fun q => lk (q * 5 + B q)) P
def Bst (lk : Nat → Int) (k P : Nat) (V : g_M) (most : Int) (T : (Nat → Nat) → Prop) : Prop := (most = -1 ∧ ∀ B, T B → False) ∨ ∃ b : Nat → Nat, Fea k P b ∧ (∀ q, q < P → V 16 q = (b q : Int)) ∧ most = LkS lk P b ∧ T b ∧ ∀ B, T B → LkS lk P B < LkS lk P b ∨ (LkS lk P B = LkS lk P b ∧ nv b P ≤ nv B P)
theorem LkS_b {lk : Nat → Int} (hl : LkB lk) {P : Nat} (hP : P ≤ 8) {B : Nat → Nat} (hB : ∀ q, q < P → B q < 5) : 0 ≤ LkS lk P B ∧ LkS lk P B ≤ 99 * (P : Int) := by
  have : ∀ n, n ≤ P → 0 ≤ sm (fun q => lk (q * 5 + B q)) n ∧ sm (fun q => lk (q * 5 + B q)) n ≤ 99 * (n : Int) := by
    intro n
    induction n with
    | zero => intro _; exact ⟨Int.le_refl _, Int.le_refl _⟩
    | succ n ih =>
      intro hn
      rw [sm_s]
      have a := ih (by omega)
      have b := hB n (by omega)
      have c := hl (n * 5 + B n) (by omega)
      omega
  exact this P (Nat.le_refl _)
def I50 (lk : Nat → Int) (k P : Nat) (W0 : g_M) (n : Nat) (x : Int × Int × g_M) : Prop := (∀ a, a ≠ 15 → a ≠ 16 → a ≠ 17 → x.2.2 a = W0 a) ∧ ((x.2.1 = 1 ∧ ∃ s, Row k P x.2.2 P s x.2.2 ∧ Bst lk k P x.2.2 x.1 (fun B => Fea k P B ∧ nv B P < nv (sN s) P) ∧ n + nv (sN s) P = 390626) ∨ (x.2.1 = 0 ∧ n = 0 ∧ Bst lk k P x.2.2 x.1 (fun B => Fea k P B)))
theorem q_sum60 {k P : Nat} (hP : P ≤ 8) {V : g_M} (h0 : V 1 0 = P) {lk : Nat → Int} (hlk : ∀ i, i < 40 → V 1 (143 + i) = lk i) {s : Nat → Int} (h5 : ∀ q, q < P → 0 ≤ s q ∧ s q < 5) (h15 : ∀ q, q < 8 → V 15 q = s q) (x40 : Int) (kc : Int → Option (Int × g_M)) : m_X9_layRoster_L60 k x40 V kc g_fuel 0 0 = kc (LkS lk P (sN s)) := by
  refine loop_F (fun F i (a : Int) => m_X9_layRoster_L60 k x40 V kc F a i) P (fun i => sm (fun q => lk (q * 5 + sN s q)) i) _ (fun F => ?_) (fun i F hi => ?_) P 0 g_fuel (by omega) (by unfold g_fuel; omega)
  · show m_X9_layRoster_L60 k x40 V kc (F + 1) _ _ = _
    rw [m_X9_layRoster_L60]
    simp (disch := omega) only [↓reduceIte, ↓nm_eq, ↓jn_eq, ↓c_within, ↓c_isIn, ↓c_isScene, ↓c_isPlace, ↓c_isCue, ↓c_isDigit, ↓d_isScene, ↓d_isAny, ↓ta_pb1, ↓ta_pb0, ↓ta_pb1', ↓ta_pb0', ta_lt, ta_nlt, ta_le, ta_nle, ta_eq, ta_neq, ta_nne, ta_ne, gs_id, a_gd01, a_gdT, or_true, true_or, bd_some, bW_sm, a_gd, a_ne, a_rd, Int.toNat_natCast, Int.toNat_add, Int.toNat_mul, Int.reduceToNat, a_gdp, a_cell, and_self, and_true, true_and, h0]
    rfl
  · show m_X9_layRoster_L60 k x40 V kc (F + 1) _ _ = m_X9_layRoster_L60 k x40 V kc F (sm (fun q => lk (q * 5 + sN s q)) (i + 1)) _
    rw [sm_s, m_X9_layRoster_L60]
    have a := h5 i hi
    obtain ⟨u, hu⟩ : ∃ u : Nat, s i = u := ⟨(s i).toNat, by omega⟩
    have b : V 15 i = (u : Int) := by rw [h15 i (by omega)]; exact hu
    have c : sN s i = u := by unfold sN; omega
    have d := hlk (i * 5 + u) (by omega)
    have e : 143 + 5 * i + u = 143 + (i * 5 + u) := by omega
    rw [c]
    generalize sm (fun q => lk (q * 5 + sN s q)) i = S
    simp (disch := omega) only [↓reduceIte, ↓nm_eq, ↓jn_eq, ↓c_within, ↓c_isIn, ↓c_isScene, ↓c_isPlace, ↓c_isCue, ↓c_isDigit, ↓d_isScene, ↓d_isAny, ↓ta_pb1, ↓ta_pb0, ↓ta_pb1', ↓ta_pb0', ta_lt, ta_nlt, ta_le, ta_nle, ta_eq, ta_neq, ta_nne, ta_ne, gs_id, a_gd01, a_gdT, or_true, true_or, bd_some, bW_sm, a_gd, a_ne, a_rd, Int.toNat_natCast, Int.toNat_add, Int.toNat_mul, Int.reduceToNat, a_gdp, a_cell, and_self, and_true, true_and, h0, b, e, d, Int.natCast_add, Int.natCast_one]
theorem q_best115 (k x53 : Int) (V : g_M) (kc : g_M → Option (Int × g_M)) : m_X9_layRoster_L115 k x53 kc g_fuel 0 V = kc (cpF V 16 0 (fun q => V 15 q) 8) := by
  refine cp_loop (fun f i M => m_X9_layRoster_L115 k x53 kc f i M) 16 0 8 (fun q => V 15 q) V _ (fun f => ?_) (fun i f hi => ?_) g_fuel (by unfold g_fuel; omega)
  · show m_X9_layRoster_L115 k x53 kc (f + 1) _ _ = _
    rw [m_X9_layRoster_L115]
    simp (disch := omega) only [↓reduceIte, ↓nm_eq, ↓jn_eq, ↓c_within, ↓c_isIn, ↓c_isScene, ↓c_isPlace, ↓c_isCue, ↓c_isDigit, ↓d_isScene, ↓d_isAny, ↓ta_pb1, ↓ta_pb0, ↓ta_pb1', ↓ta_pb0', ta_lt, ta_nlt, ta_le, ta_nle, ta_eq, ta_neq, ta_nne, ta_ne, gs_id, a_gd01, a_gdT, or_true, true_or, bd_some, bW_sm, a_gd, a_ne, a_rd, Int.toNat_natCast, Int.toNat_add, Int.toNat_mul, Int.reduceToNat, a_gdp, a_cell, and_self, and_true, true_and]
  · show m_X9_layRoster_L115 k x53 kc (f + 1) _ _ = m_X9_layRoster_L115 k x53 kc f _ _
    rw [m_X9_layRoster_L115]
    simp (disch := omega) only [↓reduceIte, ↓nm_eq, ↓jn_eq, ↓c_within, ↓c_isIn, ↓c_isScene, ↓c_isPlace, ↓c_isCue, ↓c_isDigit, ↓d_isScene, ↓d_isAny, ↓ta_pb1, ↓ta_pb0, ↓ta_pb1', ↓ta_pb0', ta_lt, ta_nlt, ta_le, ta_nle, ta_eq, ta_neq, ta_nne, ta_ne, gs_id, a_gd01, a_gdT, or_true, true_or, bd_some, bW_sm, a_gd, a_ne, a_rd, Int.toNat_natCast, Int.toNat_add, Int.toNat_mul, Int.reduceToNat, a_gdp, a_cell, and_self, and_true, true_and, cpF_ne, Nat.zero_add]
theorem Bst_16 {lk : Nat → Int} {k P : Nat} (hP : P ≤ 8) {V V' : g_M} {most : Int} {T T' : (Nat → Nat) → Prop} (h : Bst lk k P V most T) (hV : V' 16 = V 16) (hT : ∀ B, T' B → T B) (hT2 : ∀ B, T B → T' B) : Bst lk k P V' most T' := by
  rcases h with ⟨h1, h2⟩ | ⟨b, h1, h2, h3, h5, h4⟩
  · exact Or.inl ⟨h1, fun B hB => h2 B (hT B hB)⟩
  · exact Or.inr ⟨b, h1, fun q hq => by rw [hV]; exact h2 q hq, h3, hT2 b h5, fun B hB => h4 B (hT B hB)⟩
theorem nv8 {k P : Nat} (hP : P ≤ 8) {B : Nat → Nat} (hB : Fea k P B) : nv B P ≤ 390624 := by
  have a := nv_max P hB.1
  have b : 5 ^ P ≤ 5 ^ 8 := Nat.pow_le_pow_right (by omega) hP
  have c : 5 ^ 8 = 390625 := rfl
  omega
theorem q_roster {k P : Nat} (hk : 1 ≤ k ∧ k ≤ 8) (hP : P ≤ 8) (hPk : P ≤ 5 * k) {W : g_M} (h0 : W 1 0 = P) {lk : Nat → Int} (hl : LkB lk) (hlk : ∀ i, i < 40 → W 1 (143 + i) = lk i) : Ok (m_X9_layRoster k W) (fun r => (∀ a, a ≠ 15 → a ≠ 16 → a ≠ 17 → r.2 a = W a) ∧ Bst lk k P r.2 r.1 (fun B => Fea k P B)) := by
  unfold m_X9_layRoster
  have key2 : ∀ kc : g_M → Option (Int × g_M), m_X9_layRoster_L2 k kc g_fuel 0 W = kc (cpF W 17 0 (fun _ => 0) 5) := by
    intro kc
    refine cp_loop (fun f i M => m_X9_layRoster_L2 k kc f i M) 17 0 5 (fun _ => 0) W _ (fun f => ?_) (fun i f hi => ?_) g_fuel (by unfold g_fuel; omega)
    · show m_X9_layRoster_L2 k kc (f + 1) _ _ = _
      rw [m_X9_layRoster_L2]
      simp (disch := omega) only [↓reduceIte, ↓nm_eq, ↓jn_eq, ↓c_within, ↓c_isIn, ↓c_isScene, ↓c_isPlace, ↓c_isCue, ↓c_isDigit, ↓d_isScene, ↓d_isAny, ↓ta_pb1, ↓ta_pb0, ↓ta_pb1', ↓ta_pb0', ta_lt, ta_nlt, ta_le, ta_nle, ta_eq, ta_neq, ta_nne, ta_ne, gs_id, a_gd01, a_gdT, or_true, true_or, bd_some, bW_sm, a_gd, a_ne, a_rd, Int.toNat_natCast, Int.toNat_add, Int.toNat_mul, Int.reduceToNat, a_gdp, a_cell, and_self, and_true, true_and]
    · show m_X9_layRoster_L2 k kc (f + 1) _ _ = m_X9_layRoster_L2 k kc f _ _
      rw [m_X9_layRoster_L2]
      simp (disch := omega) only [↓reduceIte, ↓nm_eq, ↓jn_eq, ↓c_within, ↓c_isIn, ↓c_isScene, ↓c_isPlace, ↓c_isCue, ↓c_isDigit, ↓d_isScene, ↓d_isAny, ↓ta_pb1, ↓ta_pb0, ↓ta_pb1', ↓ta_pb0', ta_lt, ta_nlt, ta_le, ta_nle, ta_eq, ta_neq, ta_nne, ta_ne, gs_id, a_gd01, a_gdT, or_true, true_or, bd_some, bW_sm, a_gd, a_ne, a_rd, Int.toNat_natCast, Int.toNat_add, Int.toNat_mul, Int.reduceToNat, a_gdp, a_cell, and_self, and_true, true_and, Nat.zero_add]
  obtain ⟨W1, hW1⟩ : ∃ W1, W1 = cpF W 17 0 (fun _ => 0) 5 := ⟨_, rfl⟩
  have key22 : ∀ kc : g_M → Option (Int × g_M), m_X9_layRoster_L22 k kc g_fuel 0 W1 = kc (cpF W1 15 0 (fun _ => -1) 8) := by
    intro kc
    refine cp_loop (fun f i M => m_X9_layRoster_L22 k kc f i M) 15 0 8 (fun _ => -1) W1 _ (fun f => ?_) (fun i f hi => ?_) g_fuel (by unfold g_fuel; omega)
    · show m_X9_layRoster_L22 k kc (f + 1) _ _ = _
      rw [m_X9_layRoster_L22]
      simp (disch := omega) only [↓reduceIte, ↓nm_eq, ↓jn_eq, ↓c_within, ↓c_isIn, ↓c_isScene, ↓c_isPlace, ↓c_isCue, ↓c_isDigit, ↓d_isScene, ↓d_isAny, ↓ta_pb1, ↓ta_pb0, ↓ta_pb1', ↓ta_pb0', ta_lt, ta_nlt, ta_le, ta_nle, ta_eq, ta_neq, ta_nne, ta_ne, gs_id, a_gd01, a_gdT, or_true, true_or, bd_some, bW_sm, a_gd, a_ne, a_rd, Int.toNat_natCast, Int.toNat_add, Int.toNat_mul, Int.reduceToNat, a_gdp, a_cell, and_self, and_true, true_and]
    · show m_X9_layRoster_L22 k kc (f + 1) _ _ = m_X9_layRoster_L22 k kc f _ _
      rw [m_X9_layRoster_L22]
      simp (disch := omega) only [↓reduceIte, ↓nm_eq, ↓jn_eq, ↓c_within, ↓c_isIn, ↓c_isScene, ↓c_isPlace, ↓c_isCue, ↓c_isDigit, ↓d_isScene, ↓d_isAny, ↓ta_pb1, ↓ta_pb0, ↓ta_pb1', ↓ta_pb0', ta_lt, ta_nlt, ta_le, ta_nle, ta_eq, ta_neq, ta_nne, ta_ne, gs_id, a_gd01, a_gdT, or_true, true_or, bd_some, bW_sm, a_gd, a_ne, a_rd, Int.toNat_natCast, Int.toNat_add, Int.toNat_mul, Int.reduceToNat, a_gdp, a_cell, and_self, and_true, true_and, Nat.zero_add]
  rw [nm_eq, key2, nm_eq, ← hW1, key22, nm_eq]
  obtain ⟨W2, hW2⟩ : ∃ W2, W2 = cpF W1 15 0 (fun _ => -1) 8 := ⟨_, rfl⟩
  have f2 : ∀ a, a ≠ 15 → a ≠ 17 → W2 a = W a := fun a a1 a2 => by rw [hW2, cpF_cell _ _ a1, hW1, cpF_cell _ _ a2]
  have row0 : Row k P W2 0 (fun _ => -1) W2 := by
    refine ⟨fun _ _ _ => rfl, Nat.zero_le _, fun q hq => by rw [hW2, cpF_in _ _ (by omega)], fun q hq => by omega, fun q _ _ => rfl, fun _ => ⟨Int.le_refl _, by show (-1 : Int) < 5; omega⟩, fun e he => Nat.zero_le _, fun e he => ?_⟩
    rw [hW2, cpF_cell _ _ (by omega), hW1, cpF_in _ _ (by omega), if_neg (fun z => by have y : (-1 : Int) = (e : Int) := z.2; omega)]
    rfl
  rw [← hW2]
  clear hW2 key22 hW1 key2
  refine Ok_bW (q_next hk hP hPk (W0 := W2) (by rw [f2 1 (by omega) (by omega)]; exact h0) row0) (fun x V hx => ?_)
  obtain ⟨x1, x2⟩ := hx
  dsimp only at x1 x2
  rw [nm_eq]
  have hW0 : ∀ V : g_M, (∀ a, a ≠ 15 → a ≠ 16 → a ≠ 17 → V a = W a) → V 1 0 = P ∧ ∀ i, i < 40 → V 1 (143 + i) = lk i := fun V hV => by
    rw [hV 1 (by omega) (by omega) (by omega)]
    exact ⟨h0, hlk⟩
  have fx : ∀ a, a ≠ 15 → a ≠ 16 → a ≠ 17 → V a = W a := fun a a1 a2 a3 => (x1 a a1 a3).trans (f2 a a1 a3)
  obtain ⟨n0, hn0, start⟩ : ∃ n, n < g_fuel ∧ I50 lk k P W n (-1, x, V) := by
    rcases x2 with ⟨rfl, s, hs, h1, -⟩ | ⟨rfl, h1⟩
    · have b := nv8 hP (Row_fea hs)
      refine ⟨390626 - nv (sN s) P, by unfold g_fuel; omega, fx, Or.inl ⟨rfl, s, Row_self hs, Or.inl ⟨rfl, fun B hB => ?_⟩, by omega⟩⟩
      have f := h1 B ⟨hB.1, ?_⟩
      · have := nv_ofP (s := s) hs.2.2.2.1 f
        have := hB.2
        omega
      · exact Or.inl ⟨fun q hq => by omega, fun _ => by show (-1 : Int) < _; omega⟩
    · refine ⟨0, by unfold g_fuel; omega, fx, Or.inr ⟨rfl, rfl, Or.inl ⟨rfl, fun B hB => ?_⟩⟩⟩
      exact h1 B ⟨hB, Or.inl ⟨fun q hq => by omega, fun _ => by show (-1 : Int) < _; omega⟩⟩
  refine Ok_loop (fun f (z : Int × Int × g_M) => m_X9_layRoster_L50 k f z.1 z.2.1 z.2.2) (I50 lk k P W) (fun n z f h kk => ?_) n0 g_fuel (-1, x, V) hn0 start
  obtain ⟨most, is, U⟩ := z
  have kk' : ∀ m (most' is' : Int) (U' : g_M), m < n → I50 lk k P W m (most', is', U') → Ok (m_X9_layRoster_L50 k f most' is' U') (fun r => (∀ a, a ≠ 15 → a ≠ 16 → a ≠ 17 → r.2 a = W a) ∧ Bst lk k P r.2 r.1 (fun B => Fea k P B)) := fun m a b c d e => kk m (a, b, c) d e
  clear kk start hn0 x2 row0
  obtain ⟨g1, g2⟩ := h
  dsimp only at g1 g2
  show Ok (m_X9_layRoster_L50 k (f + 1) most is U) _
  rw [m_X9_layRoster_L50]
  rcases g2 with ⟨rfl, s, g3, g4, g5⟩ | ⟨rfl, g3, g4⟩
  rotate_left
  · simp (disch := omega) only [↓reduceIte, ↓nm_eq, ↓jn_eq, ↓c_within, ↓c_isIn, ↓c_isScene, ↓c_isPlace, ↓c_isCue, ↓c_isDigit, ↓d_isScene, ↓d_isAny, ↓ta_pb1, ↓ta_pb0, ↓ta_pb1', ↓ta_pb0', ta_lt, ta_nlt, ta_le, ta_nle, ta_eq, ta_neq, ta_nne, ta_ne, gs_id, a_gd01, a_gdT, or_true, true_or, bd_some, bW_sm, a_gd, a_ne, a_rd, Int.toNat_natCast, Int.toNat_add, Int.toNat_mul, Int.reduceToNat, a_gdp, a_cell, and_self, and_true, true_and]
    exact Ok_some ⟨g1, g4⟩
  obtain ⟨u0, ulk⟩ := hW0 U g1
  have fea := Row_fea g3
  have nb := nv8 hP fea
  have lb := LkS_b hl hP fea.1
  have tail : ∀ (most' : Int) (U' : g_M), (∀ a, a ≠ 15 → a ≠ 16 → a ≠ 17 → U' a = W a) → Row k P U' P s U' → Bst lk k P U' most' (fun B => Fea k P B ∧ nv B P ≤ nv (sN s) P) → Ok (g_jn (fun (x68 : Int) (M69 : g_M) => g_nm x68 (fun x70 => m_X9_layRoster_L50 k f most' x70 M69)) (fun J64 => g_jn (fun (M67 : g_M) => J64 0 M67) (fun J63 => g_gd (g_ix 0 3409) (if gs (U' 1 (gs 0).toNat) ≤ 0 then (J63 U') else (g_gd (g_ix 0 3409) (g_bW (m_X9_isNextRow k ((U' 1 (gs 0).toNat) - 1) U') (fun x65 M66 => if gs x65 = 0 then (J63 M66) else (J64 1 M66)))))))) (fun r => (∀ a, a ≠ 15 → a ≠ 16 → a ≠ 17 → r.2 a = W a) ∧ Bst lk k P r.2 r.1 (fun B => Fea k P B)) := by
    intro most' U' k1 k2 k3
    obtain ⟨v0, -⟩ := hW0 U' k1
    by_cases c : P = 0
    · subst c
      simp (disch := omega) only [↓reduceIte, ↓nm_eq, ↓jn_eq, ↓c_within, ↓c_isIn, ↓c_isScene, ↓c_isPlace, ↓c_isCue, ↓c_isDigit, ↓d_isScene, ↓d_isAny, ↓ta_pb1, ↓ta_pb0, ↓ta_pb1', ↓ta_pb0', ta_lt, ta_nlt, ta_le, ta_nle, ta_eq, ta_neq, ta_nne, ta_ne, gs_id, a_gd01, a_gdT, or_true, true_or, bd_some, bW_sm, a_gd, a_ne, a_rd, Int.toNat_natCast, Int.toNat_add, Int.toNat_mul, Int.reduceToNat, a_gdp, a_cell, and_self, and_true, true_and, v0]
      refine kk' 0 most' 0 U' (by omega) ⟨k1, Or.inr ⟨rfl, rfl, Bst_16 hP k3 rfl (fun B hB => ⟨hB, Nat.le_refl _⟩) (fun B hB => hB.1)⟩⟩
    · obtain ⟨p, hp⟩ : ∃ p, p + 1 = P := ⟨P - 1, by omega⟩
      have ep : (P : Int) - 1 = (p : Int) := by omega
      simp (disch := omega) only [↓reduceIte, ↓nm_eq, ↓jn_eq, ↓c_within, ↓c_isIn, ↓c_isScene, ↓c_isPlace, ↓c_isCue, ↓c_isDigit, ↓d_isScene, ↓d_isAny, ↓ta_pb1, ↓ta_pb0, ↓ta_pb1', ↓ta_pb0', ta_lt, ta_nlt, ta_le, ta_nle, ta_eq, ta_neq, ta_nne, ta_ne, gs_id, a_gd01, a_gdT, or_true, true_or, bd_some, bW_sm, a_gd, a_ne, a_rd, Int.toNat_natCast, Int.toNat_add, Int.toNat_mul, Int.reduceToNat, a_gdp, a_cell, and_self, and_true, true_and, v0]
      rw [ep]
      refine Ok_bW (q_next hk hP hPk (W0 := U') v0 (Row_last hp k2)) (fun y T hy => ?_)
      obtain ⟨y1, y2⟩ := hy
      dsimp only at y1 y2
      have k1' : ∀ a, a ≠ 15 → a ≠ 16 → a ≠ 17 → T a = W a := fun a a1 a2 a3 => (y1 a a1 a3).trans (k1 a a1 a2 a3)
      have fut : ∀ B, Fea k P B → nv (sN s) P < nv B P → FutF k p P s B := fun B hB hlt => ⟨hB, by have := Fut_of (show 0 < P by omega) k2.2.2.2.1 hB.1 hlt; rw [show P - 1 = p by omega] at this; exact this⟩
      rcases y2 with ⟨rfl, s', r1, r2, r3⟩ | ⟨rfl, r2⟩
      · have fea' := Row_fea r1
        have self : Fut P P s' (sN s') := Or.inl ⟨fun q hq => by have := r1.2.2.2.1 q hq; unfold sN; omega, fun z => by omega⟩
        have up := nv_of hp k2.2.2.2.1 (r3 _ self)
        have nb' := nv8 hP fea'
        simp (disch := omega) only [↓reduceIte, ↓nm_eq, ↓jn_eq, ↓c_within, ↓c_isIn, ↓c_isScene, ↓c_isPlace, ↓c_isCue, ↓c_isDigit, ↓d_isScene, ↓d_isAny, ↓ta_pb1, ↓ta_pb0, ↓ta_pb1', ↓ta_pb0', ta_lt, ta_nlt, ta_le, ta_nle, ta_eq, ta_neq, ta_nne, ta_ne, gs_id, a_gd01, a_gdT, or_true, true_or, bd_some, bW_sm, a_gd, a_ne, a_rd, Int.toNat_natCast, Int.toNat_add, Int.toNat_mul, Int.reduceToNat, a_gdp, a_cell, and_self, and_true, true_and]
        refine kk' (390626 - nv (sN s') P) most' 1 T (by omega) ⟨k1', Or.inl ⟨rfl, s', Row_self r1, Bst_16 hP k3 (y1 16 (by omega) (by omega)) (fun B hB => ⟨hB.1, ?_⟩) (fun B hB => ⟨hB.1, by have := hB.2; omega⟩), by omega⟩⟩
        apply Classical.byContradiction
        intro z
        have a := nv_ofP (s := s') r1.2.2.2.1 (r2 B (fut B hB.1 (by omega)))
        have := hB.2
        omega
      · simp (disch := omega) only [↓reduceIte, ↓nm_eq, ↓jn_eq, ↓c_within, ↓c_isIn, ↓c_isScene, ↓c_isPlace, ↓c_isCue, ↓c_isDigit, ↓d_isScene, ↓d_isAny, ↓ta_pb1, ↓ta_pb0, ↓ta_pb1', ↓ta_pb0', ta_lt, ta_nlt, ta_le, ta_nle, ta_eq, ta_neq, ta_nne, ta_ne, gs_id, a_gd01, a_gdT, or_true, true_or, bd_some, bW_sm, a_gd, a_ne, a_rd, Int.toNat_natCast, Int.toNat_add, Int.toNat_mul, Int.reduceToNat, a_gdp, a_cell, and_self, and_true, true_and]
        refine kk' 0 most' 0 T (by omega) ⟨k1', Or.inr ⟨rfl, rfl, Bst_16 hP k3 (y1 16 (by omega) (by omega)) (fun B hB => ⟨hB, ?_⟩) (fun B hB => hB.1)⟩⟩
        apply Classical.byContradiction
        intro z
        exact r2 B (fut B hB (by omega))
  have mb : -1 ≤ most ∧ most ≤ 1000 := by
    rcases g4 with ⟨h, -⟩ | ⟨b, hb, -, h, -, -⟩
    · omega
    · have := LkS_b hl hP hb.1; omega
  have uniq : ∀ B, Fea k P B → nv B P ≤ nv (sN s) P → nv B P < nv (sN s) P ∨ LkS lk P B = LkS lk P (sN s) := by
    intro B hB h
    by_cases z : nv B P < nv (sN s) P
    · exact Or.inl z
    · right
      have e := nv_inj P hB.1 fea.1 (by omega)
      exact sm_cg P (fun q hq => by rw [e q hq])
  rw [if_neg (by rw [gs_id (by omega) (by omega)]; omega), nm_eq, nm_eq, q_sum60 hP u0 ulk g3.2.2.2.1 g3.2.2.1, jn_eq]
  by_cases c : LkS lk P (sN s) ≤ most
  · rw [if_pos (by rw [gs_id (by omega) (by omega), gs_id (by omega) (by omega)]; exact c)]
    refine tail most U g1 g3 ?_
    rcases g4 with ⟨h, -⟩ | ⟨b, b1, b2, b3, b5, b4⟩
    · omega
    · refine Or.inr ⟨b, b1, b2, b3, ⟨b1, by have := b5.2; omega⟩, fun B hB => ?_⟩
      by_cases y : nv B P < nv (sN s) P
      · exact b4 B ⟨hB.1, y⟩
      · rcases uniq B hB.1 hB.2 with z | z
        · exact absurd z y
        · by_cases w : LkS lk P B < LkS lk P b
          · exact Or.inl w
          · exact Or.inr ⟨by omega, by have := b5.2; omega⟩
  · rw [if_neg (by rw [gs_id (by omega) (by omega), gs_id (by omega) (by omega)]; exact c), nm_eq, nm_eq, q_best115]
    refine tail (LkS lk P (sN s)) (cpF U 16 0 (fun q => U 15 q) 8) (fun a a1 a2 a3 => by rw [cpF_cell _ _ a2]; exact g1 a a1 a2 a3) (Row_16 g3 (fun a ha => cpF_cell _ _ ha)) (Or.inr ⟨sN s, fea, fun q hq => ?_, rfl, ⟨fea, Nat.le_refl _⟩, fun B hB => ?_⟩)
    · rw [cpF_in _ _ (by omega), Nat.sub_zero, g3.2.2.1 q (by omega)]
      have := g3.2.2.2.1 q hq
      unfold sN
      omega
    · by_cases y : nv B P < nv (sN s) P
      · rcases g4 with ⟨-, h⟩ | ⟨b, b1, b2, b3, b5, b4⟩
        · exact (h B ⟨hB.1, y⟩).elim
        · rcases b4 B ⟨hB.1, y⟩ with w | ⟨w, -⟩
          · exact Or.inl (by omega)
          · exact Or.inl (by omega)
      · rcases uniq B hB.1 hB.2 with z | z
        · exact absurd z y
        · exact Or.inr ⟨z, by omega⟩
theorem RF_likes {M W : g_M} (H : RF M W) : ∃ P : Nat, P ≤ 8 ∧ M 1 7 = P ∧ W 1 0 = P ∧ LkB (M 9) ∧ ∀ i, i < 40 → W 1 (143 + i) = M 9 i := by
  obtain ⟨P, T, S, E, C, F, hP, hT, hU, hS, hE, hC, hF, hsn, htd, hkd, hpl, hro, hod, hos, hsv, hlk, -⟩ := H
  exact ⟨P, hP.1, hP.2.1, hP.2.2, fun i hi => ⟨(hlk i hi).1, (hlk i hi).2.1⟩, fun i hi => (hlk i hi).2.2⟩
theorem st_37 : x_step_37 Rel := by
  intro n Mx Mm hr hn a1 a2 h1 h2
  obtain ⟨i1, j1⟩ := h1
  obtain ⟨i2, j2⟩ := h2
  obtain ⟨P, hP, h7, h0, hl, hlk⟩ := RF_likes (Rel_RF hr)
  have no : (∃ r, m_X8_roster a1 a2 Mx = some (r, Mx) ∧ m_X9_roster a1 a2 Mm = some (r, Mm)) → ∃ (r r' : Int) (Mx' Mm' : g_M), (m_X8_roster a1 a2 Mx = some (r, Mx')) ∧ (m_X9_roster a1 a2 Mm = some (r', Mm')) ∧ gs r = gs r' ∧ Rel (n + 1) Mx' Mm' := fun ⟨r, e1, e2⟩ => ⟨r, r, Mx, Mm, e1, e2, rfl, st_same hr⟩
  by_cases c1 : 1 ≤ a1 ∧ a1 ≤ 8
  rotate_left
  · refine no ⟨-1, ?_, ?_⟩
    · unfold m_X8_roster; simp (disch := omega) only [↓reduceIte, ↓nm_eq, ↓jn_eq, ↓c_within, ↓c_isIn, ↓c_isScene, ↓c_isPlace, ↓c_isCue, ↓c_isDigit, ↓d_isScene, ↓d_isAny, ↓ta_pb1, ↓ta_pb0, ↓ta_pb1', ↓ta_pb0', ta_lt, ta_nlt, ta_le, ta_nle, ta_eq, ta_neq, ta_nne, ta_ne, gs_id, a_gd01, a_gdT, or_true, true_or, bd_some, bW_sm, a_gd, a_ne, a_rd, Int.toNat_natCast, Int.toNat_add, Int.toNat_mul, Int.reduceToNat, a_gdp, a_cell, and_self, and_true, true_and]
    · unfold m_X9_roster; simp (disch := omega) only [↓reduceIte, ↓nm_eq, ↓jn_eq, ↓c_within, ↓c_isIn, ↓c_isScene, ↓c_isPlace, ↓c_isCue, ↓c_isDigit, ↓d_isScene, ↓d_isAny, ↓ta_pb1, ↓ta_pb0, ↓ta_pb1', ↓ta_pb0', ta_lt, ta_nlt, ta_le, ta_nle, ta_eq, ta_neq, ta_nne, ta_ne, gs_id, a_gd01, a_gdT, or_true, true_or, bd_some, bW_sm, a_gd, a_ne, a_rd, Int.toNat_natCast, Int.toNat_add, Int.toNat_mul, Int.reduceToNat, a_gdp, a_cell, and_self, and_true, true_and]
  obtain ⟨k, rfl⟩ : ∃ k : Nat, a1 = k := ⟨a1.toNat, by omega⟩
  have yes : P ≤ 5 * k → ∃ (A : Nat → Nat) (M' W' : g_M), m_X5_assign k Mx = some M' ∧ m_X9_layRoster k Mm = some (LkS (Mx 9) P A, W') ∧ (∀ q, q < P → A q < 5) ∧ (∀ q, q < P → M' 78 q = (A q : Int)) ∧ (∀ q, q < P → W' 16 q = (A q : Int)) ∧ (∀ a, a ≠ 78 → a ≠ 79 → a ≠ 80 → a ≠ 81 → M' a = Mx a) ∧ ∀ a, a ≠ 15 → a ≠ 16 → a ≠ 17 → W' a = Mm a := by
    intro hPk
    obtain ⟨M', e1, f1, A, y, f2, f3⟩ := p_assign (k := k) (by omega) hP hPk h7 hl
    obtain ⟨⟨most, W'⟩, e2, g1, g2⟩ := q_roster (k := k) (by omega) hP hPk h0 hl hlk
    dsimp only at g1 g2
    rcases g2 with ⟨-, g2⟩ | ⟨b, b1, b2, b3, b5, b4⟩
    · exact (g2 A f2.1).elim
    · have eq := w_one hP f2.1.1 b1.1 (Pri_best f2 b1) (b4 A f2.1)
      exact ⟨b, M', W', e1, by rw [e2, b3], b1.1, fun q hq => by rw [f3 q hq, eq q hq], b2, f1, g1⟩
  by_cases c2 : P ≤ 5 * k
  · by_cases c3 : a2 = -1
    · subst c3
      obtain ⟨A, M', W', e1, e2, h5, e3, e4, e5, e6⟩ := yes c2
      have tg := p_together (M := M') hP (by rw [e5 1 (by omega) (by omega) (by omega) (by omega)]; exact h7) (by rw [e5 9 (by omega) (by omega) (by omega) (by omega)]; exact hl) h5 e3
      rw [e5 9 (by omega) (by omega) (by omega) (by omega)] at tg
      refine ⟨LkS (Mx 9) P A, LkS (Mx 9) P A, M', W', ?_, ?_, rfl, Rel_scr hr (fun a ha => e5 a (by omega) (by omega) (by omega) (by omega)) (fun a ha => e6 a (by omega) (by omega) (by omega))⟩
      · unfold m_X8_roster
        simp (disch := omega) only [↓reduceIte, ↓nm_eq, ↓jn_eq, ↓c_within, ↓c_isIn, ↓c_isScene, ↓c_isPlace, ↓c_isCue, ↓c_isDigit, ↓d_isScene, ↓d_isAny, ↓ta_pb1, ↓ta_pb0, ↓ta_pb1', ↓ta_pb0', ta_lt, ta_nlt, ta_le, ta_nle, ta_eq, ta_neq, ta_nne, ta_ne, gs_id, a_gd01, a_gdT, or_true, true_or, bd_some, bW_sm, a_gd, a_ne, a_rd, Int.toNat_natCast, Int.toNat_add, Int.toNat_mul, Int.reduceToNat, a_gdp, a_cell, and_self, and_true, true_and, h7, e1, tg]
        rfl
      · unfold m_X9_roster
        simp (disch := omega) only [↓reduceIte, ↓nm_eq, ↓jn_eq, ↓c_within, ↓c_isIn, ↓c_isScene, ↓c_isPlace, ↓c_isCue, ↓c_isDigit, ↓d_isScene, ↓d_isAny, ↓ta_pb1, ↓ta_pb0, ↓ta_pb1', ↓ta_pb0', ta_lt, ta_nlt, ta_le, ta_nle, ta_eq, ta_neq, ta_nne, ta_ne, gs_id, a_gd01, a_gdT, or_true, true_or, bd_some, bW_sm, a_gd, a_ne, a_rd, Int.toNat_natCast, Int.toNat_add, Int.toNat_mul, Int.reduceToNat, a_gdp, a_cell, and_self, and_true, true_and, h0, e2]
    · by_cases c4 : 0 ≤ a2 ∧ a2 < P
      · obtain ⟨q, rfl⟩ : ∃ q : Nat, a2 = q := ⟨a2.toNat, by omega⟩
        obtain ⟨A, M', W', e1, e2, h5, e3, e4, e5, e6⟩ := yes c2
        have v1 := e3 q (by omega)
        have v2 := e4 q (by omega)
        refine ⟨(A q : Int), (A q : Int), M', W', ?_, ?_, rfl, Rel_scr hr (fun a ha => e5 a (by omega) (by omega) (by omega) (by omega)) (fun a ha => e6 a (by omega) (by omega) (by omega))⟩
        · unfold m_X8_roster
          simp (disch := omega) only [↓reduceIte, ↓nm_eq, ↓jn_eq, ↓c_within, ↓c_isIn, ↓c_isScene, ↓c_isPlace, ↓c_isCue, ↓c_isDigit, ↓d_isScene, ↓d_isAny, ↓ta_pb1, ↓ta_pb0, ↓ta_pb1', ↓ta_pb0', ta_lt, ta_nlt, ta_le, ta_nle, ta_eq, ta_neq, ta_nne, ta_ne, gs_id, a_gd01, a_gdT, or_true, true_or, bd_some, bW_sm, a_gd, a_ne, a_rd, Int.toNat_natCast, Int.toNat_add, Int.toNat_mul, Int.reduceToNat, a_gdp, a_cell, and_self, and_true, true_and, h7, ↓bd_eq (a_isPerson h7 ⟨i2, j2⟩ hP), e1, v1]
        · unfold m_X9_roster
          simp (disch := omega) only [↓reduceIte, ↓nm_eq, ↓jn_eq, ↓c_within, ↓c_isIn, ↓c_isScene, ↓c_isPlace, ↓c_isCue, ↓c_isDigit, ↓d_isScene, ↓d_isAny, ↓ta_pb1, ↓ta_pb0, ↓ta_pb1', ↓ta_pb0', ta_lt, ta_nlt, ta_le, ta_nle, ta_eq, ta_neq, ta_nne, ta_ne, gs_id, a_gd01, a_gdT, or_true, true_or, bd_some, bW_sm, a_gd, a_ne, a_rd, Int.toNat_natCast, Int.toNat_add, Int.toNat_mul, Int.reduceToNat, a_gdp, a_cell, and_self, and_true, true_and, h0, ↓bd_eq (b_isPerson h0 ⟨i2, j2⟩ hP), e2, v2]
      · refine no ⟨-1, ?_, ?_⟩
        · unfold m_X8_roster; simp (disch := omega) only [↓reduceIte, ↓nm_eq, ↓jn_eq, ↓c_within, ↓c_isIn, ↓c_isScene, ↓c_isPlace, ↓c_isCue, ↓c_isDigit, ↓d_isScene, ↓d_isAny, ↓ta_pb1, ↓ta_pb0, ↓ta_pb1', ↓ta_pb0', ta_lt, ta_nlt, ta_le, ta_nle, ta_eq, ta_neq, ta_nne, ta_ne, gs_id, a_gd01, a_gdT, or_true, true_or, bd_some, bW_sm, a_gd, a_ne, a_rd, Int.toNat_natCast, Int.toNat_add, Int.toNat_mul, Int.reduceToNat, a_gdp, a_cell, and_self, and_true, true_and, h7, ↓bd_eq (a_isPerson h7 ⟨i2, j2⟩ hP)]
        · unfold m_X9_roster; simp (disch := omega) only [↓reduceIte, ↓nm_eq, ↓jn_eq, ↓c_within, ↓c_isIn, ↓c_isScene, ↓c_isPlace, ↓c_isCue, ↓c_isDigit, ↓d_isScene, ↓d_isAny, ↓ta_pb1, ↓ta_pb0, ↓ta_pb1', ↓ta_pb0', ta_lt, ta_nlt, ta_le, ta_nle, ta_eq, ta_neq, ta_nne, ta_ne, gs_id, a_gd01, a_gdT, or_true, true_or, bd_some, bW_sm, a_gd, a_ne, a_rd, Int.toNat_natCast, Int.toNat_add, Int.toNat_mul, Int.reduceToNat, a_gdp, a_cell, and_self, and_true, true_and, h0, ↓bd_eq (b_isPerson h0 ⟨i2, j2⟩ hP)]
  · by_cases c3 : a2 = -1
    · refine no ⟨-1, ?_, ?_⟩
      · unfold m_X8_roster; simp (disch := omega) only [↓reduceIte, ↓nm_eq, ↓jn_eq, ↓c_within, ↓c_isIn, ↓c_isScene, ↓c_isPlace, ↓c_isCue, ↓c_isDigit, ↓d_isScene, ↓d_isAny, ↓ta_pb1, ↓ta_pb0, ↓ta_pb1', ↓ta_pb0', ta_lt, ta_nlt, ta_le, ta_nle, ta_eq, ta_neq, ta_nne, ta_ne, gs_id, a_gd01, a_gdT, or_true, true_or, bd_some, bW_sm, a_gd, a_ne, a_rd, Int.toNat_natCast, Int.toNat_add, Int.toNat_mul, Int.reduceToNat, a_gdp, a_cell, and_self, and_true, true_and, h7]
      · unfold m_X9_roster; simp (disch := omega) only [↓reduceIte, ↓nm_eq, ↓jn_eq, ↓c_within, ↓c_isIn, ↓c_isScene, ↓c_isPlace, ↓c_isCue, ↓c_isDigit, ↓d_isScene, ↓d_isAny, ↓ta_pb1, ↓ta_pb0, ↓ta_pb1', ↓ta_pb0', ta_lt, ta_nlt, ta_le, ta_nle, ta_eq, ta_neq, ta_nne, ta_ne, gs_id, a_gd01, a_gdT, or_true, true_or, bd_some, bW_sm, a_gd, a_ne, a_rd, Int.toNat_natCast, Int.toNat_add, Int.toNat_mul, Int.reduceToNat, a_gdp, a_cell, and_self, and_true, true_and, h0]
    · by_cases c4 : 0 ≤ a2 ∧ a2 < P
      · refine no ⟨-1, ?_, ?_⟩
        · unfold m_X8_roster; simp (disch := omega) only [↓reduceIte, ↓nm_eq, ↓jn_eq, ↓c_within, ↓c_isIn, ↓c_isScene, ↓c_isPlace, ↓c_isCue, ↓c_isDigit, ↓d_isScene, ↓d_isAny, ↓ta_pb1, ↓ta_pb0, ↓ta_pb1', ↓ta_pb0', ta_lt, ta_nlt, ta_le, ta_nle, ta_eq, ta_neq, ta_nne, ta_ne, gs_id, a_gd01, a_gdT, or_true, true_or, bd_some, bW_sm, a_gd, a_ne, a_rd, Int.toNat_natCast, Int.toNat_add, Int.toNat_mul, Int.reduceToNat, a_gdp, a_cell, and_self, and_true, true_and, h7]
        · unfold m_X9_roster; simp (disch := omega) only [↓reduceIte, ↓nm_eq, ↓jn_eq, ↓c_within, ↓c_isIn, ↓c_isScene, ↓c_isPlace, ↓c_isCue, ↓c_isDigit, ↓d_isScene, ↓d_isAny, ↓ta_pb1, ↓ta_pb0, ↓ta_pb1', ↓ta_pb0', ta_lt, ta_nlt, ta_le, ta_nle, ta_eq, ta_neq, ta_nne, ta_ne, gs_id, a_gd01, a_gdT, or_true, true_or, bd_some, bW_sm, a_gd, a_ne, a_rd, Int.toNat_natCast, Int.toNat_add, Int.toNat_mul, Int.reduceToNat, a_gdp, a_cell, and_self, and_true, true_and, h0, ↓bd_eq (b_isPerson h0 ⟨i2, j2⟩ hP)]
      · refine no ⟨-1, ?_, ?_⟩
        · unfold m_X8_roster; simp (disch := omega) only [↓reduceIte, ↓nm_eq, ↓jn_eq, ↓c_within, ↓c_isIn, ↓c_isScene, ↓c_isPlace, ↓c_isCue, ↓c_isDigit, ↓d_isScene, ↓d_isAny, ↓ta_pb1, ↓ta_pb0, ↓ta_pb1', ↓ta_pb0', ta_lt, ta_nlt, ta_le, ta_nle, ta_eq, ta_neq, ta_nne, ta_ne, gs_id, a_gd01, a_gdT, or_true, true_or, bd_some, bW_sm, a_gd, a_ne, a_rd, Int.toNat_natCast, Int.toNat_add, Int.toNat_mul, Int.reduceToNat, a_gdp, a_cell, and_self, and_true, true_and, h7]
        · unfold m_X9_roster; simp (disch := omega) only [↓reduceIte, ↓nm_eq, ↓jn_eq, ↓c_within, ↓c_isIn, ↓c_isScene, ↓c_isPlace, ↓c_isCue, ↓c_isDigit, ↓d_isScene, ↓d_isAny, ↓ta_pb1, ↓ta_pb0, ↓ta_pb1', ↓ta_pb0', ta_lt, ta_nlt, ta_le, ta_nle, ta_eq, ta_neq, ta_nne, ta_ne, gs_id, a_gd01, a_gdT, or_true, true_or, bd_some, bW_sm, a_gd, a_ne, a_rd, Int.toNat_natCast, Int.toNat_add, Int.toNat_mul, Int.reduceToNat, a_gdp, a_cell, and_self, and_true, true_and, h0, ↓bd_eq (b_isPerson h0 ⟨i2, j2⟩ hP)]
