/-! what tells -/
theorem or_bit2 {x k : Nat} (hx : x < 32) (hk : k < 5) : g_or (x : Int) (g_shl 1 (k : Int)) = ((x ||| 2 ^ k : Nat) : Int) ∧ x ||| 2 ^ k < 32 := by
  have h1 : 2 ^ k < 32 := by
    have : k = 0 ∨ k = 1 ∨ k = 2 ∨ k = 3 ∨ k = 4 := by omega
    rcases this with rfl | rfl | rfl | rfl | rfl <;> decide
  have h2 : x ||| 2 ^ k < 2 ^ 5 := Nat.or_lt_two_pow hx h1
  exact ⟨by rw [shl1 (by omega), or_nat (by omega) (by omega)], h2⟩
def srt (p : Nat → Prop) [DecidablePred p] (kk : Nat → Nat) : Nat → Nat
  | 0 => 0
  | n + 1 => if p n then srt p kk n ||| 2 ^ kk n else srt p kk n
theorem srt_t {p : Nat → Prop} [DecidablePred p] {kk : Nat → Nat} {n : Nat} (h : p n) : srt p kk (n + 1) = srt p kk n ||| 2 ^ kk n := if_pos h
theorem srt_f {p : Nat → Prop} [DecidablePred p] {kk : Nat → Nat} {n : Nat} (h : ¬ p n) : srt p kk (n + 1) = srt p kk n := if_neg h
theorem srt_lt {p : Nat → Prop} [DecidablePred p] {kk : Nat → Nat} : ∀ n, (∀ i, i < n → kk i < 5) → srt p kk n < 32 := by
  intro n
  induction n with
  | zero => intro h; exact (by decide : 0 < 32)
  | succ n ih =>
    intro h
    have a := ih (fun i hi => h i (by omega))
    by_cases c : p n
    · rw [srt_t c]; exact (or_bit2 a (h n (by omega))).2
    · rw [srt_f c]; exact a
def tlF (g : Nat → Int) : Nat → Int × Int
  | 0 => (-1, 0)
  | n + 1 => if (tlF g n).2 < g n then ((n : Int), g n) else tlF g n
theorem tlF_t {g : Nat → Int} {n : Nat} (h : (tlF g n).2 < g n) : tlF g (n + 1) = ((n : Int), g n) := if_pos h
theorem tlF_f {g : Nat → Int} {n : Nat} (h : ¬ (tlF g n).2 < g n) : tlF g (n + 1) = tlF g n := if_neg h
theorem tlF_b {g : Nat → Int} (h : ∀ n, n < 4 → 0 ≤ g n ∧ g n ≤ 12) : ∀ n, n ≤ 4 → (-1 ≤ (tlF g n).1 ∧ (tlF g n).1 ≤ 4) ∧ 0 ≤ (tlF g n).2 ∧ (tlF g n).2 ≤ 12 := by
  intro n
  induction n with
  | zero => intro _; exact ⟨⟨by show (-1 : Int) ≤ -1; omega, by show (-1 : Int) ≤ 4; omega⟩, by show (0 : Int) ≤ 0; omega, by show (0 : Int) ≤ 12; omega⟩
  | succ n ih =>
    intro hn
    have a := ih (by omega)
    by_cases c : (tlF g n).2 < g n
    · rw [tlF_t c]
      have := h n (by omega)
      dsimp only
      omega
    · rw [tlF_f c]; exact a
/-- the kind of where a place leads to; the end's own -/
def kdF (nw td kd : Nat → Int) (c s : Nat) : Nat := if nxF nw td s c = 12 then 4 else (kd (nxF nw td s c).toNat).toNat
theorem kdF_lt {nw td kd : Nat → Int} (h1 : ∀ s : Nat, s < 12 → 0 ≤ nw (16 + s) ∧ nw (16 + s) ≤ 12) (h2 : ∀ i : Nat, i < 48 → 0 ≤ td i ∧ td i ≤ 12) (hk : ∀ s : Nat, s < 12 → 0 ≤ kd s ∧ kd s ≤ 3) {s c : Nat} (hs : s ≤ 12) (hc : c ≤ 3) : kdF nw td kd c s < 5 := by
  unfold kdF
  obtain ⟨u, hu, hu2⟩ := nxF_nat h1 h2 hs hc
  rw [hu, Int.toNat_natCast]
  by_cases e : (u : Int) = 12
  · rw [if_pos e]; omega
  · rw [if_neg e]
    have := hk u (by omega)
    omega
theorem p_sorts {M : g_M} {v : Nat} (hv : M 1 13 = v) (hl : v < 4096) (h1 : ∀ s : Nat, s < 12 → 0 ≤ M 2 (16 + s) ∧ M 2 (16 + s) ≤ 12) (h2 : ∀ i : Nat, i < 48 → 0 ≤ M 4 i ∧ M 4 i ≤ 12) (hk : ∀ s : Nat, s < 12 → 0 ≤ M 5 s ∧ M 5 s ≤ 3) {c : Nat} (hc : c ≤ 3) : m_X6_sortsBehind c M = some (pc (srt (fun s => v >>> s % 2 = 1) (kdF (M 2) (M 4) (M 5) c) 12)) := by
  unfold m_X6_sortsBehind
  rw [nm_eq, nm_eq]
  have lt : ∀ n, n ≤ 12 → srt (fun s => v >>> s % 2 = 1) (kdF (M 2) (M 4) (M 5) c) n < 32 := fun n hn => srt_lt n (fun i hi => kdF_lt h1 h2 hk (by omega) hc)
  refine loop_F (fun f i a => m_X6_sortsBehind_L4 c M (fun x31 => (m_J6_bitCount_0f7a4 x31).bind (fun x32 => some x32)) f a i) 12 (fun i => ((srt (fun s => v >>> s % 2 = 1) (kdF (M 2) (M 4) (M 5) c) i : Nat) : Int)) _ (fun f => ?_) (fun i f hi => ?_) 12 0 g_fuel (by omega) (by unfold g_fuel; omega)
  · show m_X6_sortsBehind_L4 c M _ (f + 1) _ _ = _
    rw [m_X6_sortsBehind_L4]
    have := lt 12 (by omega)
    simp (disch := omega) only [↓reduceIte, ↓nm_eq, ↓jn_eq, ↓c_within, ↓c_isIn, ↓c_isScene, ↓c_isPlace, ↓c_isCue, ↓c_isDigit, ↓d_isScene, ↓d_isAny, ↓ta_pb1, ↓ta_pb0, ↓ta_pb1', ↓ta_pb0', ta_lt, ta_nlt, ta_le, ta_nle, ta_eq, ta_neq, ta_nne, ta_ne, gs_id, a_gd01, a_gdT, or_true, true_or, bd_some, bW_sm, a_gd, a_ne, a_rd, Int.toNat_natCast, Int.toNat_add, Int.toNat_mul, Int.reduceToNat, a_gdp, a_cell, and_self, and_true, true_and, p_bitCount (v := srt (fun s => v >>> s % 2 = 1) (kdF (M 2) (M 4) (M 5) c) 12) (by omega)]
  · show m_X6_sortsBehind_L4 c M _ (f + 1) _ _ = m_X6_sortsBehind_L4 c M _ f ((srt (fun s => v >>> s % 2 = 1) (kdF (M 2) (M 4) (M 5) c) (i + 1) : Nat) : Int) _
    rw [m_X6_sortsBehind_L4]
    have hm := (p_mayBe (M := M) (s := i) hv (by omega) (by omega)).1
    have l0 := lt i (by omega)
    have k0 := kdF_lt h1 h2 hk (s := i) (c := c) (by omega) hc
    by_cases d : v >>> i % 2 = 1
    · rw [srt_t (p := fun s => v >>> s % 2 = 1) d]
      obtain ⟨o1, o2⟩ := or_bit2 l0 k0
      have e0 : kdF (M 2) (M 4) (M 5) c i = if nxF (M 2) (M 4) i c = 12 then 4 else (M 5 (nxF (M 2) (M 4) i c).toNat).toNat := rfl
      rw [← o1]
      generalize srt (fun s => v >>> s % 2 = 1) (kdF (M 2) (M 4) (M 5) c) i = A
      obtain ⟨u, hu, hu2⟩ := nxF_nat h1 h2 (s := i) (c := c) (by omega) hc
      rw [hu, Int.toNat_natCast] at e0
      by_cases e : u = 12
      · rw [if_pos (by omega)] at e0
        rw [e0]
        simp (disch := omega) only [↓reduceIte, ↓nm_eq, ↓jn_eq, ↓c_within, ↓c_isIn, ↓c_isScene, ↓c_isPlace, ↓c_isCue, ↓c_isDigit, ↓d_isScene, ↓d_isAny, ↓ta_pb1, ↓ta_pb0, ↓ta_pb1', ↓ta_pb0', ta_lt, ta_nlt, ta_le, ta_nle, ta_eq, ta_neq, ta_nne, ta_ne, gs_id, a_gd01, a_gdT, or_true, true_or, bd_some, bW_sm, a_gd, a_ne, a_rd, Int.toNat_natCast, Int.toNat_add, Int.toNat_mul, Int.reduceToNat, a_gdp, a_cell, and_self, and_true, true_and, ↓bd_eq hm, p_after (M := M) (s := i) (c := c) (by omega) hc, hu, Int.natCast_add, Int.natCast_one]
        rfl
      · rw [if_neg (by omega)] at e0
        rw [e0]
        have h5 := hk u (by omega)
        simp (disch := omega) only [↓reduceIte, ↓nm_eq, ↓jn_eq, ↓c_within, ↓c_isIn, ↓c_isScene, ↓c_isPlace, ↓c_isCue, ↓c_isDigit, ↓d_isScene, ↓d_isAny, ↓ta_pb1, ↓ta_pb0, ↓ta_pb1', ↓ta_pb0', ta_lt, ta_nlt, ta_le, ta_nle, ta_eq, ta_neq, ta_nne, ta_ne, gs_id, a_gd01, a_gdT, or_true, true_or, bd_some, bW_sm, a_gd, a_ne, a_rd, Int.toNat_natCast, Int.toNat_add, Int.toNat_mul, Int.reduceToNat, a_gdp, a_cell, and_self, and_true, true_and, ↓bd_eq hm, p_after (M := M) (s := i) (c := c) (by omega) hc, hu, Int.natCast_add, Int.natCast_one, Int.toNat_of_nonneg]
    · rw [srt_f (p := fun s => v >>> s % 2 = 1) d]
      generalize srt (fun s => v >>> s % 2 = 1) (kdF (M 2) (M 4) (M 5) c) i = A
      simp (disch := omega) only [↓reduceIte, ↓nm_eq, ↓jn_eq, ↓c_within, ↓c_isIn, ↓c_isScene, ↓c_isPlace, ↓c_isCue, ↓c_isDigit, ↓d_isScene, ↓d_isAny, ↓ta_pb1, ↓ta_pb0, ↓ta_pb1', ↓ta_pb0', ta_lt, ta_nlt, ta_le, ta_nle, ta_eq, ta_neq, ta_nne, ta_ne, gs_id, a_gd01, a_gdT, or_true, true_or, bd_some, bW_sm, a_gd, a_ne, a_rd, Int.toNat_natCast, Int.toNat_add, Int.toNat_mul, Int.reduceToNat, a_gdp, a_cell, and_self, and_true, true_and, ↓bd_eq hm, Int.natCast_add, Int.natCast_one]
theorem q_kindAt {W : g_M} {kd : Nat → Int} (hk : ∀ s : Nat, s < 12 → 0 ≤ kd s ∧ kd s ≤ 3 ∧ W 1 (114 + s) = kd s) {u : Nat} (hu : u ≤ 12) : m_X9_kindAt u W = some (if u = 12 then 4 else kd u) := by
  unfold m_X9_kindAt
  by_cases e : u = 12
  · subst e
    rw [if_pos rfl]
    simp (disch := omega) only [↓reduceIte, ↓nm_eq, ↓jn_eq, ↓c_within, ↓c_isIn, ↓c_isScene, ↓c_isPlace, ↓c_isCue, ↓c_isDigit, ↓d_isScene, ↓d_isAny, ↓ta_pb1, ↓ta_pb0, ↓ta_pb1', ↓ta_pb0', ta_lt, ta_nlt, ta_le, ta_nle, ta_eq, ta_neq, ta_nne, ta_ne, gs_id, a_gd01, a_gdT, or_true, true_or, bd_some, bW_sm, a_gd, a_ne, a_rd, Int.toNat_natCast, Int.toNat_add, Int.toNat_mul, Int.reduceToNat, a_gdp, a_cell, and_self, and_true, true_and]
  · rw [if_neg e]
    have := (hk u (by omega)).2.2
    simp (disch := omega) only [↓reduceIte, ↓nm_eq, ↓jn_eq, ↓c_within, ↓c_isIn, ↓c_isScene, ↓c_isPlace, ↓c_isCue, ↓c_isDigit, ↓d_isScene, ↓d_isAny, ↓ta_pb1, ↓ta_pb0, ↓ta_pb1', ↓ta_pb0', ta_lt, ta_nlt, ta_le, ta_nle, ta_eq, ta_neq, ta_nne, ta_ne, gs_id, a_gd01, a_gdT, or_true, true_or, bd_some, bW_sm, a_gd, a_ne, a_rd, Int.toNat_natCast, Int.toNat_add, Int.toNat_mul, Int.reduceToNat, a_gdp, a_cell, and_self, and_true, true_and, this]
theorem q_tells17 (x20 x21 : Int) (k : Int → Option Int) {W : g_M} {nw td kd : Nat → Int} {v : Nat} (hv : W 1 142 = v) (hl : v < 4096) (h1 : ∀ s : Nat, s < 12 → 0 ≤ nw (16 + s) ∧ nw (16 + s) ≤ 12 ∧ W 1 (22 + s) = nw (16 + s)) (h2 : ∀ i : Nat, i < 48 → 0 ≤ td i ∧ td i ≤ 12 ∧ W 1 (66 + i) = td i) (hk : ∀ s : Nat, s < 12 → 0 ≤ kd s ∧ kd s ≤ 3 ∧ W 1 (114 + s) = kd s) {c : Nat} (hc : c ≤ 3) : m_X9_tells_L17 x20 x21 c W k g_fuel 0 0 = k ((srt (fun s => v >>> s % 2 = 1) (kdF nw td kd c) 12 : Nat) : Int) := by
  have h1' : ∀ s : Nat, s < 12 → 0 ≤ nw (16 + s) ∧ nw (16 + s) ≤ 12 := fun s hs => ⟨(h1 s hs).1, (h1 s hs).2.1⟩
  have h2' : ∀ i : Nat, i < 48 → 0 ≤ td i ∧ td i ≤ 12 := fun i hi => ⟨(h2 i hi).1, (h2 i hi).2.1⟩
  have hk' : ∀ s : Nat, s < 12 → 0 ≤ kd s ∧ kd s ≤ 3 := fun s hs => ⟨(hk s hs).1, (hk s hs).2.1⟩
  have lt : ∀ n, n ≤ 12 → srt (fun s => v >>> s % 2 = 1) (kdF nw td kd c) n < 32 := fun n hn => srt_lt n (fun i hi => kdF_lt h1' h2' hk' (by omega) hc)
  refine loop_F (fun f i a => m_X9_tells_L17 x20 x21 c W k f a i) 12 (fun i => ((srt (fun s => v >>> s % 2 = 1) (kdF nw td kd c) i : Nat) : Int)) _ (fun f => ?_) (fun i f hi => ?_) 12 0 g_fuel (by omega) (by unfold g_fuel; omega)
  · show m_X9_tells_L17 x20 x21 c W k (f + 1) _ _ = _
    rw [m_X9_tells_L17]
    simp (disch := omega) only [↓reduceIte, ↓nm_eq, ↓jn_eq, ↓c_within, ↓c_isIn, ↓c_isScene, ↓c_isPlace, ↓c_isCue, ↓c_isDigit, ↓d_isScene, ↓d_isAny, ↓ta_pb1, ↓ta_pb0, ↓ta_pb1', ↓ta_pb0', ta_lt, ta_nlt, ta_le, ta_nle, ta_eq, ta_neq, ta_nne, ta_ne, gs_id, a_gd01, a_gdT, or_true, true_or, bd_some, bW_sm, a_gd, a_ne, a_rd, Int.toNat_natCast, Int.toNat_add, Int.toNat_mul, Int.reduceToNat, a_gdp, a_cell, and_self, and_true, true_and]
  · show m_X9_tells_L17 x20 x21 c W k (f + 1) _ _ = m_X9_tells_L17 x20 x21 c W k f ((srt (fun s => v >>> s % 2 = 1) (kdF nw td kd c) (i + 1) : Nat) : Int) _
    rw [m_X9_tells_L17]
    have hm : m_X9_has v i = some (pb (v >>> i % 2 = 1)) := (p_mayBe (M := fun _ _ => (v : Int)) (s := i) (v := v) rfl (by omega) (by omega)).2
    have l0 := lt i (by omega)
    have k0 := kdF_lt h1' h2' hk' (s := i) (c := c) (by omega) hc
    by_cases d : v >>> i % 2 = 1
    · rw [srt_t (p := fun s => v >>> s % 2 = 1) d]
      obtain ⟨o1, o2⟩ := or_bit2 l0 k0
      have e0 : kdF nw td kd c i = if nxF nw td i c = 12 then 4 else (kd (nxF nw td i c).toNat).toNat := rfl
      rw [← o1]
      generalize srt (fun s => v >>> s % 2 = 1) (kdF nw td kd c) i = A
      obtain ⟨u, hu, hu2⟩ := nxF_nat h1' h2' (s := i) (c := c) (by omega) hc
      rw [hu, Int.toNat_natCast] at e0
      have qk := q_kindAt hk hu2
      by_cases e : u = 12
      · rw [if_pos (by omega)] at e0
        rw [if_pos e] at qk
        rw [e0]
        simp (disch := omega) only [↓reduceIte, ↓nm_eq, ↓jn_eq, ↓c_within, ↓c_isIn, ↓c_isScene, ↓c_isPlace, ↓c_isCue, ↓c_isDigit, ↓d_isScene, ↓d_isAny, ↓ta_pb1, ↓ta_pb0, ↓ta_pb1', ↓ta_pb0', ta_lt, ta_nlt, ta_le, ta_nle, ta_eq, ta_neq, ta_nne, ta_ne, gs_id, a_gd01, a_gdT, or_true, true_or, bd_some, bW_sm, a_gd, a_ne, a_rd, Int.toNat_natCast, Int.toNat_add, Int.toNat_mul, Int.reduceToNat, a_gdp, a_cell, and_self, and_true, true_and, hv, ↓bd_eq hm, q_nextOf (W := W) (fun s hs => (h1 s hs).2.2) (fun i hi => (h2 i hi).2.2) (s := i) (c := c) (by omega) hc, hu, qk, Int.natCast_add, Int.natCast_one]
        rfl
      · rw [if_neg (by omega)] at e0
        rw [if_neg e] at qk
        rw [e0]
        have h5 := hk' u (by omega)
        simp (disch := omega) only [↓reduceIte, ↓nm_eq, ↓jn_eq, ↓c_within, ↓c_isIn, ↓c_isScene, ↓c_isPlace, ↓c_isCue, ↓c_isDigit, ↓d_isScene, ↓d_isAny, ↓ta_pb1, ↓ta_pb0, ↓ta_pb1', ↓ta_pb0', ta_lt, ta_nlt, ta_le, ta_nle, ta_eq, ta_neq, ta_nne, ta_ne, gs_id, a_gd01, a_gdT, or_true, true_or, bd_some, bW_sm, a_gd, a_ne, a_rd, Int.toNat_natCast, Int.toNat_add, Int.toNat_mul, Int.reduceToNat, a_gdp, a_cell, and_self, and_true, true_and, hv, ↓bd_eq hm, q_nextOf (W := W) (fun s hs => (h1 s hs).2.2) (fun i hi => (h2 i hi).2.2) (s := i) (c := c) (by omega) hc, hu, qk, Int.natCast_add, Int.natCast_one, Int.toNat_of_nonneg]
    · rw [srt_f (p := fun s => v >>> s % 2 = 1) d]
      have hz := or_0 (x := srt (fun s => v >>> s % 2 = 1) (kdF nw td kd c) i) (by omega)
      generalize srt (fun s => v >>> s % 2 = 1) (kdF nw td kd c) i = A at hz ⊢
      simp (disch := omega) only [↓reduceIte, ↓nm_eq, ↓jn_eq, ↓c_within, ↓c_isIn, ↓c_isScene, ↓c_isPlace, ↓c_isCue, ↓c_isDigit, ↓d_isScene, ↓d_isAny, ↓ta_pb1, ↓ta_pb0, ↓ta_pb1', ↓ta_pb0', ta_lt, ta_nlt, ta_le, ta_nle, ta_eq, ta_neq, ta_nne, ta_ne, gs_id, a_gd01, a_gdT, or_true, true_or, bd_some, bW_sm, a_gd, a_ne, a_rd, Int.toNat_natCast, Int.toNat_add, Int.toNat_mul, Int.reduceToNat, a_gdp, a_cell, and_self, and_true, true_and, hv, ↓bd_eq hm, hz, Int.natCast_add, Int.natCast_one]
theorem st_34 : x_step_34 Rel := by
  intro n Mx Mm hr hn
  have H := Rel_RF hr
  obtain ⟨v, hl, hv1, hv2⟩ := RF_kn H
  obtain ⟨g1, g2⟩ := RF_lead H
  have hk := RF_kd H
  have h1' : ∀ s : Nat, s < 12 → 0 ≤ Mx 2 (16 + s) ∧ Mx 2 (16 + s) ≤ 12 := fun s hs => ⟨(g1 s hs).1, (g1 s hs).2.1⟩
  have h2' : ∀ i : Nat, i < 48 → 0 ≤ Mx 4 i ∧ Mx 4 i ≤ 12 := fun i hi => ⟨(g2 i hi).1, (g2 i hi).2.1⟩
  have hk' : ∀ s : Nat, s < 12 → 0 ≤ Mx 5 s ∧ Mx 5 s ≤ 3 := fun s hs => ⟨(hk s hs).1, (hk s hs).2.1⟩
  obtain ⟨g, hg⟩ : ∃ g : Nat → Int, g = fun c => pc (srt (fun s => v >>> s % 2 = 1) (kdF (Mx 2) (Mx 4) (Mx 5) c) 12) := ⟨_, rfl⟩
  have gb : ∀ c, c < 4 → 0 ≤ g c ∧ g c ≤ 12 := by
    intro c hc
    rw [hg]
    dsimp only
    unfold pc
    omega
  have tb := tlF_b gb
  have k1 : m_X8_tells Mx = some (tlF g 4).1 := by
    unfold m_X8_tells m_X6_tellingCue
    rw [nm_eq, nm_eq, nm_eq]
    have h := loop_F (fun f i (a : Int × Int) => m_X6_tellingCue_L6 Mx f a.1 a.2 i) 4 (fun i => tlF g i) (some (tlF g 4).1) (fun f => ?_) (fun i f hi => ?_) 4 0 g_fuel (by omega) (by unfold g_fuel; omega)
    · rw [show m_X6_tellingCue_L6 Mx g_fuel (-1) 0 0 = some (tlF g 4).1 from h]
      rfl
    · show m_X6_tellingCue_L6 Mx (f + 1) _ _ _ = _
      rw [m_X6_tellingCue_L6]
      simp (disch := omega) only [↓reduceIte, ↓nm_eq, ↓jn_eq, ↓c_within, ↓c_isIn, ↓c_isScene, ↓c_isPlace, ↓c_isCue, ↓c_isDigit, ↓d_isScene, ↓d_isAny, ↓ta_pb1, ↓ta_pb0, ↓ta_pb1', ↓ta_pb0', ta_lt, ta_nlt, ta_le, ta_nle, ta_eq, ta_neq, ta_nne, ta_ne, gs_id, a_gd01, a_gdT, or_true, true_or, bd_some, bW_sm, a_gd, a_ne, a_rd, Int.toNat_natCast, Int.toNat_add, Int.toNat_mul, Int.reduceToNat, a_gdp, a_cell, and_self, and_true, true_and]
    · show m_X6_tellingCue_L6 Mx (f + 1) _ _ _ = m_X6_tellingCue_L6 Mx f (tlF g (i + 1)).1 (tlF g (i + 1)).2 _
      rw [m_X6_tellingCue_L6]
      have t := tb i (by omega)
      have t2 := gb i hi
      have es : m_X6_sortsBehind i Mx = some (g i) := by rw [hg]; exact p_sorts hv1 hl h1' h2' hk' (by omega)
      by_cases c : (tlF g i).2 < g i
      · rw [tlF_t c]
        generalize tlF g i = A at c t ⊢
        simp (disch := omega) only [↓reduceIte, ↓nm_eq, ↓jn_eq, ↓c_within, ↓c_isIn, ↓c_isScene, ↓c_isPlace, ↓c_isCue, ↓c_isDigit, ↓d_isScene, ↓d_isAny, ↓ta_pb1, ↓ta_pb0, ↓ta_pb1', ↓ta_pb0', ta_lt, ta_nlt, ta_le, ta_nle, ta_eq, ta_neq, ta_nne, ta_ne, gs_id, a_gd01, a_gdT, or_true, true_or, bd_some, bW_sm, a_gd, a_ne, a_rd, Int.toNat_natCast, Int.toNat_add, Int.toNat_mul, Int.reduceToNat, a_gdp, a_cell, and_self, and_true, true_and, ↓bd_eq es, Int.natCast_add, Int.natCast_one]
      · rw [tlF_f c]
        generalize tlF g i = A at c t ⊢
        simp (disch := omega) only [↓reduceIte, ↓nm_eq, ↓jn_eq, ↓c_within, ↓c_isIn, ↓c_isScene, ↓c_isPlace, ↓c_isCue, ↓c_isDigit, ↓d_isScene, ↓d_isAny, ↓ta_pb1, ↓ta_pb0, ↓ta_pb1', ↓ta_pb0', ta_lt, ta_nlt, ta_le, ta_nle, ta_eq, ta_neq, ta_nne, ta_ne, gs_id, a_gd01, a_gdT, or_true, true_or, bd_some, bW_sm, a_gd, a_ne, a_rd, Int.toNat_natCast, Int.toNat_add, Int.toNat_mul, Int.reduceToNat, a_gdp, a_cell, and_self, and_true, true_and, ↓bd_eq es, Int.natCast_add, Int.natCast_one]
  have k2 : m_X9_tells Mm = some (tlF g 4).1 := by
    unfold m_X9_tells
    rw [nm_eq, nm_eq, nm_eq]
    refine loop_F (fun f i (a : Int × Int) => m_X9_tells_L6 Mm f a.1 a.2 i) 4 (fun i => tlF g i) (some (tlF g 4).1) (fun f => ?_) (fun i f hi => ?_) 4 0 g_fuel (by omega) (by unfold g_fuel; omega)
    · show m_X9_tells_L6 Mm (f + 1) _ _ _ = _
      rw [m_X9_tells_L6]
      simp (disch := omega) only [↓reduceIte, ↓nm_eq, ↓jn_eq, ↓c_within, ↓c_isIn, ↓c_isScene, ↓c_isPlace, ↓c_isCue, ↓c_isDigit, ↓d_isScene, ↓d_isAny, ↓ta_pb1, ↓ta_pb0, ↓ta_pb1', ↓ta_pb0', ta_lt, ta_nlt, ta_le, ta_nle, ta_eq, ta_neq, ta_nne, ta_ne, gs_id, a_gd01, a_gdT, or_true, true_or, bd_some, bW_sm, a_gd, a_ne, a_rd, Int.toNat_natCast, Int.toNat_add, Int.toNat_mul, Int.reduceToNat, a_gdp, a_cell, and_self, and_true, true_and]
    · show m_X9_tells_L6 Mm (f + 1) _ _ _ = m_X9_tells_L6 Mm f (tlF g (i + 1)).1 (tlF g (i + 1)).2 _
      rw [m_X9_tells_L6]
      have t := tb i (by omega)
      have t2 := gb i hi
      have lt := srt_lt (p := fun s => v >>> s % 2 = 1) (kk := kdF (Mx 2) (Mx 4) (Mx 5) i) 12 (fun s hs => kdF_lt h1' h2' hk' (by omega) (by omega))
      have es : m_X9_bits ((srt (fun s => v >>> s % 2 = 1) (kdF (Mx 2) (Mx 4) (Mx 5) i) 12 : Nat) : Int) = some (g i) := by rw [hg]; exact q_bits (by omega)
      rw [if_neg (by rw [gs_id (by omega) (by omega), gs_id (by omega) (by omega)]; omega), nm_eq, nm_eq, q_tells17 _ _ _ hv2 hl g1 g2 hk (by omega)]
      generalize ((srt (fun s => v >>> s % 2 = 1) (kdF (Mx 2) (Mx 4) (Mx 5) i) 12 : Nat) : Int) = B at es ⊢
      by_cases c : (tlF g i).2 < g i
      · rw [tlF_t c]
        generalize tlF g i = A at c t ⊢
        simp (disch := omega) only [↓reduceIte, ↓nm_eq, ↓jn_eq, ↓c_within, ↓c_isIn, ↓c_isScene, ↓c_isPlace, ↓c_isCue, ↓c_isDigit, ↓d_isScene, ↓d_isAny, ↓ta_pb1, ↓ta_pb0, ↓ta_pb1', ↓ta_pb0', ta_lt, ta_nlt, ta_le, ta_nle, ta_eq, ta_neq, ta_nne, ta_ne, gs_id, a_gd01, a_gdT, or_true, true_or, bd_some, bW_sm, a_gd, a_ne, a_rd, Int.toNat_natCast, Int.toNat_add, Int.toNat_mul, Int.reduceToNat, a_gdp, a_cell, and_self, and_true, true_and, ↓bd_eq es, Int.natCast_add, Int.natCast_one]
      · rw [tlF_f c]
        generalize tlF g i = A at c t ⊢
        simp (disch := omega) only [↓reduceIte, ↓nm_eq, ↓jn_eq, ↓c_within, ↓c_isIn, ↓c_isScene, ↓c_isPlace, ↓c_isCue, ↓c_isDigit, ↓d_isScene, ↓d_isAny, ↓ta_pb1, ↓ta_pb0, ↓ta_pb1', ↓ta_pb0', ta_lt, ta_nlt, ta_le, ta_nle, ta_eq, ta_neq, ta_nne, ta_ne, gs_id, a_gd01, a_gdT, or_true, true_or, bd_some, bW_sm, a_gd, a_ne, a_rd, Int.toNat_natCast, Int.toNat_add, Int.toNat_mul, Int.reduceToNat, a_gdp, a_cell, and_self, and_true, true_and, ↓bd_eq es, Int.natCast_add, Int.natCast_one]
  exact ⟨_, _, Mx, Mm, ⟨k1, rfl⟩, ⟨k2, rfl⟩, rfl, st_same hr⟩
