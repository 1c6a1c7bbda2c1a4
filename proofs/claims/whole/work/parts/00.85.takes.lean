/-! the reference's takes; shortest, round, dead, far -/
theorem Rel_scr {n : Nat} {Mx Mm Mx' Mm' : g_M} (hr : Rel n Mx Mm) (hx : ∀ a, a ≤ 32 ∨ (35 ≤ a ∧ a ≤ 64) → Mx' a = Mx a) (hm : ∀ a, a ≤ 4 → Mm' a = Mm a) : Rel (n + 1) Mx' Mm' := by
  refine Rel_mk hr ⟨fun k hk => hx k (by omega), fun j hj => by rw [hx 23 (by omega)], by rw [hx 1 (by omega)]⟩ ⟨fun k hk => hm k (by omega), fun j hj => by rw [hm 0 (by omega)]⟩ (Rel_c hr (hm 0 (by omega))).1 (Rel_c hr (hm 0 (by omega))).2 ?_
  have H := Rel_RF hr
  unfold RF at H ⊢
  rw [hx 1 (by omega), hx 2 (by omega), hx 3 (by omega), hx 4 (by omega), hx 5 (by omega), hx 6 (by omega), hx 7 (by omega), hx 8 (by omega), hx 9 (by omega), hx 10 (by omega), hx 11 (by omega), hm 1 (by omega)]
  exact H
/-- the reference's next, as a place -/
def Nx (nx : Nat → Nat → Nat) (W : g_M) : Prop := ∀ V : g_M, V 1 = W 1 → ∀ s c : Nat, s ≤ 12 → c < 4 → m_X9_nextOf s c V = some (nx s c : Int)
theorem Nx_of {M W : g_M} (H : RF M W) : Nx (ND (M 2) (M 4)) W := by
  intro V hV s c hs hc
  obtain ⟨g1, g2⟩ := RF_lead H
  rw [q_nextOf (W := V) (nw := M 2) (td := M 4) (fun s hs => by rw [hV]; exact (g1 s hs).2.2) (fun i hi => by rw [hV]; exact (g2 i hi).2.2) hs (show c ≤ 3 by omega)]
  exact congrArg some (ND_cast (fun s hs => ⟨(g1 s hs).1, (g1 s hs).2.1⟩) (fun i hi => ⟨(g2 i hi).1, (g2 i hi).2.1⟩) hs hc).1
def Lv (nx : Nat → Nat → Nat) (to k : Nat) (M : g_M) : Prop := ∀ t, t ≤ 12 → M 10 t = (dl nx to k t : Int) ∨ (M 10 t = ((k + 1 : Nat) : Int) ∧ dl nx to k t = 1000000)
theorem dl_le (nx : Nat → Nat → Nat) (to : Nat) {k : Nat} (hk : k ≤ 12) (s : Nat) : dl nx to k s ≤ 12 ∨ dl nx to k s = 1000000 := by
  rcases dl_spec nx to k (by omega) s with ⟨h, -⟩ | ⟨h, -⟩
  · exact Or.inr h
  · exact Or.inl (by omega)
theorem q_lay51 {Q : g_M → Prop} {nx : Nat → Nat → Nat} {to : Nat} (hn : ∀ s c, s ≤ 12 → c < 4 → nx s c ≤ 12) {k : Nat} (hk : k < 12) (kc : g_M → Option g_M) (W : g_M) (hx : Nx nx W) {s : Nat} (hs : s ≤ 12) (hl : Lv nx to k W) (h0 : W 10 s = (dl nx to k s : Int)) (hq : ∀ V, (∀ a, a ≠ 10 → V a = W a) → Lv nx to k V → (∀ t, t ≤ 12 → t ≠ s → V 10 t = W 10 t) → V 10 s = (dl nx to (k + 1) s : Int) → Ok (kc V) Q) : Ok (m_X9_layTakes_L51 ((k + 1 : Nat) : Int) s kc g_fuel 0 W) Q := by
  have ds := dl_succ nx to k s
  have db := fun t => dl_le nx to (k := k) (by omega) t
  have hq' : ∀ V, (∀ a, a ≠ 10 → V a = W a) → Lv nx to k V → (∀ t, t ≤ 12 → t ≠ s → V 10 t = W 10 t) → V 10 s = ((if dl nx to k s = 1000000 ∧ (dl nx to k (nx s 0) = k ∨ dl nx to k (nx s 1) = k ∨ dl nx to k (nx s 2) = k ∨ dl nx to k (nx s 3) = k) then k + 1 else dl nx to k s : Nat) : Int) → Ok (kc V) Q := fun V a b c d => hq V a b c (by rw [ds]; exact d)
  clear hq ds
  unfold Lv at hl hq'
  generalize dl nx to k = g at hl h0 hq' db
  refine Ok_for 4 (fun f i M => m_X9_layTakes_L51 ((k + 1 : Nat) : Int) s kc f i M) (fun i V => (∀ a, a ≠ 10 → V a = W a) ∧ (∀ t, t ≤ 12 → V 10 t = (g t : Int) ∨ (V 10 t = ((k + 1 : Nat) : Int) ∧ g t = 1000000)) ∧ (∀ t, t ≤ 12 → t ≠ s → V 10 t = W 10 t) ∧ ((g s = 1000000 ∧ ∃ c, c < i ∧ g (nx s c) = k) → V 10 s = ((k + 1 : Nat) : Int)) ∧ (¬ (g s = 1000000 ∧ ∃ c, c < i ∧ g (nx s c) = k) → V 10 s = (g s : Int))) (fun f V h => ?_) (fun i f V hi h kk => ?_) 0 g_fuel W (by omega) (by unfold g_fuel; omega) ⟨fun a ha => rfl, hl, fun t ht hne => rfl, fun ⟨_, c, hc, _⟩ => by omega, fun _ => h0⟩
  · obtain ⟨v1, v2, v3, v4, v5⟩ := h
    show Ok (m_X9_layTakes_L51 _ s kc (f + 1) _ V) Q
    rw [m_X9_layTakes_L51]
    simp (disch := omega) only [↓reduceIte, ↓nm_eq, ↓jn_eq, ↓c_within, ↓c_isIn, ↓c_isScene, ↓c_isPlace, ↓c_isCue, ↓c_isDigit, ↓d_isScene, ↓d_isAny, ↓ta_pb1, ↓ta_pb0, ↓ta_pb1', ↓ta_pb0', ta_lt, ta_nlt, ta_le, ta_nle, ta_eq, ta_neq, ta_nne, ta_ne, gs_id, a_gd01, a_gdT, or_true, true_or, bd_some, bW_sm, a_gd, a_ne, a_rd, Int.toNat_natCast, Int.toNat_add, Int.toNat_mul, Int.reduceToNat, a_gdp, a_cell, and_self, and_true, true_and]
    refine hq' V v1 v2 v3 ?_
    by_cases c : g s = 1000000 ∧ ∃ c, c < 4 ∧ g (nx s c) = k
    · rw [if_pos ⟨c.1, four.1 c.2⟩]
      exact v4 c
    · rw [if_neg (fun z => c ⟨z.1, four.2 z.2⟩)]
      exact v5 c
  · obtain ⟨v1, v2, v3, v4, v5⟩ := h
    show Ok (m_X9_layTakes_L51 _ s kc (f + 1) _ V) Q
    have kk' : ∀ V', ((∀ a, a ≠ 10 → V' a = W a) ∧ (∀ t, t ≤ 12 → V' 10 t = (g t : Int) ∨ (V' 10 t = ((k + 1 : Nat) : Int) ∧ g t = 1000000)) ∧ (∀ t, t ≤ 12 → t ≠ s → V' 10 t = W 10 t) ∧ ((g s = 1000000 ∧ ∃ c, c < i + 1 ∧ g (nx s c) = k) → V' 10 s = ((k + 1 : Nat) : Int)) ∧ (¬ (g s = 1000000 ∧ ∃ c, c < i + 1 ∧ g (nx s c) = k) → V' 10 s = (g s : Int))) → Ok (m_X9_layTakes_L51 ((k + 1 : Nat) : Int) s kc f ((i : Int) + 1) V') Q := kk
    have hu := hn s i hs hi
    have hxx := hx V (v1 1 (by omega)) s i hs hi
    have bs := db s
    have bu := db (nx s i)
    have vs := v2 s hs
    have vu := v2 (nx s i) hu
    rw [m_X9_layTakes_L51]
    obtain ⟨u, eu⟩ : ∃ u, u = nx s i := ⟨_, rfl⟩
    rw [← eu] at hu hxx bu vu
    have no : V 10 s ≠ 1000000 ∨ V 10 u ≠ k → Ok (m_X9_layTakes_L51 ((k + 1 : Nat) : Int) s kc f ((i : Int) + 1) V) Q := by
      intro hh
      refine kk' V ⟨v1, v2, v3, fun z => ?_, fun z => ?_⟩
      · obtain ⟨z1, c, hc, z2⟩ := z
        by_cases e : c = i
        · subst e
          rw [← eu] at z2
          apply Classical.byContradiction
          intro y
          have w : ¬ (g s = 1000000 ∧ ∃ c', c' < c ∧ g (nx s c') = k) := fun w => y (v4 w)
          have q := v5 w
          clear w v4 v5
          rcases hh with h | h
          · omega
          · omega
        · exact v4 ⟨z1, c, by omega, z2⟩
      · exact v5 (fun ⟨z1, c, hc, z2⟩ => z ⟨z1, c, by omega, z2⟩)
    by_cases c1 : V 10 s = 1000000
    · by_cases c2 : V 10 u = k
      · have g1 : g s = 1000000 := by omega
        have g2 : g u = k := by omega
        simp (disch := omega) only [↓reduceIte, ↓nm_eq, ↓jn_eq, ↓c_within, ↓c_isIn, ↓c_isScene, ↓c_isPlace, ↓c_isCue, ↓c_isDigit, ↓d_isScene, ↓d_isAny, ↓ta_pb1, ↓ta_pb0, ↓ta_pb1', ↓ta_pb0', ta_lt, ta_nlt, ta_le, ta_nle, ta_eq, ta_neq, ta_nne, ta_ne, gs_id, a_gd01, a_gdT, or_true, true_or, bd_some, bW_sm, a_gd, a_ne, a_rd, Int.toNat_natCast, Int.toNat_add, Int.toNat_mul, Int.reduceToNat, a_gdp, a_cell, and_self, and_true, true_and, hxx, c2]
        refine kk' _ ⟨fun a ha => by rw [a_cell _ ha]; exact v1 a ha, fun t ht => ?_, fun t ht hne => by rw [a_ne _ (by omega)]; exact v3 t ht hne, fun _ => by rw [wr_at], fun z => absurd ⟨g1, i, by omega, by rw [← eu]; exact g2⟩ z⟩
        by_cases e : t = s
        · subst e; rw [wr_at]; exact Or.inr ⟨rfl, g1⟩
        · rw [a_ne _ (by omega)]; exact v2 t ht
      · simp (disch := omega) only [↓reduceIte, ↓nm_eq, ↓jn_eq, ↓c_within, ↓c_isIn, ↓c_isScene, ↓c_isPlace, ↓c_isCue, ↓c_isDigit, ↓d_isScene, ↓d_isAny, ↓ta_pb1, ↓ta_pb0, ↓ta_pb1', ↓ta_pb0', ta_lt, ta_nlt, ta_le, ta_nle, ta_eq, ta_neq, ta_nne, ta_ne, gs_id, a_gd01, a_gdT, or_true, true_or, bd_some, bW_sm, a_gd, a_ne, a_rd, Int.toNat_natCast, Int.toNat_add, Int.toNat_mul, Int.reduceToNat, a_gdp, a_cell, and_self, and_true, true_and, hxx]
        exact no (Or.inr c2)
    · simp (disch := omega) only [↓reduceIte, ↓nm_eq, ↓jn_eq, ↓c_within, ↓c_isIn, ↓c_isScene, ↓c_isPlace, ↓c_isCue, ↓c_isDigit, ↓d_isScene, ↓d_isAny, ↓ta_pb1, ↓ta_pb0, ↓ta_pb1', ↓ta_pb0', ta_lt, ta_nlt, ta_le, ta_nle, ta_eq, ta_neq, ta_nne, ta_ne, gs_id, a_gd01, a_gdT, or_true, true_or, bd_some, bW_sm, a_gd, a_ne, a_rd, Int.toNat_natCast, Int.toNat_add, Int.toNat_mul, Int.reduceToNat, a_gdp, a_cell, and_self, and_true, true_and]
      exact no (Or.inl c1)
theorem q_lay42 {Q : g_M → Prop} {nx : Nat → Nat → Nat} {to : Nat} (hn : ∀ s c, s ≤ 12 → c < 4 → nx s c ≤ 12) {k : Nat} (hk : k < 12) (kc : g_M → Option g_M) (W : g_M) (hx : Nx nx W) (h0 : ∀ s, s ≤ 12 → W 10 s = (dl nx to k s : Int)) (hq : ∀ V, (∀ a, a ≠ 10 → V a = W a) → (∀ s, s ≤ 12 → V 10 s = (dl nx to (k + 1) s : Int)) → Ok (kc V) Q) : Ok (m_X9_layTakes_L42 ((k + 1 : Nat) : Int) kc g_fuel 0 W) Q := by
  refine Ok_for 13 (fun f i M => m_X9_layTakes_L42 ((k + 1 : Nat) : Int) kc f i M) (fun i V => (∀ a, a ≠ 10 → V a = W a) ∧ Lv nx to k V ∧ (∀ t, t ≤ 12 → i ≤ t → V 10 t = (dl nx to k t : Int)) ∧ ∀ t, t ≤ 12 → t < i → V 10 t = (dl nx to (k + 1) t : Int)) (fun f V h => ?_) (fun i f V hi h kk => ?_) 0 g_fuel W (by omega) (by unfold g_fuel; omega) ⟨fun a ha => rfl, fun t ht => Or.inl (h0 t ht), fun t ht _ => h0 t ht, fun t ht h => by omega⟩
  · obtain ⟨v1, v2, v3, v4⟩ := h
    show Ok (m_X9_layTakes_L42 _ kc (f + 1) _ V) Q
    rw [m_X9_layTakes_L42]
    simp (disch := omega) only [↓reduceIte, ↓nm_eq, ↓jn_eq, ↓c_within, ↓c_isIn, ↓c_isScene, ↓c_isPlace, ↓c_isCue, ↓c_isDigit, ↓d_isScene, ↓d_isAny, ↓ta_pb1, ↓ta_pb0, ↓ta_pb1', ↓ta_pb0', ta_lt, ta_nlt, ta_le, ta_nle, ta_eq, ta_neq, ta_nne, ta_ne, gs_id, a_gd01, a_gdT, or_true, true_or, bd_some, bW_sm, a_gd, a_ne, a_rd, Int.toNat_natCast, Int.toNat_add, Int.toNat_mul, Int.reduceToNat, a_gdp, a_cell, and_self, and_true, true_and]
    exact hq V v1 (fun s hs => v4 s hs (by omega))
  · obtain ⟨v1, v2, v3, v4⟩ := h
    show Ok (m_X9_layTakes_L42 _ kc (f + 1) _ V) Q
    rw [m_X9_layTakes_L42]
    simp (disch := omega) only [↓reduceIte, ↓nm_eq, ↓jn_eq, ↓c_within, ↓c_isIn, ↓c_isScene, ↓c_isPlace, ↓c_isCue, ↓c_isDigit, ↓d_isScene, ↓d_isAny, ↓ta_pb1, ↓ta_pb0, ↓ta_pb1', ↓ta_pb0', ta_lt, ta_nlt, ta_le, ta_nle, ta_eq, ta_neq, ta_nne, ta_ne, gs_id, a_gd01, a_gdT, or_true, true_or, bd_some, bW_sm, a_gd, a_ne, a_rd, Int.toNat_natCast, Int.toNat_add, Int.toNat_mul, Int.reduceToNat, a_gdp, a_cell, and_self, and_true, true_and]
    refine q_lay51 hn hk _ V (fun U hU => hx U (hU.trans (v1 1 (by omega)))) (by omega) v2 (v3 i (by omega) (Nat.le_refl _)) (fun U u1 u2 u3 u4 => ?_)
    refine kk U ⟨fun a ha => (u1 a ha).trans (v1 a ha), u2, fun t ht h => ?_, fun t ht h => ?_⟩
    · rw [u3 t ht (by omega)]; exact v3 t ht (by omega)
    · by_cases e : t = i
      · subst e; exact u4
      · rw [u3 t ht e]; exact v4 t ht (by omega)
theorem q_lay {nx : Nat → Nat → Nat} (hn : ∀ s c, s ≤ 12 → c < 4 → nx s c ≤ 12) (W : g_M) (hx : Nx nx W) {to : Nat} (hto : to ≤ 12) : Ok (m_X9_layTakes to W) (fun V => (∀ a, a ≠ 10 → V a = W a) ∧ ∀ s, s ≤ 12 → V 10 s = (dst nx to s : Int)) := by
  unfold m_X9_layTakes
  have key : ∀ k : g_M → Option g_M, m_X9_layTakes_L2 to k g_fuel 0 W = k (cpF W 10 0 (fun s => if s = to then 0 else 1000000) 13) := by
    intro k
    refine cp_loop (fun f i M => m_X9_layTakes_L2 to k f i M) 10 0 13 (fun s => if s = to then 0 else 1000000) W _ (fun f => ?_) (fun i f hi => ?_) g_fuel (by unfold g_fuel; omega)
    · show m_X9_layTakes_L2 to k (f + 1) _ _ = _
      rw [m_X9_layTakes_L2]
      simp (disch := omega) only [↓reduceIte, ↓nm_eq, ↓jn_eq, ↓c_within, ↓c_isIn, ↓c_isScene, ↓c_isPlace, ↓c_isCue, ↓c_isDigit, ↓d_isScene, ↓d_isAny, ↓ta_pb1, ↓ta_pb0, ↓ta_pb1', ↓ta_pb0', ta_lt, ta_nlt, ta_le, ta_nle, ta_eq, ta_neq, ta_nne, ta_ne, gs_id, a_gd01, a_gdT, or_true, true_or, bd_some, bW_sm, a_gd, a_ne, a_rd, Int.toNat_natCast, Int.toNat_add, Int.toNat_mul, Int.reduceToNat, a_gdp, a_cell, and_self, and_true, true_and]
    · show m_X9_layTakes_L2 to k (f + 1) _ _ = m_X9_layTakes_L2 to k f _ _
      rw [m_X9_layTakes_L2]
      by_cases e : i = to
      · rw [if_pos e]
        simp (disch := omega) only [↓reduceIte, ↓nm_eq, ↓jn_eq, ↓c_within, ↓c_isIn, ↓c_isScene, ↓c_isPlace, ↓c_isCue, ↓c_isDigit, ↓d_isScene, ↓d_isAny, ↓ta_pb1, ↓ta_pb0, ↓ta_pb1', ↓ta_pb0', ta_lt, ta_nlt, ta_le, ta_nle, ta_eq, ta_neq, ta_nne, ta_ne, gs_id, a_gd01, a_gdT, or_true, true_or, bd_some, bW_sm, a_gd, a_ne, a_rd, Int.toNat_natCast, Int.toNat_add, Int.toNat_mul, Int.reduceToNat, a_gdp, a_cell, and_self, and_true, true_and, Nat.zero_add]
      · rw [if_neg e]
        simp (disch := omega) only [↓reduceIte, ↓nm_eq, ↓jn_eq, ↓c_within, ↓c_isIn, ↓c_isScene, ↓c_isPlace, ↓c_isCue, ↓c_isDigit, ↓d_isScene, ↓d_isAny, ↓ta_pb1, ↓ta_pb0, ↓ta_pb1', ↓ta_pb0', ta_lt, ta_nlt, ta_le, ta_nle, ta_eq, ta_neq, ta_nne, ta_ne, gs_id, a_gd01, a_gdT, or_true, true_or, bd_some, bW_sm, a_gd, a_ne, a_rd, Int.toNat_natCast, Int.toNat_add, Int.toNat_mul, Int.reduceToNat, a_gdp, a_cell, and_self, and_true, true_and, Nat.zero_add]
  rw [nm_eq, key, nm_eq]
  have h := Ok_for (Q := fun V => (∀ a, a ≠ 10 → V a = W a) ∧ ∀ s, s ≤ 12 → V 10 s = (dst nx to s : Int)) 13 (fun f i M => m_X9_layTakes_L34 f i M) (fun i V => 1 ≤ i ∧ (∀ a, a ≠ 10 → V a = W a) ∧ ∀ s, s ≤ 12 → V 10 s = (dl nx to (i - 1) s : Int)) (fun f V h => ?_) (fun i f V hi h kk => ?_) 1 g_fuel (cpF W 10 0 (fun s => if s = to then 0 else 1000000) 13) (by omega) (by unfold g_fuel; omega) ⟨by omega, fun a ha => cpF_cell _ _ ha, fun s hs => ?_⟩
  · exact h
  · obtain ⟨v0, v1, v2⟩ := h
    show Ok (m_X9_layTakes_L34 (f + 1) _ V) _
    rw [m_X9_layTakes_L34]
    simp (disch := omega) only [↓reduceIte, ↓nm_eq, ↓jn_eq, ↓c_within, ↓c_isIn, ↓c_isScene, ↓c_isPlace, ↓c_isCue, ↓c_isDigit, ↓d_isScene, ↓d_isAny, ↓ta_pb1, ↓ta_pb0, ↓ta_pb1', ↓ta_pb0', ta_lt, ta_nlt, ta_le, ta_nle, ta_eq, ta_neq, ta_nne, ta_ne, gs_id, a_gd01, a_gdT, or_true, true_or, bd_some, bW_sm, a_gd, a_ne, a_rd, Int.toNat_natCast, Int.toNat_add, Int.toNat_mul, Int.reduceToNat, a_gdp, a_cell, and_self, and_true, true_and]
    exact Ok_some ⟨v1, v2⟩
  · obtain ⟨v0, v1, v2⟩ := h
    show Ok (m_X9_layTakes_L34 (f + 1) _ V) _
    rw [m_X9_layTakes_L34]
    obtain ⟨k, rfl⟩ : ∃ k, i = k + 1 := ⟨i - 1, by omega⟩
    rw [if_neg (by rw [gs_id (by omega) (by omega), gs_id (by omega) (by omega)]; omega), nm_eq]
    refine q_lay42 hn (k := k) (by omega) _ V (fun U hU => hx U (hU.trans (v1 1 (by omega)))) v2 (fun U u1 u2 => ?_)
    rw [nm_eq]
    exact kk U ⟨by omega, fun a ha => (u1 a ha).trans (v1 a ha), u2⟩
  · rw [cpF_in _ _ (by omega), Nat.sub_zero]
    show _ = ((if s = to then 0 else 1000000 : Nat) : Int)
    by_cases e : s = to
    · rw [if_pos e, if_pos e]; rfl
    · rw [if_neg e, if_neg e]; rfl
theorem ND_of {M W : g_M} (H : RF M W) : (∀ s : Nat, s < 12 → 0 ≤ M 2 (16 + s) ∧ M 2 (16 + s) ≤ 12) ∧ (∀ i : Nat, i < 48 → 0 ≤ M 4 i ∧ M 4 i ≤ 12) ∧ ∀ s c, s ≤ 12 → c < 4 → ND (M 2) (M 4) s c ≤ 12 := by
  obtain ⟨g1, g2⟩ := RF_lead H
  have h1 : ∀ s : Nat, s < 12 → 0 ≤ M 2 (16 + s) ∧ M 2 (16 + s) ≤ 12 := fun s hs => ⟨(g1 s hs).1, (g1 s hs).2.1⟩
  have h2 : ∀ i : Nat, i < 48 → 0 ≤ M 4 i ∧ M 4 i ≤ 12 := fun i hi => ⟨(g2 i hi).1, (g2 i hi).2.1⟩
  exact ⟨h1, h2, fun s c hs hc => (ND_cast h1 h2 hs hc).2⟩
/-- both sides, measured to a place: the distances f, 1000000 being never -/
theorem both_dst {M W : g_M} (H : RF M W) {to : Nat} (hto : to ≤ 12) : ∃ (M' W' : g_M) (nx : Nat → Nat → Nat) (f : Nat → Nat), m_X0_measureTo to M = some M' ∧ m_X9_layTakes to W = some W' ∧ (∀ a, a ≠ 68 → a ≠ 69 → M' a = M a) ∧ (∀ a, a ≠ 10 → W' a = W a) ∧ (∀ s c, s ≤ 12 → c < 4 → nx s c ≤ 12) ∧ Sv nx M' ∧ Nx nx W ∧ (∀ s, s ≤ 12 → f s ≤ 12 ∨ f s = 1000000) ∧ (∀ s, s ≤ 12 → M' 69 s = if f s = 1000000 then 1000 else (f s : Int)) ∧ (∀ s, s ≤ 12 → W' 10 s = (f s : Int)) ∧ ∀ s d, s ≤ 12 → f s = d + 1 → d < 12 → ∃ c, c < 4 ∧ f (nx s c) = d := by
  obtain ⟨h1, h2, hn⟩ := ND_of H
  have hx := Nx_of H
  obtain ⟨M', e1, m1, m2, m3⟩ := p_measure h1 h2 hto
  obtain ⟨W', e2, w1, w2⟩ := q_lay hn W hx hto
  refine ⟨M', W', ND (M 2) (M 4), dst (ND (M 2) (M 4)) to, e1, e2, m1, w1, hn, m2, hx, fun s hs => ?_, m3, w2, fun s d hs hd h12 => dst_step hto hn hs hd h12⟩
  have sp := dst_spec (s := s) hto hn hs
  generalize dst (ND (M 2) (M 4)) to s = v at sp
  rcases sp with ⟨h, -⟩ | ⟨h, -⟩
  · exact Or.inr h
  · exact Or.inl h
theorem scr_of {n : Nat} {Mx Mm M' W' : g_M} (hr : Rel n Mx Mm) (h1 : ∀ a, a ≠ 68 → a ≠ 69 → M' a = Mx a) (h2 : ∀ a, a ≠ 10 → W' a = Mm a) : Rel (n + 1) M' W' := Rel_scr hr (fun a ha => h1 a (by omega) (by omega)) (fun a ha => h2 a (by omega))
