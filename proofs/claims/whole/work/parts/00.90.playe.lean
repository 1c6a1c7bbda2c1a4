/-! soonest, best -/
theorem pl_b {nx : Nat → Nat → Nat} (hn : ∀ s c, s ≤ 12 → c < 4 → nx s c ≤ 12) {k : Nat} (hk : k < 1000) {x : Nat} (hx : x < 26) : pl nx k x ≤ k ∨ pl nx k x = 1000000 := (pl_spec hn k hk x hx).1
theorem q_lay46 {Q : g_M → Prop} {nx : Nat → Nat → Nat} (hn : ∀ s c, s ≤ 12 → c < 4 → nx s c ≤ 12) {k : Nat} (hk : k < 26) (kc : g_M → Option g_M) (W : g_M) (hx : Nx nx W) (h0 : ∀ x, x < 26 → W 11 x = (pl nx k x : Int)) (hq : ∀ V, (∀ a, a ≠ 11 → V a = W a) → (∀ x, x < 26 → V 11 x = (pl nx (k + 1) x : Int)) → Ok (kc V) Q) : Ok (m_X9_layPlay_L46 ((k + 1 : Nat) : Int) kc g_fuel 0 W) Q := by
  have ps := fun x => pl_succ nx k x
  have pb := fun x hx => pl_b hn (k := k) (by omega) (x := x) hx
  generalize pl nx (k + 1) = g' at ps hq
  generalize pl nx k = g at ps pb h0
  refine Ok_for 26 (fun f i M => m_X9_layPlay_L46 ((k + 1 : Nat) : Int) kc f i M) (fun i V => (∀ a, a ≠ 11 → V a = W a) ∧ (∀ x, x < 26 → i ≤ x → V 11 x = (g x : Int)) ∧ ∀ x, x < 26 → x < i → V 11 x = (g' x : Int)) (fun f V h => ?_) (fun i f V hi h kk => ?_) 0 g_fuel W (by omega) (by unfold g_fuel; omega) ⟨fun a ha => rfl, fun x hx _ => h0 x hx, fun x hx h => by omega⟩
  · obtain ⟨v1, v2, v3⟩ := h
    show Ok (m_X9_layPlay_L46 _ kc (f + 1) _ V) Q
    rw [m_X9_layPlay_L46]
    simp (disch := omega) only [↓reduceIte, ↓nm_eq, ↓jn_eq, ↓c_within, ↓c_isIn, ↓c_isScene, ↓c_isPlace, ↓c_isCue, ↓c_isDigit, ↓d_isScene, ↓d_isAny, ↓ta_pb1, ↓ta_pb0, ↓ta_pb1', ↓ta_pb0', ta_lt, ta_nlt, ta_le, ta_nle, ta_eq, ta_neq, ta_nne, ta_ne, gs_id, a_gd01, a_gdT, or_true, true_or, bd_some, bW_sm, a_gd, a_ne, a_rd, Int.toNat_natCast, Int.toNat_add, Int.toNat_mul, Int.reduceToNat, a_gdp, a_cell, and_self, and_true, true_and]
    exact hq V v1 (fun x hx => v3 x hx (by omega))
  · obtain ⟨v1, v2, v3⟩ := h
    have kk' : ∀ V', ((∀ a, a ≠ 11 → V' a = W a) ∧ (∀ x, x < 26 → i + 1 ≤ x → V' 11 x = (g x : Int)) ∧ ∀ x, x < 26 → x < i + 1 → V' 11 x = (g' x : Int)) → Ok (m_X9_layPlay_L46 ((k + 1 : Nat) : Int) kc f ((i : Int) + 1) V') Q := kk
    show Ok (m_X9_layPlay_L46 _ kc (f + 1) _ V) Q
    have vi := v2 i hi (Nat.le_refl _)
    have psi := ps i
    have pbi := pb i hi
    have dis : ∀ x, x < 26 → (V 11 x).toNat = g x ∨ ((V 11 x).toNat = k + 1 ∧ g x = 1000000) := by
      intro x hx
      by_cases c : x < i
      · rw [v3 x hx c, Int.toNat_natCast, ps x]
        by_cases d : g x = 1000000 ∧ vP nx g x = k + 1
        · rw [if_pos d]; exact Or.inr ⟨rfl, d.1⟩
        · rw [if_neg d]; exact Or.inl rfl
      · rw [v2 x hx (by omega), Int.toNat_natCast]; exact Or.inl rfl
    have gw : GW (fun x => (V 11 x).toNat) V := by
      intro x hx
      by_cases c : x < i
      · have e := v3 x hx c
        have d := dis x hx
        have p := pb x hx
        dsimp only
        omega
      · have e := v2 x hx (by omega)
        have p := pb x hx
        dsimp only
        omega
    have cg := vP_cg hn (G := fun x => (V 11 x).toNat) (g := g) (k := k) (by omega) dis pb hi
    have stay : g' i = g i → Ok (m_X9_layPlay_L46 ((k + 1 : Nat) : Int) kc f ((i : Int) + 1) V) Q := by
      intro e
      refine kk' V ⟨v1, fun x hx h => v2 x hx (by omega), fun x hx h => ?_⟩
      by_cases c : x = i
      · subst c; rw [e]; exact vi
      · exact v3 x hx (by omega)
    have move : g' i = k + 1 → Ok (m_X9_layPlay_L46 ((k + 1 : Nat) : Int) kc f ((i : Int) + 1) (g_wr V 11 i ((k + 1 : Nat) : Int))) Q := by
      intro e
      refine kk' _ ⟨fun a ha => by rw [a_cell _ ha]; exact v1 a ha, fun x hx h => by rw [a_ne _ (by omega)]; exact v2 x hx (by omega), fun x hx h => ?_⟩
      by_cases c : x = i
      · subst c; rw [e, wr_at]
      · rw [a_ne _ (by omega)]; exact v3 x hx (by omega)
    clear kk kk' v2 v3 dis
    have hV : V 1 = W 1 := by rw [v1 1 (by omega)]
    rw [m_X9_layPlay_L46]
    by_cases c : g i = 1000000
    · have vle := vP_le hn (G := fun x => (V 11 x).toNat) (fun x hx => (gw x hx).2) hi
      by_cases c13 : i < 13
      · have sf := q_soonestFrom hn hx hV gw (s := i) (by omega)
        generalize vP nx (fun x => (V 11 x).toNat) i = v at cg vle sf
        by_cases d : v = k + 1
        · rw [if_pos ⟨c, cg.1 d⟩] at psi
          simp (disch := omega) only [↓reduceIte, ↓nm_eq, ↓jn_eq, ↓c_within, ↓c_isIn, ↓c_isScene, ↓c_isPlace, ↓c_isCue, ↓c_isDigit, ↓d_isScene, ↓d_isAny, ↓ta_pb1, ↓ta_pb0, ↓ta_pb1', ↓ta_pb0', ta_lt, ta_nlt, ta_le, ta_nle, ta_eq, ta_neq, ta_nne, ta_ne, gs_id, a_gd01, a_gdT, or_true, true_or, bd_some, bW_sm, a_gd, a_ne, a_rd, Int.toNat_natCast, Int.toNat_add, Int.toNat_mul, Int.reduceToNat, a_gdp, a_cell, and_self, and_true, true_and, sf]
          exact move psi
        · rw [if_neg (fun z => d (cg.2 z.2))] at psi
          simp (disch := omega) only [↓reduceIte, ↓nm_eq, ↓jn_eq, ↓c_within, ↓c_isIn, ↓c_isScene, ↓c_isPlace, ↓c_isCue, ↓c_isDigit, ↓d_isScene, ↓d_isAny, ↓ta_pb1, ↓ta_pb0, ↓ta_pb1', ↓ta_pb0', ta_lt, ta_nlt, ta_le, ta_nle, ta_eq, ta_neq, ta_nne, ta_ne, gs_id, a_gd01, a_gdT, or_true, true_or, bd_some, bW_sm, a_gd, a_ne, a_rd, Int.toNat_natCast, Int.toNat_add, Int.toNat_mul, Int.reduceToNat, a_gdp, a_cell, and_self, and_true, true_and, sf]
          exact stay psi
      · obtain ⟨s, rfl⟩ : ∃ s, i = 13 + s := ⟨i - 13, by omega⟩
        have sf := q_latestFrom hn hx hV gw (s := s) (by omega)
        have es : (((13 + s : Nat) : Int) - 13) = (s : Int) := by omega
        generalize vP nx (fun x => (V 11 x).toNat) (13 + s) = v at cg vle sf
        by_cases d : v = k + 1
        · rw [if_pos ⟨c, cg.1 d⟩] at psi
          simp (disch := omega) only [↓reduceIte, ↓nm_eq, ↓jn_eq, ↓c_within, ↓c_isIn, ↓c_isScene, ↓c_isPlace, ↓c_isCue, ↓c_isDigit, ↓d_isScene, ↓d_isAny, ↓ta_pb1, ↓ta_pb0, ↓ta_pb1', ↓ta_pb0', ta_lt, ta_nlt, ta_le, ta_nle, ta_eq, ta_neq, ta_nne, ta_ne, gs_id, a_gd01, a_gdT, or_true, true_or, bd_some, bW_sm, a_gd, a_ne, a_rd, Int.toNat_natCast, Int.toNat_add, Int.toNat_mul, Int.reduceToNat, a_gdp, a_cell, and_self, and_true, true_and, es, sf]
          exact move psi
        · rw [if_neg (fun z => d (cg.2 z.2))] at psi
          simp (disch := omega) only [↓reduceIte, ↓nm_eq, ↓jn_eq, ↓c_within, ↓c_isIn, ↓c_isScene, ↓c_isPlace, ↓c_isCue, ↓c_isDigit, ↓d_isScene, ↓d_isAny, ↓ta_pb1, ↓ta_pb0, ↓ta_pb1', ↓ta_pb0', ta_lt, ta_nlt, ta_le, ta_nle, ta_eq, ta_neq, ta_nne, ta_ne, gs_id, a_gd01, a_gdT, or_true, true_or, bd_some, bW_sm, a_gd, a_ne, a_rd, Int.toNat_natCast, Int.toNat_add, Int.toNat_mul, Int.reduceToNat, a_gdp, a_cell, and_self, and_true, true_and, es, sf]
          exact stay psi
    · rw [if_neg (fun z => c z.1)] at psi
      simp (disch := omega) only [↓reduceIte, ↓nm_eq, ↓jn_eq, ↓c_within, ↓c_isIn, ↓c_isScene, ↓c_isPlace, ↓c_isCue, ↓c_isDigit, ↓d_isScene, ↓d_isAny, ↓ta_pb1, ↓ta_pb0, ↓ta_pb1', ↓ta_pb0', ta_lt, ta_nlt, ta_le, ta_nle, ta_eq, ta_neq, ta_nne, ta_ne, gs_id, a_gd01, a_gdT, or_true, true_or, bd_some, bW_sm, a_gd, a_ne, a_rd, Int.toNat_natCast, Int.toNat_add, Int.toNat_mul, Int.reduceToNat, a_gdp, a_cell, and_self, and_true, true_and]
      exact stay psi
theorem q_layPlay {nx : Nat → Nat → Nat} (hn : ∀ s c, s ≤ 12 → c < 4 → nx s c ≤ 12) (W : g_M) (hx : Nx nx W) : Ok (m_X9_layPlay W) (fun V => (∀ a, a ≠ 11 → V a = W a) ∧ ∀ x, x < 26 → V 11 x = (psn nx x : Int)) := by
  unfold m_X9_layPlay
  have key : ∀ k : g_M → Option g_M, m_X9_layPlay_L2 k g_fuel 0 W = k (cpF W 11 0 (fun x => if x % 13 = 12 then 0 else 1000000) 26) := by
    intro k
    refine cp_loop (fun f i M => m_X9_layPlay_L2 k f i M) 11 0 26 (fun x => if x % 13 = 12 then 0 else 1000000) W _ (fun f => ?_) (fun i f hi => ?_) g_fuel (by unfold g_fuel; omega)
    · show m_X9_layPlay_L2 k (f + 1) _ _ = _
      rw [m_X9_layPlay_L2]
      simp (disch := omega) only [↓reduceIte, ↓nm_eq, ↓jn_eq, ↓c_within, ↓c_isIn, ↓c_isScene, ↓c_isPlace, ↓c_isCue, ↓c_isDigit, ↓d_isScene, ↓d_isAny, ↓ta_pb1, ↓ta_pb0, ↓ta_pb1', ↓ta_pb0', ta_lt, ta_nlt, ta_le, ta_nle, ta_eq, ta_neq, ta_nne, ta_ne, gs_id, a_gd01, a_gdT, or_true, true_or, bd_some, bW_sm, a_gd, a_ne, a_rd, Int.toNat_natCast, Int.toNat_add, Int.toNat_mul, Int.reduceToNat, a_gdp, a_cell, and_self, and_true, true_and]
    · show m_X9_layPlay_L2 k (f + 1) _ _ = m_X9_layPlay_L2 k f _ _
      rw [m_X9_layPlay_L2]
      by_cases e : i % 13 = 12
      · rw [if_pos e]
        simp (disch := omega) only [↓reduceIte, ↓nm_eq, ↓jn_eq, ↓c_within, ↓c_isIn, ↓c_isScene, ↓c_isPlace, ↓c_isCue, ↓c_isDigit, ↓d_isScene, ↓d_isAny, ↓ta_pb1, ↓ta_pb0, ↓ta_pb1', ↓ta_pb0', ta_lt, ta_nlt, ta_le, ta_nle, ta_eq, ta_neq, ta_nne, ta_ne, gs_id, a_gd01, a_gdT, or_true, true_or, bd_some, bW_sm, a_gd, a_ne, a_rd, Int.toNat_natCast, Int.toNat_add, Int.toNat_mul, Int.reduceToNat, a_gdp, a_cell, and_self, and_true, true_and, g_rem_nn, Nat.zero_add]
      · rw [if_neg e]
        simp (disch := omega) only [↓reduceIte, ↓nm_eq, ↓jn_eq, ↓c_within, ↓c_isIn, ↓c_isScene, ↓c_isPlace, ↓c_isCue, ↓c_isDigit, ↓d_isScene, ↓d_isAny, ↓ta_pb1, ↓ta_pb0, ↓ta_pb1', ↓ta_pb0', ta_lt, ta_nlt, ta_le, ta_nle, ta_eq, ta_neq, ta_nne, ta_ne, gs_id, a_gd01, a_gdT, or_true, true_or, bd_some, bW_sm, a_gd, a_ne, a_rd, Int.toNat_natCast, Int.toNat_add, Int.toNat_mul, Int.reduceToNat, a_gdp, a_cell, and_self, and_true, true_and, g_rem_nn, Nat.zero_add]
  rw [nm_eq, key, nm_eq]
  have h := Ok_for (Q := fun V => (∀ a, a ≠ 11 → V a = W a) ∧ ∀ x, x < 26 → V 11 x = (psn nx x : Int)) 27 (fun f i M => m_X9_layPlay_L38 f i M) (fun i V => 1 ≤ i ∧ (∀ a, a ≠ 11 → V a = W a) ∧ ∀ x, x < 26 → V 11 x = (pl nx (i - 1) x : Int)) (fun f V h => ?_) (fun i f V hi h kk => ?_) 1 g_fuel (cpF W 11 0 (fun x => if x % 13 = 12 then 0 else 1000000) 26) (by omega) (by unfold g_fuel; omega) ⟨by omega, fun a ha => cpF_cell _ _ ha, fun x hx => ?_⟩
  · exact h
  · obtain ⟨v0, v1, v2⟩ := h
    show Ok (m_X9_layPlay_L38 (f + 1) _ V) _
    rw [m_X9_layPlay_L38]
    simp (disch := omega) only [↓reduceIte, ↓nm_eq, ↓jn_eq, ↓c_within, ↓c_isIn, ↓c_isScene, ↓c_isPlace, ↓c_isCue, ↓c_isDigit, ↓d_isScene, ↓d_isAny, ↓ta_pb1, ↓ta_pb0, ↓ta_pb1', ↓ta_pb0', ta_lt, ta_nlt, ta_le, ta_nle, ta_eq, ta_neq, ta_nne, ta_ne, gs_id, a_gd01, a_gdT, or_true, true_or, bd_some, bW_sm, a_gd, a_ne, a_rd, Int.toNat_natCast, Int.toNat_add, Int.toNat_mul, Int.reduceToNat, a_gdp, a_cell, and_self, and_true, true_and]
    exact Ok_some ⟨v1, v2⟩
  · obtain ⟨v0, v1, v2⟩ := h
    show Ok (m_X9_layPlay_L38 (f + 1) _ V) _
    rw [m_X9_layPlay_L38]
    obtain ⟨k, rfl⟩ : ∃ k, i = k + 1 := ⟨i - 1, by omega⟩
    rw [if_neg (by rw [gs_id (by omega) (by omega), gs_id (by omega) (by omega)]; omega), nm_eq]
    refine q_lay46 hn (k := k) (by omega) _ V (fun U hU => hx U (hU.trans (by rw [v1 1 (by omega)]))) v2 (fun U u1 u2 => ?_)
    rw [nm_eq]
    exact kk U ⟨by omega, fun a ha => (u1 a ha).trans (v1 a ha), u2⟩
  · rw [cpF_in _ _ (by omega), Nat.sub_zero]
    show _ = ((if x % 13 = 12 then 0 else 1000000 : Nat) : Int)
    by_cases e : x % 13 = 12
    · rw [if_pos e, if_pos e]; rfl
    · rw [if_neg e, if_neg e]; rfl
theorem both_play {M W : g_M} (H : RF M W) : ∃ (M' W' : g_M) (nx : Nat → Nat → Nat) (f : Nat → Nat), m_X0_playOut M = some M' ∧ m_X9_layPlay W = some W' ∧ (∀ a, a ≠ 68 → a ≠ 70 → a ≠ 71 → M' a = M a) ∧ (∀ a, a ≠ 11 → W' a = W a) ∧ (∀ s c, s ≤ 12 → c < 4 → nx s c ≤ 12) ∧ Sv nx M' ∧ Nx nx W ∧ (∀ x, x < 26 → f x ≤ 26 ∨ f x = 1000000) ∧ (∀ x, x < 26 → PV M' x = if f x = 1000000 then 1000 else (f x : Int)) ∧ ∀ x, x < 26 → W' 11 x = (f x : Int) := by
  obtain ⟨h1, h2, hn⟩ := ND_of H
  have hx := Nx_of H
  obtain ⟨M', e1, m1, m2, m3⟩ := p_play h1 h2
  obtain ⟨W', e2, w1, w2⟩ := q_layPlay hn W hx
  refine ⟨M', W', ND (M 2) (M 4), psn (ND (M 2) (M 4)), e1, e2, m1, w1, hn, m2, hx, fun x hx => ?_, m3, w2⟩
  have sp := psn_spec (x := x) hn hx
  generalize psn (ND (M 2) (M 4)) x = v at sp
  rcases sp with ⟨h, -⟩ | ⟨h, -⟩
  · exact Or.inr h
  · exact Or.inl h
theorem st_23 : x_step_23 Rel := by
  intro n Mx Mm hr hn a1 z h1 hz
  obtain ⟨i1, j1⟩ := h1
  by_cases c1 : 0 ≤ a1 ∧ a1 ≤ 12
  rotate_left
  · refine ⟨-2, -2, Mx, Mm, ?_, ?_, rfl, st_same hr⟩
    · unfold m_X8_soonest; simp (disch := omega) only [↓reduceIte, ↓nm_eq, ↓jn_eq, ↓c_within, ↓c_isIn, ↓c_isScene, ↓c_isPlace, ↓c_isCue, ↓c_isDigit, ↓d_isScene, ↓d_isAny, ↓ta_pb1, ↓ta_pb0, ↓ta_pb1', ↓ta_pb0', ta_lt, ta_nlt, ta_le, ta_nle, ta_eq, ta_neq, ta_nne, ta_ne, gs_id, a_gd01, a_gdT, or_true, true_or, bd_some, bW_sm, a_gd, a_ne, a_rd, Int.toNat_natCast, Int.toNat_add, Int.toNat_mul, Int.reduceToNat, a_gdp, a_cell, and_self, and_true, true_and]
    · unfold m_X9_soonest; simp (disch := omega) only [↓reduceIte, ↓nm_eq, ↓jn_eq, ↓c_within, ↓c_isIn, ↓c_isScene, ↓c_isPlace, ↓c_isCue, ↓c_isDigit, ↓d_isScene, ↓d_isAny, ↓ta_pb1, ↓ta_pb0, ↓ta_pb1', ↓ta_pb0', ta_lt, ta_nlt, ta_le, ta_nle, ta_eq, ta_neq, ta_nne, ta_ne, gs_id, a_gd01, a_gdT, or_true, true_or, bd_some, bW_sm, a_gd, a_ne, a_rd, Int.toNat_natCast, Int.toNat_add, Int.toNat_mul, Int.reduceToNat, a_gdp, a_cell, and_self, and_true, true_and]
  obtain ⟨s, rfl⟩ : ∃ s : Nat, a1 = s := ⟨a1.toNat, by omega⟩
  obtain ⟨M', W', nx, f, e1, e2, m1, w1, hn, hsv, hx, hf, m3, w3⟩ := both_play (Rel_RF hr)
  have yes : (∃ r, m_X8_soonest s z Mx = some (r, M') ∧ m_X9_soonest s z Mm = some (r, W')) → ∃ (r r' : Int) (Mx' Mm' : g_M), (m_X8_soonest s z Mx = some (r, Mx')) ∧ (m_X9_soonest s z Mm = some (r', Mm')) ∧ gs r = gs r' ∧ Rel (n + 1) Mx' Mm' := fun ⟨r, e1, e2⟩ => ⟨r, r, M', W', e1, e2, rfl, Rel_scr hr (fun a ha => m1 a (by omega) (by omega) (by omega)) (fun a ha => w1 a (by omega))⟩
  rcases hz with rfl | rfl
  · have e3 := m3 (13 + s) (by omega)
    rw [PV_1] at e3
    have e4 := w3 (13 + s) (by omega)
    have e5 := hf (13 + s) (by omega)
    by_cases d : f (13 + s) = 1000000
    · rw [if_pos d] at e3
      refine yes ⟨-1, ?_, ?_⟩
      · unfold m_X8_soonest m_X0_playLength; simp (disch := omega) only [↓reduceIte, ↓nm_eq, ↓jn_eq, ↓c_within, ↓c_isIn, ↓c_isScene, ↓c_isPlace, ↓c_isCue, ↓c_isDigit, ↓d_isScene, ↓d_isAny, ↓ta_pb1, ↓ta_pb0, ↓ta_pb1', ↓ta_pb0', ta_lt, ta_nlt, ta_le, ta_nle, ta_eq, ta_neq, ta_nne, ta_ne, gs_id, a_gd01, a_gdT, or_true, true_or, bd_some, bW_sm, a_gd, a_ne, a_rd, Int.toNat_natCast, Int.toNat_add, Int.toNat_mul, Int.reduceToNat, a_gdp, a_cell, and_self, and_true, true_and, e1, e3]
      · unfold m_X9_soonest; simp (disch := omega) only [↓reduceIte, ↓nm_eq, ↓jn_eq, ↓c_within, ↓c_isIn, ↓c_isScene, ↓c_isPlace, ↓c_isCue, ↓c_isDigit, ↓d_isScene, ↓d_isAny, ↓ta_pb1, ↓ta_pb0, ↓ta_pb1', ↓ta_pb0', ta_lt, ta_nlt, ta_le, ta_nle, ta_eq, ta_neq, ta_nne, ta_ne, gs_id, a_gd01, a_gdT, or_true, true_or, bd_some, bW_sm, a_gd, a_ne, a_rd, Int.toNat_natCast, Int.toNat_add, Int.toNat_mul, Int.reduceToNat, a_gdp, a_cell, and_self, and_true, true_and, e2, e4]
    · rw [if_neg d] at e3
      refine yes ⟨f (13 + s), ?_, ?_⟩
      · unfold m_X8_soonest m_X0_playLength; simp (disch := omega) only [↓reduceIte, ↓nm_eq, ↓jn_eq, ↓c_within, ↓c_isIn, ↓c_isScene, ↓c_isPlace, ↓c_isCue, ↓c_isDigit, ↓d_isScene, ↓d_isAny, ↓ta_pb1, ↓ta_pb0, ↓ta_pb1', ↓ta_pb0', ta_lt, ta_nlt, ta_le, ta_nle, ta_eq, ta_neq, ta_nne, ta_ne, gs_id, a_gd01, a_gdT, or_true, true_or, bd_some, bW_sm, a_gd, a_ne, a_rd, Int.toNat_natCast, Int.toNat_add, Int.toNat_mul, Int.reduceToNat, a_gdp, a_cell, and_self, and_true, true_and, e1, e3]
      · unfold m_X9_soonest; simp (disch := omega) only [↓reduceIte, ↓nm_eq, ↓jn_eq, ↓c_within, ↓c_isIn, ↓c_isScene, ↓c_isPlace, ↓c_isCue, ↓c_isDigit, ↓d_isScene, ↓d_isAny, ↓ta_pb1, ↓ta_pb0, ↓ta_pb1', ↓ta_pb0', ta_lt, ta_nlt, ta_le, ta_nle, ta_eq, ta_neq, ta_nne, ta_ne, gs_id, a_gd01, a_gdT, or_true, true_or, bd_some, bW_sm, a_gd, a_ne, a_rd, Int.toNat_natCast, Int.toNat_add, Int.toNat_mul, Int.reduceToNat, a_gdp, a_cell, and_self, and_true, true_and, e2, e4]
  · have e3 := m3 s (by omega)
    rw [PV_0 (by omega)] at e3
    have e4 := w3 s (by omega)
    have e5 := hf s (by omega)
    by_cases d : f s = 1000000
    · rw [if_pos d] at e3
      refine yes ⟨-1, ?_, ?_⟩
      · unfold m_X8_soonest m_X0_playLength; simp (disch := omega) only [↓reduceIte, ↓nm_eq, ↓jn_eq, ↓c_within, ↓c_isIn, ↓c_isScene, ↓c_isPlace, ↓c_isCue, ↓c_isDigit, ↓d_isScene, ↓d_isAny, ↓ta_pb1, ↓ta_pb0, ↓ta_pb1', ↓ta_pb0', ta_lt, ta_nlt, ta_le, ta_nle, ta_eq, ta_neq, ta_nne, ta_ne, gs_id, a_gd01, a_gdT, or_true, true_or, bd_some, bW_sm, a_gd, a_ne, a_rd, Int.toNat_natCast, Int.toNat_add, Int.toNat_mul, Int.reduceToNat, a_gdp, a_cell, and_self, and_true, true_and, e1, e3]
      · unfold m_X9_soonest; simp (disch := omega) only [↓reduceIte, ↓nm_eq, ↓jn_eq, ↓c_within, ↓c_isIn, ↓c_isScene, ↓c_isPlace, ↓c_isCue, ↓c_isDigit, ↓d_isScene, ↓d_isAny, ↓ta_pb1, ↓ta_pb0, ↓ta_pb1', ↓ta_pb0', ta_lt, ta_nlt, ta_le, ta_nle, ta_eq, ta_neq, ta_nne, ta_ne, gs_id, a_gd01, a_gdT, or_true, true_or, bd_some, bW_sm, a_gd, a_ne, a_rd, Int.toNat_natCast, Int.toNat_add, Int.toNat_mul, Int.reduceToNat, a_gdp, a_cell, and_self, and_true, true_and, e2, e4]
    · rw [if_neg d] at e3
      refine yes ⟨f s, ?_, ?_⟩
      · unfold m_X8_soonest m_X0_playLength; simp (disch := omega) only [↓reduceIte, ↓nm_eq, ↓jn_eq, ↓c_within, ↓c_isIn, ↓c_isScene, ↓c_isPlace, ↓c_isCue, ↓c_isDigit, ↓d_isScene, ↓d_isAny, ↓ta_pb1, ↓ta_pb0, ↓ta_pb1', ↓ta_pb0', ta_lt, ta_nlt, ta_le, ta_nle, ta_eq, ta_neq, ta_nne, ta_ne, gs_id, a_gd01, a_gdT, or_true, true_or, bd_some, bW_sm, a_gd, a_ne, a_rd, Int.toNat_natCast, Int.toNat_add, Int.toNat_mul, Int.reduceToNat, a_gdp, a_cell, and_self, and_true, true_and, e1, e3]
      · unfold m_X9_soonest; simp (disch := omega) only [↓reduceIte, ↓nm_eq, ↓jn_eq, ↓c_within, ↓c_isIn, ↓c_isScene, ↓c_isPlace, ↓c_isCue, ↓c_isDigit, ↓d_isScene, ↓d_isAny, ↓ta_pb1, ↓ta_pb0, ↓ta_pb1', ↓ta_pb0', ta_lt, ta_nlt, ta_le, ta_nle, ta_eq, ta_neq, ta_nne, ta_ne, gs_id, a_gd01, a_gdT, or_true, true_or, bd_some, bW_sm, a_gd, a_ne, a_rd, Int.toNat_natCast, Int.toNat_add, Int.toNat_mul, Int.reduceToNat, a_gdp, a_cell, and_self, and_true, true_and, e2, e4]
theorem q_best1 {W V : g_M} {nx : Nat → Nat → Nat} {f : Nat → Nat} (hn : ∀ s c, s ≤ 12 → c < 4 → nx s c ≤ 12) (hx : Nx nx W) (hV : V 1 = W 1) (hf : ∀ x, x < 26 → f x ≤ 26 ∨ f x = 1000000) (w3 : ∀ x, x < 26 → V 11 x = (f x : Int)) {s : Nat} (hs : s ≤ 12) : m_X9_best_L36 s 1 V g_fuel 0 1 = some (((amn (fun c => (f (13 + nx s c) : Int)) 3 : Nat) : Int), V) := by
  have bb := fun n => (amn_le (fun c => (f (13 + nx s c) : Int)) n).1
  have lp := loop_F (fun F i (a : Int) => m_X9_best_L36 s 1 V F a (i + 1)) 3 (fun i => ((amn (fun c => (f (13 + nx s c) : Int)) i : Nat) : Int)) (some (((amn (fun c => (f (13 + nx s c) : Int)) 3 : Nat) : Int), V)) (fun F => ?_) (fun i F hi => ?_) 3 0 g_fuel (by omega) (by unfold g_fuel; omega)
  · exact lp
  · show m_X9_best_L36 s 1 V (F + 1) _ _ = _
    rw [m_X9_best_L36]
    simp (disch := omega) only [↓reduceIte, ↓nm_eq, ↓jn_eq, ↓c_within, ↓c_isIn, ↓c_isScene, ↓c_isPlace, ↓c_isCue, ↓c_isDigit, ↓d_isScene, ↓d_isAny, ↓ta_pb1, ↓ta_pb0, ↓ta_pb1', ↓ta_pb0', ta_lt, ta_nlt, ta_le, ta_nle, ta_eq, ta_neq, ta_nne, ta_ne, gs_id, a_gd01, a_gdT, or_true, true_or, bd_some, bW_sm, a_gd, a_ne, a_rd, Int.toNat_natCast, Int.toNat_add, Int.toNat_mul, Int.reduceToNat, a_gdp, a_cell, and_self, and_true, true_and]
  · show m_X9_best_L36 s 1 V (F + 1) _ ((i : Int) + 1) = m_X9_best_L36 s 1 V F ((amn (fun c => (f (13 + nx s c) : Int)) (i + 1) : Nat) : Int) _
    rw [m_X9_best_L36]
    have b0 := bb i
    obtain ⟨r, hr⟩ : ∃ r, r = amn (fun c => (f (13 + nx s c) : Int)) i := ⟨_, rfl⟩
    rw [← hr] at b0
    have n0 := hn s r hs (by omega)
    have n1 := hn s (i + 1) hs (by omega)
    have f0 := hf (13 + nx s r) (by omega)
    have f1 := hf (13 + nx s (i + 1)) (by omega)
    have v0 := w3 (13 + nx s r) (by omega)
    have v1 := w3 (13 + nx s (i + 1)) (by omega)
    have x0 := hx V hV s r hs (by omega)
    have x1 := hx V hV s (i + 1) hs (by omega)
    rw [Int.natCast_add, Int.natCast_one] at x1
    by_cases c : (f (13 + nx s (i + 1)) : Int) < f (13 + nx s r)
    · rw [amn_t (h := fun c => (f (13 + nx s c) : Int)) (by rw [← hr]; exact c), ← hr]
      generalize nx s r = u0 at *
      generalize nx s (i + 1) = u1 at *
      simp (disch := omega) only [↓reduceIte, ↓nm_eq, ↓jn_eq, ↓c_within, ↓c_isIn, ↓c_isScene, ↓c_isPlace, ↓c_isCue, ↓c_isDigit, ↓d_isScene, ↓d_isAny, ↓ta_pb1, ↓ta_pb0, ↓ta_pb1', ↓ta_pb0', ta_lt, ta_nlt, ta_le, ta_nle, ta_eq, ta_neq, ta_nne, ta_ne, gs_id, a_gd01, a_gdT, or_true, true_or, bd_some, bW_sm, a_gd, a_ne, a_rd, Int.toNat_natCast, Int.toNat_add, Int.toNat_mul, Int.reduceToNat, a_gdp, a_cell, and_self, and_true, true_and, x0, x1, v0, v1, Int.natCast_add, Int.natCast_one]
    · rw [amn_f (h := fun c => (f (13 + nx s c) : Int)) (by rw [← hr]; exact c), ← hr]
      generalize nx s r = u0 at *
      generalize nx s (i + 1) = u1 at *
      simp (disch := omega) only [↓reduceIte, ↓nm_eq, ↓jn_eq, ↓c_within, ↓c_isIn, ↓c_isScene, ↓c_isPlace, ↓c_isCue, ↓c_isDigit, ↓d_isScene, ↓d_isAny, ↓ta_pb1, ↓ta_pb0, ↓ta_pb1', ↓ta_pb0', ta_lt, ta_nlt, ta_le, ta_nle, ta_eq, ta_neq, ta_nne, ta_ne, gs_id, a_gd01, a_gdT, or_true, true_or, bd_some, bW_sm, a_gd, a_ne, a_rd, Int.toNat_natCast, Int.toNat_add, Int.toNat_mul, Int.reduceToNat, a_gdp, a_cell, and_self, and_true, true_and, x0, x1, v0, v1, Int.natCast_add, Int.natCast_one]
theorem q_best0 {W V : g_M} {nx : Nat → Nat → Nat} {f : Nat → Nat} (hn : ∀ s c, s ≤ 12 → c < 4 → nx s c ≤ 12) (hx : Nx nx W) (hV : V 1 = W 1) (hf : ∀ x, x < 26 → f x ≤ 26 ∨ f x = 1000000) (w3 : ∀ x, x < 26 → V 11 x = (f x : Int)) {s : Nat} (hs : s ≤ 12) : m_X9_best_L36 s 0 V g_fuel 0 1 = some (((amx (fun c => (f (nx s c) : Int)) 3 : Nat) : Int), V) := by
  have bb := fun n => (amx_le (fun c => (f (nx s c) : Int)) n).1
  have lp := loop_F (fun F i (a : Int) => m_X9_best_L36 s 0 V F a (i + 1)) 3 (fun i => ((amx (fun c => (f (nx s c) : Int)) i : Nat) : Int)) (some (((amx (fun c => (f (nx s c) : Int)) 3 : Nat) : Int), V)) (fun F => ?_) (fun i F hi => ?_) 3 0 g_fuel (by omega) (by unfold g_fuel; omega)
  · exact lp
  · show m_X9_best_L36 s 0 V (F + 1) _ _ = _
    rw [m_X9_best_L36]
    simp (disch := omega) only [↓reduceIte, ↓nm_eq, ↓jn_eq, ↓c_within, ↓c_isIn, ↓c_isScene, ↓c_isPlace, ↓c_isCue, ↓c_isDigit, ↓d_isScene, ↓d_isAny, ↓ta_pb1, ↓ta_pb0, ↓ta_pb1', ↓ta_pb0', ta_lt, ta_nlt, ta_le, ta_nle, ta_eq, ta_neq, ta_nne, ta_ne, gs_id, a_gd01, a_gdT, or_true, true_or, bd_some, bW_sm, a_gd, a_ne, a_rd, Int.toNat_natCast, Int.toNat_add, Int.toNat_mul, Int.reduceToNat, a_gdp, a_cell, and_self, and_true, true_and]
  · show m_X9_best_L36 s 0 V (F + 1) _ ((i : Int) + 1) = m_X9_best_L36 s 0 V F ((amx (fun c => (f (nx s c) : Int)) (i + 1) : Nat) : Int) _
    rw [m_X9_best_L36]
    have b0 := bb i
    obtain ⟨r, hr⟩ : ∃ r, r = amx (fun c => (f (nx s c) : Int)) i := ⟨_, rfl⟩
    rw [← hr] at b0
    have n0 := hn s r hs (by omega)
    have n1 := hn s (i + 1) hs (by omega)
    have f0 := hf (nx s r) (by omega)
    have f1 := hf (nx s (i + 1)) (by omega)
    have v0 := w3 (nx s r) (by omega)
    have v1 := w3 (nx s (i + 1)) (by omega)
    have x0 := hx V hV s r hs (by omega)
    have x1 := hx V hV s (i + 1) hs (by omega)
    rw [Int.natCast_add, Int.natCast_one] at x1
    by_cases c : (f (nx s r) : Int) < f (nx s (i + 1))
    · rw [amx_t (h := fun c => (f (nx s c) : Int)) (by rw [← hr]; exact c), ← hr]
      generalize nx s r = u0 at *
      generalize nx s (i + 1) = u1 at *
      simp (disch := omega) only [↓reduceIte, ↓nm_eq, ↓jn_eq, ↓c_within, ↓c_isIn, ↓c_isScene, ↓c_isPlace, ↓c_isCue, ↓c_isDigit, ↓d_isScene, ↓d_isAny, ↓ta_pb1, ↓ta_pb0, ↓ta_pb1', ↓ta_pb0', ta_lt, ta_nlt, ta_le, ta_nle, ta_eq, ta_neq, ta_nne, ta_ne, gs_id, a_gd01, a_gdT, or_true, true_or, bd_some, bW_sm, a_gd, a_ne, a_rd, Int.toNat_natCast, Int.toNat_add, Int.toNat_mul, Int.reduceToNat, a_gdp, a_cell, and_self, and_true, true_and, x0, x1, v0, v1, Int.zero_add, Int.natCast_add, Int.natCast_one]
    · rw [amx_f (h := fun c => (f (nx s c) : Int)) (by rw [← hr]; exact c), ← hr]
      generalize nx s r = u0 at *
      generalize nx s (i + 1) = u1 at *
      simp (disch := omega) only [↓reduceIte, ↓nm_eq, ↓jn_eq, ↓c_within, ↓c_isIn, ↓c_isScene, ↓c_isPlace, ↓c_isCue, ↓c_isDigit, ↓d_isScene, ↓d_isAny, ↓ta_pb1, ↓ta_pb0, ↓ta_pb1', ↓ta_pb0', ta_lt, ta_nlt, ta_le, ta_nle, ta_eq, ta_neq, ta_nne, ta_ne, gs_id, a_gd01, a_gdT, or_true, true_or, bd_some, bW_sm, a_gd, a_ne, a_rd, Int.toNat_natCast, Int.toNat_add, Int.toNat_mul, Int.reduceToNat, a_gdp, a_cell, and_self, and_true, true_and, x0, x1, v0, v1, Int.zero_add, Int.natCast_add, Int.natCast_one]
theorem st_24 : x_step_24 Rel := by
  intro n Mx Mm hr hn a1 z h1 hz
  obtain ⟨i1, j1⟩ := h1
  by_cases c0 : 0 ≤ a1 ∧ a1 ≤ 12
  rotate_left
  · refine ⟨-1, -1, Mx, Mm, ?_, ?_, rfl, st_same hr⟩
    · unfold m_X8_best; simp (disch := omega) only [↓reduceIte, ↓nm_eq, ↓jn_eq, ↓c_within, ↓c_isIn, ↓c_isScene, ↓c_isPlace, ↓c_isCue, ↓c_isDigit, ↓d_isScene, ↓d_isAny, ↓ta_pb1, ↓ta_pb0, ↓ta_pb1', ↓ta_pb0', ta_lt, ta_nlt, ta_le, ta_nle, ta_eq, ta_neq, ta_nne, ta_ne, gs_id, a_gd01, a_gdT, or_true, true_or, bd_some, bW_sm, a_gd, a_ne, a_rd, Int.toNat_natCast, Int.toNat_add, Int.toNat_mul, Int.reduceToNat, a_gdp, a_cell, and_self, and_true, true_and]
    · unfold m_X9_best; simp (disch := omega) only [↓reduceIte, ↓nm_eq, ↓jn_eq, ↓c_within, ↓c_isIn, ↓c_isScene, ↓c_isPlace, ↓c_isCue, ↓c_isDigit, ↓d_isScene, ↓d_isAny, ↓ta_pb1, ↓ta_pb0, ↓ta_pb1', ↓ta_pb0', ta_lt, ta_nlt, ta_le, ta_nle, ta_eq, ta_neq, ta_nne, ta_ne, gs_id, a_gd01, a_gdT, or_true, true_or, bd_some, bW_sm, a_gd, a_ne, a_rd, Int.toNat_natCast, Int.toNat_add, Int.toNat_mul, Int.reduceToNat, a_gdp, a_cell, and_self, and_true, true_and]
  obtain ⟨s, rfl⟩ : ∃ s : Nat, a1 = s := ⟨a1.toNat, by omega⟩
  obtain ⟨M', W', nx, f, e1, e2, m1, w1, hn, hsv, hx, hf, m3, w3⟩ := both_play (Rel_RF hr)
  by_cases c1 : s = 12
  · subst c1
    refine ⟨-1, -1, M', Mm, ?_, ?_, rfl, Rel_scr hr (fun a ha => m1 a (by omega) (by omega) (by omega)) (fun a ha => rfl)⟩
    · unfold m_X8_best m_X0_playCue; simp (disch := omega) only [↓reduceIte, ↓nm_eq, ↓jn_eq, ↓c_within, ↓c_isIn, ↓c_isScene, ↓c_isPlace, ↓c_isCue, ↓c_isDigit, ↓d_isScene, ↓d_isAny, ↓ta_pb1, ↓ta_pb0, ↓ta_pb1', ↓ta_pb0', ta_lt, ta_nlt, ta_le, ta_nle, ta_eq, ta_neq, ta_nne, ta_ne, gs_id, a_gd01, a_gdT, or_true, true_or, bd_some, bW_sm, a_gd, a_ne, a_rd, Int.toNat_natCast, Int.toNat_add, Int.toNat_mul, Int.reduceToNat, a_gdp, a_cell, and_self, and_true, true_and, e1]
    · unfold m_X9_best; simp (disch := omega) only [↓reduceIte, ↓nm_eq, ↓jn_eq, ↓c_within, ↓c_isIn, ↓c_isScene, ↓c_isPlace, ↓c_isCue, ↓c_isDigit, ↓d_isScene, ↓d_isAny, ↓ta_pb1, ↓ta_pb0, ↓ta_pb1', ↓ta_pb0', ta_lt, ta_nlt, ta_le, ta_nle, ta_eq, ta_neq, ta_nne, ta_ne, gs_id, a_gd01, a_gdT, or_true, true_or, bd_some, bW_sm, a_gd, a_ne, a_rd, Int.toNat_natCast, Int.toNat_add, Int.toNat_mul, Int.reduceToNat, a_gdp, a_cell, and_self, and_true, true_and]
  have yes : (∃ r, m_X8_best s z Mx = some (r, M') ∧ m_X9_best s z Mm = some (r, W')) → ∃ (r r' : Int) (Mx' Mm' : g_M), (m_X8_best s z Mx = some (r, Mx')) ∧ (m_X9_best s z Mm = some (r', Mm')) ∧ gs r = gs r' ∧ Rel (n + 1) Mx' Mm' := fun ⟨r, e1, e2⟩ => ⟨r, r, M', W', e1, e2, rfl, Rel_scr hr (fun a ha => m1 a (by omega) (by omega) (by omega)) (fun a ha => w1 a (by omega))⟩
  have pb : PB (PV M') := by
    intro x hx
    have a := m3 x hx
    have b := hf x hx
    by_cases d : f x = 1000000
    · rw [if_pos d] at a; omega
    · rw [if_neg d] at a; omega
  have ord : ∀ x y, x < 26 → y < 26 → (PV M' x < PV M' y ↔ (f x : Int) < f y) := by
    intro x y hx hy
    have a := m3 x hx
    have b := hf x hx
    have a' := m3 y hy
    have b' := hf y hy
    by_cases d : f x = 1000000
    · rw [if_pos d] at a
      by_cases d' : f y = 1000000
      · rw [if_pos d'] at a'; omega
      · rw [if_neg d'] at a'; omega
    · rw [if_neg d] at a
      by_cases d' : f y = 1000000
      · rw [if_pos d'] at a'; omega
      · rw [if_neg d'] at a'; omega
  have hV : W' 1 = Mm 1 := by rw [w1 1 (by omega)]
  rcases hz with rfl | rfl
  · have cg := amx_cg (h := fun c => PV M' (nx s c)) (g := fun c => (f (nx s c) : Int)) (fun c d hc hd => ord _ _ (by have := hn s c (by omega) (by omega); omega) (by have := hn s d (by omega) (by omega); omega)) 3 (by omega)
    have k1 := p_reply0 hn hsv pb (s := s) (by omega)
    have k2 := q_best0 hn hx hV hf w3 (s := s) (by omega)
    rw [cg] at k1
    refine yes ⟨(((amx (fun c => (f (nx s c) : Int)) 3 : Nat) : Int)), ?_, ?_⟩
    · unfold m_X8_best m_X0_playCue; simp (disch := omega) only [↓reduceIte, ↓nm_eq, ↓jn_eq, ↓c_within, ↓c_isIn, ↓c_isScene, ↓c_isPlace, ↓c_isCue, ↓c_isDigit, ↓d_isScene, ↓d_isAny, ↓ta_pb1, ↓ta_pb0, ↓ta_pb1', ↓ta_pb0', ta_lt, ta_nlt, ta_le, ta_nle, ta_eq, ta_neq, ta_nne, ta_ne, gs_id, a_gd01, a_gdT, or_true, true_or, bd_some, bW_sm, a_gd, a_ne, a_rd, Int.toNat_natCast, Int.toNat_add, Int.toNat_mul, Int.reduceToNat, a_gdp, a_cell, and_self, and_true, true_and, e1, k1]
    · unfold m_X9_best; simp (disch := omega) only [↓reduceIte, ↓nm_eq, ↓jn_eq, ↓c_within, ↓c_isIn, ↓c_isScene, ↓c_isPlace, ↓c_isCue, ↓c_isDigit, ↓d_isScene, ↓d_isAny, ↓ta_pb1, ↓ta_pb0, ↓ta_pb1', ↓ta_pb0', ta_lt, ta_nlt, ta_le, ta_nle, ta_eq, ta_neq, ta_nne, ta_ne, gs_id, a_gd01, a_gdT, or_true, true_or, bd_some, bW_sm, a_gd, a_ne, a_rd, Int.toNat_natCast, Int.toNat_add, Int.toNat_mul, Int.reduceToNat, a_gdp, a_cell, and_self, and_true, true_and, e2, k2]
  · have e3 := m3 s (by omega)
    rw [PV_0 (by omega)] at e3
    have e4 := w3 s (by omega)
    have e5 := hf s (by omega)
    by_cases d : f s = 1000000
    · rw [if_pos d] at e3
      refine yes ⟨-1, ?_, ?_⟩
      · unfold m_X8_best m_X0_playCue; simp (disch := omega) only [↓reduceIte, ↓nm_eq, ↓jn_eq, ↓c_within, ↓c_isIn, ↓c_isScene, ↓c_isPlace, ↓c_isCue, ↓c_isDigit, ↓d_isScene, ↓d_isAny, ↓ta_pb1, ↓ta_pb0, ↓ta_pb1', ↓ta_pb0', ta_lt, ta_nlt, ta_le, ta_nle, ta_eq, ta_neq, ta_nne, ta_ne, gs_id, a_gd01, a_gdT, or_true, true_or, bd_some, bW_sm, a_gd, a_ne, a_rd, Int.toNat_natCast, Int.toNat_add, Int.toNat_mul, Int.reduceToNat, a_gdp, a_cell, and_self, and_true, true_and, e1, e3]
      · unfold m_X9_best; simp (disch := omega) only [↓reduceIte, ↓nm_eq, ↓jn_eq, ↓c_within, ↓c_isIn, ↓c_isScene, ↓c_isPlace, ↓c_isCue, ↓c_isDigit, ↓d_isScene, ↓d_isAny, ↓ta_pb1, ↓ta_pb0, ↓ta_pb1', ↓ta_pb0', ta_lt, ta_nlt, ta_le, ta_nle, ta_eq, ta_neq, ta_nne, ta_ne, gs_id, a_gd01, a_gdT, or_true, true_or, bd_some, bW_sm, a_gd, a_ne, a_rd, Int.toNat_natCast, Int.toNat_add, Int.toNat_mul, Int.reduceToNat, a_gdp, a_cell, and_self, and_true, true_and, e2, e4]
    · rw [if_neg d] at e3
      have cg := amn_cg (h := fun c => PV M' (13 + nx s c)) (g := fun c => (f (13 + nx s c) : Int)) (fun c d hc hd => ord _ _ (by have := hn s c (by omega) (by omega); omega) (by have := hn s d (by omega) (by omega); omega)) 3 (by omega)
      have k1 := p_reply1 hn hsv pb (s := s) (by omega)
      have k2 := q_best1 hn hx hV hf w3 (s := s) (by omega)
      rw [cg] at k1
      refine yes ⟨(((amn (fun c => (f (13 + nx s c) : Int)) 3 : Nat) : Int)), ?_, ?_⟩
      · unfold m_X8_best m_X0_playCue; simp (disch := omega) only [↓reduceIte, ↓nm_eq, ↓jn_eq, ↓c_within, ↓c_isIn, ↓c_isScene, ↓c_isPlace, ↓c_isCue, ↓c_isDigit, ↓d_isScene, ↓d_isAny, ↓ta_pb1, ↓ta_pb0, ↓ta_pb1', ↓ta_pb0', ta_lt, ta_nlt, ta_le, ta_nle, ta_eq, ta_neq, ta_nne, ta_ne, gs_id, a_gd01, a_gdT, or_true, true_or, bd_some, bW_sm, a_gd, a_ne, a_rd, Int.toNat_natCast, Int.toNat_add, Int.toNat_mul, Int.reduceToNat, a_gdp, a_cell, and_self, and_true, true_and, e1, e3, k1]
      · unfold m_X9_best; simp (disch := omega) only [↓reduceIte, ↓nm_eq, ↓jn_eq, ↓c_within, ↓c_isIn, ↓c_isScene, ↓c_isPlace, ↓c_isCue, ↓c_isDigit, ↓d_isScene, ↓d_isAny, ↓ta_pb1, ↓ta_pb0, ↓ta_pb1', ↓ta_pb0', ta_lt, ta_nlt, ta_le, ta_nle, ta_eq, ta_neq, ta_nne, ta_ne, gs_id, a_gd01, a_gdT, or_true, true_or, bd_some, bW_sm, a_gd, a_ne, a_rd, Int.toNat_natCast, Int.toNat_add, Int.toNat_mul, Int.reduceToNat, a_gdp, a_cell, and_self, and_true, true_and, e2, e4, k2]
