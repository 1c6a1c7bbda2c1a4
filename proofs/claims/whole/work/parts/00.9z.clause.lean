/-! a clause is done: both -/
def zr (W : g_M) : g_M := g_wr (g_wr W 0 24 0) 0 25 0
theorem zr_cell (W : g_M) {a : Nat} (h : a ≠ 0) : zr W a = W a := by
  unfold zr
  rw [a_cell _ h, a_cell _ h]
theorem zr_0 (W : g_M) {j : Nat} (h : j ≠ 24) (h' : j ≠ 25) : zr W 0 j = W 0 j := by
  unfold zr
  rw [a_ne _ (by omega), a_ne _ (by omega)]
theorem Rel_zr {m : Nat} {M W : g_M} (h : Rel m M W) : Rel 0 M (zr W) := by
  obtain ⟨hf, hi, hle, ⟨⟨L, l1, l2, l3, l4⟩, ⟨l5, l6, l7⟩, l8, l9, l10⟩, ⟨c1, -⟩, htx, hb⟩ := h
  have e24 : zr W 0 24 = 0 := by unfold zr; rw [a_ne _ (by omega)]; exact wr_at _ _ _ _
  have e25 : zr W 0 25 = 0 := by unfold zr; exact wr_at _ _ _ _
  refine ⟨by rw [zr_cell W (by omega)]; exact hf, by rw [zr_cell W (by omega)]; exact hi, hle, ⟨⟨L, l1, l2, by rw [zr_0 W (by omega) (by omega)]; exact l3, by rw [zr_cell W (by omega)]; exact l4⟩, ⟨l5, l6, by rw [zr_0 W (by omega) (by omega)]; exact l7⟩, l8, l9, by rw [zr_0 W (by omega) (by omega)]; exact l10⟩, ⟨by rw [zr_0 W (by omega) (by omega)]; exact c1, by rw [e24]; omega, by rw [e25]; omega⟩, fun t ht => ?_, hb⟩
  rw [zr_cell W (by omega)]
  exact htx t ht
theorem lift1 {m : Nat} {M W M' : g_M} (hr : Rel m M W) {fx : g_M → Option (Int × g_M)} {fm : g_M → Option (Int × g_M)} {rx rm : Int} {G : Nat → Int} (hst : ∃ (r r' : Int) (M1 V1 : g_M), fx M = some (r, M1) ∧ fm (zr W) = some (r', V1) ∧ gs r = gs r' ∧ Rel (0 + 1) M1 V1) (hx : fx M = some (rx, M')) (hm : ∀ V : g_M, V 1 = W 1 → ∃ V' : g_M, fm V = some (rm, V') ∧ V' 1 = G ∧ ∀ a, a ≠ 1 → V' a = V a) (f : Fx M M') : ∃ W' : g_M, fm W = some (rm, W') ∧ Rel (m + 1) M' W' ∧ Fm W W' ∧ W' 0 = W 0 := by
  obtain ⟨r, r', M1, V1, a1, a2, a3, a4⟩ := hst
  obtain ⟨V', b1, b2, b3⟩ := hm (zr W) (zr_cell W (by omega))
  obtain ⟨W', c1, c2, c3⟩ := hm W rfl
  have e1 : M1 = M' := by
    have := a1.symm.trans hx
    exact (Prod.mk.inj (Option.some.inj this)).2
  have e2 : V1 = V' := by
    have := a2.symm.trans b1
    exact (Prod.mk.inj (Option.some.inj this)).2
  subst e1 e2
  have w0 := c3 0 (by omega)
  refine ⟨W', c1, Rel_mk hr f ⟨fun k hk => c3 k (by omega), fun j hj => by rw [w0]⟩ (Rel_c hr w0).1 (Rel_c hr w0).2 ?_, ⟨fun k hk => c3 k (by omega), fun j hj => by rw [w0]⟩, w0⟩
  have := Rel_RF a4
  unfold RF at this ⊢
  rw [b2] at this
  rw [c2]
  exact this
theorem do_kind {m : Nat} {M W : g_M} (hr : Rel m M W) {s : Nat} {v : Int} (hs : s < 12) (hv : 0 ≤ v ∧ v ≤ 3) : ∃ W' : g_M, m_X9_kind s v W = some (1, W') ∧ Rel (m + 1) (g_wr M 5 s v) W' ∧ Fm W W' ∧ W' 0 = W 0 := by
  refine lift1 (M' := g_wr M 5 s v) hr (fx := fun M => m_X8_kind s v M) (fm := fun W => m_X9_kind s v W) (rx := 1) (G := (g_wr W 1 (114 + s) v) 1) (st_1 0 M (zr W) (Rel_zr hr) (by omega) s v (by omega) (by omega)) ?_ (fun V h => ⟨g_wr V 1 (114 + s) v, ?_, by rw [wr_self, wr_self, h], fun a ha => a_cell _ ha⟩) ⟨fun k hk => a_cell _ (by omega), fun j hj => by rw [a_cell _ (by omega)], by rw [a_cell _ (by omega)]⟩
  · show m_X8_kind s v M = _
    unfold m_X8_kind; simp (disch := omega) only [↓reduceIte, ↓nm_eq, ↓jn_eq, ↓c_within, ↓c_isIn, ↓c_isScene, ↓c_isPlace, ↓c_isCue, ↓c_isDigit, ↓d_isScene, ↓d_isAny, ↓ta_pb1, ↓ta_pb0, ↓ta_pb1', ↓ta_pb0', ta_lt, ta_nlt, ta_le, ta_nle, ta_eq, ta_neq, ta_nne, ta_ne, gs_id, a_gd01, a_gdT, or_true, true_or, bd_some, bW_sm, a_gd, a_ne, a_rd, Int.toNat_natCast, Int.toNat_add, Int.toNat_mul, Int.reduceToNat, a_gdp, a_cell, and_self, and_true, true_and]
  · show m_X9_kind s v V = _
    unfold m_X9_kind; simp (disch := omega) only [↓reduceIte, ↓nm_eq, ↓jn_eq, ↓c_within, ↓c_isIn, ↓c_isScene, ↓c_isPlace, ↓c_isCue, ↓c_isDigit, ↓d_isScene, ↓d_isAny, ↓ta_pb1, ↓ta_pb0, ↓ta_pb1', ↓ta_pb0', ta_lt, ta_nlt, ta_le, ta_nle, ta_eq, ta_neq, ta_nne, ta_ne, gs_id, a_gd01, a_gdT, or_true, true_or, bd_some, bW_sm, a_gd, a_ne, a_rd, Int.toNat_natCast, Int.toNat_add, Int.toNat_mul, Int.reduceToNat, a_gdp, a_cell, and_self, and_true, true_and]
theorem do_scene {m : Nat} {M W : g_M} (hr : Rel m M W) {s c : Nat} {v : Int} (hs : s < 12) (hc : c < 4) (hv : 0 ≤ v ∧ v ≤ 12) : ∃ M' W' : g_M, m_X1_tellNext s c v M = some M' ∧ m_X9_scene s c v W = some (1, W') ∧ Rel (m + 1) M' W' ∧ Fx M M' ∧ Fm W W' ∧ W' 0 = W 0 := by
  obtain ⟨P, T, S, E, C, F, hP, hT, hU, hS, -⟩ := Rel_RF hr
  have i1 : (gs ((s : Int) * 4 + c)).toNat = s * 4 + c := by rw [gs_id (by omega) (by omega)]; omega
  have i2 : (gs (66 + 4 * (s : Int) + c)).toNat = 66 + (s * 4 + c) := by rw [gs_id (by omega) (by omega)]; omega
  have i4 : (gs (22 + (s : Int))).toNat = 22 + s := by rw [gs_id (by omega) (by omega)]; omega
  obtain ⟨M', a1, a2⟩ : ∃ M' : g_M, m_X1_tellNext s c v M = some M' ∧ ∀ a, a ≠ 2 → a ≠ 3 → a ≠ 4 → M' a = M a := by
    unfold m_X1_tellNext
    by_cases z : c = 0
    · subst z
      have h := p_tellNow (g_wr M 4 (s * 4 + 0) v) (16 + s) v (by omega)
      rw [show ((16 + s : Nat) : Int) = 16 + (s : Int) by omega] at h
      obtain ⟨X, hX⟩ : ∃ X : g_M, X = fun a b => if a = 3 ∧ b % 133 = 16 + s ∧ b / 133 < 30 then v else g_wr (g_wr M 4 (s * 4 + 0) v) 2 (16 + s) v a b := ⟨_, rfl⟩
      rw [← hX] at h
      refine ⟨X, ?_, fun a b1 b2 b3 => ?_⟩
      · simp (disch := omega) only [↓reduceIte, ↓nm_eq, ↓jn_eq, ↓c_within, ↓c_isIn, ↓c_isScene, ↓c_isPlace, ↓c_isCue, ↓c_isDigit, ↓d_isScene, ↓d_isAny, ↓ta_pb1, ↓ta_pb0, ↓ta_pb1', ↓ta_pb0', ta_lt, ta_nlt, ta_le, ta_nle, ta_eq, ta_neq, ta_nne, ta_ne, gs_id, a_gd01, a_gdT, or_true, true_or, bd_some, bW_sm, a_gd, a_ne, a_rd, Int.toNat_natCast, Int.toNat_add, Int.toNat_mul, Int.reduceToNat, a_gdp, a_cell, and_self, and_true, true_and, ↓i1, h]
      · funext b
        rw [hX]
        show (if _ then _ else _) = _
        rw [if_neg (by omega), a_cell _ (by omega), a_cell _ (by omega)]
    · refine ⟨g_wr M 4 (s * 4 + c) v, ?_, fun a b1 b2 b3 => a_cell _ b3⟩
      simp (disch := omega) only [↓reduceIte, ↓nm_eq, ↓jn_eq, ↓c_within, ↓c_isIn, ↓c_isScene, ↓c_isPlace, ↓c_isCue, ↓c_isDigit, ↓d_isScene, ↓d_isAny, ↓ta_pb1, ↓ta_pb0, ↓ta_pb1', ↓ta_pb0', ta_lt, ta_nlt, ta_le, ta_nle, ta_eq, ta_neq, ta_nne, ta_ne, gs_id, a_gd01, a_gdT, or_true, true_or, bd_some, bW_sm, a_gd, a_ne, a_rd, Int.toNat_natCast, Int.toNat_add, Int.toNat_mul, Int.reduceToNat, a_gdp, a_cell, and_self, and_true, true_and, ↓i1]
  have f : Fx M M' := ⟨fun k hk => a2 k (by omega) (by omega) (by omega), fun j hj => by rw [a2 23 (by omega) (by omega) (by omega)], by rw [a2 1 (by omega) (by omega) (by omega)]⟩
  obtain ⟨G, hm⟩ : ∃ G : Nat → Int, ∀ V : g_M, V 1 = W 1 → ∃ V' : g_M, m_X9_scene s c v V = some (1, V') ∧ V' 1 = G ∧ ∀ a, a ≠ 1 → V' a = V a := by
    by_cases z : c = 0
    · subst z
      refine ⟨fun b => if 216 + s ≤ b ∧ (b - (216 + s)) % 105 = 0 ∧ (b - (216 + s)) / 105 < S then v else g_wr (g_wr W 1 (66 + (s * 4 + 0)) v) 1 (22 + s) v 1 b, fun V h => ?_⟩
      obtain ⟨X, hX⟩ : ∃ X : g_M, X = fun a b => if a = 1 ∧ 216 + s ≤ b ∧ (b - (216 + s)) % 105 = 0 ∧ (b - (216 + s)) / 105 < S then v else g_wr (g_wr V 1 (66 + (s * 4 + 0)) v) 1 (22 + s) v a b := ⟨_, rfl⟩
      refine ⟨X, ?_, ?_, fun a ha => ?_⟩
      · have h := p_sceneL (g_wr (g_wr V 1 (66 + (s * 4 + 0)) v) 1 (22 + s) v) s S v (by omega) hS.1 (by rw [a_ne _ (by omega), a_ne _ (by omega), h]; exact hS.2.2)
        rw [← hX] at h
        unfold m_X9_scene
        simp (disch := omega) only [↓reduceIte, ↓nm_eq, ↓jn_eq, ↓c_within, ↓c_isIn, ↓c_isScene, ↓c_isPlace, ↓c_isCue, ↓c_isDigit, ↓d_isScene, ↓d_isAny, ↓ta_pb1, ↓ta_pb0, ↓ta_pb1', ↓ta_pb0', ta_lt, ta_nlt, ta_le, ta_nle, ta_eq, ta_neq, ta_nne, ta_ne, gs_id, a_gd01, a_gdT, or_true, true_or, bd_some, bW_sm, a_gd, a_ne, a_rd, Int.toNat_natCast, Int.toNat_add, Int.toNat_mul, Int.reduceToNat, a_gdp, a_cell, and_self, and_true, true_and, ↓i2, ↓i4, h]
      · funext b
        rw [hX]
        show (if _ then _ else _) = _
        have e : (g_wr (g_wr V 1 (66 + (s * 4 + 0)) v) 1 (22 + s) v) 1 = (g_wr (g_wr W 1 (66 + (s * 4 + 0)) v) 1 (22 + s) v) 1 := by rw [wr_self, wr_self, wr_self, wr_self, h]
        rw [e]
        simp only [true_and]
      · funext b
        rw [hX]
        show (if _ then _ else _) = _
        rw [if_neg (by omega), a_cell _ (by omega), a_cell _ (by omega)]
    · refine ⟨(g_wr W 1 (66 + (s * 4 + c)) v) 1, fun V h => ⟨g_wr V 1 (66 + (s * 4 + c)) v, ?_, by rw [wr_self, wr_self, h], fun a ha => a_cell _ ha⟩⟩
      unfold m_X9_scene
      simp (disch := omega) only [↓reduceIte, ↓nm_eq, ↓jn_eq, ↓c_within, ↓c_isIn, ↓c_isScene, ↓c_isPlace, ↓c_isCue, ↓c_isDigit, ↓d_isScene, ↓d_isAny, ↓ta_pb1, ↓ta_pb0, ↓ta_pb1', ↓ta_pb0', ta_lt, ta_nlt, ta_le, ta_nle, ta_eq, ta_neq, ta_nne, ta_ne, gs_id, a_gd01, a_gdT, or_true, true_or, bd_some, bW_sm, a_gd, a_ne, a_rd, Int.toNat_natCast, Int.toNat_add, Int.toNat_mul, Int.reduceToNat, a_gdp, a_cell, and_self, and_true, true_and, ↓i2]
  obtain ⟨W', b1, b2, b3, b4⟩ := lift1 (M' := M') hr (fx := fun M => m_X8_scene s c v M) (fm := fun W => m_X9_scene s c v W) (rx := 1) (st_0 0 M (zr W) (Rel_zr hr) (by omega) s c v (by omega) (by omega) (by omega)) (by
    show m_X8_scene s c v M = _
    unfold m_X8_scene; simp (disch := omega) only [↓reduceIte, ↓nm_eq, ↓jn_eq, ↓c_within, ↓c_isIn, ↓c_isScene, ↓c_isPlace, ↓c_isCue, ↓c_isDigit, ↓d_isScene, ↓d_isAny, ↓ta_pb1, ↓ta_pb0, ↓ta_pb1', ↓ta_pb0', ta_lt, ta_nlt, ta_le, ta_nle, ta_eq, ta_neq, ta_nne, ta_ne, gs_id, a_gd01, a_gdT, or_true, true_or, bd_some, bW_sm, a_gd, a_ne, a_rd, Int.toNat_natCast, Int.toNat_add, Int.toNat_mul, Int.reduceToNat, a_gdp, a_cell, and_self, and_true, true_and, a1]) hm f
  exact ⟨M', W', a1, b1, b2, f, b3, b4⟩
theorem do_person {m : Nat} {M W : g_M} (hr : Rel m M W) {a b : Int} (ha : 0 ≤ a ∧ a ≤ 9) (hb : 0 ≤ b ∧ b ≤ 9) : ∃ (r : Int) (M' W' : g_M), -1 ≤ r ∧ r ≤ 8 ∧ m_X1_tellPerson a b M = some (r, M') ∧ m_X9_person a b W = some (r, W') ∧ Rel (m + 1) M' W' ∧ Fx M M' ∧ Fm W W' ∧ W' 0 = W 0 := by
  obtain ⟨P, T, S, E, C, F, ⟨hP1, hP2, hP3⟩, -⟩ := Rel_RF hr
  by_cases c3 : P < 8
  rotate_left
  · refine ⟨-1, M, W, by omega, by omega, ?_, ?_, Rel_mono hr, Fx_refl _, Fm_refl _, rfl⟩
    · unfold m_X1_tellPerson; simp (disch := omega) only [↓reduceIte, ↓nm_eq, ↓jn_eq, ↓c_within, ↓c_isIn, ↓c_isScene, ↓c_isPlace, ↓c_isCue, ↓c_isDigit, ↓d_isScene, ↓d_isAny, ↓ta_pb1, ↓ta_pb0, ↓ta_pb1', ↓ta_pb0', ta_lt, ta_nlt, ta_le, ta_nle, ta_eq, ta_neq, ta_nne, ta_ne, gs_id, a_gd01, a_gdT, or_true, true_or, bd_some, bW_sm, a_gd, a_ne, a_rd, Int.toNat_natCast, Int.toNat_add, Int.toNat_mul, Int.reduceToNat, a_gdp, a_cell, and_self, and_true, true_and, hP2]
    · unfold m_X9_person; simp (disch := omega) only [↓reduceIte, ↓nm_eq, ↓jn_eq, ↓c_within, ↓c_isIn, ↓c_isScene, ↓c_isPlace, ↓c_isCue, ↓c_isDigit, ↓d_isScene, ↓d_isAny, ↓ta_pb1, ↓ta_pb0, ↓ta_pb1', ↓ta_pb0', ta_lt, ta_nlt, ta_le, ta_nle, ta_eq, ta_neq, ta_nne, ta_ne, gs_id, a_gd01, a_gdT, or_true, true_or, bd_some, bW_sm, a_gd, a_ne, a_rd, Int.toNat_natCast, Int.toNat_add, Int.toNat_mul, Int.reduceToNat, a_gdp, a_cell, and_self, and_true, true_and, hP3]
  obtain ⟨M', ex⟩ : ∃ M', M' = (fun a' b' => if a' = 3 ∧ b' % 133 = 8 + P ∧ b' / 133 < 30 then 0 else g_wr (fun a' b' => if a' = 3 ∧ b' % 133 = P ∧ b' / 133 < 30 then b else g_wr (g_wr (g_wr M 1 7 ((P : Int) + 1)) 6 P a) 2 P b a' b') 2 (8 + P) 0 a' b') := ⟨_, rfl⟩
  have k1 := p_tellNow (g_wr (g_wr M 1 7 ((P : Int) + 1)) 6 P a) P b (by omega)
  have k2 := p_tellNow (fun a' b' => if a' = 3 ∧ b' % 133 = P ∧ b' / 133 < 30 then b else g_wr (g_wr (g_wr M 1 7 ((P : Int) + 1)) 6 P a) 2 P b a' b') (8 + P) 0 (by omega)
  rw [← ex] at k2
  have a1 : m_X1_tellPerson a b M = some ((P : Int), M') := by
    unfold m_X1_tellPerson
    simp (disch := omega) only [↓reduceIte, ↓nm_eq, ↓jn_eq, ↓c_within, ↓c_isIn, ↓c_isScene, ↓c_isPlace, ↓c_isCue, ↓c_isDigit, ↓d_isScene, ↓d_isAny, ↓ta_pb1, ↓ta_pb0, ↓ta_pb1', ↓ta_pb0', ta_lt, ta_nlt, ta_le, ta_nle, ta_eq, ta_neq, ta_nne, ta_ne, gs_id, a_gd01, a_gdT, or_true, true_or, bd_some, bW_sm, a_gd, a_ne, a_rd, Int.toNat_natCast, Int.toNat_add, Int.toNat_mul, Int.reduceToNat, a_gdp, a_cell, and_self, and_true, true_and, hP2, show (0 : Int) + (P : Int) = (P : Int) by omega, show (8 : Int) + (P : Int) = ((8 + P : Nat) : Int) by omega, k1, k2]
  have a2 : ∀ k, k ≠ 1 → k ≠ 2 → k ≠ 3 → k ≠ 6 → M' k = M k := fun k b1 b2 b3 b4 => by
    funext j
    rw [ex]
    show (if _ then _ else _) = _
    rw [if_neg (by omega), a_ne _ (by omega)]
    show (if _ then _ else _) = _
    rw [if_neg (by omega), a_ne _ (by omega), a_ne _ (by omega), a_ne _ (by omega)]
  have a3 : M' 1 8 = M 1 8 := by
    rw [ex]
    show (if _ then _ else _) = _
    rw [if_neg (by omega), a_ne _ (by omega)]
    show (if _ then _ else _) = _
    rw [if_neg (by omega), a_ne _ (by omega), a_ne _ (by omega), a_ne _ (by omega)]
  have f : Fx M M' := ⟨fun k hk => a2 k (by omega) (by omega) (by omega) (by omega), fun j hj => by rw [a2 23 (by omega) (by omega) (by omega) (by omega)], a3⟩
  obtain ⟨W', b1, b2, b3, b4⟩ := lift1 (M' := M') hr (fx := fun M => m_X8_person a b M) (fm := fun W => m_X9_person a b W) (rx := P) (G := (g_wr (g_wr (g_wr (g_wr (g_wr W 1 (34 + 4 * P + 2) a) 1 (34 + 4 * P + 3) b) 1 (34 + 4 * P) b) 1 (34 + 4 * P + 1) 0) 1 0 ((P : Int) + 1)) 1) (rm := P) (st_2 0 M (zr W) (Rel_zr hr) (by omega) a b (by omega) (by omega)) (by
    show m_X8_person a b M = _
    unfold m_X8_person; simp (disch := omega) only [↓reduceIte, ↓nm_eq, ↓jn_eq, ↓c_within, ↓c_isIn, ↓c_isScene, ↓c_isPlace, ↓c_isCue, ↓c_isDigit, ↓d_isScene, ↓d_isAny, ↓ta_pb1, ↓ta_pb0, ↓ta_pb1', ↓ta_pb0', ta_lt, ta_nlt, ta_le, ta_nle, ta_eq, ta_neq, ta_nne, ta_ne, gs_id, a_gd01, a_gdT, or_true, true_or, bd_some, bW_sm, a_gd, a_ne, a_rd, Int.toNat_natCast, Int.toNat_add, Int.toNat_mul, Int.reduceToNat, a_gdp, a_cell, and_self, and_true, true_and, a1]) (fun V h => ⟨g_wr (g_wr (g_wr (g_wr (g_wr V 1 (34 + 4 * P + 2) a) 1 (34 + 4 * P + 3) b) 1 (34 + 4 * P) b) 1 (34 + 4 * P + 1) 0) 1 0 ((P : Int) + 1), by
      have h3 : V 1 0 = P := by rw [h]; exact hP3
      show m_X9_person a b V = _
      unfold m_X9_person
      simp (disch := omega) only [↓reduceIte, ↓nm_eq, ↓jn_eq, ↓c_within, ↓c_isIn, ↓c_isScene, ↓c_isPlace, ↓c_isCue, ↓c_isDigit, ↓d_isScene, ↓d_isAny, ↓ta_pb1, ↓ta_pb0, ↓ta_pb1', ↓ta_pb0', ta_lt, ta_nlt, ta_le, ta_nle, ta_eq, ta_neq, ta_nne, ta_ne, gs_id, a_gd01, a_gdT, or_true, true_or, bd_some, bW_sm, a_gd, a_ne, a_rd, Int.toNat_natCast, Int.toNat_add, Int.toNat_mul, Int.reduceToNat, a_gdp, a_cell, and_self, and_true, true_and, h3, show Int.toNat 0 = 0 from rfl, ↓bd_eq (p_put (P : Int) 2 a V (34 + 4 * P + 2) (by omega) (by omega)), ↓bd_eq (p_put (P : Int) 3 b (g_wr V 1 (34 + 4 * P + 2) a) (34 + 4 * P + 3) (by omega) (by omega)), ↓bd_eq (p_begin P (g_wr (g_wr V 1 (34 + 4 * P + 2) a) 1 (34 + 4 * P + 3) b) c3)], by simp only [wr_self, h], fun k hk => by rw [a_cell _ hk, a_cell _ hk, a_cell _ hk, a_cell _ hk, a_cell _ hk]⟩) f
  exact ⟨P, M', W', by omega, by omega, a1, b1, b2, f, b3, b4⟩
