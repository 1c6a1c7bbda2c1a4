/-! a play: both sides come to it -/
theorem cpF_wr_comm (M : g_M) {c d i k j : Nat} (V : Nat → Int) (v : Int) (h : k ≠ c) : g_wr (cpF M c d V i) k j v = cpF (g_wr M k j v) c d V i := by
  funext a b
  by_cases h1 : a = k ∧ b = j
  · obtain ⟨rfl, rfl⟩ := h1
    rw [wr_at, cpF_ne _ _ (by omega), wr_at]
  · rw [a_ne _ (by omega)]
    unfold cpF
    rw [a_ne _ (by omega)]
def CmP (nx : Nat → Nat → Nat) (V : Nat → Int) (r : Nat) : Prop := ∀ j x, x < 26 → j ≤ r → Wn nx j x → V x ≤ j
def I53 (nx : Nat → Nat → Nat) (M0 : g_M) (r : Nat) (fl : Int) (M : g_M) : Prop := (∀ a, a ≠ 70 → a ≠ 71 → M a = M0 a) ∧ (fl = 0 ∨ fl = 1) ∧ SndP nx (PV M) ∧ PfP nx (PV M) ∧ (PV M 12 = 0 ∧ PV M 25 = 0) ∧ CmP nx (PV M) r ∧ (fl = 0 → ∀ s, s < 12 → PV M s ≤ 1 + pmin nx (PV M) s ∧ PV M (13 + s) ≤ 1 + pmax nx (PV M) s)
theorem Cm_step {nx : Nat → Nat → Nat} (hn : ∀ s c, s ≤ 12 → c < 4 → nx s c ≤ 12) {V V0 : Nat → Int} {r : Nat} (le : ∀ x, x < 26 → V x ≤ V0 x) (hen : V 12 = 0 ∧ V 25 = 0) (h : ∀ s, s < 12 → V s ≤ 1 + pmin nx V0 s ∧ V (13 + s) ≤ 1 + pmax nx V0 s) (cm : CmP nx V0 r) : CmP nx V (r + 1) := by
  intro j x hx hj hw
  cases j with
  | zero => exact Int.le_trans (le x hx) (cm 0 x hx (by omega) hw)
  | succ j =>
    rcases hw with hw | ⟨h1, c, hc, h2⟩ | ⟨h1, h2⟩
    · have a := le x hx
      have b := cm j x hx (by omega) hw
      omega
    · by_cases e : x = 12
      · subst e; rw [hen.1]; omega
      · have a := (h x (by omega)).1
        have b := pmin_le nx V0 x hc
        have d := cm j (13 + nx x c) (by have := hn x c (by omega) hc; omega) (by omega) h2
        omega
    · obtain ⟨s, rfl⟩ : ∃ s, x = 13 + s := ⟨x - 13, by omega⟩
      by_cases e : s = 12
      · subst e; rw [hen.2]; omega
      · have a := (h s (by omega)).2
        obtain ⟨c, hc, e2⟩ := pmax_ex nx V0 s
        have b := h2 c hc
        rw [show 13 + s - 13 = s by omega] at b
        have d := cm j (nx s c) (by have := hn s c (by omega) hc; omega) (by omega) b
        omega
theorem p_play53 {nx : Nat → Nat → Nat} (hn : ∀ s c, s ≤ 12 → c < 4 → nx s c ≤ 12) (M0 : g_M) (hsv : Sv nx M0) (hso : SndP nx (PV M0)) (hpf : PfP nx (PV M0)) (hen : PV M0 12 = 0 ∧ PV M0 25 = 0) : Ok (m_X0_playOut_L53 g_fuel 1 0 M0) (fun M => (∀ a, a ≠ 70 → a ≠ 71 → M a = M0 a) ∧ ∀ x, x < 26 → PV M x = if psn nx x = 1000000 then 1000 else (psn nx x : Int)) := by
  have fin : ∀ M : g_M, (∀ a, a ≠ 70 → a ≠ 71 → M a = M0 a) → SndP nx (PV M) → CmP nx (PV M) 26 → Ok (some M) (fun M => (∀ a, a ≠ 70 → a ≠ 71 → M a = M0 a) ∧ ∀ x, x < 26 → PV M x = if psn nx x = 1000000 then 1000 else (psn nx x : Int)) := fun M a b c => Ok_some ⟨a, fun x hx => psn_of hn b (fun j x hx hj h => c j x hx hj h) hx⟩
  refine Ok_for 26 (fun f i (s : Int × g_M) => m_X0_playOut_L53 f s.1 i s.2) (fun i s => I53 nx M0 i s.1 s.2) (fun f s h => ?_) (fun i f s hi h kk => ?_) 0 g_fuel (1, M0) (by omega) (by unfold g_fuel; omega) ⟨fun a _ _ => rfl, Or.inr rfl, hso, hpf, hen, fun j x hx hj hw => ?_, fun z => by omega⟩
  · obtain ⟨fl, M⟩ := s
    obtain ⟨g1, g2, g3, g4, g5, g6, g7⟩ := h
    dsimp only at g1 g2 g3 g4 g5 g6 g7
    show Ok (m_X0_playOut_L53 (f + 1) fl _ M) _
    rw [m_X0_playOut_L53]
    simp (disch := omega) only [↓reduceIte, ↓nm_eq, ↓jn_eq, ↓c_within, ↓c_isIn, ↓c_isScene, ↓c_isPlace, ↓c_isCue, ↓c_isDigit, ↓d_isScene, ↓d_isAny, ↓ta_pb1, ↓ta_pb0, ↓ta_pb1', ↓ta_pb0', ta_lt, ta_nlt, ta_le, ta_nle, ta_eq, ta_neq, ta_nne, ta_ne, gs_id, a_gd01, a_gdT, or_true, true_or, bd_some, bW_sm, a_gd, a_ne, a_rd, Int.toNat_natCast, Int.toNat_add, Int.toNat_mul, Int.reduceToNat, a_gdp, a_cell, and_self, and_true, true_and]
    exact fin M g1 g3 g6
  · obtain ⟨fl, M⟩ := s
    obtain ⟨g1, g2, g3, g4, g5, g6, g7⟩ := h
    dsimp only at g1 g2 g3 g4 g5 g6 g7
    show Ok (m_X0_playOut_L53 (f + 1) fl _ M) _
    rw [m_X0_playOut_L53]
    by_cases cf : fl = 0
    · subst cf
      simp (disch := omega) only [↓reduceIte, ↓nm_eq, ↓jn_eq, ↓c_within, ↓c_isIn, ↓c_isScene, ↓c_isPlace, ↓c_isCue, ↓c_isDigit, ↓d_isScene, ↓d_isAny, ↓ta_pb1, ↓ta_pb0, ↓ta_pb1', ↓ta_pb0', ta_lt, ta_nlt, ta_le, ta_nle, ta_eq, ta_neq, ta_nne, ta_ne, gs_id, a_gd01, a_gdT, or_true, true_or, bd_some, bW_sm, a_gd, a_ne, a_rd, Int.toNat_natCast, Int.toNat_add, Int.toNat_mul, Int.reduceToNat, a_gdp, a_cell, and_self, and_true, true_and]
      refine fin M g1 g3 ?_
      have st := g7 rfl
      have all : ∀ d, CmP nx (PV M) (i + d) := by
        intro d
        induction d with
        | zero => exact g6
        | succ d ih => exact Cm_step hn (fun x hx => Int.le_refl _) g5 st ih
      have := all (26 - i)
      rw [show i + (26 - i) = 26 by omega] at this
      exact this
    · simp (disch := omega) only [↓reduceIte, ↓nm_eq, ↓jn_eq, ↓c_within, ↓c_isIn, ↓c_isScene, ↓c_isPlace, ↓c_isCue, ↓c_isDigit, ↓d_isScene, ↓d_isAny, ↓ta_pb1, ↓ta_pb0, ↓ta_pb1', ↓ta_pb0', ta_lt, ta_nlt, ta_le, ta_nle, ta_eq, ta_neq, ta_nne, ta_ne, gs_id, a_gd01, a_gdT, or_true, true_or, bd_some, bW_sm, a_gd, a_ne, a_rd, Int.toNat_natCast, Int.toNat_add, Int.toNat_mul, Int.reduceToNat, a_gdp, a_cell, and_self, and_true, true_and]
      refine p_play67 hn _ _ M (fun s c hs hc => by rw [g1 68 (by omega) (by omega)]; exact hsv s c hs hc) g3 g4 g5 (fun fl' M' h' => ?_)
      obtain ⟨f1, f2, f3, f4, f5, f6, f7, f8⟩ := h'
      refine kk (fl', M') ⟨fun a ha hb => (f1 a ha hb).trans (g1 a ha hb), f2, f3, f4, f5, Cm_step hn f6 f5 f8 g6, fun z s hs => ?_⟩
      have e : ∀ x, x < 26 → PV M x ≤ PV M' x := fun x hx => by rw [f7 z x hx]; exact Int.le_refl _
      have a1 := pmin_mono hn e (s := s) (by omega)
      have a2 := pmax_mono hn e (s := s) (by omega)
      have a3 := f8 s hs
      show PV M' s ≤ 1 + pmin nx (PV M') s ∧ PV M' (13 + s) ≤ 1 + pmax nx (PV M') s
      omega
  · obtain rfl : j = 0 := by omega
    have : x = 12 ∨ x = 25 := by have hw' : x % 13 = 12 := hw; omega
    rcases this with rfl | rfl
    · show PV M0 12 ≤ _; rw [hen.1]; exact Int.le_refl _
    · show PV M0 25 ≤ _; rw [hen.2]; exact Int.le_refl _
theorem p_play {M : g_M} (h1 : ∀ s : Nat, s < 12 → 0 ≤ M 2 (16 + s) ∧ M 2 (16 + s) ≤ 12) (h2 : ∀ i : Nat, i < 48 → 0 ≤ M 4 i ∧ M 4 i ≤ 12) : Ok (m_X0_playOut M) (fun M' => (∀ a, a ≠ 68 → a ≠ 70 → a ≠ 71 → M' a = M a) ∧ Sv (ND (M 2) (M 4)) M' ∧ ∀ x, x < 26 → PV M' x = if psn (ND (M 2) (M 4)) x = 1000000 then 1000 else (psn (ND (M 2) (M 4)) x : Int)) := by
  have hn : ∀ s c, s ≤ 12 → c < 4 → ND (M 2) (M 4) s c ≤ 12 := fun s c hs hc => (ND_cast h1 h2 hs hc).2
  have sv := Sv_of M h1 h2
  unfold m_X0_playOut
  rw [p_survey, bd_some, nm_eq]
  obtain ⟨M1, hM1⟩ : ∃ M1, M1 = cpF M 68 0 (svV M) 52 := ⟨_, rfl⟩
  have e1 : ∀ a, a ≠ 68 → M1 a = M a := fun a ha => by rw [hM1]; exact cpF_cell _ _ ha
  rw [← hM1] at sv ⊢
  clear hM1
  generalize ND (M 2) (M 4) = nx at *
  obtain ⟨V, hV⟩ : ∃ V : Nat → Int, V = fun s => if s = 12 then 0 else 1000 := ⟨_, rfl⟩
  have key : ∀ k : g_M → Option g_M, m_X0_playOut_L6 k g_fuel 0 M1 = k (cpF (cpF M1 70 0 V 13) 71 0 V 13) := by
    intro k
    have lp := loop_F (fun f i M => m_X0_playOut_L6 k f i M) 13 (fun i => cpF (cpF M1 70 0 V i) 71 0 V i) (k (cpF (cpF M1 70 0 V 13) 71 0 V 13)) (fun f => ?_) (fun i f hi => ?_) 13 0 g_fuel (by omega) (by unfold g_fuel; omega)
    · rw [cpF_0, cpF_0] at lp
      exact lp
    · show m_X0_playOut_L6 k (f + 1) _ _ = _
      rw [m_X0_playOut_L6]
      simp (disch := omega) only [↓reduceIte, ↓nm_eq, ↓jn_eq, ↓c_within, ↓c_isIn, ↓c_isScene, ↓c_isPlace, ↓c_isCue, ↓c_isDigit, ↓d_isScene, ↓d_isAny, ↓ta_pb1, ↓ta_pb0, ↓ta_pb1', ↓ta_pb0', ta_lt, ta_nlt, ta_le, ta_nle, ta_eq, ta_neq, ta_nne, ta_ne, gs_id, a_gd01, a_gdT, or_true, true_or, bd_some, bW_sm, a_gd, a_ne, a_rd, Int.toNat_natCast, Int.toNat_add, Int.toNat_mul, Int.reduceToNat, a_gdp, a_cell, and_self, and_true, true_and]
    · show m_X0_playOut_L6 k (f + 1) _ _ = m_X0_playOut_L6 k f _ (cpF (cpF M1 70 0 V (i + 1)) 71 0 V (i + 1))
      have c1 : cpF (cpF M1 70 0 V (i + 1)) 71 0 V (i + 1) = g_wr (g_wr (cpF (cpF M1 70 0 V i) 71 0 V i) 70 i (V i)) 71 i (V i) := by
        rw [cpF_wr_comm _ _ _ (by omega), ← cpF_succ, ← cpF_succ, Nat.zero_add]
      rw [c1, m_X0_playOut_L6]
      generalize cpF (cpF M1 70 0 V i) 71 0 V i = B
      by_cases e : i = 12
      · have v : V i = 0 := by rw [hV]; exact if_pos e
        rw [v]
        simp (disch := omega) only [↓reduceIte, ↓nm_eq, ↓jn_eq, ↓c_within, ↓c_isIn, ↓c_isScene, ↓c_isPlace, ↓c_isCue, ↓c_isDigit, ↓d_isScene, ↓d_isAny, ↓ta_pb1, ↓ta_pb0, ↓ta_pb1', ↓ta_pb0', ta_lt, ta_nlt, ta_le, ta_nle, ta_eq, ta_neq, ta_nne, ta_ne, gs_id, a_gd01, a_gdT, or_true, true_or, bd_some, bW_sm, a_gd, a_ne, a_rd, Int.toNat_natCast, Int.toNat_add, Int.toNat_mul, Int.reduceToNat, a_gdp, a_cell, and_self, and_true, true_and, Int.natCast_add, Int.natCast_one]
      · have v : V i = 1000 := by rw [hV]; exact if_neg e
        rw [v]
        simp (disch := omega) only [↓reduceIte, ↓nm_eq, ↓jn_eq, ↓c_within, ↓c_isIn, ↓c_isScene, ↓c_isPlace, ↓c_isCue, ↓c_isDigit, ↓d_isScene, ↓d_isAny, ↓ta_pb1, ↓ta_pb0, ↓ta_pb1', ↓ta_pb0', ta_lt, ta_nlt, ta_le, ta_nle, ta_eq, ta_neq, ta_nne, ta_ne, gs_id, a_gd01, a_gdT, or_true, true_or, bd_some, bW_sm, a_gd, a_ne, a_rd, Int.toNat_natCast, Int.toNat_add, Int.toNat_mul, Int.reduceToNat, a_gdp, a_cell, and_self, and_true, true_and, Int.natCast_add, Int.natCast_one]
  rw [key, nm_eq, nm_eq]
  obtain ⟨M2, hM2⟩ : ∃ M2, M2 = cpF (cpF M1 70 0 V 13) 71 0 V 13 := ⟨_, rfl⟩
  have e2 : ∀ a, a ≠ 70 → a ≠ 71 → M2 a = M1 a := fun a ha hb => by rw [hM2, cpF_cell _ _ hb, cpF_cell _ _ ha]
  have v0 : ∀ s, s ≤ 12 → PV M2 s = V s := fun s hs => by rw [PV_0 hs, hM2, cpF_cell _ _ (by omega), cpF_in _ _ (by omega)]; rfl
  have v1 : ∀ s, s ≤ 12 → PV M2 (13 + s) = V s := fun s hs => by rw [PV_1, hM2, cpF_in _ _ (by omega)]; rfl
  have w12 : V 12 = 0 := by rw [hV]; rfl
  have wne : ∀ s, s ≠ 12 → V s = 1000 := fun s hs => by rw [hV]; exact if_neg hs
  rw [← hM2]
  clear hM2 key hV
  refine Ok_mono (p_play53 hn M2 (fun s c hs hc => by rw [e2 68 (by omega) (by omega)]; exact sv s c hs hc) (fun x hx => ?_) (fun s hs => ?_) ⟨by rw [v0 12 (by omega)]; exact w12, by rw [v1 12 (by omega)]; exact w12⟩) (fun M' h => ?_)
  · by_cases c : x < 13
    · rw [v0 x (by omega)]
      by_cases e : x = 12
      · subst e; rw [w12]; exact Or.inr ⟨0, by omega, rfl, rfl⟩
      · exact Or.inl (wne x e)
    · obtain ⟨s, rfl⟩ : ∃ s, x = 13 + s := ⟨x - 13, by omega⟩
      rw [v1 s (by omega)]
      by_cases e : s = 12
      · subst e; rw [w12]; exact Or.inr ⟨0, by omega, rfl, rfl⟩
      · exact Or.inl (wne s e)
  · rw [v0 s (by omega), v1 s (by omega), wne s (by omega)]
    omega
  · obtain ⟨f1, f2⟩ := h
    exact ⟨fun a h1 h2 h3 => by rw [f1 a h2 h3, e2 a h2 h3, e1 a h1], fun s c hs hc => by rw [f1 68 (by omega) (by omega), e2 68 (by omega) (by omega)]; exact sv s c hs hc, f2⟩
/-! the reference -/
def mnr (G : Nat → Nat) : Nat → Nat
  | 0 => 1000000
  | n + 1 => if mnr G n ≤ G n then mnr G n else G n
def mxr (G : Nat → Nat) : Nat → Nat
  | 0 => 0
  | n + 1 => if G n ≤ mxr G n then mxr G n else G n
theorem mnr_s (G : Nat → Nat) (n : Nat) : mnr G (n + 1) = min (mnr G n) (G n) := by
  show (if mnr G n ≤ G n then mnr G n else G n) = _
  by_cases c : mnr G n ≤ G n
  · rw [if_pos c]; omega
  · rw [if_neg c]; omega
theorem mxr_s (G : Nat → Nat) (n : Nat) : mxr G (n + 1) = max (mxr G n) (G n) := by
  show (if G n ≤ mxr G n then mxr G n else G n) = _
  by_cases c : G n ≤ mxr G n
  · rw [if_pos c]; omega
  · rw [if_neg c]; omega
theorem mnr_4 {G : Nat → Nat} (h : ∀ c, c < 4 → G c ≤ 1000000) : mnr G 4 = min (min (G 0) (G 1)) (min (G 2) (G 3)) := by
  have a := h 0 (by omega)
  rw [mnr_s, mnr_s, mnr_s, mnr_s, show mnr G 0 = 1000000 from rfl]
  omega
theorem mxr_4 {G : Nat → Nat} : mxr G 4 = max (max (G 0) (G 1)) (max (G 2) (G 3)) := by
  rw [mxr_s, mxr_s, mxr_s, mxr_s, show mxr G 0 = 0 from rfl]
  omega
theorem mnr_le {G : Nat → Nat} : ∀ n, mnr G n ≤ 1000000 := by
  intro n
  induction n with
  | zero => exact Nat.le_refl _
  | succ n ih => rw [mnr_s]; omega
theorem mxr_le {G : Nat → Nat} (h : ∀ c, c < 4 → G c ≤ 1000000) : ∀ n, n ≤ 4 → mxr G n ≤ 1000000 := by
  intro n
  induction n with
  | zero => intro _; exact Nat.zero_le _
  | succ n ih =>
    intro hn
    have a := ih (by omega)
    have b := h n (by omega)
    rw [mxr_s]; omega
def GW (g : Nat → Nat) (W : g_M) : Prop := ∀ x, x < 26 → W 11 x = (g x : Int) ∧ g x ≤ 1000000
theorem q_soonestFrom {W V : g_M} {nx : Nat → Nat → Nat} {g : Nat → Nat} (hn : ∀ s c, s ≤ 12 → c < 4 → nx s c ≤ 12) (hx : Nx nx W) (hV : V 1 = W 1) (hg : GW g V) {s : Nat} (hs : s ≤ 12) : m_X9_soonestFrom s V = some (vP nx g s : Int) := by
  unfold m_X9_soonestFrom
  rw [nm_eq, nm_eq]
  have b4 : ∀ c, c < 4 → g (13 + nx s c) ≤ 1000000 := fun c hc => (hg _ (by have := hn s c hs hc; omega)).2
  have lp := loop_F (fun F i (a : Int) => m_X9_soonestFrom_L6 s V (fun x25 => if gs x25 ≠ gs 1000000 then (some (x25 + 1)) else (some 1000000)) F a i) 4 (fun i => ((mnr (fun c => g (13 + nx s c)) i : Nat) : Int)) (some (vP nx g s : Int)) (fun F => ?_) (fun i F hi => ?_) 4 0 g_fuel (by omega) (by unfold g_fuel; omega)
  · exact lp
  · show m_X9_soonestFrom_L6 s V _ (F + 1) _ _ = _
    rw [m_X9_soonestFrom_L6]
    have b := mnr_le (G := fun c => g (13 + nx s c)) 4
    have e := mnr_4 (G := fun c => g (13 + nx s c)) b4
    have ev : vP nx g s = if mnr (fun c => g (13 + nx s c)) 4 = 1000000 then 1000000 else mnr (fun c => g (13 + nx s c)) 4 + 1 := by
      rw [e]; exact if_pos (by omega)
    rw [ev]
    clear e ev
    generalize mnr (fun c => g (13 + nx s c)) 4 = m at b ⊢
    by_cases c : m = 1000000
    · rw [if_pos c]
      simp (disch := omega) only [↓reduceIte, ↓nm_eq, ↓jn_eq, ↓c_within, ↓c_isIn, ↓c_isScene, ↓c_isPlace, ↓c_isCue, ↓c_isDigit, ↓d_isScene, ↓d_isAny, ↓ta_pb1, ↓ta_pb0, ↓ta_pb1', ↓ta_pb0', ta_lt, ta_nlt, ta_le, ta_nle, ta_eq, ta_neq, ta_nne, ta_ne, gs_id, a_gd01, a_gdT, or_true, true_or, bd_some, bW_sm, a_gd, a_ne, a_rd, Int.toNat_natCast, Int.toNat_add, Int.toNat_mul, Int.reduceToNat, a_gdp, a_cell, and_self, and_true, true_and]
      rfl
    · rw [if_neg c]
      simp (disch := omega) only [↓reduceIte, ↓nm_eq, ↓jn_eq, ↓c_within, ↓c_isIn, ↓c_isScene, ↓c_isPlace, ↓c_isCue, ↓c_isDigit, ↓d_isScene, ↓d_isAny, ↓ta_pb1, ↓ta_pb0, ↓ta_pb1', ↓ta_pb0', ta_lt, ta_nlt, ta_le, ta_nle, ta_eq, ta_neq, ta_nne, ta_ne, gs_id, a_gd01, a_gdT, or_true, true_or, bd_some, bW_sm, a_gd, a_ne, a_rd, Int.toNat_natCast, Int.toNat_add, Int.toNat_mul, Int.reduceToNat, a_gdp, a_cell, and_self, and_true, true_and, Int.natCast_add, Int.natCast_one]
  · show m_X9_soonestFrom_L6 s V _ (F + 1) _ _ = m_X9_soonestFrom_L6 s V _ F ((mnr (fun c => g (13 + nx s c)) (i + 1) : Nat) : Int) _
    rw [m_X9_soonestFrom_L6, mnr_s]
    have b := mnr_le (G := fun c => g (13 + nx s c)) i
    have hu := hn s i hs hi
    obtain ⟨w1, w2⟩ := hg (13 + nx s i) (by omega)
    have xx := hx V hV s i hs hi
    generalize mnr (fun c => g (13 + nx s c)) i = m at b ⊢
    generalize nx s i = u at *
    have tn : (13 + (u : Int)).toNat = 13 + u := by omega
    by_cases c : m ≤ g (13 + u)
    · rw [show min m (g (13 + u)) = m by omega]
      simp (disch := omega) only [↓reduceIte, ↓nm_eq, ↓jn_eq, ↓c_within, ↓c_isIn, ↓c_isScene, ↓c_isPlace, ↓c_isCue, ↓c_isDigit, ↓d_isScene, ↓d_isAny, ↓ta_pb1, ↓ta_pb0, ↓ta_pb1', ↓ta_pb0', ta_lt, ta_nlt, ta_le, ta_nle, ta_eq, ta_neq, ta_nne, ta_ne, gs_id, a_gd01, a_gdT, or_true, true_or, bd_some, bW_sm, a_gd, a_ne, a_rd, Int.toNat_natCast, Int.toNat_add, Int.toNat_mul, Int.reduceToNat, a_gdp, a_cell, and_self, and_true, true_and, xx, w1, Int.natCast_add, Int.natCast_one]
    · rw [show min m (g (13 + u)) = g (13 + u) by omega]
      simp (disch := omega) only [↓reduceIte, ↓nm_eq, ↓jn_eq, ↓c_within, ↓c_isIn, ↓c_isScene, ↓c_isPlace, ↓c_isCue, ↓c_isDigit, ↓d_isScene, ↓d_isAny, ↓ta_pb1, ↓ta_pb0, ↓ta_pb1', ↓ta_pb0', ta_lt, ta_nlt, ta_le, ta_nle, ta_eq, ta_neq, ta_nne, ta_ne, gs_id, a_gd01, a_gdT, or_true, true_or, bd_some, bW_sm, a_gd, a_ne, a_rd, Int.toNat_natCast, Int.toNat_add, Int.toNat_mul, Int.reduceToNat, a_gdp, a_cell, and_self, and_true, true_and, xx, w1, Int.natCast_add, Int.natCast_one]
theorem q_latestFrom {W V : g_M} {nx : Nat → Nat → Nat} {g : Nat → Nat} (hn : ∀ s c, s ≤ 12 → c < 4 → nx s c ≤ 12) (hx : Nx nx W) (hV : V 1 = W 1) (hg : GW g V) {s : Nat} (hs : s ≤ 12) : m_X9_latestFrom s V = some (vP nx g (13 + s) : Int) := by
  unfold m_X9_latestFrom
  rw [nm_eq, nm_eq]
  have b4 : ∀ c, c < 4 → g (nx s c) ≤ 1000000 := fun c hc => (hg _ (by have := hn s c hs hc; omega)).2
  have lp := loop_F (fun F i (a : Int) => m_X9_latestFrom_L4 s V (fun x25 => if gs x25 ≠ gs 1000000 then (some (x25 + 1)) else (some 1000000)) F a i) 4 (fun i => ((mxr (fun c => g (nx s c)) i : Nat) : Int)) (some (vP nx g (13 + s) : Int)) (fun F => ?_) (fun i F hi => ?_) 4 0 g_fuel (by omega) (by unfold g_fuel; omega)
  · exact lp
  · show m_X9_latestFrom_L4 s V _ (F + 1) _ _ = _
    rw [m_X9_latestFrom_L4]
    have b := mxr_le (G := fun c => g (nx s c)) b4 4 (by omega)
    have e := mxr_4 (G := fun c => g (nx s c))
    have ev : vP nx g (13 + s) = if mxr (fun c => g (nx s c)) 4 = 1000000 then 1000000 else mxr (fun c => g (nx s c)) 4 + 1 := by
      rw [e]
      unfold vP
      rw [if_neg (by omega), show 13 + s - 13 = s by omega]
    rw [ev]
    clear e ev
    generalize mxr (fun c => g (nx s c)) 4 = m at b ⊢
    by_cases c : m = 1000000
    · rw [if_pos c]
      simp (disch := omega) only [↓reduceIte, ↓nm_eq, ↓jn_eq, ↓c_within, ↓c_isIn, ↓c_isScene, ↓c_isPlace, ↓c_isCue, ↓c_isDigit, ↓d_isScene, ↓d_isAny, ↓ta_pb1, ↓ta_pb0, ↓ta_pb1', ↓ta_pb0', ta_lt, ta_nlt, ta_le, ta_nle, ta_eq, ta_neq, ta_nne, ta_ne, gs_id, a_gd01, a_gdT, or_true, true_or, bd_some, bW_sm, a_gd, a_ne, a_rd, Int.toNat_natCast, Int.toNat_add, Int.toNat_mul, Int.reduceToNat, a_gdp, a_cell, and_self, and_true, true_and]
      rfl
    · rw [if_neg c]
      simp (disch := omega) only [↓reduceIte, ↓nm_eq, ↓jn_eq, ↓c_within, ↓c_isIn, ↓c_isScene, ↓c_isPlace, ↓c_isCue, ↓c_isDigit, ↓d_isScene, ↓d_isAny, ↓ta_pb1, ↓ta_pb0, ↓ta_pb1', ↓ta_pb0', ta_lt, ta_nlt, ta_le, ta_nle, ta_eq, ta_neq, ta_nne, ta_ne, gs_id, a_gd01, a_gdT, or_true, true_or, bd_some, bW_sm, a_gd, a_ne, a_rd, Int.toNat_natCast, Int.toNat_add, Int.toNat_mul, Int.reduceToNat, a_gdp, a_cell, and_self, and_true, true_and, Int.natCast_add, Int.natCast_one]
  · show m_X9_latestFrom_L4 s V _ (F + 1) _ _ = m_X9_latestFrom_L4 s V _ F ((mxr (fun c => g (nx s c)) (i + 1) : Nat) : Int) _
    rw [m_X9_latestFrom_L4, mxr_s]
    have b := mxr_le (G := fun c => g (nx s c)) b4 i (by omega)
    have hu := hn s i hs hi
    obtain ⟨w1, w2⟩ := hg (nx s i) (by omega)
    have xx := hx V hV s i hs hi
    generalize mxr (fun c => g (nx s c)) i = m at b ⊢
    generalize nx s i = u at *
    by_cases c : g u ≤ m
    · rw [show max m (g u) = m by omega]
      simp (disch := omega) only [↓reduceIte, ↓nm_eq, ↓jn_eq, ↓c_within, ↓c_isIn, ↓c_isScene, ↓c_isPlace, ↓c_isCue, ↓c_isDigit, ↓d_isScene, ↓d_isAny, ↓ta_pb1, ↓ta_pb0, ↓ta_pb1', ↓ta_pb0', ta_lt, ta_nlt, ta_le, ta_nle, ta_eq, ta_neq, ta_nne, ta_ne, gs_id, a_gd01, a_gdT, or_true, true_or, bd_some, bW_sm, a_gd, a_ne, a_rd, Int.toNat_natCast, Int.toNat_add, Int.toNat_mul, Int.reduceToNat, a_gdp, a_cell, and_self, and_true, true_and, xx, w1, Int.natCast_add, Int.natCast_one]
    · rw [show max m (g u) = g u by omega]
      simp (disch := omega) only [↓reduceIte, ↓nm_eq, ↓jn_eq, ↓c_within, ↓c_isIn, ↓c_isScene, ↓c_isPlace, ↓c_isCue, ↓c_isDigit, ↓d_isScene, ↓d_isAny, ↓ta_pb1, ↓ta_pb0, ↓ta_pb1', ↓ta_pb0', ta_lt, ta_nlt, ta_le, ta_nle, ta_eq, ta_neq, ta_nne, ta_ne, gs_id, a_gd01, a_gdT, or_true, true_or, bd_some, bW_sm, a_gd, a_ne, a_rd, Int.toNat_natCast, Int.toNat_add, Int.toNat_mul, Int.reduceToNat, a_gdp, a_cell, and_self, and_true, true_and, xx, w1, Int.natCast_add, Int.natCast_one]
