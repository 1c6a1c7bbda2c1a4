/-! the class's play -/
def PV (M : g_M) (x : Nat) : Int := if x < 13 then M 70 x else M 71 (x - 13)
theorem PV_0 {M : g_M} {s : Nat} (h : s ≤ 12) : PV M s = M 70 s := if_pos (by omega)
theorem PV_1 {M : g_M} {s : Nat} : PV M (13 + s) = M 71 s := by
  unfold PV
  rw [if_neg (by omega), show 13 + s - 13 = s by omega]
def pmin (nx : Nat → Nat → Nat) (V : Nat → Int) (s : Nat) : Int := V (13 + nx s (amn (fun c => V (13 + nx s c)) 3))
def pmax (nx : Nat → Nat → Nat) (V : Nat → Int) (s : Nat) : Int := V (nx s (amx (fun c => V (nx s c)) 3))
theorem pmin_le (nx : Nat → Nat → Nat) (V : Nat → Int) (s : Nat) {c : Nat} (hc : c < 4) : pmin nx V s ≤ V (13 + nx s c) := (amn_le (fun c => V (13 + nx s c)) 3).2 c (by omega)
theorem pmin_ex (nx : Nat → Nat → Nat) (V : Nat → Int) (s : Nat) : ∃ c, c < 4 ∧ pmin nx V s = V (13 + nx s c) := ⟨_, by have := (amn_le (fun c => V (13 + nx s c)) 3).1; omega, rfl⟩
theorem pmax_le (nx : Nat → Nat → Nat) (V : Nat → Int) (s : Nat) {c : Nat} (hc : c < 4) : V (nx s c) ≤ pmax nx V s := (amx_le (fun c => V (nx s c)) 3).2 c (by omega)
theorem pmax_ex (nx : Nat → Nat → Nat) (V : Nat → Int) (s : Nat) : ∃ c, c < 4 ∧ pmax nx V s = V (nx s c) := ⟨_, by have := (amx_le (fun c => V (nx s c)) 3).1; omega, rfl⟩
theorem pmin_mono {nx : Nat → Nat → Nat} (hn : ∀ s c, s ≤ 12 → c < 4 → nx s c ≤ 12) {V V' : Nat → Int} (h : ∀ x, x < 26 → V' x ≤ V x) {s : Nat} (hs : s ≤ 12) : pmin nx V' s ≤ pmin nx V s := by
  obtain ⟨c, hc, e⟩ := pmin_ex nx V s
  have a := pmin_le nx V' s hc
  have b := h (13 + nx s c) (by have := hn s c hs hc; omega)
  omega
theorem pmax_mono {nx : Nat → Nat → Nat} (hn : ∀ s c, s ≤ 12 → c < 4 → nx s c ≤ 12) {V V' : Nat → Int} (h : ∀ x, x < 26 → V' x ≤ V x) {s : Nat} (hs : s ≤ 12) : pmax nx V' s ≤ pmax nx V s := by
  obtain ⟨c, hc, e⟩ := pmax_ex nx V' s
  have a := pmax_le nx V s hc
  have b := h (nx s c) (by have := hn s c hs hc; omega)
  omega
def PB (V : Nat → Int) : Prop := ∀ x, x < 26 → 0 ≤ V x ∧ V x ≤ 1000
theorem p_reply1 {M : g_M} {nx : Nat → Nat → Nat} (hn : ∀ s c, s ≤ 12 → c < 4 → nx s c ≤ 12) (hsv : Sv nx M) (hb : PB (PV M)) {s : Nat} (hs : s ≤ 12) : m_X0_replyOf s 1 M = some ((amn (fun c => PV M (13 + nx s c)) 3 : Nat) : Int) := by
  unfold m_X0_replyOf
  simp (disch := omega) only [↓reduceIte, ↓nm_eq, ↓jn_eq, ↓c_within, ↓c_isIn, ↓c_isScene, ↓c_isPlace, ↓c_isCue, ↓c_isDigit, ↓d_isScene, ↓d_isAny, ↓ta_pb1, ↓ta_pb0, ↓ta_pb1', ↓ta_pb0', ta_lt, ta_nlt, ta_le, ta_nle, ta_eq, ta_neq, ta_nne, ta_ne, gs_id, a_gd01, a_gdT, or_true, true_or, bd_some, bW_sm, a_gd, a_ne, a_rd, Int.toNat_natCast, Int.toNat_add, Int.toNat_mul, Int.reduceToNat, a_gdp, a_cell, and_self, and_true, true_and]
  have bb := fun n => (amn_le (fun c => PV M (13 + nx s c)) n).1
  have lp := loop_F (fun F i (a : Int) => m_X0_replyOf_L22b s 1 M F a (i + 1)) 3 (fun i => ((amn (fun c => PV M (13 + nx s c)) i : Nat) : Int)) (some ((amn (fun c => PV M (13 + nx s c)) 3 : Nat) : Int)) (fun F => ?_) (fun i F hi => ?_) 3 0 g_fuel (by omega) (by unfold g_fuel; omega)
  · exact lp
  · show m_X0_replyOf_L22b s 1 M (F + 1) _ _ = _
    rw [m_X0_replyOf_L22b]
    simp (disch := omega) only [↓reduceIte, ↓nm_eq, ↓jn_eq, ↓c_within, ↓c_isIn, ↓c_isScene, ↓c_isPlace, ↓c_isCue, ↓c_isDigit, ↓d_isScene, ↓d_isAny, ↓ta_pb1, ↓ta_pb0, ↓ta_pb1', ↓ta_pb0', ta_lt, ta_nlt, ta_le, ta_nle, ta_eq, ta_neq, ta_nne, ta_ne, gs_id, a_gd01, a_gdT, or_true, true_or, bd_some, bW_sm, a_gd, a_ne, a_rd, Int.toNat_natCast, Int.toNat_add, Int.toNat_mul, Int.reduceToNat, a_gdp, a_cell, and_self, and_true, true_and]
  · show m_X0_replyOf_L22b s 1 M (F + 1) _ ((i : Int) + 1) = m_X0_replyOf_L22b s 1 M F ((amn (fun c => PV M (13 + nx s c)) (i + 1) : Nat) : Int) _
    rw [m_X0_replyOf_L22b]
    have b0 := bb i
    obtain ⟨r, hr⟩ : ∃ r, r = amn (fun c => PV M (13 + nx s c)) i := ⟨_, rfl⟩
    rw [← hr] at b0
    have v0 := hb (13 + nx s r) (by have := hn s r hs (by omega); omega)
    have v1 := hb (13 + nx s (i + 1)) (by have := hn s (i + 1) hs (by omega); omega)
    have n0 := hn s r hs (by omega)
    have n1 := hn s (i + 1) hs (by omega)
    have s0 := hsv s r hs (by omega)
    have s1 := hsv s (i + 1) hs (by omega)
    by_cases c : PV M (13 + nx s (i + 1)) < PV M (13 + nx s r)
    · rw [amn_t (h := fun c => PV M (13 + nx s c)) (by rw [← hr]; exact c), ← hr]
      rw [PV_1] at v0 v1
      rw [PV_1, PV_1] at c
      simp (disch := omega) only [↓reduceIte, ↓nm_eq, ↓jn_eq, ↓c_within, ↓c_isIn, ↓c_isScene, ↓c_isPlace, ↓c_isCue, ↓c_isDigit, ↓d_isScene, ↓d_isAny, ↓ta_pb1, ↓ta_pb0, ↓ta_pb1', ↓ta_pb0', ta_lt, ta_nlt, ta_le, ta_nle, ta_eq, ta_neq, ta_nne, ta_ne, gs_id, a_gd01, a_gdT, or_true, true_or, bd_some, bW_sm, a_gd, a_ne, a_rd, Int.toNat_natCast, Int.toNat_add, Int.toNat_mul, Int.reduceToNat, a_gdp, a_cell, and_self, and_true, true_and, s0, s1, Int.natCast_add, Int.natCast_one]
    · rw [amn_f (h := fun c => PV M (13 + nx s c)) (by rw [← hr]; exact c), ← hr]
      rw [PV_1] at v0 v1
      rw [PV_1, PV_1] at c
      simp (disch := omega) only [↓reduceIte, ↓nm_eq, ↓jn_eq, ↓c_within, ↓c_isIn, ↓c_isScene, ↓c_isPlace, ↓c_isCue, ↓c_isDigit, ↓d_isScene, ↓d_isAny, ↓ta_pb1, ↓ta_pb0, ↓ta_pb1', ↓ta_pb0', ta_lt, ta_nlt, ta_le, ta_nle, ta_eq, ta_neq, ta_nne, ta_ne, gs_id, a_gd01, a_gdT, or_true, true_or, bd_some, bW_sm, a_gd, a_ne, a_rd, Int.toNat_natCast, Int.toNat_add, Int.toNat_mul, Int.reduceToNat, a_gdp, a_cell, and_self, and_true, true_and, s0, s1, Int.natCast_add, Int.natCast_one]
theorem p_reply0 {M : g_M} {nx : Nat → Nat → Nat} (hn : ∀ s c, s ≤ 12 → c < 4 → nx s c ≤ 12) (hsv : Sv nx M) (hb : PB (PV M)) {s : Nat} (hs : s ≤ 12) : m_X0_replyOf s 0 M = some ((amx (fun c => PV M (nx s c)) 3 : Nat) : Int) := by
  unfold m_X0_replyOf
  simp (disch := omega) only [↓reduceIte, ↓nm_eq, ↓jn_eq, ↓c_within, ↓c_isIn, ↓c_isScene, ↓c_isPlace, ↓c_isCue, ↓c_isDigit, ↓d_isScene, ↓d_isAny, ↓ta_pb1, ↓ta_pb0, ↓ta_pb1', ↓ta_pb0', ta_lt, ta_nlt, ta_le, ta_nle, ta_eq, ta_neq, ta_nne, ta_ne, gs_id, a_gd01, a_gdT, or_true, true_or, bd_some, bW_sm, a_gd, a_ne, a_rd, Int.toNat_natCast, Int.toNat_add, Int.toNat_mul, Int.reduceToNat, a_gdp, a_cell, and_self, and_true, true_and]
  have bb := fun n => (amx_le (fun c => PV M (nx s c)) n).1
  have lp := loop_F (fun F i (a : Int) => m_X0_replyOf_L22 s 0 M F a (i + 1)) 3 (fun i => ((amx (fun c => PV M (nx s c)) i : Nat) : Int)) (some ((amx (fun c => PV M (nx s c)) 3 : Nat) : Int)) (fun F => ?_) (fun i F hi => ?_) 3 0 g_fuel (by omega) (by unfold g_fuel; omega)
  · exact lp
  · show m_X0_replyOf_L22 s 0 M (F + 1) _ _ = _
    rw [m_X0_replyOf_L22]
    simp (disch := omega) only [↓reduceIte, ↓nm_eq, ↓jn_eq, ↓c_within, ↓c_isIn, ↓c_isScene, ↓c_isPlace, ↓c_isCue, ↓c_isDigit, ↓d_isScene, ↓d_isAny, ↓ta_pb1, ↓ta_pb0, ↓ta_pb1', ↓ta_pb0', ta_lt, ta_nlt, ta_le, ta_nle, ta_eq, ta_neq, ta_nne, ta_ne, gs_id, a_gd01, a_gdT, or_true, true_or, bd_some, bW_sm, a_gd, a_ne, a_rd, Int.toNat_natCast, Int.toNat_add, Int.toNat_mul, Int.reduceToNat, a_gdp, a_cell, and_self, and_true, true_and]
  · show m_X0_replyOf_L22 s 0 M (F + 1) _ ((i : Int) + 1) = m_X0_replyOf_L22 s 0 M F ((amx (fun c => PV M (nx s c)) (i + 1) : Nat) : Int) _
    rw [m_X0_replyOf_L22]
    have b0 := bb i
    obtain ⟨r, hr⟩ : ∃ r, r = amx (fun c => PV M (nx s c)) i := ⟨_, rfl⟩
    rw [← hr] at b0
    have n0 := hn s r hs (by omega)
    have n1 := hn s (i + 1) hs (by omega)
    have v0 := hb (nx s r) (by omega)
    have v1 := hb (nx s (i + 1)) (by omega)
    have s0 := hsv s r hs (by omega)
    have s1 := hsv s (i + 1) hs (by omega)
    rw [PV_0 n0] at v0
    rw [PV_0 n1] at v1
    by_cases c : PV M (nx s r) < PV M (nx s (i + 1))
    · rw [amx_t (h := fun c => PV M (nx s c)) (by rw [← hr]; exact c), ← hr]
      rw [PV_0 n0, PV_0 n1] at c
      simp (disch := omega) only [↓reduceIte, ↓nm_eq, ↓jn_eq, ↓c_within, ↓c_isIn, ↓c_isScene, ↓c_isPlace, ↓c_isCue, ↓c_isDigit, ↓d_isScene, ↓d_isAny, ↓ta_pb1, ↓ta_pb0, ↓ta_pb1', ↓ta_pb0', ta_lt, ta_nlt, ta_le, ta_nle, ta_eq, ta_neq, ta_nne, ta_ne, gs_id, a_gd01, a_gdT, or_true, true_or, bd_some, bW_sm, a_gd, a_ne, a_rd, Int.toNat_natCast, Int.toNat_add, Int.toNat_mul, Int.reduceToNat, a_gdp, a_cell, and_self, and_true, true_and, s0, s1, Int.natCast_add, Int.natCast_one]
    · rw [amx_f (h := fun c => PV M (nx s c)) (by rw [← hr]; exact c), ← hr]
      rw [PV_0 n0, PV_0 n1] at c
      simp (disch := omega) only [↓reduceIte, ↓nm_eq, ↓jn_eq, ↓c_within, ↓c_isIn, ↓c_isScene, ↓c_isPlace, ↓c_isCue, ↓c_isDigit, ↓d_isScene, ↓d_isAny, ↓ta_pb1, ↓ta_pb0, ↓ta_pb1', ↓ta_pb0', ta_lt, ta_nlt, ta_le, ta_nle, ta_eq, ta_neq, ta_nne, ta_ne, gs_id, a_gd01, a_gdT, or_true, true_or, bd_some, bW_sm, a_gd, a_ne, a_rd, Int.toNat_natCast, Int.toNat_add, Int.toNat_mul, Int.reduceToNat, a_gdp, a_cell, and_self, and_true, true_and, s0, s1, Int.natCast_add, Int.natCast_one]
def SndX (nx : Nat → Nat → Nat) (v : Int) (x : Nat) : Prop := v = 1000 ∨ ∃ d : Nat, d < 1000 ∧ v = d ∧ Wn nx d x
def SndP (nx : Nat → Nat → Nat) (V : Nat → Int) : Prop := ∀ x, x < 26 → SndX nx (V x) x
def PfP (nx : Nat → Nat → Nat) (V : Nat → Int) : Prop := ∀ s, s < 12 → (min 1000 (1 + pmin nx V s) ≤ V s) ∧ min 1000 (1 + pmax nx V s) ≤ V (13 + s)
theorem SndP_PB {nx : Nat → Nat → Nat} {V : Nat → Int} (h : SndP nx V) : PB V := by
  intro x hx
  rcases h x hx with e | ⟨d, h1, h2, -⟩ <;> omega
def I67 (nx : Nat → Nat → Nat) (M0 : g_M) (i : Nat) (fl : Int) (M : g_M) : Prop := (∀ a, a ≠ 70 → a ≠ 71 → M a = M0 a) ∧ (fl = 0 ∨ fl = 1) ∧ SndP nx (PV M) ∧ PfP nx (PV M) ∧ (PV M 12 = 0 ∧ PV M 25 = 0) ∧ (∀ x, x < 26 → PV M x ≤ PV M0 x) ∧ (fl = 0 → ∀ x, x < 26 → PV M x = PV M0 x) ∧ ∀ s, s < i → PV M s ≤ 1 + pmin nx (PV M0) s ∧ PV M (13 + s) ≤ 1 + pmax nx (PV M0) s
theorem PV_wr (M : g_M) {i : Nat} (hi : i < 12) (w sh : Int) : PV (g_wr (g_wr M 70 i w) 71 i sh) i = w ∧ PV (g_wr (g_wr M 70 i w) 71 i sh) (13 + i) = sh ∧ ∀ x, x < 26 → x ≠ i → x ≠ 13 + i → PV (g_wr (g_wr M 70 i w) 71 i sh) x = PV M x := by
  refine ⟨?_, ?_, fun x hx h1 h2 => ?_⟩
  · rw [PV_0 (by omega)]; simp (disch := omega) only [↓reduceIte, ↓nm_eq, ↓jn_eq, ↓c_within, ↓c_isIn, ↓c_isScene, ↓c_isPlace, ↓c_isCue, ↓c_isDigit, ↓d_isScene, ↓d_isAny, ↓ta_pb1, ↓ta_pb0, ↓ta_pb1', ↓ta_pb0', ta_lt, ta_nlt, ta_le, ta_nle, ta_eq, ta_neq, ta_nne, ta_ne, gs_id, a_gd01, a_gdT, or_true, true_or, bd_some, bW_sm, a_gd, a_ne, a_rd, Int.toNat_natCast, Int.toNat_add, Int.toNat_mul, Int.reduceToNat, a_gdp, a_cell, and_self, and_true, true_and]
  · rw [PV_1]; simp (disch := omega) only [↓reduceIte, ↓nm_eq, ↓jn_eq, ↓c_within, ↓c_isIn, ↓c_isScene, ↓c_isPlace, ↓c_isCue, ↓c_isDigit, ↓d_isScene, ↓d_isAny, ↓ta_pb1, ↓ta_pb0, ↓ta_pb1', ↓ta_pb0', ta_lt, ta_nlt, ta_le, ta_nle, ta_eq, ta_neq, ta_nne, ta_ne, gs_id, a_gd01, a_gdT, or_true, true_or, bd_some, bW_sm, a_gd, a_ne, a_rd, Int.toNat_natCast, Int.toNat_add, Int.toNat_mul, Int.reduceToNat, a_gdp, a_cell, and_self, and_true, true_and]
  · unfold PV
    by_cases c : x < 13
    · rw [if_pos c, if_pos c]; simp (disch := omega) only [↓reduceIte, ↓nm_eq, ↓jn_eq, ↓c_within, ↓c_isIn, ↓c_isScene, ↓c_isPlace, ↓c_isCue, ↓c_isDigit, ↓d_isScene, ↓d_isAny, ↓ta_pb1, ↓ta_pb0, ↓ta_pb1', ↓ta_pb0', ta_lt, ta_nlt, ta_le, ta_nle, ta_eq, ta_neq, ta_nne, ta_ne, gs_id, a_gd01, a_gdT, or_true, true_or, bd_some, bW_sm, a_gd, a_ne, a_rd, Int.toNat_natCast, Int.toNat_add, Int.toNat_mul, Int.reduceToNat, a_gdp, a_cell, and_self, and_true, true_and]
    · rw [if_neg c, if_neg c]; simp (disch := omega) only [↓reduceIte, ↓nm_eq, ↓jn_eq, ↓c_within, ↓c_isIn, ↓c_isScene, ↓c_isPlace, ↓c_isCue, ↓c_isDigit, ↓d_isScene, ↓d_isAny, ↓ta_pb1, ↓ta_pb0, ↓ta_pb1', ↓ta_pb0', ta_lt, ta_nlt, ta_le, ta_nle, ta_eq, ta_neq, ta_nne, ta_ne, gs_id, a_gd01, a_gdT, or_true, true_or, bd_some, bW_sm, a_gd, a_ne, a_rd, Int.toNat_natCast, Int.toNat_add, Int.toNat_mul, Int.reduceToNat, a_gdp, a_cell, and_self, and_true, true_and]
theorem snd_min {nx : Nat → Nat → Nat} (hn : ∀ s c, s ≤ 12 → c < 4 → nx s c ≤ 12) {V : Nat → Int} (h : SndP nx V) {s : Nat} (hs : s < 13) : SndX nx (min 1000 (1 + pmin nx V s)) s := by
  obtain ⟨c, hc, e⟩ := pmin_ex nx V s
  by_cases z : 1 + pmin nx V s < 1000
  · rcases h (13 + nx s c) (by have := hn s c (by omega) hc; omega) with a | ⟨d, h1, h2, h3⟩
    · omega
    · exact Or.inr ⟨d + 1, by omega, by omega, Or.inr (Or.inl ⟨hs, c, hc, h3⟩)⟩
  · exact Or.inl (by omega)
theorem snd_max {nx : Nat → Nat → Nat} (hn : ∀ s c, s ≤ 12 → c < 4 → nx s c ≤ 12) {V : Nat → Int} (h : SndP nx V) {s : Nat} (hs : s < 13) : SndX nx (min 1000 (1 + pmax nx V s)) (13 + s) := by
  by_cases z : 1 + pmax nx V s < 1000
  · obtain ⟨c, hc, e⟩ := pmax_ex nx V s
    rcases h (nx s c) (by have := hn s c (by omega) hc; omega) with a | ⟨d, h1, h2, h3⟩
    · omega
    · refine Or.inr ⟨d + 1, by omega, by omega, Or.inr (Or.inr ⟨by omega, fun c' hc' => ?_⟩)⟩
      rw [show 13 + s - 13 = s by omega]
      have le := pmax_le nx V s hc'
      rcases h (nx s c') (by have := hn s c' (by omega) hc'; omega) with a | ⟨d', h1', h2', h3'⟩
      · omega
      · exact Wn_le h3' (by omega)
  · exact Or.inl (by omega)
theorem p_play67 {Q : g_M → Prop} {nx : Nat → Nat → Nat} (hn : ∀ s c, s ≤ 12 → c < 4 → nx s c ≤ 12) (x32 : Int) (k : Int → g_M → Option g_M) (M0 : g_M) (hsv : Sv nx M0) (hso : SndP nx (PV M0)) (hpf : PfP nx (PV M0)) (hen : PV M0 12 = 0 ∧ PV M0 25 = 0) (hk : ∀ fl M, I67 nx M0 12 fl M → Ok (k fl M) Q) : Ok (m_X0_playOut_L67 x32 k g_fuel 0 0 M0) Q := by
  refine Ok_for 12 (fun f i (s : Int × g_M) => m_X0_playOut_L67 x32 k f s.1 i s.2) (fun i s => I67 nx M0 i s.1 s.2) (fun f s h => ?_) (fun i f s hi h kk => ?_) 0 g_fuel (0, M0) (by omega) (by unfold g_fuel; omega) ⟨fun a _ _ => rfl, Or.inl rfl, hso, hpf, hen, fun x hx => Int.le_refl _, fun _ x hx => rfl, fun s hs => by omega⟩
  · obtain ⟨fl, M⟩ := s
    show Ok (m_X0_playOut_L67 x32 k (f + 1) fl _ M) Q
    rw [m_X0_playOut_L67]
    simp (disch := omega) only [↓reduceIte, ↓nm_eq, ↓jn_eq, ↓c_within, ↓c_isIn, ↓c_isScene, ↓c_isPlace, ↓c_isCue, ↓c_isDigit, ↓d_isScene, ↓d_isAny, ↓ta_pb1, ↓ta_pb0, ↓ta_pb1', ↓ta_pb0', ta_lt, ta_nlt, ta_le, ta_nle, ta_eq, ta_neq, ta_nne, ta_ne, gs_id, a_gd01, a_gdT, or_true, true_or, bd_some, bW_sm, a_gd, a_ne, a_rd, Int.toNat_natCast, Int.toNat_add, Int.toNat_mul, Int.reduceToNat, a_gdp, a_cell, and_self, and_true, true_and]
    exact hk fl M h
  · obtain ⟨fl, M⟩ := s
    have kk' : ∀ fl M, I67 nx M0 (i + 1) fl M → Ok (m_X0_playOut_L67 x32 k f fl ((i : Int) + 1) M) Q := fun fl M h => kk (fl, M) h
    obtain ⟨g1, g2, g3, g4, g5, g6, g7, g8⟩ := h
    dsimp only at g1 g2 g3 g4 g5 g6 g7 g8
    show Ok (m_X0_playOut_L67 x32 k (f + 1) fl _ M) Q
    have sv : Sv nx M := fun s c hs hc => by rw [g1 68 (by omega) (by omega)]; exact hsv s c hs hc
    have pb := SndP_PB g3
    have r1 := p_reply1 hn sv pb (s := i) (by omega)
    have r0 := p_reply0 hn sv pb (s := i) (by omega)
    have c1 := (amn_le (fun c => PV M (13 + nx i c)) 3).1
    have c0 := (amx_le (fun c => PV M (nx i c)) 3).1
    have e1 : PV M (13 + nx i (amn (fun c => PV M (13 + nx i c)) 3)) = pmin nx (PV M) i := rfl
    have e0 : PV M (nx i (amx (fun c => PV M (nx i c)) 3)) = pmax nx (PV M) i := rfl
    obtain ⟨p1, p2⟩ := g4 i hi
    have q1 := snd_min hn g3 (s := i) (by omega)
    have q0 := snd_max hn g3 (s := i) (by omega)
    have mono : ∀ w sh : Int, w = min 1000 (1 + pmin nx (PV M) i) → sh = min 1000 (1 + pmax nx (PV M) i) → ∀ fl' : Int, (fl' = 0 ∨ fl' = 1) → (fl' = 0 → fl = 0 ∧ w = PV M i ∧ sh = PV M (13 + i)) → I67 nx M0 (i + 1) fl' (g_wr (g_wr M 70 i w) 71 i sh) := by
      intro w sh hw hsh fl' hf1 hf2
      obtain ⟨y1, y2, y3⟩ := PV_wr M hi w sh
      have le : ∀ x, x < 26 → PV (g_wr (g_wr M 70 i w) 71 i sh) x ≤ PV M x := by
        intro x hx
        by_cases z1 : x = i
        · subst z1; rw [y1]; omega
        · by_cases z2 : x = 13 + i
          · subst z2; rw [y2]; omega
          · rw [y3 x hx z1 z2]; exact Int.le_refl _
      refine ⟨fun a h1 h2 => by simp (disch := omega) only [↓reduceIte, ↓nm_eq, ↓jn_eq, ↓c_within, ↓c_isIn, ↓c_isScene, ↓c_isPlace, ↓c_isCue, ↓c_isDigit, ↓d_isScene, ↓d_isAny, ↓ta_pb1, ↓ta_pb0, ↓ta_pb1', ↓ta_pb0', ta_lt, ta_nlt, ta_le, ta_nle, ta_eq, ta_neq, ta_nne, ta_ne, gs_id, a_gd01, a_gdT, or_true, true_or, bd_some, bW_sm, a_gd, a_ne, a_rd, Int.toNat_natCast, Int.toNat_add, Int.toNat_mul, Int.reduceToNat, a_gdp, a_cell, and_self, and_true, true_and, g1], hf1, fun x hx => ?_, fun s hs => ?_, ?_, fun x hx => Int.le_trans (le x hx) (g6 x hx), fun z x hx => ?_, fun s hs => ?_⟩
      · by_cases z1 : x = i
        · subst z1; rw [y1, hw]; exact q1
        · by_cases z2 : x = 13 + i
          · subst z2; rw [y2, hsh]; exact q0
          · rw [y3 x hx z1 z2]; exact g3 x hx
      · have a1 := pmin_mono hn le (s := s) (by omega)
        have a2 := pmax_mono hn le (s := s) (by omega)
        by_cases z1 : s = i
        · subst z1
          rw [y1, y2]
          omega
        · obtain ⟨b1, b2⟩ := g4 s hs
          rw [y3 s (by omega) z1 (by omega), y3 (13 + s) (by omega) (by omega) (by omega)]
          omega
      · rw [y3 12 (by omega) (by omega) (by omega), y3 25 (by omega) (by omega) (by omega)]; exact g5
      · obtain ⟨u1, u2, u3⟩ := hf2 z
        rw [← g7 u1 x hx]
        by_cases z1 : x = i
        · subst z1; rw [y1, u2]
        · by_cases z2 : x = 13 + i
          · subst z2; rw [y2, u3]
          · exact y3 x hx z1 z2
      · by_cases z1 : s = i
        · subst z1
          rw [y1, y2]
          have a1 := pmin_mono hn g6 (s := s) (by omega)
          have a2 := pmax_mono hn g6 (s := s) (by omega)
          omega
        · rw [y3 s (by omega) z1 (by omega), y3 (13 + s) (by omega) (by omega) (by omega)]
          exact g8 s (by omega)
    have b1 : 0 ≤ pmin nx (PV M) i ∧ pmin nx (PV M) i ≤ 1000 := by
      obtain ⟨c, hc, e⟩ := pmin_ex nx (PV M) i
      have := pb (13 + nx i c) (by have := hn i c (by omega) hc; omega)
      omega
    have b0 : 0 ≤ pmax nx (PV M) i ∧ pmax nx (PV M) i ≤ 1000 := by
      obtain ⟨c, hc, e⟩ := pmax_ex nx (PV M) i
      have := pb (nx i c) (by have := hn i c (by omega) hc; omega)
      omega
    have v1 := pb i (by omega)
    have v0 := pb (13 + i) (by omega)
    generalize amn (fun c => PV M (13 + nx i c)) 3 = a1 at r1 c1 e1
    generalize amx (fun c => PV M (nx i c)) 3 = a0 at r0 c0 e0
    have n1 := hn i a1 (by omega) (by omega)
    have n0 := hn i a0 (by omega) (by omega)
    have s1 := sv i a1 (by omega) (by omega)
    have s0 := sv i a0 (by omega) (by omega)
    rw [PV_1] at e1 v0 p2
    rw [PV_0 n0] at e0
    rw [PV_0 (by omega)] at v1 p1
    rw [PV_1, PV_0 (show i ≤ 12 by omega)] at mono
    generalize pmin nx (PV M) i = m1 at e1 b1 p1 mono q1
    generalize pmax nx (PV M) i = m0 at e0 b0 p2 mono q0
    obtain ⟨w, hw⟩ : ∃ w, w = g_min 1000 (1 + m1) := ⟨_, rfl⟩
    obtain ⟨sh, hsh⟩ : ∃ w, w = g_min 1000 (1 + m0) := ⟨_, rfl⟩
    have hw2 : w = min 1000 (1 + m1) := by
      rw [hw, g_min_of (by omega) (by omega)]
      by_cases c : 1 + m1 < 1000
      · rw [if_pos c]; omega
      · rw [if_neg c]; omega
    have hsh2 : sh = min 1000 (1 + m0) := by
      rw [hsh, g_min_of (by omega) (by omega)]
      by_cases c : 1 + m0 < 1000
      · rw [if_pos c]; omega
      · rw [if_neg c]; omega
    have mono := mono w sh hw2 hsh2
    rw [m_X0_playOut_L67]
    rcases g2 with rfl | rfl
    · by_cases c1 : w < M 70 i
      · simp (disch := omega) only [↓reduceIte, ↓nm_eq, ↓jn_eq, ↓c_within, ↓c_isIn, ↓c_isScene, ↓c_isPlace, ↓c_isCue, ↓c_isDigit, ↓d_isScene, ↓d_isAny, ↓ta_pb1, ↓ta_pb0, ↓ta_pb1', ↓ta_pb0', ta_lt, ta_nlt, ta_le, ta_nle, ta_eq, ta_neq, ta_nne, ta_ne, gs_id, a_gd01, a_gdT, or_true, true_or, bd_some, bW_sm, a_gd, a_ne, a_rd, Int.toNat_natCast, Int.toNat_add, Int.toNat_mul, Int.reduceToNat, a_gdp, a_cell, and_self, and_true, true_and, r1, r0, s1, s0, e1, e0, ← hw, ← hsh]
        exact kk' 1 _ (mono 1 (Or.inr rfl) (fun z => by omega))
      · by_cases c0 : M 71 i ≤ sh
        · simp (disch := omega) only [↓reduceIte, ↓nm_eq, ↓jn_eq, ↓c_within, ↓c_isIn, ↓c_isScene, ↓c_isPlace, ↓c_isCue, ↓c_isDigit, ↓d_isScene, ↓d_isAny, ↓ta_pb1, ↓ta_pb0, ↓ta_pb1', ↓ta_pb0', ta_lt, ta_nlt, ta_le, ta_nle, ta_eq, ta_neq, ta_nne, ta_ne, gs_id, a_gd01, a_gdT, or_true, true_or, bd_some, bW_sm, a_gd, a_ne, a_rd, Int.toNat_natCast, Int.toNat_add, Int.toNat_mul, Int.reduceToNat, a_gdp, a_cell, and_self, and_true, true_and, r1, r0, s1, s0, e1, e0, ← hw, ← hsh]
          exact kk' 0 _ (mono 0 (Or.inl rfl) (fun _ => ⟨rfl, by omega, by omega⟩))
        · simp (disch := omega) only [↓reduceIte, ↓nm_eq, ↓jn_eq, ↓c_within, ↓c_isIn, ↓c_isScene, ↓c_isPlace, ↓c_isCue, ↓c_isDigit, ↓d_isScene, ↓d_isAny, ↓ta_pb1, ↓ta_pb0, ↓ta_pb1', ↓ta_pb0', ta_lt, ta_nlt, ta_le, ta_nle, ta_eq, ta_neq, ta_nne, ta_ne, gs_id, a_gd01, a_gdT, or_true, true_or, bd_some, bW_sm, a_gd, a_ne, a_rd, Int.toNat_natCast, Int.toNat_add, Int.toNat_mul, Int.reduceToNat, a_gdp, a_cell, and_self, and_true, true_and, r1, r0, s1, s0, e1, e0, ← hw, ← hsh]
          exact kk' 1 _ (mono 1 (Or.inr rfl) (fun z => by omega))
    · simp (disch := omega) only [↓reduceIte, ↓nm_eq, ↓jn_eq, ↓c_within, ↓c_isIn, ↓c_isScene, ↓c_isPlace, ↓c_isCue, ↓c_isDigit, ↓d_isScene, ↓d_isAny, ↓ta_pb1, ↓ta_pb0, ↓ta_pb1', ↓ta_pb0', ta_lt, ta_nlt, ta_le, ta_nle, ta_eq, ta_neq, ta_nne, ta_ne, gs_id, a_gd01, a_gdT, or_true, true_or, bd_some, bW_sm, a_gd, a_ne, a_rd, Int.toNat_natCast, Int.toNat_add, Int.toNat_mul, Int.reduceToNat, a_gdp, a_cell, and_self, and_true, true_and, r1, r0, s1, s0, e1, e0, ← hw, ← hsh]
      exact kk' 1 _ (mono 1 (Or.inr rfl) (fun z => by omega))
