/-! orders: both -/
def sq2C (lo1 hi1 k lo2 hi2 : Int) (M : g_M) : Option (Int × g_M) := g_bW (m_X4_readNumber lo1 hi1 M) (fun x12 M13 => if gs x12 = 0 then (some (0, M13)) else (g_bW (m_X4_pass k M13) (fun x14 M15 => if gs x14 = 0 then (some (0, M15)) else (g_bW (m_X4_readNumber lo2 hi2 M15) (fun x16 M17 => if gs x16 = 0 then (some (0, M17)) else (some (1, M17)))))))
def sq3C (lo1 hi1 k lo2 hi2 k2 lo3 hi3 : Int) (M : g_M) : Option (Int × g_M) := g_bW (m_X4_readNumber lo1 hi1 M) (fun x12 M13 => if gs x12 = 0 then (some (0, M13)) else (g_bW (m_X4_pass k M13) (fun x14 M15 => if gs x14 = 0 then (some (0, M15)) else (g_bW (m_X4_readNumber lo2 hi2 M15) (fun x16 M17 => if gs x16 = 0 then (some (0, M17)) else (g_bW (m_X4_pass k2 M17) (fun x18 M19 => if gs x18 = 0 then (some (0, M19)) else (g_bW (m_X4_readNumber lo3 hi3 M19) (fun x20 M21 => if gs x20 = 0 then (some (0, M21)) else (some (1, M21)))))))))))
theorem sq2_0 {lo1 hi1 k lo2 hi2 : Int} {M M1 : g_M} (h1 : m_X4_readNumber lo1 hi1 M = some (0, M1)) : sq2C lo1 hi1 k lo2 hi2 M = some (0, M1) := by
  unfold sq2C
  rw [bW_eq h1, if_pos gs0_eq]
theorem sq2_1 {lo1 hi1 k lo2 hi2 : Int} {M M1 M2 : g_M} (h1 : m_X4_readNumber lo1 hi1 M = some (1, M1)) (h2 : m_X4_pass k M1 = some (0, M2) ∨ ∃ M3, m_X4_pass k M1 = some (1, M3) ∧ m_X4_readNumber lo2 hi2 M3 = some (0, M2)) : sq2C lo1 hi1 k lo2 hi2 M = some (0, M2) := by
  unfold sq2C
  rcases h2 with h2 | ⟨M3, h2, h3⟩
  · rw [bW_eq h1, if_neg gs1_ne, bW_eq h2, if_pos gs0_eq]
  · rw [bW_eq h1, if_neg gs1_ne, bW_eq h2, if_neg gs1_ne, bW_eq h3, if_pos gs0_eq]
theorem sq2_2 {lo1 hi1 k lo2 hi2 : Int} {M M1 M2 M3 : g_M} (h1 : m_X4_readNumber lo1 hi1 M = some (1, M1)) (h2 : m_X4_pass k M1 = some (1, M2)) (h3 : m_X4_readNumber lo2 hi2 M2 = some (1, M3)) : sq2C lo1 hi1 k lo2 hi2 M = some (1, M3) := by
  unfold sq2C
  rw [bW_eq h1, if_neg gs1_ne, bW_eq h2, if_neg gs1_ne, bW_eq h3, if_neg gs1_ne]
theorem sq3_0 {lo1 hi1 k lo2 hi2 k2 lo3 hi3 : Int} {M M1 : g_M} (h1 : sq2C lo1 hi1 k lo2 hi2 M = some (0, M1)) (hx : ∀ M x M', m_X4_readNumber lo1 hi1 M = some (x, M') → x = 0 ∨ x = 1) : True := trivial
/-- what an order's reading gives -/
def OG (L n X s : Nat) (b : Nat → Int) (M W M' W' : g_M) : Prop := ∃ (s' q' T' : Nat) (N' : Int), PS L b s' q' T' N' M' W' ∧ s < s' ∧ OFm n X M W M' W'
theorem seq2 {L s q T n X k : Nat} {N hi1 lo2 hi2 : Int} {b : Nat → Int} {M W : g_M} (hs : SC L b) (hP : PS L b s q T N M W) (hk : k < 33 ∧ k ≠ 2 ∧ k ≠ 8) (hr1 : 0 ≤ hi1 ∧ hi1 ≤ 40) (hr2 : 0 ≤ lo2 ∧ lo2 ≤ hi2 ∧ hi2 ≤ 40) (h6 : M 25 6 = ((n + 1 : Nat) : Int)) (hn : n < 24) (h7 : M 25 7 = 0) (hX : X + 3 < 2820) {Z : Nat} (hZ : Z ≤ X) :
    (∃ (M1 M2 M3 W' : g_M) (s' q' T' : Nat) (N' v0 v1 : Int), m_X4_readNumber 0 hi1 M = some (1, M1) ∧ m_X4_pass k M1 = some (1, M2) ∧ m_X4_readNumber lo2 hi2 M2 = some (1, M3) ∧ m_X9_pair X hi1 (cw k) lo2 hi2 W = some (0, W') ∧ (∃ W1, m_X9_figure ((X : Int) + 1) 0 hi1 W = some (0, W1) ∧ m_X9_worded (cw k) ((X : Int) + 2) lo2 hi2 W1 = some (0, W')) ∧ PS L b s' q' T' N' M3 W' ∧ s < s' ∧ OFm n X M W M3 W' ∧ M3 25 7 = 2 ∧ (0 ≤ v0 ∧ v0 ≤ hi1 ∧ M3 30 (3 * n + 0) = v0 ∧ W' 3 (X + 1) = v0) ∧ lo2 ≤ v1 ∧ v1 ≤ hi2 ∧ M3 30 (3 * n + 1) = v1 ∧ W' 3 (X + 2) = v1) ∨
    (∃ (M1 W1 : g_M) (e : Int), (m_X4_readNumber 0 hi1 M = some (0, M1) ∨ ∃ M2, m_X4_readNumber 0 hi1 M = some (1, M2) ∧ (m_X4_pass k M2 = some (0, M1) ∨ ∃ M3, m_X4_pass k M2 = some (1, M3) ∧ m_X4_readNumber lo2 hi2 M3 = some (0, M1))) ∧ m_X9_pair X hi1 (cw k) lo2 hi2 W = some (e, W1) ∧ (m_X9_figure ((X : Int) + 1) 0 hi1 W = some (e, W1) ∨ ∃ W2, m_X9_figure ((X : Int) + 1) 0 hi1 W = some (0, W2) ∧ m_X9_worded (cw k) ((X : Int) + 2) lo2 hi2 W2 = some (e, W1)) ∧ BADk Z e M W M1 W1) := by
  rcases num_1 (n := n) (i := 0) (X := X) (lo := 0) (hi := hi1) hs hP (by omega) h6 hn h7 (by omega) hX (x := (X : Int) + 1) (by omega) Z with ⟨M1, W1, s1, q1, T1, N1, v0, r1, r2, r3, r4, r5, r6, O1, o1, o2, o3, o4, o5⟩ | ⟨M1, e, r1, r2, r3⟩
  · have h6' : M1 25 6 = ((n + 1 : Nat) : Int) := by rw [O1.2.2.1 6 (by omega)]; exact h6
    rcases wrd_1 (n := n) (i := 1) (X := X) (k := k) (lo := lo2) (hi := hi2) hs r3 hk hr2 h6' hn o1 (by omega) hX (x := (X : Int) + 2) (by omega) hZ with ⟨M2, M3, W', s', q', T', N', v1, p1, p2, p3, p4, p5, p6, p7, O2, u1, u2, u3, u4, u5⟩ | ⟨M3, W3, e, p1, p2, p3⟩
    · refine Or.inl ⟨M1, M2, M3, W', s', q', T', N', v0, v1, r1, p1, p2, ?_, ⟨W1, r2, p3⟩, p4, by omega, OFm_tr O1 O2, u1, ⟨r5, r6, by rw [u3 _ (by omega)]; exact o2, by rw [u5 _ (by omega)]; exact o4⟩, p6, p7, u2, u4⟩
      unfold m_X9_pair
      rw [bW_eq r2, nm_eq, if_pos gs0_eq, bW_eq p3]
    · refine Or.inr ⟨M3, W3, e, Or.inr ⟨M1, r1, p2⟩, ?_, Or.inr ⟨W1, r2, p1⟩, BADk_step (FRk_o O1 hZ) p3⟩
      unfold m_X9_pair
      rw [bW_eq r2, nm_eq, if_pos gs0_eq, bW_eq p1]
  · refine Or.inr ⟨M1, W, e, Or.inl r1, ?_, Or.inl r2, r3⟩
    unfold m_X9_pair
    rw [bW_eq r2, nm_eq, if_neg (by rw [gs_id (by have := r3.1; omega) (by have := r3.1; omega)]; have := r3.1; omega)]
theorem sq3_bad {lo1 hi1 k lo2 hi2 k2 lo3 hi3 : Int} {M M1 : g_M} (h : m_X4_readNumber lo1 hi1 M = some (0, M1) ∨ ∃ M2, m_X4_readNumber lo1 hi1 M = some (1, M2) ∧ (m_X4_pass k M2 = some (0, M1) ∨ ∃ M3, m_X4_pass k M2 = some (1, M3) ∧ m_X4_readNumber lo2 hi2 M3 = some (0, M1))) : sq3C lo1 hi1 k lo2 hi2 k2 lo3 hi3 M = some (0, M1) ∧ sq2C lo1 hi1 k lo2 hi2 M = some (0, M1) := by
  unfold sq3C sq2C
  rcases h with h1 | ⟨M2, h1, h2 | ⟨M3, h2, h3⟩⟩
  · rw [bW_eq h1, if_pos gs0_eq, bW_eq h1, if_pos gs0_eq]
    exact ⟨rfl, rfl⟩
  · rw [bW_eq h1, if_neg gs1_ne, bW_eq h2, if_pos gs0_eq, bW_eq h1, if_neg gs1_ne, bW_eq h2, if_pos gs0_eq]
    exact ⟨rfl, rfl⟩
  · rw [bW_eq h1, if_neg gs1_ne, bW_eq h2, if_neg gs1_ne, bW_eq h3, if_pos gs0_eq, bW_eq h1, if_neg gs1_ne, bW_eq h2, if_neg gs1_ne, bW_eq h3, if_pos gs0_eq]
    exact ⟨rfl, rfl⟩
theorem sq3_1 {lo1 hi1 k lo2 hi2 k2 lo3 hi3 : Int} {M M1 M2 M3 M4 : g_M} (h1 : m_X4_readNumber lo1 hi1 M = some (1, M1)) (h2 : m_X4_pass k M1 = some (1, M2)) (h3 : m_X4_readNumber lo2 hi2 M2 = some (1, M3)) (h4 : m_X4_pass k2 M3 = some (0, M4) ∨ ∃ M5, m_X4_pass k2 M3 = some (1, M5) ∧ m_X4_readNumber lo3 hi3 M5 = some (0, M4)) : sq3C lo1 hi1 k lo2 hi2 k2 lo3 hi3 M = some (0, M4) := by
  unfold sq3C
  rw [bW_eq h1, if_neg gs1_ne, bW_eq h2, if_neg gs1_ne, bW_eq h3, if_neg gs1_ne]
  rcases h4 with h4 | ⟨M5, h4, h5⟩
  · rw [bW_eq h4, if_pos gs0_eq]
  · rw [bW_eq h4, if_neg gs1_ne, bW_eq h5, if_pos gs0_eq]
theorem sq3_2 {lo1 hi1 k lo2 hi2 k2 lo3 hi3 : Int} {M M1 M2 M3 M4 M5 : g_M} (h1 : m_X4_readNumber lo1 hi1 M = some (1, M1)) (h2 : m_X4_pass k M1 = some (1, M2)) (h3 : m_X4_readNumber lo2 hi2 M2 = some (1, M3)) (h4 : m_X4_pass k2 M3 = some (1, M4)) (h5 : m_X4_readNumber lo3 hi3 M4 = some (1, M5)) : sq3C lo1 hi1 k lo2 hi2 k2 lo3 hi3 M = some (1, M5) := by
  unfold sq3C
  rw [bW_eq h1, if_neg gs1_ne, bW_eq h2, if_neg gs1_ne, bW_eq h3, if_neg gs1_ne, bW_eq h4, if_neg gs1_ne, bW_eq h5, if_neg gs1_ne]
theorem ro_3 (M : g_M) : m_X4_readOrder 3 M = sq2C 0 3 11 0 11 M := by
  unfold m_X4_readOrder sq2C
  rw [if_pos (gs_id (by omega) (by omega)), jn_eq]
theorem ro_4 (M : g_M) : m_X4_readOrder 4 M = sq2C 0 9 31 0 9 M := by
  unfold m_X4_readOrder sq2C
  rw [if_neg (by rw [gs_id (by omega) (by omega)]; omega), if_pos (gs_id (by omega) (by omega)), jn_eq]
theorem ro_5 (M : g_M) : m_X4_readOrder 5 M = sq2C 0 7 12 0 9 M := by
  unfold m_X4_readOrder sq2C
  rw [if_neg (by rw [gs_id (by omega) (by omega)]; omega), if_neg (by rw [gs_id (by omega) (by omega)]; omega), if_pos (gs_id (by omega) (by omega)), jn_eq]
theorem ro_6 (M : g_M) : m_X4_readOrder 6 M = sq2C 0 11 9 1 3 M := by
  unfold m_X4_readOrder sq2C
  rw [if_neg (by rw [gs_id (by omega) (by omega)]; omega), if_neg (by rw [gs_id (by omega) (by omega)]; omega), if_neg (by rw [gs_id (by omega) (by omega)]; omega), if_pos (gs_id (by omega) (by omega)), jn_eq]
theorem ro_7 {M M' : g_M} {x : Int} (h : m_X4_readNumber 0 11 M = some (x, M')) (hx : x = 0 ∨ x = 1) : m_X4_readOrder 7 M = some (x, M') := by
  unfold m_X4_readOrder
  rw [if_neg (by rw [gs_id (by omega) (by omega)]; omega), if_neg (by rw [gs_id (by omega) (by omega)]; omega), if_neg (by rw [gs_id (by omega) (by omega)]; omega), if_neg (by rw [gs_id (by omega) (by omega)]; omega), if_pos (gs_id (by omega) (by omega)), bW_eq h, a_gdp hx]
theorem ro_24 (M : g_M) : m_X4_readOrder 24 M = sq3C 0 11 9 0 3 10 0 12 M := by
  unfold m_X4_readOrder sq3C
  rw [if_neg (by rw [gs_id (by omega) (by omega)]; omega), if_neg (by rw [gs_id (by omega) (by omega)]; omega), if_neg (by rw [gs_id (by omega) (by omega)]; omega), if_neg (by rw [gs_id (by omega) (by omega)]; omega), if_neg (by rw [gs_id (by omega) (by omega)]; omega), if_pos (gs_id (by omega) (by omega)), jn_eq]
theorem ro_8 {M M' : g_M} {x : Int} (h : m_X4_readNumber 1 40 M = some (x, M')) (hx : x = 0 ∨ x = 1) : m_X4_readOrder 8 M = some (x, M') := by
  unfold m_X4_readOrder
  rw [if_neg (by rw [gs_id (by omega) (by omega)]; omega), if_neg (by rw [gs_id (by omega) (by omega)]; omega), if_neg (by rw [gs_id (by omega) (by omega)]; omega), if_neg (by rw [gs_id (by omega) (by omega)]; omega), if_neg (by rw [gs_id (by omega) (by omega)]; omega), if_neg (by rw [gs_id (by omega) (by omega)]; omega), bW_eq h, a_gdp hx]
theorem cwe_r31 : m_X9_w3 114 111 119 = some (cw 31) := cwe_31
theorem bo_4 {X x : Int} {W W' : g_M} (h : m_X9_pair X 3 (cw 11) 0 11 W = some (x, W')) : m_X9_body 4 X W = some (x, W') := by
  unfold m_X9_body
  rw [if_neg (by rw [gs_id (by omega) (by omega)]; omega), if_pos (gs_id (by omega) (by omega)), bd_eq cwe_11, bW_eq h]
theorem bo_5 {X x : Int} {W W' : g_M} (h : m_X9_pair X 9 (cw 31) 0 9 W = some (x, W')) : m_X9_body 5 X W = some (x, W') := by
  unfold m_X9_body
  rw [if_neg (by rw [gs_id (by omega) (by omega)]; omega), if_neg (by rw [gs_id (by omega) (by omega)]; omega), if_pos (gs_id (by omega) (by omega)), bd_eq cwe_31, bW_eq h]
theorem bo_6 {X x : Int} {W W' : g_M} (h : m_X9_pair X 7 (cw 12) 0 9 W = some (x, W')) : m_X9_body 6 X W = some (x, W') := by
  unfold m_X9_body
  rw [if_neg (by rw [gs_id (by omega) (by omega)]; omega), if_neg (by rw [gs_id (by omega) (by omega)]; omega), if_neg (by rw [gs_id (by omega) (by omega)]; omega), if_pos (gs_id (by omega) (by omega)), bd_eq cwe_12, bW_eq h]
theorem bo_7 {X x : Int} {W W' : g_M} (h : m_X9_pair X 11 (cw 9) 1 3 W = some (x, W')) : m_X9_body 7 X W = some (x, W') := by
  unfold m_X9_body
  rw [if_neg (by rw [gs_id (by omega) (by omega)]; omega), if_neg (by rw [gs_id (by omega) (by omega)]; omega), if_neg (by rw [gs_id (by omega) (by omega)]; omega), if_neg (by rw [gs_id (by omega) (by omega)]; omega), if_pos (gs_id (by omega) (by omega)), bd_eq cwe_9, bW_eq h]
theorem bo_8 {X x : Int} {W W' : g_M} (h : m_X9_figure (X + 1) 0 11 W = some (x, W')) : m_X9_body 8 X W = some (x, W') := by
  unfold m_X9_body
  rw [if_neg (by rw [gs_id (by omega) (by omega)]; omega), if_neg (by rw [gs_id (by omega) (by omega)]; omega), if_neg (by rw [gs_id (by omega) (by omega)]; omega), if_neg (by rw [gs_id (by omega) (by omega)]; omega), if_neg (by rw [gs_id (by omega) (by omega)]; omega), if_pos (gs_id (by omega) (by omega)), bW_eq h]
theorem bo_9 {X x : Int} {W W' : g_M} (h : m_X9_figure (X + 1) 1 40 W = some (x, W')) : m_X9_body 9 X W = some (x, W') := by
  unfold m_X9_body
  rw [if_neg (by rw [gs_id (by omega) (by omega)]; omega), if_neg (by rw [gs_id (by omega) (by omega)]; omega), if_neg (by rw [gs_id (by omega) (by omega)]; omega), if_neg (by rw [gs_id (by omega) (by omega)]; omega), if_neg (by rw [gs_id (by omega) (by omega)]; omega), if_neg (by rw [gs_id (by omega) (by omega)]; omega), if_pos (gs_id (by omega) (by omega)), bW_eq h]
theorem bo_3 {X x : Int} {W W' : g_M} (h : m_X9_sceneClause X W = some (x, W')) : m_X9_body 3 X W = some (x, W') := by
  unfold m_X9_body
  rw [if_pos (gs_id (by omega) (by omega)), bW_eq h]
theorem sc_bad {X e : Int} {W W1 : g_M} (he : 1 ≤ e ∧ e ≤ 6) (h : m_X9_figure (X + 1) 0 11 W = some (e, W1) ∨ ∃ W2, m_X9_figure (X + 1) 0 11 W = some (0, W2) ∧ m_X9_worded (cw 9) (X + 2) 0 3 W2 = some (e, W1)) : m_X9_sceneClause X W = some (e, W1) := by
  have g : ¬ gs e = 0 := by rw [gs_id (by omega) (by omega)]; omega
  unfold m_X9_sceneClause
  rw [jn_eq]
  rcases h with h | ⟨W2, h, h2⟩
  · rw [bW_eq h, nm_eq, if_pos g]
    exact if_neg g
  · rw [bW_eq h, nm_eq, if_neg (fun z => z gs0_eq), bd_eq cwe_9, bW_eq h2, nm_eq]
    exact if_neg g
theorem sc_go {X x : Int} {W W1 W2 W3 : g_M} (h : m_X9_figure (X + 1) 0 11 W = some (0, W1)) (h2 : m_X9_worded (cw 9) (X + 2) 0 3 W1 = some (0, W2)) (h3 : m_X9_worded (cw 10) (X + 3) 0 12 W2 = some (x, W3)) : m_X9_sceneClause X W = some (x, W3) := by
  unfold m_X9_sceneClause
  rw [jn_eq, bW_eq h, nm_eq, if_neg (fun z => z gs0_eq), bd_eq cwe_9, bW_eq h2, nm_eq]
  show (if gs (0 : Int) = 0 then ((m_X9_w2 116 111).bind fun x21 => g_bW (m_X9_worded x21 (X + 3) 0 12 W2) fun x22 M23 => some (x22, M23)) else some ((0 : Int), W2)) = _
  rw [if_pos gs0_eq, bd_eq cwe_10, bW_eq h3]
/-- an order: both -/
theorem ord_both {L s q T n X h : Nat} {N : Int} {b : Nat → Int} {M W : g_M} (hs : SC L b) (hP : PS L b s q T N M W) (hh : (3 ≤ h ∧ h ≤ 8) ∨ h = 24) (h6 : M 25 6 = ((n + 1 : Nat) : Int)) (hn : n < 24) (h7 : M 25 7 = 0) (hX : X + 3 < 2820) (hWX : W 3 X = sortI h) {Z : Nat} (hZ : Z ≤ X) :
    (∃ (M' W' : g_M), m_X4_readOrder h M = some (1, M') ∧ m_X9_body (sortI h) X W = some (0, W') ∧ OG L n X s b M W M' W' ∧ R_clause h (fun j => M' 30 (3 * n + j)) (fun j => W' 3 (X + j))) ∨
    (∃ (M' W' : g_M) (e : Int), m_X4_readOrder h M = some (0, M') ∧ m_X9_body (sortI h) X W = some (e, W') ∧ BADk Z e M W M' W') := by
  have two : ∀ (k : Nat) (hi1 lo2 hi2 : Int), k < 33 ∧ k ≠ 2 ∧ k ≠ 8 → 0 ≤ hi1 ∧ hi1 ≤ 40 → 0 ≤ lo2 ∧ lo2 ≤ hi2 ∧ hi2 ≤ 40 → m_X4_readOrder h M = sq2C 0 hi1 k lo2 hi2 M → (∀ x V, m_X9_pair X hi1 (cw k) lo2 hi2 W = some (x, V) → m_X9_body (sortI h) X W = some (x, V)) → (∀ nu rb : Nat → Int, rb 0 = sortI h → 0 ≤ nu 0 ∧ nu 0 ≤ hi1 ∧ rb 1 = nu 0 → lo2 ≤ nu 1 ∧ nu 1 ≤ hi2 ∧ rb 2 = nu 1 → R_clause h nu rb) → ((∃ (M' W' : g_M), m_X4_readOrder h M = some (1, M') ∧ m_X9_body (sortI h) X W = some (0, W') ∧ OG L n X s b M W M' W' ∧ R_clause h (fun j => M' 30 (3 * n + j)) (fun j => W' 3 (X + j))) ∨ (∃ (M' W' : g_M) (e : Int), m_X4_readOrder h M = some (0, M') ∧ m_X9_body (sortI h) X W = some (e, W') ∧ BADk Z e M W M' W')) := by
    intro k hi1 lo2 hi2 hk hr1 hr2 e1 e2 e3
    rcases seq2 (n := n) (X := X) hs hP hk hr1 hr2 h6 hn h7 hX hZ with ⟨M1, M2, M3, W', s', q', T', N', v0, v1, r1, r2, r3, r4, r5, r6, r7, r8, r9, ⟨p1, p2, p3, p4⟩, p5, p6, p7, p8⟩ | ⟨M1, W1, e, r1, r2, r3, r4⟩
    · refine Or.inl ⟨M3, W', by rw [e1]; exact sq2_2 r1 r2 r3, e2 _ _ r4, ⟨s', q', T', N', r6, r7, r8⟩, e3 _ _ ?_ ⟨?_, ?_, ?_⟩ ⟨?_, ?_, ?_⟩⟩
      · show W' 3 (X + 0) = sortI h
        rw [r8.2.2.2.2.2.2 _ (by omega)]; exact hWX
      · show 0 ≤ M3 30 (3 * n + 0)
        rw [p3]; exact p1
      · show M3 30 (3 * n + 0) ≤ hi1
        rw [p3]; exact p2
      · show W' 3 (X + 1) = M3 30 (3 * n + 0)
        rw [p3, p4]
      · show lo2 ≤ M3 30 (3 * n + 1)
        rw [p7]; exact p5
      · show M3 30 (3 * n + 1) ≤ hi2
        rw [p7]; exact p6
      · show W' 3 (X + 2) = M3 30 (3 * n + 1)
        rw [p7, p8]
    · exact Or.inr ⟨M1, W1, e, by rw [e1]; exact (sq3_bad (k2 := 0) (lo3 := 0) (hi3 := 0) r1).2, e2 _ _ r2, r4⟩
  have one : ∀ (lo hi : Int), 0 ≤ lo ∧ lo ≤ hi ∧ hi ≤ 40 → (∀ x V, x = 0 ∨ x = 1 → m_X4_readNumber lo hi M = some (x, V) → m_X4_readOrder h M = some (x, V)) → (∀ x V, m_X9_figure ((X : Int) + 1) lo hi W = some (x, V) → m_X9_body (sortI h) X W = some (x, V)) → (∀ nu rb : Nat → Int, rb 0 = sortI h → lo ≤ nu 0 ∧ nu 0 ≤ hi ∧ rb 1 = nu 0 → R_clause h nu rb) → ((∃ (M' W' : g_M), m_X4_readOrder h M = some (1, M') ∧ m_X9_body (sortI h) X W = some (0, W') ∧ OG L n X s b M W M' W' ∧ R_clause h (fun j => M' 30 (3 * n + j)) (fun j => W' 3 (X + j))) ∨ (∃ (M' W' : g_M) (e : Int), m_X4_readOrder h M = some (0, M') ∧ m_X9_body (sortI h) X W = some (e, W') ∧ BADk Z e M W M' W')) := by
    intro lo hi hr e1 e2 e3
    rcases num_1 (n := n) (i := 0) (X := X) (lo := lo) (hi := hi) hs hP hr h6 hn h7 (by omega) hX (x := (X : Int) + 1) (by omega) Z with ⟨M1, W1, s1, q1, T1, N1, v0, r1, r2, r3, r4, r5, r6, O1, o1, o2, o3, o4, o5⟩ | ⟨M1, e, r1, r2, r3⟩
    · refine Or.inl ⟨M1, W1, e1 _ _ (Or.inr rfl) r1, e2 _ _ r2, ⟨s1, q1, T1, N1, r3, r4, O1⟩, e3 _ _ ?_ ⟨?_, ?_, ?_⟩⟩
      · show W1 3 (X + 0) = sortI h
        rw [O1.2.2.2.2.2.2 _ (by omega)]; exact hWX
      · show lo ≤ M1 30 (3 * n + 0)
        rw [o2]; exact r5
      · show M1 30 (3 * n + 0) ≤ hi
        rw [o2]; exact r6
      · show W1 3 (X + 1 + 0) = M1 30 (3 * n + 0)
        rw [o2, o4]
    · exact Or.inr ⟨M1, W, e, e1 _ _ (Or.inl rfl) r1, e2 _ _ r2, r3⟩
  have a : h = 3 ∨ h = 4 ∨ h = 5 ∨ h = 6 ∨ h = 7 ∨ h = 8 ∨ h = 24 := by omega
  rcases a with a | a | a | a | a | a | a
  · subst a
    exact two 11 3 0 11 (by omega) (by omega) (by omega) (ro_3 M) (fun x V e => bo_4 e) (fun nu rb h0 h1 h2 => ⟨3, 4, rfl, h0, Or.inr (Or.inr (Or.inl ⟨rfl, rfl, h1, h2⟩))⟩)
  · subst a
    exact two 31 9 0 9 (by omega) (by omega) (by omega) (ro_4 M) (fun x V e => bo_5 e) (fun nu rb h0 h1 h2 => ⟨4, 5, rfl, h0, Or.inr (Or.inr (Or.inr (Or.inl ⟨rfl, rfl, h1, h2⟩)))⟩)
  · subst a
    exact two 12 7 0 9 (by omega) (by omega) (by omega) (ro_5 M) (fun x V e => bo_6 e) (fun nu rb h0 h1 h2 => ⟨5, 6, rfl, h0, Or.inr (Or.inr (Or.inr (Or.inr (Or.inl ⟨rfl, rfl, h1, h2⟩))))⟩)
  · subst a
    exact two 9 11 1 3 (by omega) (by omega) (by omega) (ro_6 M) (fun x V e => bo_7 e) (fun nu rb h0 h1 h2 => ⟨6, 7, rfl, h0, Or.inr (Or.inr (Or.inr (Or.inr (Or.inr (Or.inl ⟨rfl, rfl, h1, h2⟩)))))⟩)
  · subst a
    exact one 0 11 (by omega) (fun x V hx e => ro_7 e hx) (fun x V e => bo_8 e) (fun nu rb h0 h1 => ⟨7, 8, rfl, h0, Or.inr (Or.inr (Or.inr (Or.inr (Or.inr (Or.inr (Or.inl ⟨rfl, rfl, h1⟩))))))⟩)
  · subst a
    exact one 1 40 (by omega) (fun x V hx e => ro_8 e hx) (fun x V e => bo_9 e) (fun nu rb h0 h1 => ⟨8, 9, rfl, h0, Or.inr (Or.inr (Or.inr (Or.inr (Or.inr (Or.inr (Or.inr ⟨rfl, rfl, h1⟩))))))⟩)
  · subst a
    have e1 : m_X4_readOrder ((24 : Nat) : Int) M = sq3C 0 11 9 0 3 10 0 12 M := ro_24 M
    rcases seq2 (n := n) (X := X) (k := 9) (hi1 := 11) (lo2 := 0) (hi2 := 3) hs hP (by omega) (by omega) (by omega) h6 hn h7 hX hZ with ⟨M1, M2, M3, W', s', q', T', N', v0, v1, r1, r2, r3, r4, ⟨W1, r5, r5'⟩, r6, r7, r8, r9, ⟨p1, p2, p3, p4⟩, p5, p6, p7, p8⟩ | ⟨M1, W1, e, r1, r2, r3, r4⟩
    · have h6' : M3 25 6 = ((n + 1 : Nat) : Int) := by rw [r8.2.2.1 6 (by omega)]; exact h6
      rcases wrd_1 (n := n) (i := 2) (X := X) (k := 10) (lo := 0) (hi := 12) hs r6 (by omega) (by omega) h6' hn r9 (by omega) hX (x := (X : Int) + 3) (by omega) hZ with ⟨M4, M5, W5, s5, q5, T5, N5, v2, g1, g2, g3, g4, g5, g6, g7, O2, u1, u2, u3, u4, u5⟩ | ⟨M5, W5, e, g1, g2, g3⟩
      · refine Or.inl ⟨M5, W5, by rw [e1]; exact sq3_2 r1 r2 r3 g1 g2, bo_3 (sc_go r5 r5' g3), ⟨s5, q5, T5, N5, g4, by omega, OFm_tr r8 O2⟩, ?_⟩
        have hm0 : M5 30 (3 * n + 0) = v0 := by rw [u3 _ (by omega)]; exact p3
        have hm1 : M5 30 (3 * n + 1) = v1 := by rw [u3 _ (by omega)]; exact p7
        have hw0 : W5 3 (X + 0) = 3 := by rw [O2.2.2.2.2.2.2 _ (by omega), r8.2.2.2.2.2.2 _ (by omega)]; exact hWX
        have hw1 : W5 3 (X + 1) = v0 := by rw [u5 _ (by omega)]; exact p4
        have hw2 : W5 3 (X + 2) = v1 := by rw [u5 _ (by omega)]; exact p8
        refine ⟨24, 3, rfl, hw0, Or.inr (Or.inl ⟨rfl, rfl, ⟨?_, ?_, ?_⟩, ⟨?_, ?_, ?_⟩, ?_, ?_, ?_⟩)⟩
        · show 0 ≤ M5 30 (3 * n + 0); rw [hm0]; exact p1
        · show M5 30 (3 * n + 0) ≤ 11; rw [hm0]; exact p2
        · show W5 3 (X + 1) = M5 30 (3 * n + 0); rw [hm0, hw1]
        · show 0 ≤ M5 30 (3 * n + 1); rw [hm1]; exact p5
        · show M5 30 (3 * n + 1) ≤ 3; rw [hm1]; exact p6
        · show W5 3 (X + 2) = M5 30 (3 * n + 1); rw [hm1, hw2]
        · show 0 ≤ M5 30 (3 * n + 2); rw [u2]; exact g6
        · show M5 30 (3 * n + 2) ≤ 12; rw [u2]; exact g7
        · show W5 3 (X + 1 + 2) = M5 30 (3 * n + 2); rw [u2, u4]
      · exact Or.inr ⟨M5, W5, e, by rw [e1]; exact sq3_1 r1 r2 r3 g2, bo_3 (sc_go r5 r5' g1), BADk_step (FRk_o r8 hZ) g3⟩
    · exact Or.inr ⟨M1, W1, e, by rw [e1]; exact (sq3_bad r1).1, bo_3 (sc_bad ⟨r4.1.2.2.1, r4.1.2.2.2.1⟩ r3), r4⟩
