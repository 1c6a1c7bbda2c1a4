/-! a CLAUSE: both -/
theorem once_tab : (List.range 8).all (fun o => (List.range 3).all (fun l => decide (m_X9_has (o : Int) (l : Int) = some ((o / 2 ^ l % 2 : Nat) : Int)) && (List.range 8).any (fun o' => decide (g_or (o : Int) (g_shl 1 (l : Int)) = (o' : Int) ∧ o' / 2 ^ l % 2 = 1) && (List.range 3).all (fun j => decide (j = l) || decide (o' / 2 ^ j % 2 = o / 2 ^ j % 2))))) = true := by decide +kernel
theorem once_l {o l : Nat} (ho : o < 8) (hl : l < 3) : m_X9_has (o : Int) (l : Int) = some ((o / 2 ^ l % 2 : Nat) : Int) ∧ ∃ o' : Nat, o' < 8 ∧ g_or (o : Int) (g_shl 1 (l : Int)) = (o' : Int) ∧ o' / 2 ^ l % 2 = 1 ∧ ∀ j : Nat, j < 3 → j ≠ l → o' / 2 ^ j % 2 = o / 2 ^ j % 2 := by
  have a := all_of (all_of once_tab ho) hl
  rw [Bool.and_eq_true] at a
  obtain ⟨o', h1, h2⟩ := List.any_eq_true.1 a.2
  rw [Bool.and_eq_true] at h2
  have h3 := of_decide_eq_true h2.1
  refine ⟨of_decide_eq_true a.1, o', List.mem_range.1 h1, h3.1, h3.2, fun j hj hn => ?_⟩
  have b := all_of h2.2 hj
  rw [Bool.or_eq_true] at b
  rcases b with b | b
  · exact absurd (of_decide_eq_true b) hn
  · exact of_decide_eq_true b
def LWI (l n c w Z : Nat) (M W : g_M) : Prop := (M 27 l = 0 ∧ M 28 l = 0 ∧ ∀ k : Nat, k < n → W 3 (Z + 1 + 4 * k) ≠ l) ∨ ∃ k i j i' j' : Nat, k < n ∧ W 3 (Z + 1 + 4 * k) = l ∧ (∀ y : Nat, y < k → W 3 (Z + 1 + 4 * y) ≠ l) ∧ M 27 l = i ∧ M 28 l = j ∧ j ≤ c ∧ W 3 (Z + 1 + 4 * k + 1) = i' ∧ W 3 (Z + 1 + 4 * k + 2) = j' ∧ j' ≤ w ∧ RS l (M 26) i j (fun y => W 3 (Z + 97 + y)) i' j'
/-- a text as far as it has been read -/
def TI (L Z : Nat) (b : Nat → Int) (s q T : Nat) (N : Int) (c w n O : Nat) (M W : g_M) : Prop := SC L b ∧ PS L b s q T N M W ∧ (M 25 1 = c ∧ c ≤ s ∧ M 25 6 = n ∧ n ≤ 24) ∧ (W 0 12 = Z ∧ W 0 13 = w ∧ w ≤ s ∧ W 0 19 = O ∧ O < 8 ∧ W 3 Z = n) ∧ (∀ k : Nat, k < n → R_clause (M 29 k) (fun j => M 30 (3 * k + j)) (fun j => W 3 (Z + 1 + 4 * k + j))) ∧ ∀ l : Nat, l < 3 → LWI l n c w Z M W ∧ (O / 2 ^ l % 2 = 1 ↔ M 27 l < M 28 l)
theorem R_clause_cg {hd hd' : Int} {nu nu' rb rb' : Nat → Int} (h : R_clause hd nu rb) (e0 : hd' = hd) (e1 : ∀ j, j < 3 → nu' j = nu j) (e2 : ∀ j, j < 4 → rb' j = rb j) : R_clause hd' nu' rb' := by
  unfold R_clause
  rw [e0, e1 0 (by omega), e1 1 (by omega), e1 2 (by omega), e2 0 (by omega), e2 1 (by omega), e2 2 (by omega), e2 3 (by omega)]
  exact h
theorem TI_next {L Z s q T c w n O s' q' T' c' w' O' : Nat} {N N' : Int} {b : Nat → Int} {M W M' W' : g_M} (h : TI L Z b s q T N c w n O M W) (hn : n < 24) (hP : PS L b s' q' T' N' M' W') (h1 : M' 25 1 = c' ∧ c ≤ c' ∧ c' ≤ s' ∧ M' 25 6 = ((n + 1 : Nat) : Int)) (h2 : W' 0 12 = Z ∧ W' 0 13 = w' ∧ w ≤ w' ∧ w' ≤ s' ∧ W' 0 19 = O' ∧ O' < 8 ∧ W' 3 Z = ((n + 1 : Nat) : Int)) (m29 : ∀ k, k < n → M' 29 k = M 29 k) (m30 : ∀ y, y < 3 * n → M' 30 y = M 30 y) (w3a : ∀ y, Z + 1 ≤ y → y < Z + 1 + 4 * n → W' 3 y = W 3 y) (hc : R_clause (M' 29 n) (fun j => M' 30 (3 * n + j)) (fun j => W' 3 (Z + 1 + 4 * n + j))) (m26 : ∀ y, y < c → M' 26 y = M 26 y) (w3c : ∀ y, Z + 97 ≤ y → y < Z + 97 + 2 * w → W' 3 y = W 3 y)
    (hl : ∀ l : Nat, l < 3 → (M' 27 l = M 27 l ∧ M' 28 l = M 28 l ∧ W' 3 (Z + 1 + 4 * n) ≠ l ∧ O' / 2 ^ l % 2 = O / 2 ^ l % 2) ∨ (M 28 l ≤ M 27 l ∧ W' 3 (Z + 1 + 4 * n) = l ∧ (∃ i j i' j' : Nat, M' 27 l = i ∧ M' 28 l = j ∧ j ≤ c' ∧ W' 3 (Z + 1 + 4 * n + 1) = i' ∧ W' 3 (Z + 1 + 4 * n + 2) = j' ∧ j' ≤ w' ∧ RS l (M' 26) i j (fun y => W' 3 (Z + 97 + y)) i' j') ∧ O' / 2 ^ l % 2 = 1)) : TI L Z b s' q' T' N' c' w' (n + 1) O' M' W' := by
  obtain ⟨hs, -, ⟨x1, x2, x3, x4⟩, ⟨y1, y2, y3, y4, y5, y6⟩, z1, z2⟩ := h
  refine ⟨hs, hP, ⟨h1.1, h1.2.2.1, h1.2.2.2, by omega⟩, ⟨h2.1, h2.2.1, h2.2.2.2.1, h2.2.2.2.2.1, h2.2.2.2.2.2.1, h2.2.2.2.2.2.2⟩, fun k hk => ?_, fun l hl3 => ?_⟩
  · by_cases z : k = n
    · rw [z]; exact hc
    · exact R_clause_cg (z1 k (by omega)) (m29 k (by omega)) (fun j hj => m30 _ (by omega)) (fun j hj => w3a _ (by omega) (by omega))
  · obtain ⟨g1, g2⟩ := z2 l hl3
    rcases hl l hl3 with ⟨a1, a2, a3, a4⟩ | ⟨a1, a2, ⟨i, j, i', j', d1, d2, d3, d4, d5, d6, d7⟩, a4⟩
    · rw [a4, a1, a2]
      refine ⟨?_, g2⟩
      rcases g1 with ⟨e1, e2, e3⟩ | ⟨k, i, j, i', j', e1, e2, e3, e4, e5, e6, e7, e8, e9, e10⟩
      · refine Or.inl ⟨by rw [a1]; exact e1, by rw [a2]; exact e2, fun k hk => ?_⟩
        by_cases z : k = n
        · rw [z]; exact a3
        · rw [w3a _ (by omega) (by omega)]; exact e3 k (by omega)
      · exact Or.inr ⟨k, i, j, i', j', by omega, by rw [w3a _ (by omega) (by omega)]; exact e2, fun y hy => by rw [w3a _ (by omega) (by omega)]; exact e3 y hy, by rw [a1]; exact e4, by rw [a2]; exact e5, by omega, by rw [w3a _ (by omega) (by omega)]; exact e7, by rw [w3a _ (by omega) (by omega)]; exact e8, by omega, RS_cg e10 (fun y y1 y2 => m26 y (by omega)) (fun y y1 y2 => w3c _ (by omega) (by omega))⟩
    · refine ⟨Or.inr ⟨n, i, j, i', j', by omega, a2, fun y hy => ?_, d1, d2, d3, d4, d5, d6, d7⟩, ⟨fun _ => ?_, fun _ => a4⟩⟩
      · rw [w3a _ (by omega) (by omega)]
        rcases g1 with ⟨e1, e2, e3⟩ | ⟨k, i, j, i', j', e1, e2, e3, e4, e5, e6, e7, e8, e9, e10⟩
        · exact e3 y (by omega)
        · have := e10.1
          omega
      · have := d7.1
        omega
/-- the class's CLAUSE -/
def rcB (x18 x19 : Int) (M : g_M) : Option (Int × g_M) := if gs (M 25 6) < gs 24 then ((m_X7_begin 25 x18 M).bind (fun M24 => (m_X4_advance M24).bind (fun M25 => if gs x19 ≠ 0 then (g_jn (fun (M35 : g_M) => some (0, M35)) (fun J26 => g_nm (g_wr M25 23 9 x18) (fun M27 => g_gd (g_ix (M27 23 9) 3) (g_nm (g_wr M27 27 (gs (M27 23 9)).toNat (M27 25 1)) (fun M28 => g_bW (m_rd g_depth 0 0 M28) (fun x29 M30 => g_nm x29 (fun x31 => g_gd (g_ix (M30 23 9) 3) (g_nm (g_wr M30 28 (gs (M30 23 9)).toNat (M30 25 1)) (fun M32 => if gs x31 = 0 then (J26 M32) else (g_bW (m_X4_pass 61 M32) (fun x33 M34 => if gs x33 = 0 then (J26 M34) else (some (1, M34))))))))))))) else (g_jn (fun (M41 : g_M) => some (0, M41)) (fun J36 => g_bW (m_X4_readOrder x18 M25) (fun x37 M38 => if gs x37 = 0 then (J36 M38) else (g_bW (m_X4_pass 61 M38) (fun x39 M40 => if gs x39 = 0 then (J36 M40) else (some (1, M40)))))))))) else (g_bW (m_X4_wrong 6 M) (fun x42 M43 => g_gd (x42 = 0 ∨ x42 = 1) (some (x42, M43))))
def rcJ (x18 x19 : Int) (M : g_M) : Option (Int × g_M) := g_jn (rcB x18 x19 M) (fun J20 => if gs x19 = 0 then (J20) else ((m_X7_has 25 x18 M).bind (fun x21 => if gs x21 = 0 then (J20) else (g_bW (m_X4_wrong 4 M) (fun x22 M23 => g_gd (x22 = 0 ∨ x22 = 1) (some (x22, M23)))))))
theorem rc_law {T : Nat} {M : g_M} (h7 : M 23 7 = T) (hT : T < 3) (hh : m_X7_has 25 T M = some 0) : m_X4_readClause M = rcB T 1 M := by
  unfold m_X4_readClause
  rw [jn_eq, nm_eq, h7, c_within (by omega) (by omega) (by omega), nm_eq, pb_t (by omega), if_pos gs1_ne]
  show rcJ T 1 M = _
  unfold rcJ
  rw [jn_eq, if_neg gs1_ne, bd_eq hh, if_pos gs0_eq]
theorem rc_has {T : Nat} {M : g_M} (h7 : M 23 7 = T) (hT : T < 3) (hh : m_X7_has 25 T M = some 1) : m_X4_readClause M = some (0, g_wr (g_wr M 23 3 4) 23 4 (M 23 6)) := by
  unfold m_X4_readClause
  rw [jn_eq, nm_eq, h7, c_within (by omega) (by omega) (by omega), nm_eq, pb_t (by omega), if_pos gs1_ne]
  show rcJ T 1 M = _
  unfold rcJ
  rw [jn_eq, if_neg gs1_ne, bd_eq hh, if_neg gs1_ne, bW_01 (c_wrong 4 M) (Or.inl rfl)]
theorem rc_ord {T : Nat} {M : g_M} (h7 : M 23 7 = T) (hT : (3 ≤ T ∧ T ≤ 8) ∨ T = 24) : m_X4_readClause M = rcB T 0 M := by
  unfold m_X4_readClause
  rw [jn_eq, nm_eq, h7, c_within (by omega) (by omega) (by omega), nm_eq, pb_f (by omega), if_neg (fun z => z gs0_eq)]
  by_cases c : T = 24
  · rw [if_pos (by rw [c]; rfl)]
    show rcJ T 0 M = _
    unfold rcJ
    rw [jn_eq, if_pos gs0_eq]
  · rw [if_neg (by rw [gs_id (by omega) (by omega), gs_id (by omega) (by omega)]; omega), c_within (by omega) (by omega) (by omega), pb_t (by omega), if_pos gs1_ne]
    show rcJ T 0 M = _
    unfold rcJ
    rw [jn_eq, if_pos gs0_eq]
theorem rc_no {T : Nat} {M : g_M} (h7 : M 23 7 = T) (h100 : T < 100) (hT : ¬ (T ≤ 8 ∨ T = 24)) : m_X4_readClause M = some (0, g_wr (g_wr M 23 3 1) 23 4 (M 23 6)) := by
  unfold m_X4_readClause
  rw [jn_eq, nm_eq, h7, c_within (by omega) (by omega) (by omega), nm_eq, pb_f (by omega), if_neg (fun z => z gs0_eq), if_neg (by rw [gs_id (by omega) (by omega), gs_id (by omega) (by omega)]; omega), c_within (by omega) (by omega) (by omega), pb_f (by omega), if_neg (fun z => z gs0_eq), bW_01 (c_wrong 1 M) (Or.inl rfl)]
theorem rcB_6 {x y : Int} {M : g_M} (h6 : M 25 6 = 24) : rcB x y M = some (0, g_wr (g_wr M 23 3 6) 23 4 (M 23 6)) := by
  unfold rcB
  rw [h6, if_neg (by omega), bW_01 (c_wrong 6 M) (Or.inl rfl)]
theorem c_begin {n T : Nat} {M : g_M} (h6 : M 25 6 = n) (hn : n < 24) : m_X7_begin 25 T M = some (g_wr (g_wr (g_wr M 29 n T) 25 6 ((n : Int) + 1)) 25 7 0) := by
  unfold m_X7_begin
  simp (disch := omega) only [↓reduceIte, ↓nm_eq, ↓jn_eq, ↓c_within, ↓c_isIn, ↓c_isScene, ↓c_isPlace, ↓c_isCue, ↓c_isDigit, ↓d_isScene, ↓d_isAny, ↓ta_pb1, ↓ta_pb0, ↓ta_pb1', ↓ta_pb0', ta_lt, ta_nlt, ta_le, ta_nle, ta_eq, ta_neq, ta_nne, ta_ne, gs_id, a_gd01, a_gdT, or_true, true_or, bd_some, bW_sm, a_gd, a_ne, a_rd, Int.toNat_natCast, Int.toNat_add, Int.toNat_mul, Int.reduceToNat, a_gdp, a_cell, and_self, and_true, true_and, h6]
theorem rcB_law {n T : Nat} {z : Int} {M M1 M2 M5 : g_M} (h6 : M 25 6 = n) (hn : n < 24) (hT : T < 3) (hb : m_X7_begin 25 T M = some M1) (h1 : m_X4_advance M1 = some M2) (h2 : m_rd g_depth 0 0 (g_wr (g_wr M2 23 9 T) 27 T (M2 25 1)) = some (z, M5)) (h9 : M5 23 9 = T) (hz : z = 0 ∨ z = 1) : rcB T 1 M = if z = 0 then some (0, g_wr M5 28 T (M5 25 1)) else g_bW (m_X4_pass 61 (g_wr M5 28 T (M5 25 1))) (fun x33 M34 => if gs x33 = 0 then (some (0, M34)) else (some (1, M34))) := by
  have i9 : g_wr M2 23 9 T 23 9 = T := wr_at _ _ _ _
  have i25 : g_wr M2 23 9 T 25 1 = M2 25 1 := a_ne _ (by omega)
  have eT : (gs (T : Int)).toNat = T := by rw [gs_id (by omega) (by omega)]; omega
  unfold rcB
  rw [h6, if_pos (by rw [gs_id (by omega) (by omega), gs_id (by omega) (by omega)]; omega), bd_eq hb, bd_eq h1, if_pos gs1_ne, jn_eq, nm_eq, i9, i25, a_gd (by omega) (by omega) (by omega), nm_eq, eT, bW_eq h2, nm_eq, h9, a_gd (by omega) (by omega) (by omega), nm_eq, eT]
  rcases hz with z0 | z1
  · rw [z0, if_pos gs0_eq, if_pos rfl]
  · rw [z1, if_neg gs1_ne, if_neg (by omega)]
theorem rcB_ord {n T : Nat} {z : Int} {M M1 M2 M3 : g_M} (h6 : M 25 6 = n) (hn : n < 24) (hb : m_X7_begin 25 T M = some M1) (h1 : m_X4_advance M1 = some M2) (h2 : m_X4_readOrder T M2 = some (z, M3)) (hz : z = 0 ∨ z = 1) : rcB T 0 M = if z = 0 then some (0, M3) else g_bW (m_X4_pass 61 M3) (fun x33 M34 => if gs x33 = 0 then (some (0, M34)) else (some (1, M34))) := by
  unfold rcB
  rw [h6, if_pos (by rw [gs_id (by omega) (by omega), gs_id (by omega) (by omega)]; omega), bd_eq hb, bd_eq h1, if_neg (fun z => z gs0_eq), jn_eq, bW_eq h2]
  rcases hz with z0 | z1
  · rw [z0, if_pos gs0_eq, if_pos rfl]
  · rw [z1, if_neg gs1_ne, if_neg (by omega)]
/-- the reference's CLAUSE -/
def clB (x12 x15 : Int) (M18 : g_M) : Option (Int × g_M) := g_nm (g_wr M18 0 14 x12) (fun M19 => (m_X9_nextToken M19).bind (fun M20 => g_nm (((M20 0 12) + 1) + (4 * x15)) (fun x21 => g_gd (g_ix x21 2820) (g_nm (g_wr M20 3 (gs x21).toNat x12) (fun M22 => g_bW (m_X9_body x12 x21 M22) (fun x23 M24 => g_nm x23 (fun x25 => if gs x25 = 0 then (g_gd (g_ix (M24 0 12) 2820) (g_gd (g_ix (M24 0 12) 2820) (g_nm (g_wr M24 3 (gs (M24 0 12)).toNat ((M24 3 (gs (M24 0 12)).toNat) + 1)) (fun M26 => if gs (M26 0 9) = gs 59 then ((m_X9_nextToken M26).bind (fun M27 => some (0, M27))) else (some (1, M26)))))) else (some (x25, M24)))))))))
theorem cl_no {W : g_M} (h : m_X9_sortOf W = some (-1)) : m_X9_clause W = some (1, W) := by
  unfold m_X9_clause
  rw [bd_eq h, nm_eq, if_neg (by rw [gs_id (by omega) (by omega)]; omega)]
theorem cl_4 {S : Nat} {W : g_M} (h : m_X9_sortOf W = some (S : Int)) (hS : S < 3) (hh : m_X9_has (W 0 19) S = some 1) : m_X9_clause W = some (4, W) := by
  unfold m_X9_clause
  rw [bd_eq h, nm_eq, if_pos (by rw [gs_id (by omega) (by omega)]; omega), jn_eq, if_neg (by rw [gs_id (by omega) (by omega), gs_id (by omega) (by omega)]; omega), bd_eq hh, if_neg gs1_ne]
theorem cl_6 {S Z : Nat} {W : g_M} (h : m_X9_sortOf W = some (S : Int)) (hS : S < 10) (hh : S < 3 → m_X9_has (W 0 19) S = some 0) (h12 : W 0 12 = Z) (hZ : Z ≤ 2115) (hn : W 3 Z = 24) : m_X9_clause W = some (6, W) := by
  have eZ : (gs (Z : Int)).toNat = Z := by rw [gs_id (by omega) (by omega)]; omega
  unfold m_X9_clause
  rw [bd_eq h, nm_eq, if_pos (by rw [gs_id (by omega) (by omega)]; omega), jn_eq]
  by_cases c : S < 3
  · rw [if_neg (by rw [gs_id (by omega) (by omega), gs_id (by omega) (by omega)]; omega), bd_eq (hh c), if_pos gs0_eq, h12, a_gd (by omega) (by omega) (by omega), nm_eq, eZ, hn, if_neg (fun z => z rfl)]
  · rw [if_pos (by rw [gs_id (by omega) (by omega), gs_id (by omega) (by omega)]; omega), h12, a_gd (by omega) (by omega) (by omega), nm_eq, eZ, hn, if_neg (fun z => z rfl)]
theorem cl_go {S Z n : Nat} {W W1 : g_M} (h : m_X9_sortOf W = some (S : Int)) (hS : S < 10) (hh : S < 3 → m_X9_has (W 0 19) S = some 0) (h12 : W 0 12 = Z) (hZ : Z ≤ 2115) (hn : W 3 Z = n) (hn24 : n < 24) (hW : (S < 3 ∧ W1 = g_wr W 0 19 (g_or (W 0 19) (g_shl 1 S))) ∨ (3 ≤ S ∧ W1 = W)) : m_X9_clause W = clB S n W1 := by
  have eZ : (gs (Z : Int)).toNat = Z := by rw [gs_id (by omega) (by omega)]; omega
  have ne : gs (n : Int) ≠ gs 24 := by rw [gs_id (by omega) (by omega), gs_id (by omega) (by omega)]; omega
  unfold m_X9_clause
  rw [bd_eq h, nm_eq, if_pos (by rw [gs_id (by omega) (by omega)]; omega), jn_eq]
  rcases hW with ⟨c, e⟩ | ⟨c, e⟩
  · rw [if_neg (by rw [gs_id (by omega) (by omega), gs_id (by omega) (by omega)]; omega), bd_eq (hh c), if_pos gs0_eq, h12, a_gd (by omega) (by omega) (by omega), nm_eq, eZ, hn, if_pos ne, jn_eq, if_neg (by rw [gs_id (by omega) (by omega), gs_id (by omega) (by omega)]; omega), nm_eq, ← e]
    rfl
  · rw [if_pos (by rw [gs_id (by omega) (by omega), gs_id (by omega) (by omega)]; omega), h12, a_gd (by omega) (by omega) (by omega), nm_eq, eZ, hn, if_pos ne, jn_eq, if_pos (by rw [gs_id (by omega) (by omega), gs_id (by omega) (by omega)]; omega), e]
    rfl
theorem clB_go {S Z n : Nat} {e : Int} {W1 W3 W5 : g_M} (h1 : m_X9_nextToken (g_wr W1 0 14 S) = some W3) (h12 : W3 0 12 = Z) (hZ : Z ≤ 2115) (hn : n < 24) (h2 : m_X9_body S ((Z + 1 + 4 * n : Nat) : Int) (g_wr W3 3 (Z + 1 + 4 * n) S) = some (e, W5)) (he : (e = 0 ∧ W5 0 12 = Z ∧ W5 3 Z = n) ∨ (1 ≤ e ∧ e ≤ 6)) : clB S n W1 = if e = 0 then (if gs (g_wr W5 3 Z ((n : Int) + 1) 0 9) = gs 59 then ((m_X9_nextToken (g_wr W5 3 Z ((n : Int) + 1))).bind (fun M27 => some (0, M27))) else (some (1, g_wr W5 3 Z ((n : Int) + 1)))) else some (e, W5) := by
  have eZ : (gs (Z : Int)).toNat = Z := by rw [gs_id (by omega) (by omega)]; omega
  have eX : (((Z : Int) + 1) + (4 * (n : Int))) = ((Z + 1 + 4 * n : Nat) : Int) := by omega
  have eXn : (gs ((Z + 1 + 4 * n : Nat) : Int)).toNat = Z + 1 + 4 * n := by rw [gs_id (by omega) (by omega)]; omega
  unfold clB
  rw [nm_eq, bd_eq h1, h12, nm_eq, eX, a_gd (by omega) (by omega) (by omega), nm_eq, eXn, bW_eq h2, nm_eq]
  rcases he with ⟨e1, e2, e3⟩ | e1
  · rw [e1, if_pos gs0_eq, if_pos rfl, e2, a_gd (by omega) (by omega) (by omega), a_gd (by omega) (by omega) (by omega), nm_eq, eZ, e3]
  · rw [if_neg (by rw [gs_id (by omega) (by omega)]; omega), if_neg (by omega)]
theorem body_law {S X : Nat} {e : Int} {W W6 : g_M} (hS : S < 3) (hX : X + 3 < 2820) (h : m_X9_summed (g_wr W 3 (X + 1) (W 0 13)) = some (e, W6)) : m_X9_body S X W = some (e, g_wr W6 3 (X + 2) (W6 0 13)) := by
  have i1 : (gs ((X : Int) + 1)).toNat = X + 1 := by rw [gs_id (by omega) (by omega)]; omega
  have i2 : (gs ((X : Int) + 2)).toNat = X + 2 := by rw [gs_id (by omega) (by omega)]; omega
  have el : m_X9_lawClause X W = some (e, g_wr W6 3 (X + 2) (W6 0 13)) := by
    unfold m_X9_lawClause
    rw [a_gd (by omega) (by omega) (by omega), i1, nm_eq, bW_eq h, nm_eq, a_gd (by omega) (by omega) (by omega), nm_eq, i2]
  unfold m_X9_body
  rw [if_neg (by rw [gs_id (by omega) (by omega)]; omega), if_neg (by rw [gs_id (by omega) (by omega)]; omega), if_neg (by rw [gs_id (by omega) (by omega)]; omega), if_neg (by rw [gs_id (by omega) (by omega)]; omega), if_neg (by rw [gs_id (by omega) (by omega)]; omega), if_neg (by rw [gs_id (by omega) (by omega)]; omega), if_neg (by rw [gs_id (by omega) (by omega)]; omega), bW_eq el]
