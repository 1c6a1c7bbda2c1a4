/-! runs of orders, in both, and what they come to -/
theorem nmOk_12 {l n : Nat} (h : nmOk l n) : n < 12 := by
  unfold nmOk at h
  omega
def RAv (l : Nat) (Bc en kd : Nat → Int) (i j : Nat) (v : Int) : Prop := ∀ (X Y TO n m : Nat) (k : g_M → Option (Int × g_M)) (W : g_M), X + 2 < 2820 → Y ≤ 2212 → W 3 (X + 2) = TO → TO ≤ 304 → j ≤ TO → n ≤ i → m ≤ i → RCd Bc Y i j W → REnv l en kd W → ∃ W' : g_M, (∀ f, m_X9_summedUp_L38 X Y k (f + (j - i)) n m i W = m_X9_summedUp_L38 X Y k f n ((m + 1 : Nat) : Int) j W') ∧ (∀ a, a ≠ 7 → a ≠ 8 → W' a = W a) ∧ (∀ y, y < n → W' 7 y = W 7 y) ∧ (∀ y, y < m → W' 8 y = W 8 y) ∧ W' 8 m = v
/-- a SUM, an ASK: the orders of both say the same -/
def RA (l : Nat) (Cc : Nat → Int) (i j : Nat) (Bc : Nat → Int) (i' j' : Nat) : Prop := i < j ∧ i' < j' ∧ ∀ en kd, EnvOk l en kd → ∃ v, B01 v ∧ CEv l Cc en kd i j v ∧ RAv l Bc en kd i' j' v
theorem CEv_cg {l : Nat} {Cc Cc' en kd : Nat → Int} {i j : Nat} {v : Int} (h : CEv l Cc en kd i j v) (e : ∀ y, i ≤ y → y < j → Cc' y = Cc y) : CEv l Cc' en kd i j v := fun t to x k M a b c d g z => h t to x k M a b c d (fun y h1 h2 => (g y h1 h2).trans (e y h1 h2)) z
theorem REv_cg {l : Nat} {Bc Bc' en kd : Nat → Int} {i j : Nat} {v : Int} (h : REv l Bc en kd i j v) (e : ∀ y, 2 * i ≤ y → y < 2 * j → Bc' y = Bc y) : REv l Bc' en kd i j v := fun X Y TO n m k W a b c d g h1 h2 h3 z => h X Y TO n m k W a b c d g h1 h2 (fun y y1 y2 => by rw [← e (2 * y) (by omega) (by omega), ← e (2 * y + 1) (by omega) (by omega)]; exact h3 y y1 y2) z
theorem RAv_cg {l : Nat} {Bc Bc' en kd : Nat → Int} {i j : Nat} {v : Int} (h : RAv l Bc en kd i j v) (e : ∀ y, 2 * i ≤ y → y < 2 * j → Bc' y = Bc y) : RAv l Bc' en kd i j v := fun X Y TO n m k W a b c d g h1 h2 h3 z => h X Y TO n m k W a b c d g h1 h2 (fun y y1 y2 => by rw [← e (2 * y) (by omega) (by omega), ← e (2 * y + 1) (by omega) (by omega)]; exact h3 y y1 y2) z
theorem RS_cg {l : Nat} {Cc Cc' Bc Bc' : Nat → Int} {i j i' j' : Nat} (h : RS l Cc i j Bc i' j') (e : ∀ y, i ≤ y → y < j → Cc' y = Cc y) (e' : ∀ y, 2 * i' ≤ y → y < 2 * j' → Bc' y = Bc y) : RS l Cc' i j Bc' i' j' := by
  refine ⟨h.1, h.2.1, fun en kd he => ?_⟩
  obtain ⟨v, v1, v2, v3⟩ := h.2.2 en kd he
  exact ⟨v, v1, CEv_cg v2 e, REv_cg v3 e'⟩
theorem RA_cg {l : Nat} {Cc Cc' Bc Bc' : Nat → Int} {i j i' j' : Nat} (h : RA l Cc i j Bc i' j') (e : ∀ y, i ≤ y → y < j → Cc' y = Cc y) (e' : ∀ y, 2 * i' ≤ y → y < 2 * j' → Bc' y = Bc y) : RA l Cc' i j Bc' i' j' := by
  refine ⟨h.1, h.2.1, fun en kd he => ?_⟩
  obtain ⟨v, v1, v2, v3⟩ := h.2.2 en kd he
  exact ⟨v, v1, CEv_cg v2 e, RAv_cg v3 e'⟩
theorem RCd_sub {Bc : Nat → Int} {Y i j a b : Nat} {W W' : g_M} (h : RCd Bc Y i j W) (h1 : i ≤ a) (h2 : b ≤ j) (e : W' 3 = W 3) : RCd Bc Y a b W' := fun y y1 y2 => by rw [e]; exact h y (by omega) (by omega)
theorem REnv_mv {l : Nat} {en kd : Nat → Int} {W W' : g_M} (h : REnv l en kd W) (e : ∀ a, a ≠ 7 → a ≠ 8 → W' a = W a) : REnv l en kd W' := ⟨fun n hn => by rw [e 6 (by omega) (by omega)]; exact h.1 n hn, fun s hs => by rw [e 1 (by omega) (by omega)]; exact h.2 s hs⟩
theorem CEnv_mv {l : Nat} {en kd : Nat → Int} {M M' : g_M} (h : CEnv l en kd M) (e : ∀ a, a ≠ 34 → M' a = M a) : CEnv l en kd M' := ⟨fun n hn => by rw [e 33 (by omega)]; exact h.1 n hn, fun s hs => by rw [e 5 (by omega)]; exact h.2 s hs⟩
/-! one order more -/
theorem CEv_un {l : Nat} {Cc en kd : Nat → Int} {i j : Nat} {v r : Int} (h : CEv l Cc en kd i j v) (hij : i < j) {o : Nat} (ho : o = 70 ∨ o = 18 ∨ o = 13) (hc : Cc j = ((o * 65536 + 0 : Nat) : Int)) (hr : ∀ M : g_M, (∀ s : Nat, s < 12 → M 5 s = kd s) → m_X3_altered o v M = some r) : CEv l Cc en kd i (j + 1) r := by
  intro t to x k M h1 h2 h3 h4 h5 h6
  obtain ⟨n, M1, n1, n2, n3, n4, n5⟩ := h t to x k M h1 h2 (by omega) h4 (fun y y1 y2 => h5 y y1 (by omega)) h6
  have e6 := CEnv_mv h6 n3
  refine ⟨n + 1, g_wr M1 34 x r, by omega, fun f => ?_, fun a ha => by rw [a_cell _ ha]; exact n3 a ha, fun y hy => by rw [a_ne _ (by omega)]; exact n4 y hy, wr_at _ _ _ _⟩
  rw [show f + (n + 1) = (f + 1) + n by omega, n2]
  exact v_unary (by omega) h2 (by omega) ho (by rw [n3 _ h1, h5 j (by omega) (by omega)]; exact hc) (by omega) (by rw [n5]; exact hr M1 e6.2)
theorem CEv_bin {l : Nat} {Cc en kd : Nat → Int} {i a j : Nat} {v w r : Int} (hv : CEv l Cc en kd i a v) (hw : CEv l Cc en kd a j w) (hia : i < a) (haj : a < j) {o : Nat} (ho : (54 ≤ o ∧ o ≤ 58 ∧ m_X3_joined o v w = some r) ∨ ((o = 19 ∨ o = 20 ∨ o = 50 ∨ o = 51 ∨ o = 52 ∨ o = 53 ∨ o = 62 ∨ o = 63) ∧ m_X3_asked o v w = some r ∧ B01 r)) (hc : Cc j = ((o * 65536 + 0 : Nat) : Int)) : CEv l Cc en kd i (j + 1) r := by
  intro t to x k M h1 h2 h3 h4 h5 h6
  obtain ⟨n, M1, n1, n2, n3, n4, n5⟩ := hv t to x k M h1 h2 (by omega) h4 (fun y y1 y2 => h5 y y1 (by omega)) h6
  obtain ⟨m, M2, m1, m2, m3, m4, m5⟩ := hw t to (x + 1) k M1 h1 h2 (by omega) (by omega) (fun y y1 y2 => by rw [n3 _ h1]; exact h5 y (by omega) (by omega)) (CEnv_mv h6 n3)
  have ev : M2 34 x = v := by rw [m4 x (by omega)]; exact n5
  have ec : M2 (t + 1) j = ((o * 65536 + 0 : Nat) : Int) := by rw [m3 _ h1, n3 _ h1, h5 j (by omega) (by omega)]; exact hc
  refine ⟨n + m + 1, g_wr M2 34 x r, by omega, fun f => ?_, fun a ha => by rw [a_cell _ ha, m3 a ha]; exact n3 a ha, fun y hy => by rw [a_ne _ (by omega), m4 y (by omega)]; exact n4 y hy, wr_at _ _ _ _⟩
  rw [show f + (n + m + 1) = (f + 1 + m) + n by omega, n2, m2]
  rcases ho with ⟨o1, o2, o3⟩ | ⟨o1, o2, o3⟩
  · exact v_joined (by omega) h2 (by omega) ⟨o1, o2⟩ ec (by omega) (by rw [ev, m5]; exact o3)
  · exact v_asked (by omega) h2 (by omega) o1 ec (by omega) (by rw [ev, m5]; exact o2) o3
theorem REv_un {l : Nat} {Bc en kd : Nat → Int} {i j : Nat} {v r : Int} (h : REv l Bc en kd i j v) (hij : i < j) (ho : (Bc (2 * j) = 4 ∧ r = -v) ∨ (Bc (2 * j) = 2 ∧ r = kiV kd v)) (hv : V6 v) : REv l Bc en kd i (j + 1) r := by
  intro X Y TO n m k W h1 h2 h3 h4 h5 h6 h7 h8 h9
  obtain ⟨W1, n2, n3, n4, n5, n6⟩ := h X Y TO n m k W h1 h2 h3 h4 (by omega) h6 h7 (RCd_sub h8 (Nat.le_refl _) (by omega) rfl) h9
  have e9 := REnv_mv h9 n3
  have eT : W1 3 (X + 2) = TO := by rw [n3 3 (by omega) (by omega)]; exact h3
  have ec : W1 3 (Y + 2 * j) = Bc (2 * j) := by rw [n3 3 (by omega) (by omega)]; exact (h8 j (by omega) (by omega)).1
  refine ⟨g_wr W1 7 n r, fun f => ?_, fun a a1 a2 => by rw [a_cell _ a1]; exact n3 a a1 a2, fun y hy => by rw [a_ne _ (by omega)]; exact n4 y hy, fun y hy => by rw [a_ne _ (by omega)]; exact n5 y hy, wr_at _ _ _ _⟩
  rw [show f + (j + 1 - i) = (f + 1) + (j - i) by omega, n2]
  rcases ho with ⟨o1, o2⟩ | ⟨o1, o2⟩
  · rw [s_minus h1 h2 eT (by omega) h4 (by omega) (by rw [ec, o1]), n6, o2]
  · have hk : m_X9_kindOf (W1 7 n) W1 = some r := by rw [n6, o2]; exact q_kindV e9.2 hv
    rw [s_kind h1 h2 eT (by omega) h4 (by omega) (by rw [ec, o1]) hk]
theorem REv_bin {l : Nat} {Bc en kd : Nat → Int} {i a j q : Nat} {v w : Int} (hv : REv l Bc en kd i a v) (hw : REv l Bc en kd a j w) (hia : i < a) (haj : a < j) (hq : q < 5) (ho : Bc (2 * j) = ((5 + q : Nat) : Int)) (v6 : V6 v) (w6 : V6 w) : REv l Bc en kd i (j + 1) (jnV q v w) := by
  intro X Y TO n m k W h1 h2 h3 h4 h5 h6 h7 h8 h9
  obtain ⟨W1, n2, n3, n4, n5, n6⟩ := hv X Y TO n m k W h1 h2 h3 h4 (by omega) h6 h7 (RCd_sub h8 (Nat.le_refl _) (by omega) rfl) h9
  obtain ⟨W2, m2, m3, m4, m5, m6⟩ := hw X Y TO (n + 1) m k W1 h1 h2 (by rw [n3 3 (by omega) (by omega)]; exact h3) h4 (by omega) (by omega) (by omega) (RCd_sub h8 (by omega) (by omega) (n3 3 (by omega) (by omega))) (REnv_mv h9 n3)
  have e3 : W2 3 = W 3 := (m3 3 (by omega) (by omega)).trans (n3 3 (by omega) (by omega))
  have eT : W2 3 (X + 2) = TO := by rw [e3]; exact h3
  have ec : W2 3 (Y + 2 * j) = ((5 + q : Nat) : Int) := by rw [e3, (h8 j (by omega) (by omega)).1]; exact ho
  have ev : W2 7 n = v := by rw [m4 n (by omega)]; exact n6
  refine ⟨g_wr W2 7 n (jnV q v w), fun f => ?_, fun a a1 a2 => by rw [a_cell _ a1, m3 a a1 a2]; exact n3 a a1 a2, fun y hy => by rw [a_ne _ (by omega), m4 y (by omega)]; exact n4 y hy, fun y hy => by rw [a_ne _ (by omega), m5 y hy]; exact n5 y hy, wr_at _ _ _ _⟩
  rw [show f + (j + 1 - i) = (f + 1 + (j - a)) + (a - i) by omega, n2, m2]
  by_cases c : q < 4
  · exact s_two h1 h2 eT (by omega) h4 (by omega) ec (by omega) (by rw [ev, m6]; exact q_two c v6 w6)
  · obtain rfl : q = 4 := by omega
    exact s_rest h1 h2 eT (by omega) h4 (by omega) ec (by rw [ev, m6]; exact q_rest v6 w6)
theorem RAv_cmp {l : Nat} {Bc en kd : Nat → Int} {i a j q : Nat} {v w : Int} (hv : REv l Bc en kd i a v) (hw : REv l Bc en kd a j w) (hia : i < a) (haj : a < j) (hq : q < 6) (ho : Bc (2 * j) = ((10 + q : Nat) : Int)) (v6 : V6 v) (w6 : V6 w) : RAv l Bc en kd i (j + 1) (akV q v w) := by
  intro X Y TO n m k W h1 h2 h3 h4 h5 h6 h7 h8 h9
  obtain ⟨W1, n2, n3, n4, n5, n6⟩ := hv X Y TO n m k W h1 h2 h3 h4 (by omega) h6 h7 (RCd_sub h8 (Nat.le_refl _) (by omega) rfl) h9
  obtain ⟨W2, m2, m3, m4, m5, m6⟩ := hw X Y TO (n + 1) m k W1 h1 h2 (by rw [n3 3 (by omega) (by omega)]; exact h3) h4 (by omega) (by omega) (by omega) (RCd_sub h8 (by omega) (by omega) (n3 3 (by omega) (by omega))) (REnv_mv h9 n3)
  have e3 : W2 3 = W 3 := (m3 3 (by omega) (by omega)).trans (n3 3 (by omega) (by omega))
  have eT : W2 3 (X + 2) = TO := by rw [e3]; exact h3
  have ec : W2 3 (Y + 2 * j) = ((10 + q : Nat) : Int) := by rw [e3, (h8 j (by omega) (by omega)).1]; exact ho
  have ev : W2 7 n = v := by rw [m4 n (by omega)]; exact n6
  refine ⟨g_wr W2 8 m (akV q v w), fun f => ?_, fun a a1 a2 => by rw [a_cell _ a2, m3 a a1 a2]; exact n3 a a1 a2, fun y hy => by rw [a_ne _ (by omega), m4 y (by omega)]; exact n4 y hy, fun y hy => by rw [a_ne _ (by omega), m5 y hy]; exact n5 y hy, wr_at _ _ _ _⟩
  rw [show f + (j + 1 - i) = (f + 1 + (j - a)) + (a - i) by omega, n2, m2]
  exact s_ask h1 h2 eT (by omega) h4 (by omega) (by omega) ec (by omega) (by rw [ev, m6]; exact q_isAsked hq v6 w6) (akV_01 _ _ _)
theorem RAv_not {l : Nat} {Bc en kd : Nat → Int} {i j : Nat} {v : Int} (h : RAv l Bc en kd i j v) (hij : i < j) (ho : Bc (2 * j) = 20) (hv : B01 v) : RAv l Bc en kd i (j + 1) (1 - v) := by
  intro X Y TO n m k W h1 h2 h3 h4 h5 h6 h7 h8 h9
  obtain ⟨W1, n2, n3, n4, n5, n6⟩ := h X Y TO n m k W h1 h2 h3 h4 (by omega) h6 h7 (RCd_sub h8 (Nat.le_refl _) (by omega) rfl) h9
  have eT : W1 3 (X + 2) = TO := by rw [n3 3 (by omega) (by omega)]; exact h3
  have ec : W1 3 (Y + 2 * j) = 20 := by rw [n3 3 (by omega) (by omega), (h8 j (by omega) (by omega)).1]; exact ho
  refine ⟨g_wr W1 8 m (1 - v), fun f => ?_, fun a a1 a2 => by rw [a_cell _ a2]; exact n3 a a1 a2, fun y hy => by rw [a_ne _ (by omega)]; exact n4 y hy, fun y hy => by rw [a_ne _ (by omega)]; exact n5 y hy, wr_at _ _ _ _⟩
  rw [show f + (j + 1 - i) = (f + 1) + (j - i) by omega, n2, s_not h1 h2 eT (by omega) h4 (by omega) ec (by rw [n6]; exact hv), n6]
theorem RAv_join {l : Nat} {Bc en kd : Nat → Int} {i a j q : Nat} {v w : Int} (hv : RAv l Bc en kd i a v) (hw : RAv l Bc en kd a j w) (hia : i < a) (haj : a < j) (hq : q < 2) (ho : Bc (2 * j) = ((21 + q : Nat) : Int)) (v1 : B01 v) (w1 : B01 w) : RAv l Bc en kd i (j + 1) (jlV q v w) := by
  intro X Y TO n m k W h1 h2 h3 h4 h5 h6 h7 h8 h9
  obtain ⟨W1, n2, n3, n4, n5, n6⟩ := hv X Y TO n m k W h1 h2 h3 h4 (by omega) h6 h7 (RCd_sub h8 (Nat.le_refl _) (by omega) rfl) h9
  obtain ⟨W2, m2, m3, m4, m5, m6⟩ := hw X Y TO n (m + 1) k W1 h1 h2 (by rw [n3 3 (by omega) (by omega)]; exact h3) h4 (by omega) (by omega) (by omega) (RCd_sub h8 (by omega) (by omega) (n3 3 (by omega) (by omega))) (REnv_mv h9 n3)
  have e3 : W2 3 = W 3 := (m3 3 (by omega) (by omega)).trans (n3 3 (by omega) (by omega))
  have eT : W2 3 (X + 2) = TO := by rw [e3]; exact h3
  have ec : W2 3 (Y + 2 * j) = ((21 + q : Nat) : Int) := by rw [e3, (h8 j (by omega) (by omega)).1]; exact ho
  have ev : W2 8 m = v := by rw [m5 m (by omega)]; exact n6
  refine ⟨g_wr W2 8 m (jlV q v w), fun f => ?_, fun a a1 a2 => by rw [a_cell _ a2, m3 a a1 a2]; exact n3 a a1 a2, fun y hy => by rw [a_ne _ (by omega), m4 y hy]; exact n4 y hy, fun y hy => by rw [a_ne _ (by omega), m5 y (by omega)]; exact n5 y hy, wr_at _ _ _ _⟩
  rw [show f + (j + 1 - i) = (f + 1 + (j - a)) + (a - i) by omega, n2, m2]
  exact s_join h1 h2 eT (by omega) h4 (by omega) ec (by omega) (by rw [ev, m6]; exact q_joinl hq v1 w1) (jlV_01 v1 w1)
