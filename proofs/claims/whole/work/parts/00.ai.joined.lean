/-! rows of what is joined by signs or words: both -/
abbrev XTy : Type := (Nat → Int) → Nat → Nat → (Nat → Int) → Nat → Nat → Prop
def XCG (X : XTy) : Prop := ∀ C C' B B' i j i' j', X C i j B i' j' → (∀ y, i ≤ y → y < j → C' y = C y) → (∀ y, 2 * i' ≤ y → y < 2 * j' → B' y = B y) → X C' i j B' i' j'
theorem RS_XCG (l : Nat) : XCG (RS l) := fun _ _ _ _ _ _ _ _ h e e' => RS_cg h e e'
theorem RA_XCG (l : Nat) : XCG (RA l) := fun _ _ _ _ _ _ _ _ h e e' => RA_cg h e e'
def ST1 (L Z l : Nat) (b : Nat → Int) (X : XTy) (lo : Int) (s c w n d : Nat) (M W M' W' : g_M) (m s' q' T' : Nat) (N' : Int) (c' w' k : Nat) : Prop := (∀ f, m_X9_summed_L15 KS (f + m) W = m_X9_summed_L15 KS f W') ∧ SX L Z l b s' q' T' N' c' w' (n + k) (d + dcn (W' 5) n k) 1 M' W' ∧ (m + s ≤ s' ∧ c < c' ∧ c' + s ≤ c + s' ∧ w ≤ w') ∧ FR Z n c w M W M' W' ∧ KE M M' ∧ (∀ y, n ≤ y → y < n + k → lo ≤ rk (W' 5 y) ∧ rk (W' 5 y) ≤ 6) ∧ ∀ B, cpl W' Z n k w' B → X (M' 26) c c' B w (w' + k)
def GOOD (L Z l : Nat) (b : Nat → Int) (X : XTy) (lo : Int) (TT : Nat → Nat → g_M → Nat → Prop) (s c w n d : Nat) (M W : g_M) (r : Option (Int × g_M)) : Prop := ∃ (M' W' : g_M) (m s' q' T' : Nat) (N' : Int) (c' w' k : Nat), r = some (1, M') ∧ ST1 L Z l b X lo s c w n d M W M' W' m s' q' T' N' c' w' k ∧ TT n T' W' (n + k)
theorem ST1_lo {L Z l s c w n d m s' q' T' c' w' k : Nat} {b : Nat → Int} {X : XTy} {lo lo' N' : Int} {M W M' W' : g_M} (h : ST1 L Z l b X lo' s c w n d M W M' W' m s' q' T' N' c' w' k) (hl : lo ≤ lo') : ST1 L Z l b X lo s c w n d M W M' W' m s' q' T' N' c' w' k := by
  obtain ⟨h1, h2, h3, h4, h5, h6, h7⟩ := h
  exact ⟨h1, h2, h3, h4, h5, fun y a1 a2 => ⟨Int.le_trans hl (h6 y a1 a2).1, (h6 y a1 a2).2⟩, h7⟩
theorem SX_put {L Z l s q T c w n o : Nat} {N h v : Int} {b : Nat → Int} {M W M4 : g_M} (hX : SX L Z l b s q T N c w n o h M W) (hP : PT1 c v M M4) (hc : c + 1 ≤ s) : SX L Z l b s q T N (c + 1) w n o h M4 W := by
  obtain ⟨g, hp, ⟨x1, x2, x3⟩, r⟩ := hX
  obtain ⟨p1, p2, p3, p4, p5⟩ := hP
  have e := p1 23 (by omega) (by omega)
  exact ⟨g, PS_cg hp (fun j _ _ _ _ => by rw [e]) (p1 24 (by omega) (by omega)) (fun _ _ => rfl) rfl, ⟨p3, hc, by rw [e]; exact x3⟩, r⟩
theorem FR_put {Z n c w c3 : Nat} {v : Int} {M W M3 W3 M4 : g_M} (h : FR Z n c w M W M3 W3) (hP : PT1 c3 v M3 M4) (hc : c ≤ c3) : FR Z n c w M W M4 W3 := by
  obtain ⟨⟨h1, h2, h3, h4⟩, h5, h6⟩ := h
  obtain ⟨p1, p2, p3, p4, p5⟩ := hP
  exact ⟨⟨fun a a1 a2 a3 => by rw [p1 a a2 a3]; exact h1 a a1 a2 a3, fun j hj => by rw [p1 23 (by omega) (by omega)]; exact h2 j hj, fun j hj => by rw [p2 j hj]; exact h3 j hj, h4⟩, fun y hy => by rw [p5 y (by omega)]; exact h5 y hy, h6⟩
theorem KE_put {M M3 M4 : g_M} {c3 : Nat} {v : Int} (h : KE M M3) (hP : PT1 c3 v M3 M4) : KE M M4 := by
  have e := hP.1 23 (by omega) (by omega)
  exact ⟨by rw [e]; exact h.1, by rw [e]; exact h.2⟩
/-- the second operand has been read, the order of both is put -/
theorem bin_done {L Z l s c w n d m s1 q1 T1 c1 w1 k1 s2 q2 T2 m3 s3 q3 T3 c3 w3 k3 : Nat} {b : Nat → Int} {X1 Y X3 : XTy} (g1 : XCG X1) (g2 : XCG Y) {lo lo1 lo' N1 N2 N3 op v : Int} {M W M1 W1 M2 W2 M3 W3 M4 : g_M} (A : ST1 L Z l b X1 lo1 s c w n d M W M1 W1 m s1 q1 T1 N1 c1 w1 k1) (e2 : ∀ f, m_X9_summed_L15 KS (f + 1) W1 = m_X9_summed_L15 KS f W2) (S2 : SX L Z l b s2 q2 T2 N2 c1 (w1 + k1) (n + 1) d 0 M2 W2) (F2 : FR Z n c1 w1 M1 W1 M2 W2) (K2 : KE M1 M2) (h12 : s1 < s2) (hop : W2 5 n = op) (hc2 : cpl W1 Z n k1 w1 (fun y => W2 3 (Z + 97 + y))) (m26 : M2 26 = M1 26) (D : ST1 L Z l b Y lo' s2 c1 (w1 + k1) (n + 1) d M2 W2 M3 W3 m3 s3 q3 T3 N3 c3 w3 k3) (hP : PT1 c3 v M3 M4) (hlo : lo ≤ lo') (hr : lo ≤ rk op ∧ rk op ≤ 6) (hdc : dc op = 0) (join : ∀ C B wa wb, X1 C c c1 B w wa → Y C c1 c3 B wa wb → C c3 = v → B (2 * wb) = op → X3 C c (c3 + 1) B w (wb + 1)) : ST1 L Z l b X3 lo s c w n d M W M4 W3 (m + 1 + m3) s3 q3 T3 N3 (c3 + 1) w3 (k3 + 1) := by
  obtain ⟨a1, a2, ⟨a3, a4, a5, a6⟩, a7, a8, a9, a10⟩ := A
  obtain ⟨d1, d2, ⟨d3, d4, d5, d6⟩, d7, d8, d9, d10⟩ := D
  have cs1 : c1 ≤ s1 := a2.2.2.1.2.1
  have w3n : W3 5 n = op := by rw [d7.2.2.2 n (by omega)]; exact hop
  have en : n + (k3 + 1) = n + 1 + k3 := by omega
  have ed : dcn (W3 5) n (k3 + 1) = dcn (W3 5) (n + 1) k3 := by rw [dcn_first, w3n, hdc, Nat.zero_add]
  refine ⟨fun f => ?_, ?_, ⟨by omega, by omega, by omega, by omega⟩, FR_put (FR_tr (FR_tr a7 F2 (by omega) (by omega) (by omega)) d7 (by omega) (by omega) (by omega)) hP (by omega), KE_put (KE_tr (KE_tr a8 K2) d8) hP, fun y y1 y2 => ?_, fun B hB => ?_⟩
  · rw [show f + (m + 1 + m3) = f + m3 + 1 + m by omega, a1, e2, d1]
  · rw [en, ed]
    exact SX_put d2 hP (by omega)
  · by_cases z : y = n
    · rw [z, w3n]; exact hr
    · have := d9 y (by omega) (by omega)
      omega
  · obtain ⟨b1, b2⟩ := hB
    have i1 := a10 _ hc2
    have i2 := d10 B ⟨b1, fun i hi => by
      have := b2 i (by omega)
      rw [show n + (k3 + 1) - 1 - i = n + 1 + k3 - 1 - i by omega] at this
      exact this⟩
    have b3 := (b2 k3 (by omega)).1
    rw [show n + (k3 + 1) - 1 - k3 = n by omega, w3n] at b3
    refine join (M4 26) B (w1 + k1) (w3 + k3) (g1 _ _ _ _ _ _ _ _ i1 (fun y y1 y2 => ?_) (fun y y1 y2 => ?_)) (g2 _ _ _ _ _ _ _ _ i2 (fun y y1 y2 => ?_) (fun y y1 y2 => rfl)) hP.2.2.2.1 b3
    · rw [hP.2.2.2.2 y (by omega), d7.2.1 y (by omega), m26]
    · rw [b1 y (by omega), d7.2.2.1 _ (by omega)]
    · rw [hP.2.2.2.2 y (by omega)]
theorem T_100 {L s q T : Nat} {N : Int} {b : Nat → Int} {M W : g_M} (h : PS L b s q T N M W) : T < 100 := by
  have := (TW_9 h.2.2.2).2.2.2.2.2.2
  omega
theorem bin_loop {L Z l : Nat} {b : Nat → Int} {X : XTy} (gX : XCG X) {lo lo' : Int} {TTs : Nat → Nat → g_M → Nat → Prop} {toks : Nat → Prop} {opf : Nat → Nat} {R : Int → g_M → Option (Int × g_M)} {LP : Nat → Int → Int → g_M → Option (Int × g_M)} {s c w n d : Nat} {M W : g_M} (hlo : lo ≤ lo') (hn : n + 1 ≤ 6 * d + 5) (hd : d ≤ 8) (ht : ∀ y, y + 1 = n → rk (W 5 y) < lo)
    (htk : ∀ T, toks T → T ≠ 41 ∧ opf T ≤ 43 ∧ rk (opf T) = lo ∧ lo ≠ 4 ∧ dc (opf T) = 0 ∧ lo ≤ 6)
    (hbt : ∀ s' q' T' N' c' w' k o M' W', SX L Z l b s' q' T' N' c' w' (n + k) o 1 M' W' → (∀ y, y < n → W' 5 y = W 5 y) → (∀ y, n ≤ y → y < n + k → lo ≤ rk (W' 5 y)) → TTs n T' W' (n + k) → toks T' → m_X9_betweenOf W' = some (opf T' : Int))
    (join : ∀ T C B c1 c3 wa wb, toks T → X C c c1 B w wa → X C c1 c3 B wa wb → C c3 = ((T * 65536 + 0 : Nat) : Int) → B (2 * wb) = (opf T : Int) → X C c (c3 + 1) B w (wb + 1))
    (hTT : ∀ T V top, TTs (n + 1) T V top → TTs n T V top)
    (hsub : ∀ T s2 q2 T2 N2 c2 w2 M2 W2, toks T → SX L Z l b s2 q2 T2 N2 c2 w2 (n + 1) d 0 M2 W2 → W2 5 n = opf T → (∀ y, y < n → W2 5 y = W 5 y) → GOOD L Z l b X lo' TTs s2 c2 w2 (n + 1) d M2 W2 (R d M2) ∨ BAD Z s2 M2 W2 (R d M2))
    (E0 : ∀ f i (M1 : g_M), LP (f + 1) 0 i M1 = some (0, M1))
    (E1 : ∀ f (i T : Nat) (M1 : g_M), i ≤ 400 → M1 23 7 = T → T < 100 → ¬ toks T → LP (f + 1) 1 i M1 = some (1, M1))
    (E2 : ∀ f (i T : Nat) (x : Int) (M1 M2 M3 M4 : g_M), i < 300 → M1 23 7 = T → T < 100 → toks T → m_X4_advance M1 = some M2 → R d M2 = some (x, M3) → (x = 0 ∨ x = 1) → m_X7_put 25 T 0 M3 = some M4 → LP (f + 1) 1 i M1 = LP f x ((i + 1 : Nat) : Int) M4) :
    ∀ (D f i : Nat) (M1 W1 : g_M) (m s1 q1 T1 : Nat) (N1 : Int) (c1 w1 k1 : Nat), 301 ≤ s1 + D → D + 1 < f → i + s ≤ s1 → ST1 L Z l b X lo s c w n d M W M1 W1 m s1 q1 T1 N1 c1 w1 k1 → TTs n T1 W1 (n + k1) → GOOD L Z l b X lo (fun n T V top => TTs n T V top ∧ ¬ toks T) s c w n d M W (LP f 1 i M1) ∨ BAD Z s M W (LP f 1 i M1) := by
  intro D
  induction D with
  | zero =>
    intro f i M1 W1 m s1 q1 T1 N1 c1 w1 k1 h1 h2 h3 A t
    have := (PS_300 A.2.1.1.1 A.2.1.2.1).1
    omega
  | succ D ih =>
    intro f i M1 W1 m s1 q1 T1 N1 c1 w1 k1 h1 h2 h3 A t
    obtain ⟨f, rfl⟩ : ∃ g, f = g + 1 := ⟨f - 1, by omega⟩
    have hS := A.2.1
    have s300 := PS_300 hS.1.1 hS.2.1
    have t100 := T_100 hS.2.1
    have m7 : M1 23 7 = T1 := hS.2.1.2.2.1.2.2.2.2.1
    rcases Classical.em (toks T1) with ct | ct
    · obtain ⟨k1a, k1b, k1c, k1d, k1e, k1f⟩ := htk T1 ct
      obtain ⟨a1, a2, ⟨a3, a4, a5, a6⟩, a7, a8, a9, a10⟩ := A
      have hb := hbt _ _ _ _ _ _ _ _ _ _ a2 a7.2.2.2 (fun y y1 y2 => (a9 y y1 y2).1) t ct
      obtain ⟨M2, W2, s2, q2, T2, N2, p1, p2, p3, p4, p5, p6, p7, p8, p9, p10⟩ := bo_push (r := lo) a2 k1a hb k1b (Or.inr ⟨by omega, k1c.symm⟩) (fun y y1 y2 => (a9 y y1 y2).1) (fun y hy => by rw [a7.2.2.2 y (by omega)]; exact ht y hy) hn hd
      have i300 : i < 300 := by have := s300.2 k1a; omega
      rcases hsub T1 _ _ _ _ _ _ _ _ ct p3 p7 (fun y hy => by rw [p4.2.2.2 y hy, a7.2.2.2 y hy]) with ⟨M3, W3, m3, s3, q3, T3, N3, c3, w3, k3, r3, D3, t3⟩ | hbad
      · have c3s : c3 < 300 := by
          have := D3.2.2.1
          have := (PS_300 D3.2.1.1.1 D3.2.1.2.1).1
          have := a2.2.2.1.2.1
          omega
        obtain ⟨M4, u1, u2⟩ := c_put (M := M3) (c := c3) (o := T1) (v := 0) D3.2.1.2.2.1.1 c3s t100 (by omega)
        have A' := bin_done (lo := lo) (X3 := X) gX gX (⟨a1, a2, ⟨a3, a4, a5, a6⟩, a7, a8, a9, a10⟩) p2 p3 p4 p5 p6 p7 p8 p10 D3 u2 hlo (by omega) k1e (fun C B wa wb x1 x2 x3 x4 => join T1 C B c1 c3 wa wb ct x1 x2 x3 x4)
        rw [E2 f i T1 1 M1 M2 M3 M4 i300 m7 t100 ct p1 r3 (Or.inr rfl) u1]
        have d3 := D3.2.2.1
        have t3 := hTT _ _ _ t3
        rw [show n + 1 + k3 = n + (k3 + 1) by omega] at t3
        exact ih f (i + 1) M4 W3 _ s3 q3 T3 N3 (c3 + 1) w3 (k3 + 1) (by omega) (by omega) (by omega) A' t3
      · obtain ⟨M3, M4, r3, u1, hbad⟩ := BAD_put (o := (T1 : Int)) (v := 0) hbad
        obtain ⟨f, rfl⟩ : ∃ g, f = g + 1 := ⟨f - 1, by omega⟩
        rw [E2 (f + 1) i T1 0 M1 M2 M3 M4 i300 m7 t100 ct p1 r3 (Or.inl rfl) u1, E0]
        refine Or.inr (BAD_step (m0 := m + 1) hbad (fun f => ?_) (FRf_tr a7.1 p4.1) (by omega))
        rw [show f + (m + 1) = f + 1 + m by omega, a1, p2]
    · refine Or.inl ⟨M1, W1, m, s1, q1, T1, N1, c1, w1, k1, ?_, A, t, ct⟩
      exact E1 f i T1 M1 (by omega) m7 t100 ct
theorem bin_read {L Z l : Nat} {b : Nat → Int} {X : XTy} (gX : XCG X) {lo lo' : Int} {TTs : Nat → Nat → g_M → Nat → Prop} {toks : Nat → Prop} {opf : Nat → Nat} {R : Int → g_M → Option (Int × g_M)} {LP : Nat → Int → Int → g_M → Option (Int × g_M)} {s c w n d : Nat} {M W : g_M} (hlo : lo ≤ lo') (hn : n + 1 ≤ 6 * d + 5) (hd : d ≤ 8) (ht : ∀ y, y + 1 = n → rk (W 5 y) < lo)
    (htk : ∀ T, toks T → T ≠ 41 ∧ opf T ≤ 43 ∧ rk (opf T) = lo ∧ lo ≠ 4 ∧ dc (opf T) = 0 ∧ lo ≤ 6)
    (hbt : ∀ s' q' T' N' c' w' k o M' W', SX L Z l b s' q' T' N' c' w' (n + k) o 1 M' W' → (∀ y, y < n → W' 5 y = W 5 y) → (∀ y, n ≤ y → y < n + k → lo ≤ rk (W' 5 y)) → TTs n T' W' (n + k) → toks T' → m_X9_betweenOf W' = some (opf T' : Int))
    (join : ∀ T C B c1 c3 wa wb, toks T → X C c c1 B w wa → X C c1 c3 B wa wb → C c3 = ((T * 65536 + 0 : Nat) : Int) → B (2 * wb) = (opf T : Int) → X C c (c3 + 1) B w (wb + 1))
    (hTT : ∀ T V top, TTs (n + 1) T V top → TTs n T V top)
    (hsub : ∀ T s2 q2 T2 N2 c2 w2 M2 W2, toks T → SX L Z l b s2 q2 T2 N2 c2 w2 (n + 1) d 0 M2 W2 → W2 5 n = opf T → (∀ y, y < n → W2 5 y = W 5 y) → GOOD L Z l b X lo' TTs s2 c2 w2 (n + 1) d M2 W2 (R d M2) ∨ BAD Z s2 M2 W2 (R d M2))
    (E0 : ∀ f i (M1 : g_M), LP (f + 1) 0 i M1 = some (0, M1))
    (E1 : ∀ f (i T : Nat) (M1 : g_M), i ≤ 400 → M1 23 7 = T → T < 100 → ¬ toks T → LP (f + 1) 1 i M1 = some (1, M1))
    (E2 : ∀ f (i T : Nat) (x : Int) (M1 M2 M3 M4 : g_M), i < 300 → M1 23 7 = T → T < 100 → toks T → m_X4_advance M1 = some M2 → R d M2 = some (x, M3) → (x = 0 ∨ x = 1) → m_X7_put 25 T 0 M3 = some M4 → LP (f + 1) 1 i M1 = LP f x ((i + 1 : Nat) : Int) M4)
    (h0 : GOOD L Z l b X lo' TTs s c w n d M W (R d M) ∨ BAD Z s M W (R d M)) {r : Option (Int × g_M)} (hr : r = g_bW (R d M) (fun x11 M12 => g_nm x11 (fun x13 => g_nm 0 (fun x14 => LP g_fuel x13 x14 M12)))) :
    GOOD L Z l b X lo (fun n T V top => TTs n T V top ∧ ¬ toks T) s c w n d M W r ∨ BAD Z s M W r := by
  rcases h0 with ⟨M1, W1, m, s1, q1, T1, N1, c1, w1, k1, r1, A, t⟩ | h0
  · rw [hr, bW_eq r1, nm_eq, nm_eq]
    have := A.2.2.1
    exact bin_loop gX hlo hn hd ht htk hbt join hTT hsub E0 E1 E2 301 g_fuel 0 M1 W1 m s1 q1 T1 N1 c1 w1 k1 (by omega) (by unfold g_fuel; omega) (by omega) (ST1_lo A hlo) t
  · obtain ⟨M1, W1, m, e, r1, h⟩ := h0
    rw [hr, bW_eq r1, nm_eq, nm_eq]
    have ef : LP g_fuel 0 0 M1 = some (0, M1) := E0 999999 0 M1
    rw [ef]
    exact Or.inr ⟨M1, W1, m, e, rfl, h⟩
