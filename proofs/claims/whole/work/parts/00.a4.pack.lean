/-! tokens: how a word is packed -/
def pack (f : Nat → Int) : Nat → Int
  | 0 => 0
  | n + 1 => pack f n * 256 + f n
def p256 : Nat → Int
  | 0 => 1
  | n + 1 => 256 * p256 n
theorem p256_pos : ∀ n, 1 ≤ p256 n := by
  intro n
  induction n with
  | zero => show (1 : Int) ≤ 1; omega
  | succ n ih => show 1 ≤ 256 * p256 n; omega
theorem p256_mono : ∀ n m, n ≤ m → p256 n ≤ p256 m := by
  intro n m h
  induction m with
  | zero =>
    obtain rfl : n = 0 := by omega
    exact Int.le_refl _
  | succ m ih =>
    by_cases c : n = m + 1
    · rw [c]; omega
    · have := ih (by omega)
      have p := p256_pos m
      show p256 n ≤ 256 * p256 m
      omega
theorem pack_b {f : Nat → Int} : ∀ n, (∀ i, i < n → 1 ≤ f i ∧ f i ≤ 255) → 0 ≤ pack f n ∧ pack f n < p256 n := by
  intro n
  induction n with
  | zero => intro _; show (0 : Int) ≤ 0 ∧ (0 : Int) < 1; omega
  | succ n ih =>
    intro h
    have a := ih (fun i hi => h i (by omega))
    have b := h n (by omega)
    show 0 ≤ pack f n * 256 + f n ∧ pack f n * 256 + f n < 256 * p256 n
    omega
theorem pack_lo {f : Nat → Int} : ∀ n, (∀ i, i < n + 1 → 1 ≤ f i ∧ f i ≤ 255) → p256 n ≤ pack f (n + 1) := by
  intro n
  induction n with
  | zero =>
    intro h
    have b := h 0 (by omega)
    show (1 : Int) ≤ 0 * 256 + f 0
    omega
  | succ n ih =>
    intro h
    have a := ih (fun i hi => h i (by omega))
    have b := h (n + 1) (by omega)
    show 256 * p256 n ≤ pack f (n + 1) * 256 + f (n + 1)
    omega
theorem pack_cg {f g : Nat → Int} : ∀ n, (∀ i, i < n → f i = g i) → pack f n = pack g n := by
  intro n
  induction n with
  | zero => intro _; rfl
  | succ n ih =>
    intro h
    show pack f n * 256 + f n = pack g n * 256 + g n
    rw [ih (fun i hi => h i (by omega)), h n (by omega)]
theorem pack_inj {f g : Nat → Int} : ∀ n m, (∀ i, i < n → 1 ≤ f i ∧ f i ≤ 255) → (∀ i, i < m → 1 ≤ g i ∧ g i ≤ 255) → pack f n = pack g m → n = m ∧ ∀ i, i < n → f i = g i := by
  intro n
  induction n with
  | zero =>
    intro m hf hg e
    cases m with
    | zero => exact ⟨rfl, fun i hi => by omega⟩
    | succ m =>
      have a := pack_lo m hg
      have p := p256_pos m
      have e : (0 : Int) = pack g (m + 1) := e
      omega
  | succ n ih =>
    intro m hf hg e
    cases m with
    | zero =>
      have a := pack_lo n hf
      have p := p256_pos n
      have e : pack f (n + 1) = 0 := e
      omega
    | succ m =>
      have e : pack f n * 256 + f n = pack g m * 256 + g m := e
      have b := hf n (by omega)
      have c := hg m (by omega)
      obtain ⟨q1, q2⟩ := ih m (fun i hi => hf i (by omega)) (fun i hi => hg i (by omega)) (by omega)
      subst q1
      refine ⟨rfl, fun i hi => ?_⟩
      by_cases z : i = n
      · rw [z]; omega
      · exact q2 i (by omega)
theorem sh48 : (((gI 48).toInt64 &&& 63).toBitVec.smod 64).toNat = 48 := by decide +kernel
theorem sh8 : (((gI 8).toInt64 &&& 63).toBitVec.smod 64).toNat = 8 := by decide +kernel
theorem gJ_bv (x : Nat) : (gJ (x : Int)).toBitVec = BitVec.ofNat 64 x := BitVec.ofInt_natCast 64 x
theorem bv_int64 {b : BitVec 64} {k : Nat} (h : b.toNat = k) (hk : k < 9223372036854775808) : b.toInt = (k : Int) := by
  rw [BitVec.toInt_eq_toNat_of_lt (by omega), h]
theorem lshr48 {x : Nat} (hx : x < 9223372036854775808) : g_lshr (x : Int) 48 = ((x / 281474976710656 : Nat) : Int) := by
  show (BitVec.sshiftRight (gJ (x : Int)).toBitVec (((gI 48).toInt64 &&& 63).toBitVec.smod 64).toNat).toInt = _
  rw [sh48, BitVec.toInt_sshiftRight, gJ_bv, bv_int64 (k := x) (by rw [BitVec.toNat_ofNat]; omega) hx, Int.shiftRight_eq_div_pow]
  rfl
theorem lshl8 {x : Nat} (hx : x < 281474976710656) : g_lshl (x : Int) 8 = ((x * 256 : Nat) : Int) := by
  show ((gJ (x : Int)).toBitVec <<< (((gI 8).toInt64 &&& 63).toBitVec.smod 64)).toInt = _
  rw [BitVec.shiftLeft_eq', sh8]
  refine bv_int64 ?_ (by omega)
  rw [BitVec.toNat_shiftLeft, gJ_bv, BitVec.toNat_ofNat, Nat.shiftLeft_eq]
  omega
theorem lor_nat {x c : Nat} (hx : x < 281474976710656) (hc : c < 256) : g_lor ((x * 256 : Nat) : Int) (c : Int) = ((x * 256 + c : Nat) : Int) := by
  show ((gJ ((x * 256 : Nat) : Int)).toBitVec ||| (gJ (c : Int)).toBitVec).toInt = _
  refine bv_int64 ?_ (by omega)
  rw [BitVec.toNat_or, gJ_bv, gJ_bv, BitVec.toNat_ofNat, BitVec.toNat_ofNat, Nat.mod_eq_of_lt (by omega), Nat.mod_eq_of_lt (by omega)]
  have := Nat.shiftLeft_add_eq_or_of_lt (b := c) (i := 8) (by omega) x
  rw [Nat.shiftLeft_eq] at this
  exact this.symm
theorem l_app {x c : Int} (hx : 0 ≤ x ∧ x < 281474976710656) (hc : 0 ≤ c ∧ c < 256) : g_lor (g_lshl x 8) c = x * 256 + c := by
  obtain ⟨x, rfl⟩ : ∃ y : Nat, x = y := ⟨x.toNat, by omega⟩
  obtain ⟨c, rfl⟩ : ∃ y : Nat, c = y := ⟨c.toNat, by omega⟩
  rw [lshl8 (by omega), lor_nat (by omega) (by omega)]
  omega
/-- the reference's word after n letters -/
def wv (f : Nat → Int) (n : Nat) : Int := if n ≤ 7 then pack f n else 1152921504606846976
theorem wv_step {f : Nat → Int} {n : Nat} (h : ∀ i, i < n + 1 → 1 ≤ f i ∧ f i ≤ 255) : (n ≤ 6 → g_lshr (wv f n) 48 = 0 ∧ g_lor (g_lshl (wv f n) 8) (f n) = wv f (n + 1)) ∧ (¬ n ≤ 6 → 1 ≤ g_lshr (wv f n) 48 ∧ g_lshr (wv f n) 48 ≤ 100000 ∧ wv f (n + 1) = 1152921504606846976) := by
  have hb := pack_b n (fun i hi => h i (by omega))
  have e6 : p256 6 = 281474976710656 := rfl
  have e7 : p256 7 = 72057594037927936 := rfl
  refine ⟨fun c => ?_, fun c => ?_⟩
  · have m := p256_mono n 6 c
    have z := h n (by omega)
    unfold wv
    rw [if_pos (by omega), if_pos (by omega), l_app (by omega) (by omega)]
    obtain ⟨x, hx⟩ : ∃ y : Nat, pack f n = y := ⟨(pack f n).toNat, by omega⟩
    refine ⟨?_, rfl⟩
    rw [hx, lshr48 (by omega)]
    omega
  · unfold wv
    rw [if_neg (show ¬ n + 1 ≤ 7 by omega)]
    by_cases c7 : n ≤ 7
    · obtain rfl : n = 7 := by omega
      have lo := pack_lo 6 (fun i hi => h i (by omega))
      rw [if_pos c7]
      obtain ⟨x, hx⟩ : ∃ y : Nat, pack f 7 = y := ⟨(pack f 7).toNat, by omega⟩
      rw [hx, lshr48 (by omega)]
      have lo : p256 6 ≤ pack f 7 := lo
      refine ⟨?_, ?_, rfl⟩ <;> omega
    · rw [if_neg c7]
      have := lshr48 (x := 1152921504606846976) (by omega)
      have this : g_lshr 1152921504606846976 48 = ((1152921504606846976 / 281474976710656 : Nat) : Int) := this
      rw [this]
      refine ⟨?_, ?_, rfl⟩ <;> omega
