/-! how many bits; what the seventh row knows -/
def pc (v : Nat) : Int := ((v % 2 + v / 2 % 2 + v / 4 % 2 + v / 8 % 2 + v / 16 % 2 + v / 32 % 2 + v / 64 % 2 + v / 128 % 2 + v / 256 % 2 + v / 512 % 2 + v / 1024 % 2 + v / 2048 % 2 : Nat) : Int)
theorem fuel_le {α S : Type} (L : Nat → S → Option α) (mono : ∀ f s r, L f s = some r → L (f + 1) s = some r) : ∀ f g s r, f ≤ g → L f s = some r → L g s = some r := by
  intro f g s r h
  obtain ⟨n, rfl⟩ : ∃ n, g = f + n := ⟨g - f, by omega⟩
  clear h
  induction n with
  | zero => exact fun h => h
  | succ n ih => exact fun h => mono _ _ _ (ih h)
theorem all_of {p : Nat → Bool} {n : Nat} (h : (List.range n).all p = true) {v : Nat} (hv : v < n) : p v = true := List.all_eq_true.mp h v (List.mem_range.mpr hv)
theorem bc_all : (List.range 4096).all (fun v => decide (m_J6_bitCount_0f7a4 (v : Int) = some (pc v))) = true := by decide +kernel
theorem p_bitCount {v : Nat} (h : v < 4096) : m_J6_bitCount_0f7a4 (v : Int) = some (pc v) := of_decide_eq_true (all_of bc_all h)
theorem bits_mono : ∀ f (s : Int × Int) r, m_X9_bits_L4 f s.1 s.2 = some r → m_X9_bits_L4 (f + 1) s.1 s.2 = some r := by
  intro f
  induction f with
  | zero => intro s r h; cases h
  | succ f ih =>
    rintro ⟨x, y⟩ r h
    dsimp only at h ⊢
    rw [m_X9_bits_L4] at h
    rw [m_X9_bits_L4]
    by_cases c : gs y = 0
    · rw [if_pos c] at h ⊢; exact h
    · rw [if_neg c, nm_eq, nm_eq] at h ⊢
      exact ih (x + 1, g_and y (y - 1)) r h
theorem bits_all : (List.range 4096).all (fun v => decide (m_X9_bits_L4 14 0 (v : Int) = some (pc v))) = true := by decide +kernel
theorem q_bits {v : Nat} (h : v < 4096) : m_X9_bits (v : Int) = some (pc v) := by
  unfold m_X9_bits
  rw [nm_eq, nm_eq]
  exact fuel_le (fun f (s : Int × Int) => m_X9_bits_L4 f s.1 s.2) bits_mono 14 g_fuel (0, (v : Int)) (pc v) (by unfold g_fuel; omega) (of_decide_eq_true (all_of bits_all h))
/-- what the tail of a row of bits says -/
theorem only_M : ∀ f M x y, m_X6_onlyScene_L4 M f x y = m_X6_onlyScene_L4 (fun _ _ => M 1 13) f x y := by
  intro f
  induction f with
  | zero => intro M x y; rfl
  | succ f ih =>
    intro M x y
    rw [m_X6_onlyScene_L4, m_X6_onlyScene_L4]
    simp only [nm_eq, jn_eq, ih M]
theorem only_mono : ∀ f (s : g_M × Int × Int) r, m_X6_onlyScene_L4 s.1 f s.2.1 s.2.2 = some r → m_X6_onlyScene_L4 s.1 (f + 1) s.2.1 s.2.2 = some r := by
  intro f
  induction f with
  | zero => intro s r h; cases h
  | succ f ih =>
    rintro ⟨M, x, y⟩ r h
    dsimp only at h ⊢
    rw [m_X6_onlyScene_L4] at h
    rw [m_X6_onlyScene_L4]
    by_cases c : gs 12 ≤ gs y
    · rw [if_pos c] at h ⊢; exact h
    · rw [if_neg c] at h ⊢
      simp only [nm_eq, jn_eq] at h ⊢
      by_cases d : gs (M 1 13) ≠ gs (g_shl 1 y)
      · rw [if_pos d] at h ⊢; exact ih (M, x, y + 1) r h
      · rw [if_neg d] at h ⊢; exact ih (M, y, y + 1) r h
theorem sure_M : ∀ f M x, m_X9_sure_L19 M f x = m_X9_sure_L19 (fun _ _ => M 1 142) f x := by
  intro f
  induction f with
  | zero => intro M x; rfl
  | succ f ih =>
    intro M x
    rw [m_X9_sure_L19, m_X9_sure_L19]
    have e : (gs 142).toNat = 142 := by rw [gs_id (by omega) (by omega)]; rfl
    simp only [nm_eq, ih M, e]
theorem sure_mono : ∀ f (s : g_M × Int) r, m_X9_sure_L19 s.1 f s.2 = some r → m_X9_sure_L19 s.1 (f + 1) s.2 = some r := by
  intro f
  induction f with
  | zero => intro s r h; cases h
  | succ f ih =>
    rintro ⟨M, x⟩ r h
    dsimp only at h ⊢
    rw [m_X9_sure_L19] at h
    rw [m_X9_sure_L19]
    have g : g_ix 142 3409 := g_ix_of (by omega) (by omega) (by omega)
    rw [g_gd_pos g] at h ⊢
    rcases hh : m_X9_has (M 1 (gs 142).toNat) x with _ | b
    · rw [hh] at h; cases h
    · rw [hh, bd_some] at h
      rw [bd_some]
      by_cases c : gs b ≠ 0
      · rw [if_pos c] at h ⊢; exact h
      · rw [if_neg c, nm_eq] at h ⊢
        exact ih (M, x + 1) r h
theorem sure_all : (List.range 4096).all (fun v => decide (m_X6_onlyScene_L4 (fun _ _ => (v : Int)) 14 (-1) 0 = (if pc v = 1 then m_X9_sure_L19 (fun _ _ => (v : Int)) 14 0 else some (-1)) ∧ (m_X6_onlyScene_L4 (fun _ _ => (v : Int)) 14 (-1) 0).isSome)) = true := by decide +kernel
