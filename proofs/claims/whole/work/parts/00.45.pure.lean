/-! pure rows -/
theorem gs_nat {n : Nat} (h : n < 2147483648) : gs (n : Int) = n := gs_id (by omega) (by omega)
theorem g_gd_pos {α : Type} {c : Prop} [Decidable c] {a : Option α} (h : c) : g_gd c a = a := if_pos h
theorem copy12_loop : ∀ (f i : Nat) (M : g_M), i ≤ 3409 → 3409 - i < f → m_X9_copy_1_2_L2 f (i : Int) M = some (fun a b => if a = 2 ∧ i ≤ b ∧ b < 3409 then M 1 b else M a b) := by
  intro f
  induction f with
  | zero => intro i M h1 h2; omega
  | succ f ih =>
    intro i M h1 h2
    have hg : gs (i : Int) = i := gs_nat (by omega)
    rw [m_X9_copy_1_2_L2]
    simp only [gsc_3409, hg]
    by_cases hi : i = 3409
    · subst hi
      rw [if_pos (by omega)]
      congr 1
      funext a b
      rw [if_neg (by omega)]
    · have hx : g_ix (i : Int) 3409 := ⟨by rw [hg]; omega, by rw [hg]; omega⟩
      rw [if_neg (by omega), g_gd_pos hx, g_gd_pos hx]
      simp only [g_nm]
      rw [show ((i : Int) + 1) = ((i + 1 : Nat) : Int) by omega, ih (i + 1) _ (by omega) (by omega)]
      congr 1
      funext a b
      unfold g_wr
      simp only [Int.toNat_natCast]
      by_cases ha : a = 2
      · subst ha
        by_cases hb : b = i
        · subst hb
          rw [if_neg (by omega), if_pos ⟨rfl, rfl⟩, if_pos (by omega)]
        · by_cases hc : i + 1 ≤ b ∧ b < 3409
          · rw [if_pos ⟨rfl, hc⟩, if_neg (by omega), if_pos (by omega)]
          · rw [if_neg (by omega), if_neg (by omega), if_neg (by omega)]
      · rw [if_neg (by omega), if_neg (by omega), if_neg (by omega)]
theorem copy12 (M : g_M) : m_X9_copy_1_2 M = some (fun a b => if a = 2 ∧ b < 3409 then M 1 b else M a b) := by
  unfold m_X9_copy_1_2
  simp only [g_nm]
  have h := copy12_loop g_fuel 0 M (by omega) (by unfold g_fuel; omega)
  rw [show ((0 : Nat) : Int) = 0 from rfl] at h
  rw [h]
  apply congrArg some
  funext a b
  by_cases hc : a = 2 ∧ b < 3409
  · rw [if_pos (by omega), if_pos hc]
  · rw [if_neg (by omega), if_neg hc]
