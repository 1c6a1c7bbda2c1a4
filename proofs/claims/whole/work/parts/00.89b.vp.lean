/-! soonest, best -/
theorem vP_cg {nx : Nat → Nat → Nat} (hn : ∀ s c, s ≤ 12 → c < 4 → nx s c ≤ 12) {G g : Nat → Nat} {k : Nat} (hk : k < 1000) (h : ∀ x, x < 26 → G x = g x ∨ (G x = k + 1 ∧ g x = 1000000)) (b : ∀ x, x < 26 → g x ≤ k ∨ g x = 1000000) {x : Nat} (hx : x < 26) : vP nx G x = k + 1 ↔ vP nx g x = k + 1 := by
  unfold vP
  by_cases c : x < 13
  · rw [if_pos c, if_pos c]
    have u : ∀ c, c < 4 → 13 + nx x c < 26 := fun c hc => by have := hn x c (by omega) hc; omega
    have h0 := h _ (u 0 (by omega))
    have h1 := h _ (u 1 (by omega))
    have h2 := h _ (u 2 (by omega))
    have h3 := h _ (u 3 (by omega))
    have b0 := b _ (u 0 (by omega))
    have b1 := b _ (u 1 (by omega))
    have b2 := b _ (u 2 (by omega))
    have b3 := b _ (u 3 (by omega))
    clear h b u
    generalize 13 + nx x 0 = u0 at *
    generalize 13 + nx x 1 = u1 at *
    generalize 13 + nx x 2 = u2 at *
    generalize 13 + nx x 3 = u3 at *
    by_cases z : min (min (g u0) (g u1)) (min (g u2) (g u3)) = 1000000
    · rw [if_pos z]
      by_cases y : min (min (G u0) (G u1)) (min (G u2) (G u3)) = 1000000
      · rw [if_pos y]
      · rw [if_neg y]; omega
    · rw [if_neg z]
      by_cases y : min (min (G u0) (G u1)) (min (G u2) (G u3)) = 1000000
      · rw [if_pos y]; omega
      · rw [if_neg y]; omega
  · rw [if_neg c, if_neg c]
    have u : ∀ c, c < 4 → nx (x - 13) c < 26 := fun c hc => by have := hn (x - 13) c (by omega) hc; omega
    have h0 := h _ (u 0 (by omega))
    have h1 := h _ (u 1 (by omega))
    have h2 := h _ (u 2 (by omega))
    have h3 := h _ (u 3 (by omega))
    have b0 := b _ (u 0 (by omega))
    have b1 := b _ (u 1 (by omega))
    have b2 := b _ (u 2 (by omega))
    have b3 := b _ (u 3 (by omega))
    clear h b u
    generalize nx (x - 13) 0 = u0 at *
    generalize nx (x - 13) 1 = u1 at *
    generalize nx (x - 13) 2 = u2 at *
    generalize nx (x - 13) 3 = u3 at *
    by_cases z : max (max (g u0) (g u1)) (max (g u2) (g u3)) = 1000000
    · rw [if_pos z]
      by_cases y : max (max (G u0) (G u1)) (max (G u2) (G u3)) = 1000000
      · rw [if_pos y]
      · rw [if_neg y]; omega
    · rw [if_neg z]
      by_cases y : max (max (G u0) (G u1)) (max (G u2) (G u3)) = 1000000
      · rw [if_pos y]; omega
      · rw [if_neg y]; omega
theorem vP_le {nx : Nat → Nat → Nat} (hn : ∀ s c, s ≤ 12 → c < 4 → nx s c ≤ 12) {G : Nat → Nat} (h : ∀ x, x < 26 → G x ≤ 1000000) {x : Nat} (hx : x < 26) : vP nx G x ≤ 1000000 := by
  unfold vP
  by_cases c : x < 13
  · rw [if_pos c]
    have h0 := h (13 + nx x 0) (by have := hn x 0 (by omega) (by omega); omega)
    by_cases z : min (min (G (13 + nx x 0)) (G (13 + nx x 1))) (min (G (13 + nx x 2)) (G (13 + nx x 3))) = 1000000
    · rw [if_pos z]; exact Nat.le_refl _
    · rw [if_neg z]; omega
  · rw [if_neg c]
    have h0 := h (nx (x - 13) 0) (by have := hn (x - 13) 0 (by omega) (by omega); omega)
    have h1 := h (nx (x - 13) 1) (by have := hn (x - 13) 1 (by omega) (by omega); omega)
    have h2 := h (nx (x - 13) 2) (by have := hn (x - 13) 2 (by omega) (by omega); omega)
    have h3 := h (nx (x - 13) 3) (by have := hn (x - 13) 3 (by omega) (by omega); omega)
    by_cases z : max (max (G (nx (x - 13) 0)) (G (nx (x - 13) 1))) (max (G (nx (x - 13) 2)) (G (nx (x - 13) 3))) = 1000000
    · rw [if_pos z]; exact Nat.le_refl _
    · rw [if_neg z]; omega
