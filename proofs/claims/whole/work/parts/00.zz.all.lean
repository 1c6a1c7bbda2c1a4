/-! a new object in both; all steps -/
theorem s0_c : (x_c2 41).toInt = 0 ∧ (m_c1 6).toInt = 0 ∧ (x_c2 42).toInt = 199 ∧ (m_c1 7).toInt = 199 ∧ (x_c2 40).toInt = 0 ∧ (m_c1 8).toInt = 0 ∧ (m_c1 9).toInt = 0 ∧ (m_c1 0).toInt = 0 ∧ (m_c1 1).toInt = 0 ∧ (m_c1 2).toInt = -1 ∧ (m_c1 3).toInt = 0 ∧ (m_c1 4).toInt = 0 ∧ (m_c1 5).toInt = 0 ∧ (m_c1 142).toInt = 4095 ∧ (x_c8 0).toInt + (x_c8 1).toInt + (x_c8 2).toInt + (x_c8 3).toInt = 10 := by decide +kernel
theorem s0_sh : (List.range 12).all (fun s => decide (0 ≤ (x_c2 (28 + s)).toInt ∧ (x_c2 (28 + s)).toInt ≤ 9999 ∧ (m_c1 (6 + (4 + s))).toInt = (x_c2 (28 + s)).toInt)) = true := by decide +kernel
theorem s0_le : (List.range 12).all (fun s => decide (0 ≤ (x_c2 (16 + s)).toInt ∧ (x_c2 (16 + s)).toInt ≤ 12 ∧ (m_c1 (6 + (16 + s))).toInt = (x_c2 (16 + s)).toInt)) = true := by decide +kernel
theorem s0_td : (List.range 48).all (fun i => decide (0 ≤ (x_c4 i).toInt ∧ (x_c4 i).toInt ≤ 12 ∧ (m_c1 (66 + i)).toInt = (x_c4 i).toInt)) = true := by decide +kernel
theorem s0_kd : (List.range 12).all (fun i => decide ((m_c1 (114 + i)).toInt = 0)) = true := by decide +kernel
theorem s0_od : (List.range 4).all (fun i => decide (0 ≤ (x_c8 i).toInt ∧ (x_c8 i).toInt ≤ 10 ∧ (m_c1 (138 + i)).toInt = (x_c8 i).toInt)) = true := by decide +kernel
theorem s0_lk : (List.range 40).all (fun i => decide ((m_c1 (143 + i)).toInt = 0)) = true := by decide +kernel
theorem film0 {X nw st td kd pl ro od lk fw fg A : Nat → Int} (hX : X 7 = 0 ∧ X 8 = 0 ∧ X 9 = -1 ∧ X 3 = 0 ∧ X 2 = 0 ∧ X 11 = 0 ∧ X 17 = 0 ∧ X 13 = 4095) (hn : ∀ j, nw j = (x_c2 j).toInt) (htd : ∀ j, td j = (x_c4 j).toInt) (hkd : ∀ j, kd j = 0) (hod : ∀ j, od j = (x_c8 j).toInt) (hlk : ∀ j, lk j = 0) (hA : ∀ j, j < 3409 → A j = (m_c1 j).toInt) : R_film X nw st td kd pl ro od lk fw fg A := by
  obtain ⟨x1, x2, x3, x4, x5, x6, x7, x8⟩ := hX
  obtain ⟨c1, c2, c3, c4, c5, c6, c7, c8, c9, c10, c11, c12, c13, c14, c15⟩ := s0_c
  refine ⟨0, 0, 0, 0, 0, 0, ⟨by omega, x1, by rw [hA 0 (by omega)]; exact c8⟩, ⟨by omega, x2, by rw [hA 1 (by omega)]; exact c9⟩, ⟨by omega, by omega, by rw [hA 2 (by omega), x3]; exact c10⟩, ⟨by omega, x4, by rw [hA 3 (by omega)]; exact c11⟩, ⟨by omega, x5⟩, ⟨by omega, x6, by rw [hA 4 (by omega)]; exact c12⟩, ⟨by omega, x7, by rw [hA 5 (by omega)]; exact c13⟩, ⟨0, by omega, ?_, ?_, ⟨?_, ?_, ?_⟩, ⟨?_, ?_, ?_⟩, ?_, fun s hs => ?_, fun s hs => ?_, fun q hq => by omega, fun i hi => by omega⟩, fun i hi => ?_, fun s hs => ?_, fun q hq => by omega, fun i hi => by omega, fun c hc => ?_, ?_, ⟨by omega, by omega, by rw [hA 142 (by omega), x8]; exact c14⟩, fun i hi => ?_, fun i hi => by omega, fun k hk => by omega⟩
  · rw [hn]; exact c1
  · show A (6 + 0) = ((0 : Nat) : Int)
    rw [hA _ (by omega)]; exact c2
  · rw [hn, c3]; omega
  · rw [hn, c3]; omega
  · show A (6 + 1) = nw 42
    rw [hA _ (by omega), hn, c3]; exact c4
  · rw [hn, c5]; omega
  · rw [hn, c5]; omega
  · show A (6 + 2) = nw 40
    rw [hA _ (by omega), hn, c5]; exact c6
  · show A (6 + 3) = _
    rw [hA _ (by omega)]; exact c7
  · have a := of_decide_eq_true (all_of s0_sh hs)
    show 0 ≤ nw (28 + s) ∧ nw (28 + s) ≤ 9999 ∧ A (6 + (4 + s)) = nw (28 + s)
    rw [hn, hA _ (by omega)]; exact a
  · have a := of_decide_eq_true (all_of s0_le hs)
    show 0 ≤ nw (16 + s) ∧ nw (16 + s) ≤ 12 ∧ A (6 + (16 + s)) = nw (16 + s)
    rw [hn, hA _ (by omega)]; exact a
  · have a := of_decide_eq_true (all_of s0_td hi)
    rw [htd, hA _ (by omega)]; exact a
  · have a := of_decide_eq_true (all_of s0_kd hs)
    rw [hkd, hA _ (by omega), a]; omega
  · have a := of_decide_eq_true (all_of s0_od hc)
    rw [hod, hA _ (by omega)]; exact a
  · rw [hod, hod, hod, hod]; exact c15
  · have a := of_decide_eq_true (all_of s0_lk hi)
    rw [hlk, hA _ (by omega), a]; omega
theorem Rel_0 : Rel 0 x_M0 m_M0 := by
  refine ⟨film0 ⟨rfl, rfl, rfl, rfl, rfl, rfl, rfl, rfl⟩ (fun _ => rfl) (fun _ => rfl) (fun _ => rfl) (fun _ => rfl) (fun _ => rfl) (fun j hj => ?_), film0 ⟨rfl, rfl, rfl, rfl, rfl, rfl, rfl, rfl⟩ (fun _ => rfl) (fun _ => rfl) (fun _ => rfl) (fun _ => rfl) (fun _ => rfl) (fun j hj => ?_), Int.le_refl _, ⟨⟨0, by omega, rfl, ?_, fun i hi => by omega⟩, ⟨?_, ?_, ?_⟩, ?_, ?_, ?_⟩, ⟨?_, ⟨?_, ?_⟩, ?_, ?_⟩, fun t ht => ?_, fun j hj => ⟨rfl, rfl⟩⟩
  · show (if (1 : Nat) = 2 ∧ j < 3409 then m_Mi 1 j else m_Mi 1 j) = _
    rw [if_neg (by omega)]
    rfl
  · show (if (2 : Nat) = 2 ∧ j < 3409 then m_Mi 1 j else m_Mi 2 j) = _
    rw [if_pos ⟨rfl, hj⟩]
    rfl
  all_goals first
    | decide
    | (have ht : (t : Int) < 0 := ht; omega)
/-- the 48 steps under a relation of the two memories that holds at first -/
theorem x_all : ∃ Rel : Nat → g_M → g_M → Prop, x_Steps Rel ∧ Rel 0 x_M0 m_M0 := ⟨Rel, ⟨fun _ _ _ h => Rel_mono h, st_0, st_1, st_2, st_3, st_4, st_5, st_6, st_7, st_8, st_9, st_10, st_11, st_12, st_13, st_14, st_15, st_16, st_17, st_18, st_19, st_20, st_21, st_22, st_23, st_24, st_25, st_26, st_27, st_28, st_29, st_30, st_31, st_32, st_33, st_34, st_35, st_36, st_37, st_38, st_39, st_40, st_41, st_42, st_43, st_44, st_45, st_46, st_47⟩, Rel_0⟩
