/-! the two worlds: which cells there are; what is known of static fields -/
def x_nests : List Cond := [(Jvm.Cond.methodLinkNest "FilmLooksBack$Reader" (96 : Nat) ({ cls := "FilmLooksBack", name := "within", desc := "(III)Z" } : Jvm.MethodName) "FilmLooksBack"), (Jvm.Cond.methodLinkNest "FilmLooksBack$Law" (33 : Nat) ({ cls := "FilmLooksBack", name := "within", desc := "(III)Z" } : Jvm.MethodName) "FilmLooksBack"), (Jvm.Cond.methodLinkNest "FilmLooksBack$Film" (73 : Nat) ({ cls := "FilmLooksBack", name := "isScene", desc := "(I)Z" } : Jvm.MethodName) "FilmLooksBack"), (Jvm.Cond.methodLinkNest "FilmLooksBack$Film" (77 : Nat) ({ cls := "FilmLooksBack", name := "isCue", desc := "(I)Z" } : Jvm.MethodName) "FilmLooksBack"), (Jvm.Cond.methodLinkNest "FilmLooksBack$Film" (84 : Nat) ({ cls := "FilmLooksBack", name := "within", desc := "(III)Z" } : Jvm.MethodName) "FilmLooksBack"), (Jvm.Cond.methodLinkNest "FilmLooksBack$Chart" (54 : Nat) ({ cls := "FilmLooksBack", name := "within", desc := "(III)Z" } : Jvm.MethodName) "FilmLooksBack"), (Jvm.Cond.methodLinkNest "FilmLooksBack$Seventh" (37 : Nat) ({ cls := "FilmLooksBack", name := "isScene", desc := "(I)Z" } : Jvm.MethodName) "FilmLooksBack")]
def x_fnest : Cond := (Jvm.Cond.fieldLinkNest "FilmLooksBack$Reader" (157 : Nat) "FilmLooksBack" "NAME_LAWS" "[I" "FilmLooksBack")
def x_words : String := "cues stays gladdens kind person seat call mend evening by to of in kinds if then else end not and or day seen plain scene shown draw cue next who glad row long "
def x_signs : String := "<>=#+-*/%();"
def x_Ex (A : Nat → Prop) (U : State) (H : Heap) : Prop := (∀ w ∈ x_nests, va_Nw w U) ∧ va_Nw x_fnest U ∧ (∃ t, va_Z "FilmLooksBack" "NAME_LAWS" "[I" (.ref t) A U H ∧ va_T .int t 12 (fun j => .int (gI (x_nl j))) A U H) ∧ (∃ t, va_Z "FilmLooksBack$Roster" "LATER" "[I" (.ref t) A U H ∧ va_T .int t 8 (fun j => .int (gI (x_lt j))) A U H)
  ∧ (∃ adK adV, vk_S 2 x_len x_byt adK adV A U H ∧ vk_R "FilmLooksBack$Reader" 67 x_words (adK 0) U ∧ vk_R "FilmLooksBack$Reader" 87 x_signs (adK 1) U) ∧ va_Z "java/lang/String" "COMPACT_STRINGS" "Z" (.int 1) A U H ∧ va_Zq "jdk/internal/util/Preconditions" "SIOOBE_FORMATTER" "Ljava/util/function/BiFunction;" A U H
theorem x_nests_cases {P : Cond → Prop} (h : ∀ a i x b, P (.methodLinkNest a i x b)) : ∀ w ∈ x_nests, P w := by
  intro w hw
  simp only [x_nests, List.mem_cons, List.not_mem_nil, or_false] at hw
  rcases hw with rfl | rfl | rfl | rfl | rfl | rfl | rfl <;> exact h _ _ _ _
theorem x_Ex_ok : g_exOK x_Ex := by
  refine ⟨?_, ?_, ?_⟩
  · intro A u U H hW hE
    obtain ⟨h1, h2, ⟨t3, h3, h3'⟩, ⟨t4, h4, h4'⟩, ⟨k5, v5, h5, h6, h7⟩, h8, h9⟩ := hE
    have hA := hW.alike
    refine ⟨fun w hw => ?_, va_Nw.warmF hW h2, ⟨t3, h3.moved hA, h3'.moved hA⟩, ⟨t4, h4.moved hA, h4'.moved hA⟩, ⟨k5, v5, h5.moved hA, h6.warm hW, h7.warm hW⟩, h8.moved hA, h9.moved hA⟩
    exact x_nests_cases (P := fun w => va_Nw w u → va_Nw w U) (fun a i x b z => va_Nw.warmM hW z) w hw (h1 w hw)
  · intro A u U H hW hE
    obtain ⟨h1, h2, ⟨t3, h3, h3'⟩, ⟨t4, h4, h4'⟩, ⟨k5, v5, h5, h6, h7⟩, h8, h9⟩ := hE
    have hA : u.vm.Alike U.vm := by rw [hW]; exact Vm.Alike.refl _
    refine ⟨fun w hw => ?_, va_Nw.same rfl hW h2, ⟨t3, h3.moved hA, h3'.moved hA⟩, ⟨t4, h4.moved hA, h4'.moved hA⟩, ⟨k5, v5, h5.moved hA, h6.same hW.symm, h7.same hW.symm⟩, h8.moved hA, h9.moved hA⟩
    exact x_nests_cases (P := fun w => va_Nw w u → va_Nw w U) (fun a i x b z => va_Nw.same rfl hW z) w hw (h1 w hw)
  · intro A U H H1 hE hq
    obtain ⟨h1, h2, ⟨t3, h3, h3'⟩, ⟨t4, h4, h4'⟩, ⟨k5, v5, h5, h6, h7⟩, h8, h9⟩ := hE
    exact ⟨h1, h2, ⟨t3, h3.kept hq, h3'.kept hq⟩, ⟨t4, h4.kept hq, h4'.kept hq⟩, ⟨k5, v5, h5.kept hq, h6, h7⟩, h8.kept hq, h9.kept hq⟩
theorem m_Ex_ok : g_exOK (fun _ _ _ => True) := ⟨fun _ _ _ _ _ _ => trivial, fun _ _ _ _ _ _ => trivial, fun _ _ _ _ _ _ => trivial⟩
def x_sh : Nat → g_Sh := fun k => match k with
  | 0 => .inr (8, [3, 14, 25, 33, 67, 69, 78, 79])
  | 1 => .inr (1, [4, 5, 0, 0, 6, 7, 8, 0, 0, 0, 9, 0, 10, 0, 11, 12, 13, 0])
  | 2 => .inl (0, 133, fun _ => 0)
  | 3 => .inl (0, 3990, fun _ => 0)
  | 4 => .inl (0, 48, fun _ => 0)
  | 5 => .inl (0, 12, fun _ => 0)
  | 6 => .inl (0, 8, fun _ => 0)
  | 7 => .inl (0, 12, fun _ => 0)
  | 8 => .inl (0, 4, fun _ => 0)
  | 9 => .inl (0, 40, fun _ => 0)
  | 10 => .inl (0, 8, fun _ => 0)
  | 11 => .inl (0, 8, fun _ => 0)
  | 12 => .inr (1, [15, 16, 0, 0, 17, 18, 19, 0, 0, 0, 20, 0, 21, 0, 22, 23, 24, 0])
  | 13 => .inl (0, 133, fun _ => 0)
  | 14 => .inl (0, 3990, fun _ => 0)
  | 15 => .inl (0, 48, fun _ => 0)
  | 16 => .inl (0, 12, fun _ => 0)
  | 17 => .inl (0, 8, fun _ => 0)
  | 18 => .inl (0, 12, fun _ => 0)
  | 19 => .inl (0, 4, fun _ => 0)
  | 20 => .inl (0, 40, fun _ => 0)
  | 21 => .inl (0, 8, fun _ => 0)
  | 22 => .inl (0, 8, fun _ => 0)
  | 23 => .inr (4, [27, 26, 0, 0, 0, 0, 0, 0, 0, 0])
  | 24 => .inl (0, 300, fun _ => 0)
  | 25 => .inr (7, [28, 0, 29, 30, 31, 32, 0, 0])
  | 26 => .inl (0, 300, fun _ => 0)
  | 27 => .inl (0, 3, fun _ => 0)
  | 28 => .inl (0, 3, fun _ => 0)
  | 29 => .inl (0, 24, fun _ => 0)
  | 30 => .inl (0, 72, fun _ => 0)
  | 31 => .inr (3, [3, 34, 37, 35, 36])
  | 32 => .inl (3, 4, x_txt)
  | 33 => .inl (0, 33, fun _ => 0)
  | 34 => .inl (0, 300, fun _ => 0)
  | 35 => .inr (7, [38, 0, 39, 40, 41, 42, 0, 0])
  | 36 => .inl (0, 300, fun _ => 0)
  | 37 => .inl (0, 3, fun _ => 0)
  | 38 => .inl (0, 3, fun _ => 0)
  | 39 => .inl (0, 24, fun _ => 0)
  | 40 => .inl (0, 72, fun _ => 0)
  | 41 => .inr (7, [44, 0, 45, 46, 47, 48, 0, 0])
  | 42 => .inl (0, 300, fun _ => 0)
  | 43 => .inl (0, 3, fun _ => 0)
  | 44 => .inl (0, 3, fun _ => 0)
  | 45 => .inl (0, 24, fun _ => 0)
  | 46 => .inl (0, 72, fun _ => 0)
  | 47 => .inr (7, [50, 0, 51, 52, 53, 54, 0, 0])
  | 48 => .inl (0, 300, fun _ => 0)
  | 49 => .inl (0, 3, fun _ => 0)
  | 50 => .inl (0, 3, fun _ => 0)
  | 51 => .inl (0, 24, fun _ => 0)
  | 52 => .inl (0, 72, fun _ => 0)
  | 53 => .inr (7, [56, 0, 57, 58, 59, 60, 0, 0])
  | 54 => .inl (0, 300, fun _ => 0)
  | 55 => .inl (0, 3, fun _ => 0)
  | 56 => .inl (0, 3, fun _ => 0)
  | 57 => .inl (0, 24, fun _ => 0)
  | 58 => .inl (0, 72, fun _ => 0)
  | 59 => .inr (7, [62, 0, 63, 64, 65, 66, 0, 0])
  | 60 => .inl (0, 300, fun _ => 0)
  | 61 => .inl (0, 3, fun _ => 0)
  | 62 => .inl (0, 3, fun _ => 0)
  | 63 => .inl (0, 24, fun _ => 0)
  | 64 => .inl (0, 72, fun _ => 0)
  | 65 => .inr (2, [3, 33, 68, 0, 0])
  | 66 => .inl (0, 133, fun _ => 0)
  | 67 => .inr (0, [3, 70, 71, 72, 73, 74, 75, 76, 77])
  | 68 => .inl (0, 52, fun _ => 0)
  | 69 => .inl (0, 13, fun _ => 0)
  | 70 => .inl (0, 13, fun _ => 0)
  | 71 => .inl (0, 13, fun _ => 0)
  | 72 => .inl (1, 13, fun _ => 0)
  | 73 => .inl (1, 13, fun _ => 0)
  | 74 => .inl (0, 13, fun _ => 0)
  | 75 => .inl (0, 13, fun _ => 0)
  | 76 => .inr (6, [3])
  | 77 => .inr (5, [3, 80, 81, 82, 83])
  | 78 => .inl (0, 8, fun _ => 0)
  | 79 => .inl (0, 5, fun _ => 0)
  | 80 => .inl (0, 5, fun _ => 0)
  | 81 => .inl (0, 5, fun _ => 0)
  | _ => .inl (0, 0, fun _ => 0)
def x_cl : List vw_C := [(RX0, TX0, 9), (RX1, TX1, 18), (RX2, TX2, 5), (RX3, TX3, 5), (RX4, TX4, 10), (RX5, TX5, 5), (RX6, TX6, 1), (RX7, TX7, 8), (RX8, TX8, 8)]
def xG : g_G := (x_cl, x_sh, 82, x_Ex)
theorem xk_0 : 0 < xG.2.2.1 := Nat.le_of_ble_eq_true rfl
theorem xs_0 : xG.2.1 0 = .inr (8, [3, 14, 25, 33, 67, 69, 78, 79]) := rfl
theorem xk_1 : 1 < xG.2.2.1 := Nat.le_of_ble_eq_true rfl
theorem xs_1 : xG.2.1 1 = .inr (1, [4, 5, 0, 0, 6, 7, 8, 0, 0, 0, 9, 0, 10, 0, 11, 12, 13, 0]) := rfl
theorem xk_2 : 2 < xG.2.2.1 := Nat.le_of_ble_eq_true rfl
theorem xs_2 : xG.2.1 2 = .inl (0, 133, fun _ => 0) := rfl
theorem xk_3 : 3 < xG.2.2.1 := Nat.le_of_ble_eq_true rfl
theorem xs_3 : xG.2.1 3 = .inl (0, 3990, fun _ => 0) := rfl
theorem xk_4 : 4 < xG.2.2.1 := Nat.le_of_ble_eq_true rfl
theorem xs_4 : xG.2.1 4 = .inl (0, 48, fun _ => 0) := rfl
theorem xk_5 : 5 < xG.2.2.1 := Nat.le_of_ble_eq_true rfl
theorem xs_5 : xG.2.1 5 = .inl (0, 12, fun _ => 0) := rfl
theorem xk_6 : 6 < xG.2.2.1 := Nat.le_of_ble_eq_true rfl
theorem xs_6 : xG.2.1 6 = .inl (0, 8, fun _ => 0) := rfl
theorem xk_7 : 7 < xG.2.2.1 := Nat.le_of_ble_eq_true rfl
theorem xs_7 : xG.2.1 7 = .inl (0, 12, fun _ => 0) := rfl
theorem xk_8 : 8 < xG.2.2.1 := Nat.le_of_ble_eq_true rfl
theorem xs_8 : xG.2.1 8 = .inl (0, 4, fun _ => 0) := rfl
theorem xk_9 : 9 < xG.2.2.1 := Nat.le_of_ble_eq_true rfl
theorem xs_9 : xG.2.1 9 = .inl (0, 40, fun _ => 0) := rfl
theorem xk_10 : 10 < xG.2.2.1 := Nat.le_of_ble_eq_true rfl
theorem xs_10 : xG.2.1 10 = .inl (0, 8, fun _ => 0) := rfl
theorem xk_11 : 11 < xG.2.2.1 := Nat.le_of_ble_eq_true rfl
theorem xs_11 : xG.2.1 11 = .inl (0, 8, fun _ => 0) := rfl
theorem xk_12 : 12 < xG.2.2.1 := Nat.le_of_ble_eq_true rfl
theorem xs_12 : xG.2.1 12 = .inr (1, [15, 16, 0, 0, 17, 18, 19, 0, 0, 0, 20, 0, 21, 0, 22, 23, 24, 0]) := rfl
theorem xk_13 : 13 < xG.2.2.1 := Nat.le_of_ble_eq_true rfl
theorem xs_13 : xG.2.1 13 = .inl (0, 133, fun _ => 0) := rfl
theorem xk_14 : 14 < xG.2.2.1 := Nat.le_of_ble_eq_true rfl
theorem xs_14 : xG.2.1 14 = .inl (0, 3990, fun _ => 0) := rfl
theorem xk_15 : 15 < xG.2.2.1 := Nat.le_of_ble_eq_true rfl
theorem xs_15 : xG.2.1 15 = .inl (0, 48, fun _ => 0) := rfl
theorem xk_16 : 16 < xG.2.2.1 := Nat.le_of_ble_eq_true rfl
theorem xs_16 : xG.2.1 16 = .inl (0, 12, fun _ => 0) := rfl
theorem xk_17 : 17 < xG.2.2.1 := Nat.le_of_ble_eq_true rfl
theorem xs_17 : xG.2.1 17 = .inl (0, 8, fun _ => 0) := rfl
theorem xk_18 : 18 < xG.2.2.1 := Nat.le_of_ble_eq_true rfl
theorem xs_18 : xG.2.1 18 = .inl (0, 12, fun _ => 0) := rfl
theorem xk_19 : 19 < xG.2.2.1 := Nat.le_of_ble_eq_true rfl
theorem xs_19 : xG.2.1 19 = .inl (0, 4, fun _ => 0) := rfl
theorem xk_20 : 20 < xG.2.2.1 := Nat.le_of_ble_eq_true rfl
theorem xs_20 : xG.2.1 20 = .inl (0, 40, fun _ => 0) := rfl
theorem xk_21 : 21 < xG.2.2.1 := Nat.le_of_ble_eq_true rfl
theorem xs_21 : xG.2.1 21 = .inl (0, 8, fun _ => 0) := rfl
theorem xk_22 : 22 < xG.2.2.1 := Nat.le_of_ble_eq_true rfl
theorem xs_22 : xG.2.1 22 = .inl (0, 8, fun _ => 0) := rfl
theorem xk_23 : 23 < xG.2.2.1 := Nat.le_of_ble_eq_true rfl
theorem xs_23 : xG.2.1 23 = .inr (4, [27, 26, 0, 0, 0, 0, 0, 0, 0, 0]) := rfl
theorem xk_24 : 24 < xG.2.2.1 := Nat.le_of_ble_eq_true rfl
theorem xs_24 : xG.2.1 24 = .inl (0, 300, fun _ => 0) := rfl
theorem xk_25 : 25 < xG.2.2.1 := Nat.le_of_ble_eq_true rfl
theorem xs_25 : xG.2.1 25 = .inr (7, [28, 0, 29, 30, 31, 32, 0, 0]) := rfl
theorem xk_26 : 26 < xG.2.2.1 := Nat.le_of_ble_eq_true rfl
theorem xs_26 : xG.2.1 26 = .inl (0, 300, fun _ => 0) := rfl
theorem xk_27 : 27 < xG.2.2.1 := Nat.le_of_ble_eq_true rfl
theorem xs_27 : xG.2.1 27 = .inl (0, 3, fun _ => 0) := rfl
theorem xk_28 : 28 < xG.2.2.1 := Nat.le_of_ble_eq_true rfl
theorem xs_28 : xG.2.1 28 = .inl (0, 3, fun _ => 0) := rfl
theorem xk_29 : 29 < xG.2.2.1 := Nat.le_of_ble_eq_true rfl
theorem xs_29 : xG.2.1 29 = .inl (0, 24, fun _ => 0) := rfl
theorem xk_30 : 30 < xG.2.2.1 := Nat.le_of_ble_eq_true rfl
theorem xs_30 : xG.2.1 30 = .inl (0, 72, fun _ => 0) := rfl
theorem xk_31 : 31 < xG.2.2.1 := Nat.le_of_ble_eq_true rfl
theorem xs_31 : xG.2.1 31 = .inr (3, [3, 34, 37, 35, 36]) := rfl
theorem xk_32 : 32 < xG.2.2.1 := Nat.le_of_ble_eq_true rfl
theorem xs_32 : xG.2.1 32 = .inl (3, 4, x_txt) := rfl
theorem xk_33 : 33 < xG.2.2.1 := Nat.le_of_ble_eq_true rfl
theorem xs_33 : xG.2.1 33 = .inl (0, 33, fun _ => 0) := rfl
theorem xk_34 : 34 < xG.2.2.1 := Nat.le_of_ble_eq_true rfl
theorem xs_34 : xG.2.1 34 = .inl (0, 300, fun _ => 0) := rfl
theorem xk_35 : 35 < xG.2.2.1 := Nat.le_of_ble_eq_true rfl
theorem xs_35 : xG.2.1 35 = .inr (7, [38, 0, 39, 40, 41, 42, 0, 0]) := rfl
theorem xk_36 : 36 < xG.2.2.1 := Nat.le_of_ble_eq_true rfl
theorem xs_36 : xG.2.1 36 = .inl (0, 300, fun _ => 0) := rfl
theorem xk_37 : 37 < xG.2.2.1 := Nat.le_of_ble_eq_true rfl
theorem xs_37 : xG.2.1 37 = .inl (0, 3, fun _ => 0) := rfl
theorem xk_38 : 38 < xG.2.2.1 := Nat.le_of_ble_eq_true rfl
theorem xs_38 : xG.2.1 38 = .inl (0, 3, fun _ => 0) := rfl
theorem xk_39 : 39 < xG.2.2.1 := Nat.le_of_ble_eq_true rfl
theorem xs_39 : xG.2.1 39 = .inl (0, 24, fun _ => 0) := rfl
theorem xk_40 : 40 < xG.2.2.1 := Nat.le_of_ble_eq_true rfl
theorem xs_40 : xG.2.1 40 = .inl (0, 72, fun _ => 0) := rfl
theorem xk_41 : 41 < xG.2.2.1 := Nat.le_of_ble_eq_true rfl
theorem xs_41 : xG.2.1 41 = .inr (7, [44, 0, 45, 46, 47, 48, 0, 0]) := rfl
theorem xk_42 : 42 < xG.2.2.1 := Nat.le_of_ble_eq_true rfl
theorem xs_42 : xG.2.1 42 = .inl (0, 300, fun _ => 0) := rfl
theorem xk_43 : 43 < xG.2.2.1 := Nat.le_of_ble_eq_true rfl
theorem xs_43 : xG.2.1 43 = .inl (0, 3, fun _ => 0) := rfl
theorem xk_44 : 44 < xG.2.2.1 := Nat.le_of_ble_eq_true rfl
theorem xs_44 : xG.2.1 44 = .inl (0, 3, fun _ => 0) := rfl
theorem xk_45 : 45 < xG.2.2.1 := Nat.le_of_ble_eq_true rfl
theorem xs_45 : xG.2.1 45 = .inl (0, 24, fun _ => 0) := rfl
theorem xk_46 : 46 < xG.2.2.1 := Nat.le_of_ble_eq_true rfl
theorem xs_46 : xG.2.1 46 = .inl (0, 72, fun _ => 0) := rfl
theorem xk_47 : 47 < xG.2.2.1 := Nat.le_of_ble_eq_true rfl
theorem xs_47 : xG.2.1 47 = .inr (7, [50, 0, 51, 52, 53, 54, 0, 0]) := rfl
theorem xk_48 : 48 < xG.2.2.1 := Nat.le_of_ble_eq_true rfl
theorem xs_48 : xG.2.1 48 = .inl (0, 300, fun _ => 0) := rfl
theorem xk_49 : 49 < xG.2.2.1 := Nat.le_of_ble_eq_true rfl
theorem xs_49 : xG.2.1 49 = .inl (0, 3, fun _ => 0) := rfl
theorem xk_50 : 50 < xG.2.2.1 := Nat.le_of_ble_eq_true rfl
theorem xs_50 : xG.2.1 50 = .inl (0, 3, fun _ => 0) := rfl
theorem xk_51 : 51 < xG.2.2.1 := Nat.le_of_ble_eq_true rfl
theorem xs_51 : xG.2.1 51 = .inl (0, 24, fun _ => 0) := rfl
theorem xk_52 : 52 < xG.2.2.1 := Nat.le_of_ble_eq_true rfl
theorem xs_52 : xG.2.1 52 = .inl (0, 72, fun _ => 0) := rfl
theorem xk_53 : 53 < xG.2.2.1 := Nat.le_of_ble_eq_true rfl
theorem xs_53 : xG.2.1 53 = .inr (7, [56, 0, 57, 58, 59, 60, 0, 0]) := rfl
theorem xk_54 : 54 < xG.2.2.1 := Nat.le_of_ble_eq_true rfl
theorem xs_54 : xG.2.1 54 = .inl (0, 300, fun _ => 0) := rfl
theorem xk_55 : 55 < xG.2.2.1 := Nat.le_of_ble_eq_true rfl
theorem xs_55 : xG.2.1 55 = .inl (0, 3, fun _ => 0) := rfl
theorem xk_56 : 56 < xG.2.2.1 := Nat.le_of_ble_eq_true rfl
theorem xs_56 : xG.2.1 56 = .inl (0, 3, fun _ => 0) := rfl
theorem xk_57 : 57 < xG.2.2.1 := Nat.le_of_ble_eq_true rfl
theorem xs_57 : xG.2.1 57 = .inl (0, 24, fun _ => 0) := rfl
theorem xk_58 : 58 < xG.2.2.1 := Nat.le_of_ble_eq_true rfl
theorem xs_58 : xG.2.1 58 = .inl (0, 72, fun _ => 0) := rfl
theorem xk_59 : 59 < xG.2.2.1 := Nat.le_of_ble_eq_true rfl
theorem xs_59 : xG.2.1 59 = .inr (7, [62, 0, 63, 64, 65, 66, 0, 0]) := rfl
theorem xk_60 : 60 < xG.2.2.1 := Nat.le_of_ble_eq_true rfl
theorem xs_60 : xG.2.1 60 = .inl (0, 300, fun _ => 0) := rfl
theorem xk_61 : 61 < xG.2.2.1 := Nat.le_of_ble_eq_true rfl
theorem xs_61 : xG.2.1 61 = .inl (0, 3, fun _ => 0) := rfl
theorem xk_62 : 62 < xG.2.2.1 := Nat.le_of_ble_eq_true rfl
theorem xs_62 : xG.2.1 62 = .inl (0, 3, fun _ => 0) := rfl
theorem xk_63 : 63 < xG.2.2.1 := Nat.le_of_ble_eq_true rfl
theorem xs_63 : xG.2.1 63 = .inl (0, 24, fun _ => 0) := rfl
theorem xk_64 : 64 < xG.2.2.1 := Nat.le_of_ble_eq_true rfl
theorem xs_64 : xG.2.1 64 = .inl (0, 72, fun _ => 0) := rfl
theorem xk_65 : 65 < xG.2.2.1 := Nat.le_of_ble_eq_true rfl
theorem xs_65 : xG.2.1 65 = .inr (2, [3, 33, 68, 0, 0]) := rfl
theorem xk_66 : 66 < xG.2.2.1 := Nat.le_of_ble_eq_true rfl
theorem xs_66 : xG.2.1 66 = .inl (0, 133, fun _ => 0) := rfl
theorem xk_67 : 67 < xG.2.2.1 := Nat.le_of_ble_eq_true rfl
theorem xs_67 : xG.2.1 67 = .inr (0, [3, 70, 71, 72, 73, 74, 75, 76, 77]) := rfl
theorem xk_68 : 68 < xG.2.2.1 := Nat.le_of_ble_eq_true rfl
theorem xs_68 : xG.2.1 68 = .inl (0, 52, fun _ => 0) := rfl
theorem xk_69 : 69 < xG.2.2.1 := Nat.le_of_ble_eq_true rfl
theorem xs_69 : xG.2.1 69 = .inl (0, 13, fun _ => 0) := rfl
theorem xk_70 : 70 < xG.2.2.1 := Nat.le_of_ble_eq_true rfl
theorem xs_70 : xG.2.1 70 = .inl (0, 13, fun _ => 0) := rfl
theorem xk_71 : 71 < xG.2.2.1 := Nat.le_of_ble_eq_true rfl
theorem xs_71 : xG.2.1 71 = .inl (0, 13, fun _ => 0) := rfl
theorem xk_72 : 72 < xG.2.2.1 := Nat.le_of_ble_eq_true rfl
theorem xs_72 : xG.2.1 72 = .inl (1, 13, fun _ => 0) := rfl
theorem xk_73 : 73 < xG.2.2.1 := Nat.le_of_ble_eq_true rfl
theorem xs_73 : xG.2.1 73 = .inl (1, 13, fun _ => 0) := rfl
theorem xk_74 : 74 < xG.2.2.1 := Nat.le_of_ble_eq_true rfl
theorem xs_74 : xG.2.1 74 = .inl (0, 13, fun _ => 0) := rfl
theorem xk_75 : 75 < xG.2.2.1 := Nat.le_of_ble_eq_true rfl
theorem xs_75 : xG.2.1 75 = .inl (0, 13, fun _ => 0) := rfl
theorem xk_76 : 76 < xG.2.2.1 := Nat.le_of_ble_eq_true rfl
theorem xs_76 : xG.2.1 76 = .inr (6, [3]) := rfl
theorem xk_77 : 77 < xG.2.2.1 := Nat.le_of_ble_eq_true rfl
theorem xs_77 : xG.2.1 77 = .inr (5, [3, 80, 81, 82, 83]) := rfl
theorem xk_78 : 78 < xG.2.2.1 := Nat.le_of_ble_eq_true rfl
theorem xs_78 : xG.2.1 78 = .inl (0, 8, fun _ => 0) := rfl
theorem xk_79 : 79 < xG.2.2.1 := Nat.le_of_ble_eq_true rfl
theorem xs_79 : xG.2.1 79 = .inl (0, 5, fun _ => 0) := rfl
theorem xk_80 : 80 < xG.2.2.1 := Nat.le_of_ble_eq_true rfl
theorem xs_80 : xG.2.1 80 = .inl (0, 5, fun _ => 0) := rfl
theorem xk_81 : 81 < xG.2.2.1 := Nat.le_of_ble_eq_true rfl
theorem xs_81 : xG.2.1 81 = .inl (0, 5, fun _ => 0) := rfl
theorem xc_0 : xG.1[0]? = some (RX0, TX0, 9) := rfl
theorem xin_0 : ∀ w ∈ u_ws RX0 TX0 9, w ∈ GT := by decide +kernel
theorem xc_1 : xG.1[1]? = some (RX1, TX1, 18) := rfl
theorem xin_1 : ∀ w ∈ u_ws RX1 TX1 18, w ∈ GT := by decide +kernel
theorem xc_2 : xG.1[2]? = some (RX2, TX2, 5) := rfl
theorem xin_2 : ∀ w ∈ u_ws RX2 TX2 5, w ∈ GT := by decide +kernel
theorem xc_3 : xG.1[3]? = some (RX3, TX3, 5) := rfl
theorem xin_3 : ∀ w ∈ u_ws RX3 TX3 5, w ∈ GT := by decide +kernel
theorem xc_4 : xG.1[4]? = some (RX4, TX4, 10) := rfl
theorem xin_4 : ∀ w ∈ u_ws RX4 TX4 10, w ∈ GT := by decide +kernel
theorem xc_5 : xG.1[5]? = some (RX5, TX5, 5) := rfl
theorem xin_5 : ∀ w ∈ u_ws RX5 TX5 5, w ∈ GT := by decide +kernel
theorem xc_6 : xG.1[6]? = some (RX6, TX6, 1) := rfl
theorem xin_6 : ∀ w ∈ u_ws RX6 TX6 1, w ∈ GT := by decide +kernel
theorem xc_7 : xG.1[7]? = some (RX7, TX7, 8) := rfl
theorem xin_7 : ∀ w ∈ u_ws RX7 TX7 8, w ∈ GT := by decide +kernel
theorem xc_8 : xG.1[8]? = some (RX8, TX8, 8) := rfl
theorem xin_8 : ∀ w ∈ u_ws RX8 TX8 8, w ∈ GT := by decide +kernel
def m_sh : Nat → g_Sh := fun k => match k with
  | 0 => .inr (0, [3, 4, 5, 6, 0, 0, 0, 0, 0, 0, 0, 1, 0, 0, 0, 7, 0, 0, 0, 0, 8, 9, 10, 0, 0, 0, 0, 11, 12, 13, 14, 15, 16, 17, 18, 19])
  | 1 => .inl (0, 3409, fun _ => 0)
  | 2 => .inl (0, 3409, fun _ => 0)
  | 3 => .inl (0, 2820, fun _ => 0)
  | 4 => .inl (0, 300, fun _ => 0)
  | 5 => .inl (0, 160, fun _ => 0)
  | 6 => .inl (0, 12, fun _ => 0)
  | 7 => .inl (1, 330, fun _ => 0)
  | 8 => .inl (2, 330, fun _ => 0)
  | 9 => .inl (0, 66, fun _ => 0)
  | 10 => .inl (0, 13, fun _ => 0)
  | 11 => .inl (0, 26, fun _ => 0)
  | 12 => .inl (1, 13, fun _ => 0)
  | 13 => .inl (1, 13, fun _ => 0)
  | 14 => .inl (0, 169, fun _ => 0)
  | 15 => .inl (0, 8, fun _ => 0)
  | 16 => .inl (0, 8, fun _ => 0)
  | 17 => .inl (0, 5, fun _ => 0)
  | _ => .inl (0, 0, fun _ => 0)
def m_cl : List vw_C := [(RX9, TX9, 36)]
def mG : g_G := (m_cl, m_sh, 18, fun _ _ _ => True)
theorem mk_0 : 0 < mG.2.2.1 := Nat.le_of_ble_eq_true rfl
theorem ms_0 : mG.2.1 0 = .inr (0, [3, 4, 5, 6, 0, 0, 0, 0, 0, 0, 0, 1, 0, 0, 0, 7, 0, 0, 0, 0, 8, 9, 10, 0, 0, 0, 0, 11, 12, 13, 14, 15, 16, 17, 18, 19]) := rfl
theorem mk_1 : 1 < mG.2.2.1 := Nat.le_of_ble_eq_true rfl
theorem ms_1 : mG.2.1 1 = .inl (0, 3409, fun _ => 0) := rfl
theorem mk_2 : 2 < mG.2.2.1 := Nat.le_of_ble_eq_true rfl
theorem ms_2 : mG.2.1 2 = .inl (0, 3409, fun _ => 0) := rfl
theorem mk_3 : 3 < mG.2.2.1 := Nat.le_of_ble_eq_true rfl
theorem ms_3 : mG.2.1 3 = .inl (0, 2820, fun _ => 0) := rfl
theorem mk_4 : 4 < mG.2.2.1 := Nat.le_of_ble_eq_true rfl
theorem ms_4 : mG.2.1 4 = .inl (0, 300, fun _ => 0) := rfl
theorem mk_5 : 5 < mG.2.2.1 := Nat.le_of_ble_eq_true rfl
theorem ms_5 : mG.2.1 5 = .inl (0, 160, fun _ => 0) := rfl
theorem mk_6 : 6 < mG.2.2.1 := Nat.le_of_ble_eq_true rfl
theorem ms_6 : mG.2.1 6 = .inl (0, 12, fun _ => 0) := rfl
theorem mk_7 : 7 < mG.2.2.1 := Nat.le_of_ble_eq_true rfl
theorem ms_7 : mG.2.1 7 = .inl (1, 330, fun _ => 0) := rfl
theorem mk_8 : 8 < mG.2.2.1 := Nat.le_of_ble_eq_true rfl
theorem ms_8 : mG.2.1 8 = .inl (2, 330, fun _ => 0) := rfl
theorem mk_9 : 9 < mG.2.2.1 := Nat.le_of_ble_eq_true rfl
theorem ms_9 : mG.2.1 9 = .inl (0, 66, fun _ => 0) := rfl
theorem mk_10 : 10 < mG.2.2.1 := Nat.le_of_ble_eq_true rfl
theorem ms_10 : mG.2.1 10 = .inl (0, 13, fun _ => 0) := rfl
theorem mk_11 : 11 < mG.2.2.1 := Nat.le_of_ble_eq_true rfl
theorem ms_11 : mG.2.1 11 = .inl (0, 26, fun _ => 0) := rfl
theorem mk_12 : 12 < mG.2.2.1 := Nat.le_of_ble_eq_true rfl
theorem ms_12 : mG.2.1 12 = .inl (1, 13, fun _ => 0) := rfl
theorem mk_13 : 13 < mG.2.2.1 := Nat.le_of_ble_eq_true rfl
theorem ms_13 : mG.2.1 13 = .inl (1, 13, fun _ => 0) := rfl
theorem mk_14 : 14 < mG.2.2.1 := Nat.le_of_ble_eq_true rfl
theorem ms_14 : mG.2.1 14 = .inl (0, 169, fun _ => 0) := rfl
theorem mk_15 : 15 < mG.2.2.1 := Nat.le_of_ble_eq_true rfl
theorem ms_15 : mG.2.1 15 = .inl (0, 8, fun _ => 0) := rfl
theorem mk_16 : 16 < mG.2.2.1 := Nat.le_of_ble_eq_true rfl
theorem ms_16 : mG.2.1 16 = .inl (0, 8, fun _ => 0) := rfl
theorem mk_17 : 17 < mG.2.2.1 := Nat.le_of_ble_eq_true rfl
theorem ms_17 : mG.2.1 17 = .inl (0, 5, fun _ => 0) := rfl
theorem mc_0 : mG.1[0]? = some (RX9, TX9, 36) := rfl
theorem min_0 : ∀ w ∈ u_ws RX9 TX9 36, w ∈ GT := by decide +kernel
theorem xT_25 : xT 25 := by decide
theorem xT_35 : xT 35 := by decide
theorem xT_41 : xT 41 := by decide
theorem xT_47 : xT 47 := by decide
theorem xT_53 : xT 53 := by decide
theorem xT_59 : xT 59 := by decide
theorem xT_k0 {t : Nat} (h : xT t) : t < xG.2.2.1 := by rcases h with rfl | rfl | rfl | rfl | rfl | rfl <;> exact Nat.le_of_ble_eq_true rfl
theorem xT_s0 {t : Nat} (h : xT t) : xG.2.1 t = .inr (7, [t + 1 + 2, 0, t + 2 + 2, t + 3 + 2, t + 4 + 2, t + 5 + 2, 0, 0]) := by rcases h with rfl | rfl | rfl | rfl | rfl | rfl <;> rfl
theorem xT_k1 {t : Nat} (h : xT t) : t + 1 < xG.2.2.1 := by rcases h with rfl | rfl | rfl | rfl | rfl | rfl <;> exact Nat.le_of_ble_eq_true rfl
theorem xT_s1 {t : Nat} (h : xT t) : xG.2.1 (t + 1) = .inl (0, 300, fun _ => 0) := by rcases h with rfl | rfl | rfl | rfl | rfl | rfl <;> rfl
theorem xT_k2 {t : Nat} (h : xT t) : t + 2 < xG.2.2.1 := by rcases h with rfl | rfl | rfl | rfl | rfl | rfl <;> exact Nat.le_of_ble_eq_true rfl
theorem xT_s2 {t : Nat} (h : xT t) : xG.2.1 (t + 2) = .inl (0, 3, fun _ => 0) := by rcases h with rfl | rfl | rfl | rfl | rfl | rfl <;> rfl
theorem xT_k3 {t : Nat} (h : xT t) : t + 3 < xG.2.2.1 := by rcases h with rfl | rfl | rfl | rfl | rfl | rfl <;> exact Nat.le_of_ble_eq_true rfl
theorem xT_s3 {t : Nat} (h : xT t) : xG.2.1 (t + 3) = .inl (0, 3, fun _ => 0) := by rcases h with rfl | rfl | rfl | rfl | rfl | rfl <;> rfl
theorem xT_k4 {t : Nat} (h : xT t) : t + 4 < xG.2.2.1 := by rcases h with rfl | rfl | rfl | rfl | rfl | rfl <;> exact Nat.le_of_ble_eq_true rfl
theorem xT_s4 {t : Nat} (h : xT t) : xG.2.1 (t + 4) = .inl (0, 24, fun _ => 0) := by rcases h with rfl | rfl | rfl | rfl | rfl | rfl <;> rfl
theorem xT_k5 {t : Nat} (h : xT t) : t + 5 < xG.2.2.1 := by rcases h with rfl | rfl | rfl | rfl | rfl | rfl <;> exact Nat.le_of_ble_eq_true rfl
theorem xT_s5 {t : Nat} (h : xT t) : xG.2.1 (t + 5) = .inl (0, 72, fun _ => 0) := by rcases h with rfl | rfl | rfl | rfl | rfl | rfl <;> rfl
theorem x_nest {p : Program} {R : Room} {s : State} {m : MethodId} {args : Array Value} {meth : Method} {c : Code} {V : g_V} {cc : ByteArray} {nL : Nat} {ret : Option FieldType} {own : String} {nf nl i : Nat} {w : Cond} (C : g_CX xG V p R s m args meth c cc nL ret own nf nl) (h : x_nests[i]? = some w) : va_Nw w s := C.2.2.2.2.2.2.2.2.2.2.1.1 w (List.mem_of_getElem? h)
theorem cal_J6_bitCount_0f7a4 : g_cal yJ6_bitCount_0f7a4 cJ6_bitCount_0f7a4 1 (some .int) 1 := ⟨⟨by decide +kernel, by decide +kernel, by decide +kernel⟩, gw_843, gw_129, by decide +kernel⟩
theorem cal_X0_comesAgain : g_cal yX0_comesAgain cX0_comesAgain 3 (some .boolean) 1 := ⟨⟨by decide +kernel, by decide +kernel, by decide +kernel⟩, gw_1097, gw_118, by decide +kernel⟩
theorem cal_X0_commonDivisor : g_cal yX0_commonDivisor cX0_commonDivisor 7 (some .long) 2 := ⟨⟨by decide +kernel, by decide +kernel, by decide +kernel⟩, gw_1055, gw_118, by decide +kernel⟩
theorem cal_X0_countFromEnd : g_cal yX0_countFromEnd cX0_countFromEnd 2 none 0 := ⟨⟨by decide +kernel, by decide +kernel, by decide +kernel⟩, gw_1050, gw_118, by decide +kernel⟩
theorem cal_X0_deadBits : g_cal yX0_deadBits cX0_deadBits 3 (some .int) 0 := ⟨⟨by decide +kernel, by decide +kernel, by decide +kernel⟩, gw_1105, gw_118, by decide +kernel⟩
theorem cal_X0_farthest : g_cal yX0_farthest cX0_farthest 3 (some .int) 0 := ⟨⟨by decide +kernel, by decide +kernel, by decide +kernel⟩, gw_1113, gw_118, by decide +kernel⟩
theorem cal_X0_isAlike : g_cal yX0_isAlike cX0_isAlike 5 (some .boolean) 2 := ⟨⟨by decide +kernel, by decide +kernel, by decide +kernel⟩, gw_1081, gw_118, by decide +kernel⟩
theorem cal_X0_measureTo : g_cal yX0_measureTo cX0_measureTo 6 none 1 := ⟨⟨by decide +kernel, by decide +kernel, by decide +kernel⟩, gw_1003, gw_118, by decide +kernel⟩
theorem cal_X0_nearerCue : g_cal yX0_nearerCue cX0_nearerCue 3 (some .int) 1 := ⟨⟨by decide +kernel, by decide +kernel, by decide +kernel⟩, gw_1013, gw_118, by decide +kernel⟩
theorem cal_X0_oddsWithin : g_cal yX0_oddsWithin cX0_oddsWithin 11 (some .long) 3 := ⟨⟨by decide +kernel, by decide +kernel, by decide +kernel⟩, gw_1046, gw_118, by decide +kernel⟩
theorem cal_X0_partFiner : g_cal yX0_partFiner cX0_partFiner 4 (some .int) 0 := ⟨⟨by decide +kernel, by decide +kernel, by decide +kernel⟩, gw_1077, gw_118, by decide +kernel⟩
theorem cal_X0_parted : g_cal yX0_parted cX0_parted 4 (some .int) 2 := ⟨⟨by decide +kernel, by decide +kernel, by decide +kernel⟩, gw_1089, gw_118, by decide +kernel⟩
theorem cal_X0_playCue : g_cal yX0_playCue cX0_playCue 3 (some .int) 2 := ⟨⟨by decide +kernel, by decide +kernel, by decide +kernel⟩, gw_1038, gw_118, by decide +kernel⟩
theorem cal_X0_playLength : g_cal yX0_playLength cX0_playLength 4 (some .int) 2 := ⟨⟨by decide +kernel, by decide +kernel, by decide +kernel⟩, gw_1021, gw_118, by decide +kernel⟩
theorem cal_X0_playOut : g_cal yX0_playOut cX0_playOut 6 none 0 := ⟨⟨by decide +kernel, by decide +kernel, by decide +kernel⟩, gw_1025, gw_118, by decide +kernel⟩
theorem cal_X0_replyOf : g_cal yX0_replyOf cX0_replyOf 8 (some .int) 2 := ⟨⟨by decide +kernel, by decide +kernel, by decide +kernel⟩, gw_1029, gw_118, by decide +kernel⟩
theorem cal_X0_shortestWay : g_cal yX0_shortestWay cX0_shortestWay 7 (some .int) 3 := ⟨⟨by decide +kernel, by decide +kernel, by decide +kernel⟩, gw_999, gw_118, by decide +kernel⟩
theorem cal_X0_sortAll : g_cal yX0_sortAll cX0_sortAll 4 (some .int) 0 := ⟨⟨by decide +kernel, by decide +kernel, by decide +kernel⟩, gw_1069, gw_118, by decide +kernel⟩
theorem cal_X0_sortByKind : g_cal yX0_sortByKind cX0_sortByKind 2 none 0 := ⟨⟨by decide +kernel, by decide +kernel, by decide +kernel⟩, gw_1073, gw_118, by decide +kernel⟩
theorem cal_X0_survey : g_cal yX0_survey cX0_survey 3 none 0 := ⟨⟨by decide +kernel, by decide +kernel, by decide +kernel⟩, gw_1007, gw_118, by decide +kernel⟩
theorem cal_X0_waysJust : g_cal yX0_waysJust cX0_waysJust 8 (some .long) 2 := ⟨⟨by decide +kernel, by decide +kernel, by decide +kernel⟩, gw_1156, gw_118, by decide +kernel⟩
theorem cal_X1_after : g_cal yX1_after cX1_after 3 (some .int) 2 := ⟨⟨by decide +kernel, by decide +kernel, by decide +kernel⟩, gw_792, gw_113, by decide +kernel⟩
theorem cal_X1_copy : g_cal yX1_copy cX1_copy 2 none 1 := ⟨⟨by decide +kernel, by decide +kernel, by decide +kernel⟩, gw_1238, gw_113, by decide +kernel⟩
theorem cal_X1_isPerson : g_cal yX1_isPerson cX1_isPerson 2 (some .boolean) 1 := ⟨⟨by decide +kernel, by decide +kernel, by decide +kernel⟩, gw_767, gw_113, by decide +kernel⟩
theorem cal_X1_isSeen : g_cal yX1_isSeen cX1_isSeen 2 (some .boolean) 1 := ⟨⟨by decide +kernel, by decide +kernel, by decide +kernel⟩, gw_839, gw_113, by decide +kernel⟩
theorem cal_X1_isText : g_cal yX1_isText cX1_isText 2 (some .boolean) 1 := ⟨⟨by decide +kernel, by decide +kernel, by decide +kernel⟩, gw_759, gw_113, by decide +kernel⟩
theorem cal_X1_keepStep : g_cal yX1_keepStep cX1_keepStep 2 none 0 := ⟨⟨by decide +kernel, by decide +kernel, by decide +kernel⟩, gw_779, gw_113, by decide +kernel⟩
theorem cal_X1_plainTogether : g_cal yX1_plainTogether cX1_plainTogether 3 (some .int) 0 := ⟨⟨by decide +kernel, by decide +kernel, by decide +kernel⟩, gw_850, gw_113, by decide +kernel⟩
theorem cal_X1_seenBits : g_cal yX1_seenBits cX1_seenBits 3 (some .int) 0 := ⟨⟨by decide +kernel, by decide +kernel, by decide +kernel⟩, gw_835, gw_113, by decide +kernel⟩
theorem cal_X1_takeBack : g_cal yX1_takeBack cX1_takeBack 2 (some .int) 0 := ⟨⟨by decide +kernel, by decide +kernel, by decide +kernel⟩, gw_948, gw_113, by decide +kernel⟩
theorem cal_X1_tellNext : g_cal yX1_tellNext cX1_tellNext 4 none 3 := ⟨⟨by decide +kernel, by decide +kernel, by decide +kernel⟩, gw_475, gw_113, by decide +kernel⟩
theorem cal_X1_tellNow : g_cal yX1_tellNow cX1_tellNow 4 none 2 := ⟨⟨by decide +kernel, by decide +kernel, by decide +kernel⟩, gw_479, gw_113, by decide +kernel⟩
theorem cal_X1_tellPerson : g_cal yX1_tellPerson cX1_tellPerson 4 (some .int) 2 := ⟨⟨by decide +kernel, by decide +kernel, by decide +kernel⟩, gw_494, gw_113, by decide +kernel⟩
theorem cal_X1_written : g_cal yX1_written cX1_written 1 (some .int) 0 := ⟨⟨by decide +kernel, by decide +kernel, by decide +kernel⟩, gw_973, gw_113, by decide +kernel⟩
theorem cal_X2_callStep : g_cal yX2_callStep cX2_callStep 3 (some .boolean) 2 := ⟨⟨by decide +kernel, by decide +kernel, by decide +kernel⟩, gw_798, gw_117, by decide +kernel⟩
theorem cal_X2_canCall : g_cal yX2_canCall cX2_canCall 3 (some .boolean) 2 := ⟨⟨by decide +kernel, by decide +kernel, by decide +kernel⟩, gw_788, gw_117, by decide +kernel⟩
theorem cal_X2_canMend : g_cal yX2_canMend cX2_canMend 2 (some .boolean) 1 := ⟨⟨by decide +kernel, by decide +kernel, by decide +kernel⟩, gw_806, gw_117, by decide +kernel⟩
theorem cal_X2_canSeat : g_cal yX2_canSeat cX2_canSeat 3 (some .boolean) 2 := ⟨⟨by decide +kernel, by decide +kernel, by decide +kernel⟩, gw_771, gw_117, by decide +kernel⟩
theorem cal_X2_drawAnew : g_cal yX2_drawAnew cX2_drawAnew 1 none 0 := ⟨⟨by decide +kernel, by decide +kernel, by decide +kernel⟩, gw_858, gw_117, by decide +kernel⟩
theorem cal_X2_foretell : g_cal yX2_foretell cX2_foretell 7 (some .int) 2 := ⟨⟨by decide +kernel, by decide +kernel, by decide +kernel⟩, gw_982, gw_117, by decide +kernel⟩
theorem cal_X2_gladdenSeen : g_cal yX2_gladdenSeen cX2_gladdenSeen 3 none 0 := ⟨⟨by decide +kernel, by decide +kernel, by decide +kernel⟩, gw_896, gw_117, by decide +kernel⟩
theorem cal_X2_holdEvening : g_cal yX2_holdEvening cX2_holdEvening 3 (some .int) 0 := ⟨⟨by decide +kernel, by decide +kernel, by decide +kernel⟩, gw_827, gw_117, by decide +kernel⟩
theorem cal_X2_holdEvenings : g_cal yX2_holdEvenings cX2_holdEvenings 4 (some .int) 1 := ⟨⟨by decide +kernel, by decide +kernel, by decide +kernel⟩, gw_823, gw_117, by decide +kernel⟩
theorem cal_X2_mendStep : g_cal yX2_mendStep cX2_mendStep 2 (some .boolean) 1 := ⟨⟨by decide +kernel, by decide +kernel, by decide +kernel⟩, gw_810, gw_117, by decide +kernel⟩
theorem cal_X2_passYear : g_cal yX2_passYear cX2_passYear 4 none 1 := ⟨⟨by decide +kernel, by decide +kernel, by decide +kernel⟩, gw_940, gw_117, by decide +kernel⟩
theorem cal_X2_passYears : g_cal yX2_passYears cX2_passYears 5 none 2 := ⟨⟨by decide +kernel, by decide +kernel, by decide +kernel⟩, gw_936, gw_117, by decide +kernel⟩
theorem cal_X2_perform : g_cal yX2_perform cX2_perform 6 (some .boolean) 4 := ⟨⟨by decide +kernel, by decide +kernel, by decide +kernel⟩, gw_917, gw_117, by decide +kernel⟩
theorem cal_X2_possible : g_cal yX2_possible cX2_possible 2 (some .int) 1 := ⟨⟨by decide +kernel, by decide +kernel, by decide +kernel⟩, gw_818, gw_117, by decide +kernel⟩
theorem cal_X2_seatStep : g_cal yX2_seatStep cX2_seatStep 3 (some .boolean) 2 := ⟨⟨by decide +kernel, by decide +kernel, by decide +kernel⟩, gw_775, gw_117, by decide +kernel⟩
theorem cal_X2_showScene : g_cal yX2_showScene cX2_showScene 7 (some .int) 1 := ⟨⟨by decide +kernel, by decide +kernel, by decide +kernel⟩, gw_854, gw_117, by decide +kernel⟩
theorem cal_X2_writeDown : g_cal yX2_writeDown cX2_writeDown 4 none 1 := ⟨⟨by decide +kernel, by decide +kernel, by decide +kernel⟩, gw_905, gw_117, by decide +kernel⟩
theorem cal_X3_altered : g_cal yX3_altered cX3_altered 3 (some .int) 2 := ⟨⟨by decide +kernel, by decide +kernel, by decide +kernel⟩, gw_875, gw_116, by decide +kernel⟩
theorem cal_X3_asked : g_cal yX3_asked cX3_asked 3 (some .boolean) 3 := ⟨⟨by decide +kernel, by decide +kernel, by decide +kernel⟩, gw_885, gw_116, by decide +kernel⟩
theorem cal_X3_bounded : g_cal yX3_bounded cX3_bounded 2 (some .int) 2 := ⟨⟨by decide +kernel, by decide +kernel, by decide +kernel⟩, gw_888, gw_116, by decide +kernel⟩
theorem cal_X3_cueSaid : g_cal yX3_cueSaid cX3_cueSaid 5 (some .int) 3 := ⟨⟨by decide +kernel, by decide +kernel, by decide +kernel⟩, gw_862, gw_116, by decide +kernel⟩
theorem cal_X3_explains : g_cal yX3_explains cX3_explains 3 (some .boolean) 1 := ⟨⟨by decide +kernel, by decide +kernel, by decide +kernel⟩, gw_1208, gw_116, by decide +kernel⟩
theorem cal_X3_gladdensSaid : g_cal yX3_gladdensSaid cX3_gladdensSaid 5 (some .int) 3 := ⟨⟨by decide +kernel, by decide +kernel, by decide +kernel⟩, gw_901, gw_116, by decide +kernel⟩
theorem cal_X3_joined : g_cal yX3_joined cX3_joined 5 (some .int) 3 := ⟨⟨by decide +kernel, by decide +kernel, by decide +kernel⟩, gw_878, gw_116, by decide +kernel⟩
theorem cal_X3_lookAround : g_cal yX3_lookAround cX3_lookAround 1 none 0 := ⟨⟨by decide +kernel, by decide +kernel, by decide +kernel⟩, gw_831, gw_116, by decide +kernel⟩
theorem cal_X3_staysSaid : g_cal yX3_staysSaid cX3_staysSaid 5 (some .boolean) 3 := ⟨⟨by decide +kernel, by decide +kernel, by decide +kernel⟩, gw_892, gw_116, by decide +kernel⟩
theorem cal_X3_textOf : g_cal yX3_textOf cX3_textOf 3 (some (.object "FilmLooksBack$Text")) 1 := ⟨⟨by decide +kernel, by decide +kernel, by decide +kernel⟩, gw_738, gw_116, by decide +kernel⟩
theorem cal_X3_value : g_cal yX3_value cX3_value 11 (some .int) 2 := ⟨⟨by decide +kernel, by decide +kernel, by decide +kernel⟩, gw_868, gw_116, by decide +kernel⟩
theorem cal_X4_advance : g_cal yX4_advance cX4_advance 1 none 0 := ⟨⟨by decide +kernel, by decide +kernel, by decide +kernel⟩, gw_522, gw_114, by decide +kernel⟩
theorem cal_X4_isLetter : g_cal yX4_isLetter cX4_isLetter 1 (some .boolean) 1 := ⟨⟨by decide +kernel, by decide +kernel, by decide +kernel⟩, gw_525, gw_114, by decide +kernel⟩
theorem cal_X4_isNumeral : g_cal yX4_isNumeral cX4_isNumeral 1 (some .boolean) 1 := ⟨⟨by decide +kernel, by decide +kernel, by decide +kernel⟩, gw_581, gw_114, by decide +kernel⟩
theorem cal_X4_pass : g_cal yX4_pass cX4_pass 2 (some .boolean) 1 := ⟨⟨by decide +kernel, by decide +kernel, by decide +kernel⟩, gw_683, gw_114, by decide +kernel⟩
theorem cal_X4_read : g_cal yX4_read cX4_read 3 (some .boolean) 0 := ⟨⟨by decide +kernel, by decide +kernel, by decide +kernel⟩, gw_514, gw_114, by decide +kernel⟩
theorem cal_X4_readAsk : g_cal yX4_readAsk cX4_readAsk 4 (some .boolean) 1 := ⟨⟨by decide +kernel, by decide +kernel, by decide +kernel⟩, gw_725, gw_114, by decide +kernel⟩
theorem cal_X4_readBoth : g_cal yX4_readBoth cX4_readBoth 4 (some .boolean) 1 := ⟨⟨by decide +kernel, by decide +kernel, by decide +kernel⟩, gw_721, gw_114, by decide +kernel⟩
theorem cal_X4_readClause : g_cal yX4_readClause cX4_readClause 4 (some .boolean) 0 := ⟨⟨by decide +kernel, by decide +kernel, by decide +kernel⟩, gw_654, gw_114, by decide +kernel⟩
theorem cal_X4_readConstant : g_cal yX4_readConstant cX4_readConstant 1 (some .boolean) 0 := ⟨⟨by decide +kernel, by decide +kernel, by decide +kernel⟩, gw_699, gw_114, by decide +kernel⟩
theorem cal_X4_readEither : g_cal yX4_readEither cX4_readEither 4 (some .boolean) 1 := ⟨⟨by decide +kernel, by decide +kernel, by decide +kernel⟩, gw_717, gw_114, by decide +kernel⟩
theorem cal_X4_readIf : g_cal yX4_readIf cX4_readIf 4 (some .boolean) 1 := ⟨⟨by decide +kernel, by decide +kernel, by decide +kernel⟩, gw_713, gw_114, by decide +kernel⟩
theorem cal_X4_readName : g_cal yX4_readName cX4_readName 2 (some .boolean) 0 := ⟨⟨by decide +kernel, by decide +kernel, by decide +kernel⟩, gw_707, gw_114, by decide +kernel⟩
theorem cal_X4_readNot : g_cal yX4_readNot cX4_readNot 3 (some .boolean) 1 := ⟨⟨by decide +kernel, by decide +kernel, by decide +kernel⟩, gw_729, gw_114, by decide +kernel⟩
theorem cal_X4_readNumber : g_cal yX4_readNumber cX4_readNumber 3 (some .boolean) 2 := ⟨⟨by decide +kernel, by decide +kernel, by decide +kernel⟩, gw_675, gw_114, by decide +kernel⟩
theorem cal_X4_readOne : g_cal yX4_readOne cX4_readOne 4 (some .boolean) 1 := ⟨⟨by decide +kernel, by decide +kernel, by decide +kernel⟩, gw_695, gw_114, by decide +kernel⟩
theorem cal_X4_readOrder : g_cal yX4_readOrder cX4_readOrder 2 (some .boolean) 1 := ⟨⟨by decide +kernel, by decide +kernel, by decide +kernel⟩, gw_671, gw_114, by decide +kernel⟩
theorem cal_X4_readProduct : g_cal yX4_readProduct cX4_readProduct 5 (some .boolean) 1 := ⟨⟨by decide +kernel, by decide +kernel, by decide +kernel⟩, gw_691, gw_114, by decide +kernel⟩
theorem cal_X4_readSum : g_cal yX4_readSum cX4_readSum 5 (some .boolean) 1 := ⟨⟨by decide +kernel, by decide +kernel, by decide +kernel⟩, gw_687, gw_114, by decide +kernel⟩
theorem cal_X4_scanNumber : g_cal yX4_scanNumber cX4_scanNumber 1 none 0 := ⟨⟨by decide +kernel, by decide +kernel, by decide +kernel⟩, gw_585, gw_114, by decide +kernel⟩
theorem cal_X4_scanSign : g_cal yX4_scanSign cX4_scanSign 2 none 0 := ⟨⟨by decide +kernel, by decide +kernel, by decide +kernel⟩, gw_592, gw_114, by decide +kernel⟩
theorem cal_X4_scanWord : g_cal yX4_scanWord cX4_scanWord 5 none 0 := ⟨⟨by decide +kernel, by decide +kernel, by decide +kernel⟩, gw_529, gw_114, by decide +kernel⟩
theorem cal_X4_take : g_cal yX4_take cX4_take 3 none 1 := ⟨⟨by decide +kernel, by decide +kernel, by decide +kernel⟩, gw_502, gw_114, by decide +kernel⟩
theorem cal_X4_wrong : g_cal yX4_wrong cX4_wrong 2 (some .boolean) 1 := ⟨⟨by decide +kernel, by decide +kernel, by decide +kernel⟩, gw_659, gw_114, by decide +kernel⟩
theorem cal_X5_assign : g_cal yX5_assign cX5_assign 3 none 1 := ⟨⟨by decide +kernel, by decide +kernel, by decide +kernel⟩, gw_1168, gw_120, by decide +kernel⟩
theorem cal_X5_bestWithRoom : g_cal yX5_bestWithRoom cX5_bestWithRoom 4 (some .int) 1 := ⟨⟨by decide +kernel, by decide +kernel, by decide +kernel⟩, gw_1187, gw_120, by decide +kernel⟩
theorem cal_X5_likesTogether : g_cal yX5_likesTogether cX5_likesTogether 3 (some .int) 0 := ⟨⟨by decide +kernel, by decide +kernel, by decide +kernel⟩, gw_1196, gw_120, by decide +kernel⟩
theorem cal_X5_place : g_cal yX5_place cX5_place 7 none 2 := ⟨⟨by decide +kernel, by decide +kernel, by decide +kernel⟩, gw_1192, gw_120, by decide +kernel⟩
theorem cal_X5_weighMoves : g_cal yX5_weighMoves cX5_weighMoves 5 none 1 := ⟨⟨by decide +kernel, by decide +kernel, by decide +kernel⟩, gw_1183, gw_120, by decide +kernel⟩
theorem cal_X5_weighPlaces : g_cal yX5_weighPlaces cX5_weighPlaces 4 none 1 := ⟨⟨by decide +kernel, by decide +kernel, by decide +kernel⟩, gw_1172, gw_120, by decide +kernel⟩
theorem cal_X5_weight : g_cal yX5_weight cX5_weight 3 (some .int) 2 := ⟨⟨by decide +kernel, by decide +kernel, by decide +kernel⟩, gw_1176, gw_120, by decide +kernel⟩
theorem cal_X6_mayBe : g_cal yX6_mayBe cX6_mayBe 2 (some .boolean) 1 := ⟨⟨by decide +kernel, by decide +kernel, by decide +kernel⟩, gw_1125, gw_119, by decide +kernel⟩
theorem cal_X6_onlyScene : g_cal yX6_onlyScene cX6_onlyScene 3 (some .int) 0 := ⟨⟨by decide +kernel, by decide +kernel, by decide +kernel⟩, gw_1134, gw_119, by decide +kernel⟩
theorem cal_X6_sortsBehind : g_cal yX6_sortsBehind cX6_sortsBehind 5 (some .int) 1 := ⟨⟨by decide +kernel, by decide +kernel, by decide +kernel⟩, gw_1146, gw_119, by decide +kernel⟩
theorem cal_X6_tellingCue : g_cal yX6_tellingCue cX6_tellingCue 5 (some .int) 0 := ⟨⟨by decide +kernel, by decide +kernel, by decide +kernel⟩, gw_1142, gw_119, by decide +kernel⟩
theorem cal_X6_watch : g_cal yX6_watch cX6_watch 5 (some .int) 1 := ⟨⟨by decide +kernel, by decide +kernel, by decide +kernel⟩, gw_1121, gw_119, by decide +kernel⟩
theorem cal_X7_addNumber : g_cal yX7_addNumber cX7_addNumber 2 none 1 := ⟨⟨by decide +kernel, by decide +kernel, by decide +kernel⟩, gw_679, gw_115, by decide +kernel⟩
theorem cal_X7_aimHere : g_cal yX7_aimHere cX7_aimHere 2 none 1 := ⟨⟨by decide +kernel, by decide +kernel, by decide +kernel⟩, gw_733, gw_115, by decide +kernel⟩
theorem cal_X7_begin : g_cal yX7_begin cX7_begin 2 none 1 := ⟨⟨by decide +kernel, by decide +kernel, by decide +kernel⟩, gw_667, gw_115, by decide +kernel⟩
theorem cal_X7_copy : g_cal yX7_copy cX7_copy 2 none 1 := ⟨⟨by decide +kernel, by decide +kernel, by decide +kernel⟩, gw_743, gw_115, by decide +kernel⟩
theorem cal_X7_empty : g_cal yX7_empty cX7_empty 2 none 0 := ⟨⟨by decide +kernel, by decide +kernel, by decide +kernel⟩, gw_518, gw_115, by decide +kernel⟩
theorem cal_X7_has : g_cal yX7_has cX7_has 2 (some .boolean) 1 := ⟨⟨by decide +kernel, by decide +kernel, by decide +kernel⟩, gw_663, gw_115, by decide +kernel⟩
theorem cal_X7_numberOf : g_cal yX7_numberOf cX7_numberOf 3 (some .int) 2 := ⟨⟨by decide +kernel, by decide +kernel, by decide +kernel⟩, gw_913, gw_115, by decide +kernel⟩
theorem cal_X7_put : g_cal yX7_put cX7_put 3 none 2 := ⟨⟨by decide +kernel, by decide +kernel, by decide +kernel⟩, gw_703, gw_115, by decide +kernel⟩
theorem cal_X8_about : g_cal yX8_about cX8_about 2 (some .int) 1 := ⟨⟨by decide +kernel, by decide +kernel, by decide +kernel⟩, gw_1246, gw_112, by decide +kernel⟩
theorem cal_X8_back : g_cal yX8_back cX8_back 1 (some .int) 0 := ⟨⟨by decide +kernel, by decide +kernel, by decide +kernel⟩, gw_1242, gw_112, by decide +kernel⟩
theorem cal_X8_best : g_cal yX8_best cX8_best 3 (some .int) 2 := ⟨⟨by decide +kernel, by decide +kernel, by decide +kernel⟩, gw_1034, gw_112, by decide +kernel⟩
theorem cal_X8_book : g_cal yX8_book cX8_book 5 (some .int) 2 := ⟨⟨by decide +kernel, by decide +kernel, by decide +kernel⟩, gw_969, gw_112, by decide +kernel⟩
theorem cal_X8_by : g_cal yX8_by cX8_by 2 (some .boolean) 1 := ⟨⟨by decide +kernel, by decide +kernel, by decide +kernel⟩, gw_755, gw_112, by decide +kernel⟩
theorem cal_X8_call : g_cal yX8_call cX8_call 3 (some .boolean) 2 := ⟨⟨by decide +kernel, by decide +kernel, by decide +kernel⟩, gw_784, gw_112, by decide +kernel⟩
theorem cal_X8_changed : g_cal yX8_changed cX8_changed 3 (some .int) 0 := ⟨⟨by decide +kernel, by decide +kernel, by decide +kernel⟩, gw_1221, gw_112, by decide +kernel⟩
theorem cal_X8_cue : g_cal yX8_cue cX8_cue 2 (some .int) 1 := ⟨⟨by decide +kernel, by decide +kernel, by decide +kernel⟩, gw_987, gw_112, by decide +kernel⟩
theorem cal_X8_dead : g_cal yX8_dead cX8_dead 1 (some .int) 0 := ⟨⟨by decide +kernel, by decide +kernel, by decide +kernel⟩, gw_1101, gw_112, by decide +kernel⟩
theorem cal_X8_end : g_cal yX8_end cX8_end 2 (some .int) 1 := ⟨⟨by decide +kernel, by decide +kernel, by decide +kernel⟩, gw_506, gw_112, by decide +kernel⟩
theorem cal_X8_evening : g_cal yX8_evening cX8_evening 2 (some .int) 1 := ⟨⟨by decide +kernel, by decide +kernel, by decide +kernel⟩, gw_814, gw_112, by decide +kernel⟩
theorem cal_X8_far : g_cal yX8_far cX8_far 1 (some .int) 0 := ⟨⟨by decide +kernel, by decide +kernel, by decide +kernel⟩, gw_1109, gw_112, by decide +kernel⟩
theorem cal_X8_fault : g_cal yX8_fault cX8_fault 2 (some .int) 1 := ⟨⟨by decide +kernel, by decide +kernel, by decide +kernel⟩, gw_751, gw_112, by decide +kernel⟩
theorem cal_X8_feed : g_cal yX8_feed cX8_feed 6 (some .int) 5 := ⟨⟨by decide +kernel, by decide +kernel, by decide +kernel⟩, gw_498, gw_112, by decide +kernel⟩
theorem cal_X8_felt : g_cal yX8_felt cX8_felt 3 (some .int) 2 := ⟨⟨by decide +kernel, by decide +kernel, by decide +kernel⟩, gw_1200, gw_112, by decide +kernel⟩
theorem cal_X8_foretold : g_cal yX8_foretold cX8_foretold 3 (some .int) 2 := ⟨⟨by decide +kernel, by decide +kernel, by decide +kernel⟩, gw_978, gw_112, by decide +kernel⟩
theorem cal_X8_front : g_cal yX8_front cX8_front 1 (some .int) 0 := ⟨⟨by decide +kernel, by decide +kernel, by decide +kernel⟩, gw_1225, gw_112, by decide +kernel⟩
theorem cal_X8_gladdest : g_cal yX8_gladdest cX8_gladdest 3 (some .int) 0 := ⟨⟨by decide +kernel, by decide +kernel, by decide +kernel⟩, gw_1213, gw_112, by decide +kernel⟩
theorem cal_X8_image : g_cal yX8_image cX8_image 1 (some .int) 0 := ⟨⟨by decide +kernel, by decide +kernel, by decide +kernel⟩, gw_1234, gw_112, by decide +kernel⟩
theorem cal_X8_is : g_cal yX8_is cX8_is 2 (some .int) 1 := ⟨⟨by decide +kernel, by decide +kernel, by decide +kernel⟩, gw_964, gw_112, by decide +kernel⟩
theorem cal_X8_isCue : g_cal yX8_isCue cX8_isCue 1 (some .boolean) 1 := ⟨⟨by decide +kernel, by decide +kernel, by decide +kernel⟩, gw_468, gw_112, by decide +kernel⟩
theorem cal_X8_isDigit : g_cal yX8_isDigit cX8_isDigit 1 (some .boolean) 1 := ⟨⟨by decide +kernel, by decide +kernel, by decide +kernel⟩, gw_490, gw_112, by decide +kernel⟩
theorem cal_X8_isPlace : g_cal yX8_isPlace cX8_isPlace 1 (some .boolean) 1 := ⟨⟨by decide +kernel, by decide +kernel, by decide +kernel⟩, gw_471, gw_112, by decide +kernel⟩
theorem cal_X8_isScene : g_cal yX8_isScene cX8_isScene 1 (some .boolean) 1 := ⟨⟨by decide +kernel, by decide +kernel, by decide +kernel⟩, gw_462, gw_112, by decide +kernel⟩
theorem cal_X8_kind : g_cal yX8_kind cX8_kind 3 (some .boolean) 2 := ⟨⟨by decide +kernel, by decide +kernel, by decide +kernel⟩, gw_483, gw_112, by decide +kernel⟩
theorem cal_X8_kinds : g_cal yX8_kinds cX8_kinds 2 (some .int) 1 := ⟨⟨by decide +kernel, by decide +kernel, by decide +kernel⟩, gw_1065, gw_112, by decide +kernel⟩
theorem cal_X8_ledger : g_cal yX8_ledger cX8_ledger 5 (some .int) 1 := ⟨⟨by decide +kernel, by decide +kernel, by decide +kernel⟩, gw_1230, gw_112, by decide +kernel⟩
theorem cal_X8_likes : g_cal yX8_likes cX8_likes 4 (some .boolean) 3 := ⟨⟨by decide +kernel, by decide +kernel, by decide +kernel⟩, gw_1160, gw_112, by decide +kernel⟩
theorem cal_X8_look : g_cal yX8_look cX8_look 2 (some .int) 1 := ⟨⟨by decide +kernel, by decide +kernel, by decide +kernel⟩, gw_1117, gw_112, by decide +kernel⟩
theorem cal_X8_mend : g_cal yX8_mend cX8_mend 2 (some .boolean) 1 := ⟨⟨by decide +kernel, by decide +kernel, by decide +kernel⟩, gw_802, gw_112, by decide +kernel⟩
theorem cal_X8_odds : g_cal yX8_odds cX8_odds 4 (some .long) 3 := ⟨⟨by decide +kernel, by decide +kernel, by decide +kernel⟩, gw_1042, gw_112, by decide +kernel⟩
theorem cal_X8_of : g_cal yX8_of cX8_of 3 (some .int) 2 := ⟨⟨by decide +kernel, by decide +kernel, by decide +kernel⟩, gw_952, gw_112, by decide +kernel⟩
theorem cal_X8_ofScene : g_cal yX8_ofScene cX8_ofScene 3 (some .int) 2 := ⟨⟨by decide +kernel, by decide +kernel, by decide +kernel⟩, gw_958, gw_112, by decide +kernel⟩
theorem cal_X8_often : g_cal yX8_often cX8_often 3 (some .int) 0 := ⟨⟨by decide +kernel, by decide +kernel, by decide +kernel⟩, gw_1217, gw_112, by decide +kernel⟩
theorem cal_X8_parts : g_cal yX8_parts cX8_parts 3 (some .int) 2 := ⟨⟨by decide +kernel, by decide +kernel, by decide +kernel⟩, gw_1085, gw_112, by decide +kernel⟩
theorem cal_X8_person : g_cal yX8_person cX8_person 3 (some .int) 2 := ⟨⟨by decide +kernel, by decide +kernel, by decide +kernel⟩, gw_487, gw_112, by decide +kernel⟩
theorem cal_X8_played : g_cal yX8_played cX8_played 4 (some .int) 1 := ⟨⟨by decide +kernel, by decide +kernel, by decide +kernel⟩, gw_909, gw_112, by decide +kernel⟩
theorem cal_X8_roster : g_cal yX8_roster cX8_roster 3 (some .int) 2 := ⟨⟨by decide +kernel, by decide +kernel, by decide +kernel⟩, gw_1164, gw_112, by decide +kernel⟩
theorem cal_X8_round : g_cal yX8_round cX8_round 2 (some .int) 1 := ⟨⟨by decide +kernel, by decide +kernel, by decide +kernel⟩, gw_1093, gw_112, by decide +kernel⟩
theorem cal_X8_run : g_cal yX8_run cX8_run 5 (some .int) 2 := ⟨⟨by decide +kernel, by decide +kernel, by decide +kernel⟩, gw_991, gw_112, by decide +kernel⟩
theorem cal_X8_scene : g_cal yX8_scene cX8_scene 4 (some .boolean) 3 := ⟨⟨by decide +kernel, by decide +kernel, by decide +kernel⟩, gw_459, gw_112, by decide +kernel⟩
theorem cal_X8_seat : g_cal yX8_seat cX8_seat 3 (some .boolean) 2 := ⟨⟨by decide +kernel, by decide +kernel, by decide +kernel⟩, gw_763, gw_112, by decide +kernel⟩
theorem cal_X8_shortest : g_cal yX8_shortest cX8_shortest 4 (some .int) 3 := ⟨⟨by decide +kernel, by decide +kernel, by decide +kernel⟩, gw_995, gw_112, by decide +kernel⟩
theorem cal_X8_soonest : g_cal yX8_soonest cX8_soonest 3 (some .int) 2 := ⟨⟨by decide +kernel, by decide +kernel, by decide +kernel⟩, gw_1017, gw_112, by decide +kernel⟩
theorem cal_X8_sure : g_cal yX8_sure cX8_sure 1 (some .int) 0 := ⟨⟨by decide +kernel, by decide +kernel, by decide +kernel⟩, gw_1130, gw_112, by decide +kernel⟩
theorem cal_X8_tells : g_cal yX8_tells cX8_tells 1 (some .int) 0 := ⟨⟨by decide +kernel, by decide +kernel, by decide +kernel⟩, gw_1138, gw_112, by decide +kernel⟩
theorem cal_X8_text : g_cal yX8_text cX8_text 1 (some .int) 0 := ⟨⟨by decide +kernel, by decide +kernel, by decide +kernel⟩, gw_510, gw_112, by decide +kernel⟩
theorem cal_X8_undo : g_cal yX8_undo cX8_undo 1 (some .int) 0 := ⟨⟨by decide +kernel, by decide +kernel, by decide +kernel⟩, gw_944, gw_112, by decide +kernel⟩
theorem cal_X8_ways : g_cal yX8_ways cX8_ways 3 (some .long) 2 := ⟨⟨by decide +kernel, by decide +kernel, by decide +kernel⟩, gw_1152, gw_112, by decide +kernel⟩
theorem cal_X8_weigh : g_cal yX8_weigh cX8_weigh 6 (some .boolean) 4 := ⟨⟨by decide +kernel, by decide +kernel, by decide +kernel⟩, gw_1061, gw_112, by decide +kernel⟩
theorem cal_X8_whose : g_cal yX8_whose cX8_whose 3 (some .int) 0 := ⟨⟨by decide +kernel, by decide +kernel, by decide +kernel⟩, gw_1204, gw_112, by decide +kernel⟩
theorem cal_X8_within : g_cal yX8_within cX8_within 3 (some .boolean) 3 := ⟨⟨by decide +kernel, by decide +kernel, by decide +kernel⟩, gw_465, gw_112, by decide +kernel⟩
theorem cal_X8_years : g_cal yX8_years cX8_years 3 (some .int) 2 := ⟨⟨by decide +kernel, by decide +kernel, by decide +kernel⟩, gw_932, gw_112, by decide +kernel⟩
theorem cal_X9_about : g_cal yX9_about cX9_about 2 (some .int) 1 := ⟨⟨by decide +kernel, by decide +kernel, by decide +kernel⟩, gw_1907, gw_121, by decide +kernel⟩
theorem cal_X9_anew : g_cal yX9_anew cX9_anew 1 none 0 := ⟨⟨by decide +kernel, by decide +kernel, by decide +kernel⟩, gw_1683, gw_121, by decide +kernel⟩
theorem cal_X9_arePassed : g_cal yX9_arePassed cX9_arePassed 3 (some .boolean) 1 := ⟨⟨by decide +kernel, by decide +kernel, by decide +kernel⟩, gw_1622, gw_121, by decide +kernel⟩
theorem cal_X9_back : g_cal yX9_back cX9_back 1 (some .int) 0 := ⟨⟨by decide +kernel, by decide +kernel, by decide +kernel⟩, gw_1903, gw_121, by decide +kernel⟩
theorem cal_X9_begin : g_cal yX9_begin cX9_begin 2 none 1 := ⟨⟨by decide +kernel, by decide +kernel, by decide +kernel⟩, gw_1406, gw_121, by decide +kernel⟩
theorem cal_X9_beginAt : g_cal yX9_beginAt cX9_beginAt 3 none 1 := ⟨⟨by decide +kernel, by decide +kernel, by decide +kernel⟩, gw_1807, gw_121, by decide +kernel⟩
theorem cal_X9_beginOne : g_cal yX9_beginOne cX9_beginOne 2 (some .int) 0 := ⟨⟨by decide +kernel, by decide +kernel, by decide +kernel⟩, gw_1550, gw_121, by decide +kernel⟩
theorem cal_X9_behindOne : g_cal yX9_behindOne cX9_behindOne 4 (some .boolean) 0 := ⟨⟨by decide +kernel, by decide +kernel, by decide +kernel⟩, gw_1511, gw_121, by decide +kernel⟩
theorem cal_X9_best : g_cal yX9_best cX9_best 7 (some .int) 2 := ⟨⟨by decide +kernel, by decide +kernel, by decide +kernel⟩, gw_1798, gw_121, by decide +kernel⟩
theorem cal_X9_betweenOf : g_cal yX9_betweenOf cX9_betweenOf 1 (some .int) 0 := ⟨⟨by decide +kernel, by decide +kernel, by decide +kernel⟩, gw_1515, gw_121, by decide +kernel⟩
theorem cal_X9_bits : g_cal yX9_bits cX9_bits 3 (some .int) 1 := ⟨⟨by decide +kernel, by decide +kernel, by decide +kernel⟩, gw_1645, gw_121, by decide +kernel⟩
theorem cal_X9_body : g_cal yX9_body cX9_body 3 (some .int) 2 := ⟨⟨by decide +kernel, by decide +kernel, by decide +kernel⟩, gw_1483, gw_121, by decide +kernel⟩
theorem cal_X9_book : g_cal yX9_book cX9_book 4 (some .int) 2 := ⟨⟨by decide +kernel, by decide +kernel, by decide +kernel⟩, gw_1740, gw_121, by decide +kernel⟩
theorem cal_X9_by : g_cal yX9_by cX9_by 2 (some .boolean) 1 := ⟨⟨by decide +kernel, by decide +kernel, by decide +kernel⟩, gw_1574, gw_121, by decide +kernel⟩
theorem cal_X9_byteAt : g_cal yX9_byteAt cX9_byteAt 2 (some .int) 1 := ⟨⟨by decide +kernel, by decide +kernel, by decide +kernel⟩, gw_1434, gw_121, by decide +kernel⟩
theorem cal_X9_call : g_cal yX9_call cX9_call 3 (some .boolean) 2 := ⟨⟨by decide +kernel, by decide +kernel, by decide +kernel⟩, gw_1598, gw_121, by decide +kernel⟩
theorem cal_X9_canCall : g_cal yX9_canCall cX9_canCall 3 (some .boolean) 2 := ⟨⟨by decide +kernel, by decide +kernel, by decide +kernel⟩, gw_1602, gw_121, by decide +kernel⟩
theorem cal_X9_canMend : g_cal yX9_canMend cX9_canMend 2 (some .boolean) 1 := ⟨⟨by decide +kernel, by decide +kernel, by decide +kernel⟩, gw_1614, gw_121, by decide +kernel⟩
theorem cal_X9_canSeat : g_cal yX9_canSeat cX9_canSeat 3 (some .boolean) 2 := ⟨⟨by decide +kernel, by decide +kernel, by decide +kernel⟩, gw_1586, gw_121, by decide +kernel⟩
theorem cal_X9_changed : g_cal yX9_changed cX9_changed 3 (some .int) 0 := ⟨⟨by decide +kernel, by decide +kernel, by decide +kernel⟩, gw_1757, gw_121, by decide +kernel⟩
theorem cal_X9_clause : g_cal yX9_clause cX9_clause 5 (some .int) 0 := ⟨⟨by decide +kernel, by decide +kernel, by decide +kernel⟩, gw_1449, gw_121, by decide +kernel⟩
theorem cal_X9_clip : g_cal yX9_clip cX9_clip 2 (some .long) 1 := ⟨⟨by decide +kernel, by decide +kernel, by decide +kernel⟩, gw_1668, gw_121, by decide +kernel⟩
theorem cal_X9_compareOf : g_cal yX9_compareOf cX9_compareOf 1 (some .int) 0 := ⟨⟨by decide +kernel, by decide +kernel, by decide +kernel⟩, gw_1534, gw_121, by decide +kernel⟩
theorem cal_X9_copy : g_cal yX9_copy cX9_copy 3 none 2 := ⟨⟨by decide +kernel, by decide +kernel, by decide +kernel⟩, gw_1255, gw_121, by decide +kernel⟩
theorem cal_X9_cue : g_cal yX9_cue cX9_cue 2 (some .int) 1 := ⟨⟨by decide +kernel, by decide +kernel, by decide +kernel⟩, gw_1765, gw_121, by decide +kernel⟩
theorem cal_X9_cueOf : g_cal yX9_cueOf cX9_cueOf 3 (some .int) 2 := ⟨⟨by decide +kernel, by decide +kernel, by decide +kernel⟩, gw_1634, gw_121, by decide +kernel⟩
theorem cal_X9_cut : g_cal yX9_cut cX9_cut 4 (some .int) 3 := ⟨⟨by decide +kernel, by decide +kernel, by decide +kernel⟩, gw_1679, gw_121, by decide +kernel⟩
theorem cal_X9_dead : g_cal yX9_dead cX9_dead 3 (some .int) 0 := ⟨⟨by decide +kernel, by decide +kernel, by decide +kernel⟩, gw_1855, gw_121, by decide +kernel⟩
theorem cal_X9_divisor : g_cal yX9_divisor cX9_divisor 10 (some .long) 2 := ⟨⟨by decide +kernel, by decide +kernel, by decide +kernel⟩, gw_1815, gw_121, by decide +kernel⟩
theorem cal_X9_emit : g_cal yX9_emit cX9_emit 3 none 2 := ⟨⟨by decide +kernel, by decide +kernel, by decide +kernel⟩, gw_1542, gw_121, by decide +kernel⟩
theorem cal_X9_end : g_cal yX9_end cX9_end 2 (some .int) 1 := ⟨⟨by decide +kernel, by decide +kernel, by decide +kernel⟩, gw_1418, gw_121, by decide +kernel⟩
theorem cal_X9_evening : g_cal yX9_evening cX9_evening 2 (some .int) 1 := ⟨⟨by decide +kernel, by decide +kernel, by decide +kernel⟩, gw_1618, gw_121, by decide +kernel⟩
theorem cal_X9_far : g_cal yX9_far cX9_far 3 (some .int) 0 := ⟨⟨by decide +kernel, by decide +kernel, by decide +kernel⟩, gw_1859, gw_121, by decide +kernel⟩
theorem cal_X9_fault : g_cal yX9_fault cX9_fault 2 (some .int) 1 := ⟨⟨by decide +kernel, by decide +kernel, by decide +kernel⟩, gw_1570, gw_121, by decide +kernel⟩
theorem cal_X9_feed : g_cal yX9_feed cX9_feed 6 (some .int) 5 := ⟨⟨by decide +kernel, by decide +kernel, by decide +kernel⟩, gw_1410, gw_121, by decide +kernel⟩
theorem cal_X9_felt : g_cal yX9_felt cX9_felt 3 (some .int) 2 := ⟨⟨by decide +kernel, by decide +kernel, by decide +kernel⟩, gw_1891, gw_121, by decide +kernel⟩
theorem cal_X9_figure : g_cal yX9_figure cX9_figure 4 (some .int) 3 := ⟨⟨by decide +kernel, by decide +kernel, by decide +kernel⟩, gw_1491, gw_121, by decide +kernel⟩
theorem cal_X9_foretold : g_cal yX9_foretold cX9_foretold 4 (some .int) 2 := ⟨⟨by decide +kernel, by decide +kernel, by decide +kernel⟩, gw_1761, gw_121, by decide +kernel⟩
theorem cal_X9_four : g_cal yX9_four cX9_four 3 none 1 := ⟨⟨by decide +kernel, by decide +kernel, by decide +kernel⟩, gw_1414, gw_121, by decide +kernel⟩
theorem cal_X9_front : g_cal yX9_front cX9_front 3 (some .int) 0 := ⟨⟨by decide +kernel, by decide +kernel, by decide +kernel⟩, gw_1369, gw_121, by decide +kernel⟩
theorem cal_X9_get : g_cal yX9_get cX9_get 3 (some .int) 2 := ⟨⟨by decide +kernel, by decide +kernel, by decide +kernel⟩, gw_1377, gw_121, by decide +kernel⟩
theorem cal_X9_gladden : g_cal yX9_gladden cX9_gladden 3 none 1 := ⟨⟨by decide +kernel, by decide +kernel, by decide +kernel⟩, gw_1694, gw_121, by decide +kernel⟩
theorem cal_X9_gladdensOf : g_cal yX9_gladdensOf cX9_gladdensOf 4 (some .int) 3 := ⟨⟨by decide +kernel, by decide +kernel, by decide +kernel⟩, gw_1698, gw_121, by decide +kernel⟩
theorem cal_X9_gladdest : g_cal yX9_gladdest cX9_gladdest 3 (some .int) 0 := ⟨⟨by decide +kernel, by decide +kernel, by decide +kernel⟩, gw_1749, gw_121, by decide +kernel⟩
theorem cal_X9_goOn : g_cal yX9_goOn cX9_goOn 4 (some .long) 1 := ⟨⟨by decide +kernel, by decide +kernel, by decide +kernel⟩, gw_1812, gw_121, by decide +kernel⟩
theorem cal_X9_happens : g_cal yX9_happens cX9_happens 3 none 1 := ⟨⟨by decide +kernel, by decide +kernel, by decide +kernel⟩, gw_1724, gw_121, by decide +kernel⟩
theorem cal_X9_has : g_cal yX9_has cX9_has 2 (some .boolean) 2 := ⟨⟨by decide +kernel, by decide +kernel, by decide +kernel⟩, gw_1479, gw_121, by decide +kernel⟩
theorem cal_X9_image : g_cal yX9_image cX9_image 1 (some .int) 0 := ⟨⟨by decide +kernel, by decide +kernel, by decide +kernel⟩, gw_1899, gw_121, by decide +kernel⟩
theorem cal_X9_is : g_cal yX9_is cX9_is 2 (some .int) 1 := ⟨⟨by decide +kernel, by decide +kernel, by decide +kernel⟩, gw_1736, gw_121, by decide +kernel⟩
theorem cal_X9_isAny : g_cal yX9_isAny cX9_isAny 1 (some .boolean) 1 := ⟨⟨by decide +kernel, by decide +kernel, by decide +kernel⟩, gw_1390, gw_121, by decide +kernel⟩
theorem cal_X9_isAskAhead : g_cal yX9_isAskAhead cX9_isAskAhead 1 (some .boolean) 0 := ⟨⟨by decide +kernel, by decide +kernel, by decide +kernel⟩, gw_1566, gw_121, by decide +kernel⟩
theorem cal_X9_isAsked : g_cal yX9_isAsked cX9_isAsked 5 (some .boolean) 3 := ⟨⟨by decide +kernel, by decide +kernel, by decide +kernel⟩, gw_1673, gw_121, by decide +kernel⟩
theorem cal_X9_isCompared : g_cal yX9_isCompared cX9_isCompared 2 (some .boolean) 0 := ⟨⟨by decide +kernel, by decide +kernel, by decide +kernel⟩, gw_1527, gw_121, by decide +kernel⟩
theorem cal_X9_isFigure : g_cal yX9_isFigure cX9_isFigure 1 (some .boolean) 1 := ⟨⟨by decide +kernel, by decide +kernel, by decide +kernel⟩, gw_1437, gw_121, by decide +kernel⟩
theorem cal_X9_isIn : g_cal yX9_isIn cX9_isIn 3 (some .boolean) 3 := ⟨⟨by decide +kernel, by decide +kernel, by decide +kernel⟩, gw_1380, gw_121, by decide +kernel⟩
theorem cal_X9_isLetterByte : g_cal yX9_isLetterByte cX9_isLetterByte 1 (some .boolean) 1 := ⟨⟨by decide +kernel, by decide +kernel, by decide +kernel⟩, gw_1441, gw_121, by decide +kernel⟩
theorem cal_X9_isLong : g_cal yX9_isLong cX9_isLong 8 (some .boolean) 3 := ⟨⟨by decide +kernel, by decide +kernel, by decide +kernel⟩, gw_1473, gw_121, by decide +kernel⟩
theorem cal_X9_isNextRow : g_cal yX9_isNextRow cX9_isNextRow 5 (some .boolean) 2 := ⟨⟨by decide +kernel, by decide +kernel, by decide +kernel⟩, gw_1887, gw_121, by decide +kernel⟩
theorem cal_X9_isOf : g_cal yX9_isOf cX9_isOf 2 (some .boolean) 1 := ⟨⟨by decide +kernel, by decide +kernel, by decide +kernel⟩, gw_1558, gw_121, by decide +kernel⟩
theorem cal_X9_isPartedBehind : g_cal yX9_isPartedBehind cX9_isPartedBehind 5 (some .boolean) 3 := ⟨⟨by decide +kernel, by decide +kernel, by decide +kernel⟩, gw_1839, gw_121, by decide +kernel⟩
theorem cal_X9_isPerson : g_cal yX9_isPerson cX9_isPerson 2 (some .boolean) 1 := ⟨⟨by decide +kernel, by decide +kernel, by decide +kernel⟩, gw_1590, gw_121, by decide +kernel⟩
theorem cal_X9_isPlayed : g_cal yX9_isPlayed cX9_isPlayed 4 (some .boolean) 1 := ⟨⟨by decide +kernel, by decide +kernel, by decide +kernel⟩, gw_1710, gw_121, by decide +kernel⟩
theorem cal_X9_isScene : g_cal yX9_isScene cX9_isScene 1 (some .boolean) 1 := ⟨⟨by decide +kernel, by decide +kernel, by decide +kernel⟩, gw_1387, gw_121, by decide +kernel⟩
theorem cal_X9_isSeen : g_cal yX9_isSeen cX9_isSeen 2 (some .boolean) 1 := ⟨⟨by decide +kernel, by decide +kernel, by decide +kernel⟩, gw_1373, gw_121, by decide +kernel⟩
theorem cal_X9_isSign : g_cal yX9_isSign cX9_isSign 1 (some .boolean) 1 := ⟨⟨by decide +kernel, by decide +kernel, by decide +kernel⟩, gw_1445, gw_121, by decide +kernel⟩
theorem cal_X9_isWord : g_cal yX9_isWord cX9_isWord 3 (some .boolean) 1 := ⟨⟨by decide +kernel, by decide +kernel, by decide +kernel⟩, gw_1466, gw_121, by decide +kernel⟩
theorem cal_X9_joined : g_cal yX9_joined cX9_joined 3 (some .boolean) 3 := ⟨⟨by decide +kernel, by decide +kernel, by decide +kernel⟩, gw_1676, gw_121, by decide +kernel⟩
theorem cal_X9_keep : g_cal yX9_keep cX9_keep 4 none 0 := ⟨⟨by decide +kernel, by decide +kernel, by decide +kernel⟩, gw_1594, gw_121, by decide +kernel⟩
theorem cal_X9_kind : g_cal yX9_kind cX9_kind 3 (some .boolean) 2 := ⟨⟨by decide +kernel, by decide +kernel, by decide +kernel⟩, gw_1394, gw_121, by decide +kernel⟩
theorem cal_X9_kindAt : g_cal yX9_kindAt cX9_kindAt 2 (some .int) 1 := ⟨⟨by decide +kernel, by decide +kernel, by decide +kernel⟩, gw_1835, gw_121, by decide +kernel⟩
theorem cal_X9_kindOf : g_cal yX9_kindOf cX9_kindOf 3 (some .long) 1 := ⟨⟨by decide +kernel, by decide +kernel, by decide +kernel⟩, gw_1658, gw_121, by decide +kernel⟩
theorem cal_X9_kinds : g_cal yX9_kinds cX9_kinds 5 (some .int) 1 := ⟨⟨by decide +kernel, by decide +kernel, by decide +kernel⟩, gw_1827, gw_121, by decide +kernel⟩
theorem cal_X9_latestFrom : g_cal yX9_latestFrom cX9_latestFrom 4 (some .int) 1 := ⟨⟨by decide +kernel, by decide +kernel, by decide +kernel⟩, gw_1794, gw_121, by decide +kernel⟩
theorem cal_X9_lawClause : g_cal yX9_lawClause cX9_lawClause 3 (some .int) 1 := ⟨⟨by decide +kernel, by decide +kernel, by decide +kernel⟩, gw_1503, gw_121, by decide +kernel⟩
theorem cal_X9_layParted : g_cal yX9_layParted cX9_layParted 4 none 0 := ⟨⟨by decide +kernel, by decide +kernel, by decide +kernel⟩, gw_1831, gw_121, by decide +kernel⟩
theorem cal_X9_layPlay : g_cal yX9_layPlay cX9_layPlay 4 none 0 := ⟨⟨by decide +kernel, by decide +kernel, by decide +kernel⟩, gw_1786, gw_121, by decide +kernel⟩
theorem cal_X9_layRoster : g_cal yX9_layRoster cX9_layRoster 6 (some .int) 1 := ⟨⟨by decide +kernel, by decide +kernel, by decide +kernel⟩, gw_1883, gw_121, by decide +kernel⟩
theorem cal_X9_layTakes : g_cal yX9_layTakes cX9_layTakes 5 none 1 := ⟨⟨by decide +kernel, by decide +kernel, by decide +kernel⟩, gw_1777, gw_121, by decide +kernel⟩
theorem cal_X9_ledger : g_cal yX9_ledger cX9_ledger 4 (some .int) 1 := ⟨⟨by decide +kernel, by decide +kernel, by decide +kernel⟩, gw_1744, gw_121, by decide +kernel⟩
theorem cal_X9_likes : g_cal yX9_likes cX9_likes 4 (some .boolean) 3 := ⟨⟨by decide +kernel, by decide +kernel, by decide +kernel⟩, gw_1875, gw_121, by decide +kernel⟩
theorem cal_X9_look : g_cal yX9_look cX9_look 5 (some .int) 1 := ⟨⟨by decide +kernel, by decide +kernel, by decide +kernel⟩, gw_1863, gw_121, by decide +kernel⟩
theorem cal_X9_lowestLike : g_cal yX9_lowestLike cX9_lowestLike 3 (some .int) 1 := ⟨⟨by decide +kernel, by decide +kernel, by decide +kernel⟩, gw_1843, gw_121, by decide +kernel⟩
theorem cal_X9_mend : g_cal yX9_mend cX9_mend 2 (some .boolean) 1 := ⟨⟨by decide +kernel, by decide +kernel, by decide +kernel⟩, gw_1610, gw_121, by decide +kernel⟩
theorem cal_X9_name : g_cal yX9_name cX9_name 1 none 0 := ⟨⟨by decide +kernel, by decide +kernel, by decide +kernel⟩, gw_1638, gw_121, by decide +kernel⟩
theorem cal_X9_nameOf : g_cal yX9_nameOf cX9_nameOf 1 (some .int) 0 := ⟨⟨by decide +kernel, by decide +kernel, by decide +kernel⟩, gw_1554, gw_121, by decide +kernel⟩
theorem cal_X9_nextOf : g_cal yX9_nextOf cX9_nextOf 3 (some .int) 2 := ⟨⟨by decide +kernel, by decide +kernel, by decide +kernel⟩, gw_1606, gw_121, by decide +kernel⟩
theorem cal_X9_nextToken : g_cal yX9_nextToken cX9_nextToken 2 none 0 := ⟨⟨by decide +kernel, by decide +kernel, by decide +kernel⟩, gw_1430, gw_121, by decide +kernel⟩
theorem cal_X9_odds : g_cal yX9_odds cX9_odds 9 (some .long) 3 := ⟨⟨by decide +kernel, by decide +kernel, by decide +kernel⟩, gw_1802, gw_121, by decide +kernel⟩
theorem cal_X9_of : g_cal yX9_of cX9_of 3 (some .int) 2 := ⟨⟨by decide +kernel, by decide +kernel, by decide +kernel⟩, gw_1728, gw_121, by decide +kernel⟩
theorem cal_X9_ofScene : g_cal yX9_ofScene cX9_ofScene 3 (some .int) 2 := ⟨⟨by decide +kernel, by decide +kernel, by decide +kernel⟩, gw_1732, gw_121, by decide +kernel⟩
theorem cal_X9_often : g_cal yX9_often cX9_often 3 (some .int) 0 := ⟨⟨by decide +kernel, by decide +kernel, by decide +kernel⟩, gw_1753, gw_121, by decide +kernel⟩
theorem cal_X9_openAt : g_cal yX9_openAt cX9_openAt 2 (some .int) 0 := ⟨⟨by decide +kernel, by decide +kernel, by decide +kernel⟩, gw_1523, gw_121, by decide +kernel⟩
theorem cal_X9_openNow : g_cal yX9_openNow cX9_openNow 1 (some .int) 0 := ⟨⟨by decide +kernel, by decide +kernel, by decide +kernel⟩, gw_1519, gw_121, by decide +kernel⟩
theorem cal_X9_opened : g_cal yX9_opened cX9_opened 2 (some .int) 1 := ⟨⟨by decide +kernel, by decide +kernel, by decide +kernel⟩, gw_1562, gw_121, by decide +kernel⟩
theorem cal_X9_pair : g_cal yX9_pair cX9_pair 8 (some .int) 5 := ⟨⟨by decide +kernel, by decide +kernel, by decide +kernel⟩, gw_1499, gw_121, by decide +kernel⟩
theorem cal_X9_partOf : g_cal yX9_partOf cX9_partOf 2 (some .int) 1 := ⟨⟨by decide +kernel, by decide +kernel, by decide +kernel⟩, gw_1546, gw_121, by decide +kernel⟩
theorem cal_X9_parts : g_cal yX9_parts cX9_parts 3 (some .int) 2 := ⟨⟨by decide +kernel, by decide +kernel, by decide +kernel⟩, gw_1847, gw_121, by decide +kernel⟩
theorem cal_X9_pass : g_cal yX9_pass cX9_pass 4 none 0 := ⟨⟨by decide +kernel, by decide +kernel, by decide +kernel⟩, gw_1626, gw_121, by decide +kernel⟩
theorem cal_X9_person : g_cal yX9_person cX9_person 4 (some .int) 2 := ⟨⟨by decide +kernel, by decide +kernel, by decide +kernel⟩, gw_1398, gw_121, by decide +kernel⟩
theorem cal_X9_played : g_cal yX9_played cX9_played 3 (some .int) 1 := ⟨⟨by decide +kernel, by decide +kernel, by decide +kernel⟩, gw_1706, gw_121, by decide +kernel⟩
theorem cal_X9_put : g_cal yX9_put cX9_put 4 none 3 := ⟨⟨by decide +kernel, by decide +kernel, by decide +kernel⟩, gw_1402, gw_121, by decide +kernel⟩
theorem cal_X9_rank : g_cal yX9_rank cX9_rank 1 (some .int) 1 := ⟨⟨by decide +kernel, by decide +kernel, by decide +kernel⟩, gw_1530, gw_121, by decide +kernel⟩
theorem cal_X9_readText : g_cal yX9_readText cX9_readText 2 (some .int) 0 := ⟨⟨by decide +kernel, by decide +kernel, by decide +kernel⟩, gw_1426, gw_121, by decide +kernel⟩
theorem cal_X9_restOf : g_cal yX9_restOf cX9_restOf 4 (some .long) 2 := ⟨⟨by decide +kernel, by decide +kernel, by decide +kernel⟩, gw_1662, gw_121, by decide +kernel⟩
theorem cal_X9_roster : g_cal yX9_roster cX9_roster 4 (some .int) 2 := ⟨⟨by decide +kernel, by decide +kernel, by decide +kernel⟩, gw_1879, gw_121, by decide +kernel⟩
theorem cal_X9_round : g_cal yX9_round cX9_round 3 (some .int) 1 := ⟨⟨by decide +kernel, by decide +kernel, by decide +kernel⟩, gw_1851, gw_121, by decide +kernel⟩
theorem cal_X9_run : g_cal yX9_run cX9_run 5 (some .int) 2 := ⟨⟨by decide +kernel, by decide +kernel, by decide +kernel⟩, gw_1769, gw_121, by decide +kernel⟩
theorem cal_X9_says : g_cal yX9_says cX9_says 6 (some .int) 4 := ⟨⟨by decide +kernel, by decide +kernel, by decide +kernel⟩, gw_1650, gw_121, by decide +kernel⟩
theorem cal_X9_scene : g_cal yX9_scene cX9_scene 5 (some .boolean) 3 := ⟨⟨by decide +kernel, by decide +kernel, by decide +kernel⟩, gw_1384, gw_121, by decide +kernel⟩
theorem cal_X9_sceneClause : g_cal yX9_sceneClause cX9_sceneClause 3 (some .int) 1 := ⟨⟨by decide +kernel, by decide +kernel, by decide +kernel⟩, gw_1487, gw_121, by decide +kernel⟩
theorem cal_X9_seat : g_cal yX9_seat cX9_seat 3 (some .boolean) 2 := ⟨⟨by decide +kernel, by decide +kernel, by decide +kernel⟩, gw_1582, gw_121, by decide +kernel⟩
theorem cal_X9_seen : g_cal yX9_seen cX9_seen 3 (some .int) 0 := ⟨⟨by decide +kernel, by decide +kernel, by decide +kernel⟩, gw_1642, gw_121, by decide +kernel⟩
theorem cal_X9_settle : g_cal yX9_settle cX9_settle 2 none 1 := ⟨⟨by decide +kernel, by decide +kernel, by decide +kernel⟩, gw_1538, gw_121, by decide +kernel⟩
theorem cal_X9_shortest : g_cal yX9_shortest cX9_shortest 7 (some .int) 3 := ⟨⟨by decide +kernel, by decide +kernel, by decide +kernel⟩, gw_1773, gw_121, by decide +kernel⟩
theorem cal_X9_show : g_cal yX9_show cX9_show 4 (some .int) 1 := ⟨⟨by decide +kernel, by decide +kernel, by decide +kernel⟩, gw_1630, gw_121, by decide +kernel⟩
theorem cal_X9_soonest : g_cal yX9_soonest cX9_soonest 4 (some .int) 2 := ⟨⟨by decide +kernel, by decide +kernel, by decide +kernel⟩, gw_1782, gw_121, by decide +kernel⟩
theorem cal_X9_soonestFrom : g_cal yX9_soonestFrom cX9_soonestFrom 4 (some .int) 1 := ⟨⟨by decide +kernel, by decide +kernel, by decide +kernel⟩, gw_1790, gw_121, by decide +kernel⟩
theorem cal_X9_sortOf : g_cal yX9_sortOf cX9_sortOf 1 (some .int) 0 := ⟨⟨by decide +kernel, by decide +kernel, by decide +kernel⟩, gw_1453, gw_121, by decide +kernel⟩
theorem cal_X9_staysOf : g_cal yX9_staysOf cX9_staysOf 4 (some .int) 3 := ⟨⟨by decide +kernel, by decide +kernel, by decide +kernel⟩, gw_1690, gw_121, by decide +kernel⟩
theorem cal_X9_summed : g_cal yX9_summed cX9_summed 2 (some .int) 0 := ⟨⟨by decide +kernel, by decide +kernel, by decide +kernel⟩, gw_1507, gw_121, by decide +kernel⟩
theorem cal_X9_summedUp : g_cal yX9_summedUp cX9_summedUp 10 (some .long) 2 := ⟨⟨by decide +kernel, by decide +kernel, by decide +kernel⟩, gw_1654, gw_121, by decide +kernel⟩
theorem cal_X9_sure : g_cal yX9_sure cX9_sure 2 (some .int) 0 := ⟨⟨by decide +kernel, by decide +kernel, by decide +kernel⟩, gw_1867, gw_121, by decide +kernel⟩
theorem cal_X9_tells : g_cal yX9_tells cX9_tells 6 (some .int) 0 := ⟨⟨by decide +kernel, by decide +kernel, by decide +kernel⟩, gw_1871, gw_121, by decide +kernel⟩
theorem cal_X9_text : g_cal yX9_text cX9_text 1 (some .int) 0 := ⟨⟨by decide +kernel, by decide +kernel, by decide +kernel⟩, gw_1422, gw_121, by decide +kernel⟩
theorem cal_X9_two : g_cal yX9_two cX9_two 5 (some .long) 3 := ⟨⟨by decide +kernel, by decide +kernel, by decide +kernel⟩, gw_1665, gw_121, by decide +kernel⟩
theorem cal_X9_undo : g_cal yX9_undo cX9_undo 4 (some .int) 0 := ⟨⟨by decide +kernel, by decide +kernel, by decide +kernel⟩, gw_1578, gw_121, by decide +kernel⟩
theorem cal_X9_w2 : g_cal yX9_w2 cX9_w2 2 (some .long) 2 := ⟨⟨by decide +kernel, by decide +kernel, by decide +kernel⟩, gw_1462, gw_121, by decide +kernel⟩
theorem cal_X9_w3 : g_cal yX9_w3 cX9_w3 3 (some .long) 3 := ⟨⟨by decide +kernel, by decide +kernel, by decide +kernel⟩, gw_1459, gw_121, by decide +kernel⟩
theorem cal_X9_w4 : g_cal yX9_w4 cX9_w4 4 (some .long) 4 := ⟨⟨by decide +kernel, by decide +kernel, by decide +kernel⟩, gw_1456, gw_121, by decide +kernel⟩
theorem cal_X9_w5 : g_cal yX9_w5 cX9_w5 5 (some .long) 5 := ⟨⟨by decide +kernel, by decide +kernel, by decide +kernel⟩, gw_1469, gw_121, by decide +kernel⟩
theorem cal_X9_w6 : g_cal yX9_w6 cX9_w6 6 (some .long) 6 := ⟨⟨by decide +kernel, by decide +kernel, by decide +kernel⟩, gw_1476, gw_121, by decide +kernel⟩
theorem cal_X9_ways : g_cal yX9_ways cX9_ways 6 (some .long) 2 := ⟨⟨by decide +kernel, by decide +kernel, by decide +kernel⟩, gw_1823, gw_121, by decide +kernel⟩
theorem cal_X9_weigh : g_cal yX9_weigh cX9_weigh 5 (some .boolean) 4 := ⟨⟨by decide +kernel, by decide +kernel, by decide +kernel⟩, gw_1819, gw_121, by decide +kernel⟩
theorem cal_X9_whose : g_cal yX9_whose cX9_whose 5 (some .int) 0 := ⟨⟨by decide +kernel, by decide +kernel, by decide +kernel⟩, gw_1895, gw_121, by decide +kernel⟩
theorem cal_X9_worded : g_cal yX9_worded cX9_worded 6 (some .int) 4 := ⟨⟨by decide +kernel, by decide +kernel, by decide +kernel⟩, gw_1495, gw_121, by decide +kernel⟩
theorem cal_X9_write : g_cal yX9_write cX9_write 5 none 3 := ⟨⟨by decide +kernel, by decide +kernel, by decide +kernel⟩, gw_1702, gw_121, by decide +kernel⟩
theorem cal_X9_years : g_cal yX9_years cX9_years 5 (some .int) 2 := ⟨⟨by decide +kernel, by decide +kernel, by decide +kernel⟩, gw_1720, gw_121, by decide +kernel⟩
