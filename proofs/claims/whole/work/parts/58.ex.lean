section
variable {s : State} {b : Nat}
theorem s_flat (h : (Jvm.Cond.and given_1 narrow_1).before #[Value.ref b] s = true) {w : Cond} (hw : w ∈ flatC (Jvm.Cond.and given_1 narrow_1)) : w.before #[Value.ref b] s = true := flat_of_before _ h _ hw
theorem s_names_el : ∀ j, j < 12 → Cond.eq (.elem (.static "FilmLooksBack" "NAME_LAWS" "[I") (.int (Int32.ofNat j))) (.int (gI (x_nl j))) ∈ flatC (Jvm.Cond.and given_1 narrow_1) := by decide +kernel
theorem s_names {A : Nat → Prop} (hts : ∀ w ∈ lw_tbl, w.before #[Value.ref b] s = true) (h : (Jvm.Cond.and given_1 narrow_1).before #[Value.ref b] s = true) (hA : ∀ a : Nat, a < s.heap.size → ¬ A a) : ∃ t, va_Z "FilmLooksBack" "NAME_LAWS" "[I" (.ref t) A s s.heap ∧ va_T .int t 12 (fun j => .int (gI (x_nl j))) A s s.heap := by
  obtain ⟨t, ht, hT⟩ := va_Tof (tm := (.static "FilmLooksBack" "NAME_LAWS" "[I")) (ty := .int) (N := 12) (f := fun j => .int (gI (x_nl j))) (A := A) (by decide) (s_flat h (by decide +kernel)) (va_eqt (s_flat h (by decide +kernel))) (fun j hj => va_eqt (s_flat h (s_names_el j hj))) hA
  exact ⟨t, va_Zref (hts (.laysStatic "FilmLooksBack" "NAME_LAWS" "[I") (List.mem_of_getElem? (i := 709) (by decide +kernel))) (hts (.initialized "FilmLooksBack") (List.mem_of_getElem? (i := 112) (by decide +kernel))) ht hA, hT⟩
theorem s_later_el : ∀ j, j < 8 → Cond.eq (.elem (.static "FilmLooksBack$Roster" "LATER" "[I") (.int (Int32.ofNat j))) (.int (gI (x_lt j))) ∈ flatC (Jvm.Cond.and given_1 narrow_1) := by decide +kernel
theorem s_later {A : Nat → Prop} (hts : ∀ w ∈ lw_tbl, w.before #[Value.ref b] s = true) (h : (Jvm.Cond.and given_1 narrow_1).before #[Value.ref b] s = true) (hA : ∀ a : Nat, a < s.heap.size → ¬ A a) : ∃ t, va_Z "FilmLooksBack$Roster" "LATER" "[I" (.ref t) A s s.heap ∧ va_T .int t 8 (fun j => .int (gI (x_lt j))) A s s.heap := by
  obtain ⟨t, ht, hT⟩ := va_Tof (tm := (.static "FilmLooksBack$Roster" "LATER" "[I")) (ty := .int) (N := 8) (f := fun j => .int (gI (x_lt j))) (A := A) (by decide) (s_flat h (by decide +kernel)) (va_eqt (s_flat h (by decide +kernel))) (fun j hj => va_eqt (s_flat h (s_later_el j hj))) hA
  exact ⟨t, va_Zref (hts (.laysStatic "FilmLooksBack$Roster" "LATER" "[I") (List.mem_of_getElem? (i := 1179) (by decide +kernel))) (hts (.initialized "FilmLooksBack$Roster") (List.mem_of_getElem? (i := 120) (by decide +kernel))) ht hA, hT⟩
def s_tm (i : Nat) : Term := .string "FilmLooksBack$Reader" (if i = 0 then 67 else 87)
theorem s_str_0 : ((flatC (Jvm.Cond.and given_1 narrow_1)).drop 39).take 160 = (List.range 160).map (fun j => Cond.eq (.elem (.field (s_tm 0) "java/lang/String" "value" "[B") (.int (Int32.ofNat j))) (.int ((x_byt.getD 0 []).getD j 0))) := by decide +kernel
theorem s_str_1 : ((flatC (Jvm.Cond.and given_1 narrow_1)).drop 203).take 12 = (List.range 12).map (fun j => Cond.eq (.elem (.field (s_tm 1) "java/lang/String" "value" "[B") (.int (Int32.ofNat j))) (.int ((x_byt.getD 1 []).getD j 0))) := by decide +kernel
theorem s_str_el : ∀ i, i < 2 → ∀ j, j < x_len.getD i 0 → Cond.eq (.elem (.field (s_tm i) "java/lang/String" "value" "[B") (.int (Int32.ofNat j))) (.int ((x_byt.getD i []).getD j 0)) ∈ flatC (Jvm.Cond.and given_1 narrow_1) := by
  intro i hi j hj
  match i, hi with
  | 0, _ => exact List.mem_of_mem_drop (List.mem_of_mem_take (s_str_0 ▸ List.mem_map.mpr ⟨j, List.mem_range.mpr hj, rfl⟩))
  | 1, _ => exact List.mem_of_mem_drop (List.mem_of_mem_take (s_str_1 ▸ List.mem_map.mpr ⟨j, List.mem_range.mpr hj, rfl⟩))
theorem s_str {A : Nat → Prop} (hts : ∀ w ∈ lw_tbl, w.before #[Value.ref b] s = true) (h : (Jvm.Cond.and given_1 narrow_1).before #[Value.ref b] s = true) (hA : ∀ a : Nat, a < s.heap.size → ¬ A a) : ∃ adK adV, vk_S 2 x_len x_byt adK adV A s s.heap ∧ vk_R "FilmLooksBack$Reader" 67 x_words (adK 0) s ∧ vk_R "FilmLooksBack$Reader" 87 x_signs (adK 1) s := by
  have c2 : ∀ {P : Nat → Prop}, P 0 → P 1 → ∀ i, i < 2 → P i := fun h0 h1 i hi => by
    match i, hi with
    | 0, _ => exact h0
    | 1, _ => exact h1
  obtain ⟨adK, adV, hS, hv⟩ := vk_Sof (N := 2) (tm := s_tm) (len := x_len) (byt := x_byt) (A := A) (by decide +kernel)
    (c2 (s_flat h (by decide +kernel)) (s_flat h (by decide +kernel))) (c2 (s_flat h (by decide +kernel)) (s_flat h (by decide +kernel))) (c2 (s_flat h (by decide +kernel)) (s_flat h (by decide +kernel))) (c2 (s_flat h (by decide +kernel)) (s_flat h (by decide +kernel)))
    (fun i hi j hj => s_flat h (s_str_el i hi j hj))
    (fun i j hi hj hij => by
      have h01 : (Cond.not (Cond.eq (s_tm 0) (s_tm 1))).before #[Value.ref b] s = true ∨ (Cond.not (Cond.eq (s_tm 1) (s_tm 0))).before #[Value.ref b] s = true := by
        first
          | exact Or.inl (s_flat h (by decide +kernel))
          | exact Or.inr (s_flat h (by decide +kernel))
      have hi' : i = 0 ∨ i = 1 := by omega
      have hj' : j = 0 ∨ j = 1 := by omega
      rcases hi' with rfl | rfl <;> rcases hj' with rfl | rfl
      · exact absurd rfl hij
      · exact h01
      · exact h01.symm
      · exact absurd rfl hij) hA
  refine ⟨adK, adV, hS, ?_, ?_⟩
  · exact vk_R.of (A := #[Value.ref b]) (hts (.stringRef "FilmLooksBack$Reader" 67 x_words) (List.mem_of_getElem? (i := 530) (by decide +kernel))) (hv 0 (by decide))
  · exact vk_R.of (A := #[Value.ref b]) (hts (.stringRef "FilmLooksBack$Reader" 87 x_signs) (List.mem_of_getElem? (i := 593) (by decide +kernel))) (hv 1 (by decide))
theorem s_Ex {A : Nat → Prop} (hts : ∀ w ∈ lw_tbl, w.before #[Value.ref b] s = true) (h : (Jvm.Cond.and given_1 narrow_1).before #[Value.ref b] s = true) (hA : ∀ a : Nat, a < s.heap.size → ¬ A a) : x_Ex A s s.heap := by
  refine ⟨fun w hw => ?_, va_Nw.of (A := #[Value.ref b]) rfl (hts _ (List.mem_of_getElem? (i := 708) (by decide +kernel))), s_names hts h hA, s_later hts h hA, s_str hts h hA, va_Zof (hts (.laysStatic "java/lang/String" "COMPACT_STRINGS" "Z") (List.mem_of_getElem? (i := 540) (by decide +kernel))) (hts (.initialized "java/lang/String") (List.mem_of_getElem? (i := 122) (by decide +kernel))) (va_eqi (s_flat h (by decide +kernel))) hA, va_Zqof (hts (.laysStatic "jdk/internal/util/Preconditions" "SIOOBE_FORMATTER" "Ljava/util/function/BiFunction;") (List.mem_of_getElem? (i := 556) (by decide +kernel))) (hts (.initialized "jdk/internal/util/Preconditions") (List.mem_of_getElem? (i := 124) (by decide +kernel))) (s_flat h (by decide +kernel)) hA⟩
  have hm : ∀ w ∈ x_nests, w ∈ lw_tbl := by decide +kernel
  exact x_nests_cases (P := fun w => w.before #[Value.ref b] s = true → va_Nw w s) (fun a i x b' z => va_Nw.of rfl z) w hw (hts w (hm w hw))
theorem s_arr {args : Array Value} {ty : FieldType} (h : (Cond.arrayClass ty).before args s = true) : ∃ cA : ClassId, ArrOfT s cA ty ∧ s.vm.findClass ("[" ++ ty.toString) = some cA := by
  obtain ⟨cA, kA, comp, h1, h2, h3⟩ := Cond.arrayClass_spec h
  exact ⟨cA, fun n z => ⟨fun k h => (by cases h), kA, h2, comp, h3⟩, h1⟩
theorem s_arrO {args : Array Value} {C : String} (h : (Cond.arrayOver (.object C)).before args s = true) : ∃ cA : ClassId, ArrOfT s cA (.object C) ∧ va_RA s cA (.object C) := by
  obtain ⟨comp, cA, kA, h1, h2, h3, h4, h5⟩ := Cond.arrayOver_spec h
  exact ⟨cA, fun n z => ⟨fun k h => (by cases h), kA, h3, comp, h4⟩, kA, comp, h3, h4, h1, h5⟩
end
