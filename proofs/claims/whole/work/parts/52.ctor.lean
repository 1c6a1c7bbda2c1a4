set_option maxRecDepth 100000 in
set_option maxHeartbeats 40000000 in
theorem k_X7_init (l : Launch) (D : va_G) (cA : Nat → ClassId) (h0 : Nat)  (sz : Nat) : Met l yX7_init (Cond.code yX7_init cX7_init 1 none :: GT) ({ frames := 1, cells := 5, slots := 402, locals := 12 }) (va_Pc [.ref h0] (fun U => U.heap.size = sz ∧ va_P D xG.1 [(h0, .inr (7, [.null, .int 0, .null, .null, .null, .null, .int 0, .int 0]))] U.heap ∧ va_K D xG.1 (g_tys (D, cA, fun _ => 0)) U ∧ va_D (fun _ => True) [(h0, .inr (7, [.null, .int 0, .null, .null, .null, .null, .int 0, .int 0]))] ∧ (∀ w ∈ k_nests, va_Nw w U) ∧ va_AO "FilmLooksBack$Text" U)) (va_Qv (fun _ : Unit => True) (fun _ t => ∃ q1 q2 q3 q4 q5 : Nat, va_P D xG.1 [(h0, .inr (7, [.ref q1, .int 0, .ref q2, .ref q3, .ref q4, .ref q5, .int 0, .int 0])), (q1, .inl (cA 0, 300, .inl (fun _ => 0))), (q2, .inl (cA 0, 3, .inl (fun _ => 0))), (q3, .inl (cA 0, 3, .inl (fun _ => 0))), (q4, .inl (cA 0, 24, .inl (fun _ => 0))), (q5, .inl (cA 0, 72, .inl (fun _ => 0)))] t.heap ∧ va_D (va_A [(h0, .inr (7, [.null, .int 0, .null, .null, .null, .null, .int 0, .int 0]))] sz) [(h0, .inr (7, [.ref q1, .int 0, .ref q2, .ref q3, .ref q4, .ref q5, .int 0, .int 0])), (q1, .inl (cA 0, 300, .inl (fun _ => 0))), (q2, .inl (cA 0, 3, .inl (fun _ => 0))), (q3, .inl (cA 0, 3, .inl (fun _ => 0))), (q4, .inl (cA 0, 24, .inl (fun _ => 0))), (q5, .inl (cA 0, 72, .inl (fun _ => 0)))]) (va_A [(h0, .inr (7, [.null, .int 0, .null, .null, .null, .null, .int 0, .int 0]))] sz)) 5 402 (va_A [(h0, .inr (7, [.null, .int 0, .null, .null, .null, .null, .int 0, .int 0]))] sz) := by
  refine Met.ofW (cc := cX7_init) (maxL := 1) (ret := none) (by decide +kernel) rfl ?_
  intro p e s m args below meth c s₁ B hml hv
  obtain ⟨rfl, hsz, hP, hK, hD0, hN, hO⟩ := hv
  have hx := B.exec
  have hb := B.bytes
  have hr := B.returns
  have hts0 := atoms_spec (ws := Cond.code yX7_init cX7_init 1 none :: GT) B.pre
  have hts : ∀ w ∈ GT, w.before _ s = true := fun w hw => hts0 w (List.mem_cons_of_mem _ hw)
  have hown : s.vm.findClass RX7 = some m.cls := findClass_of_methodNamed B.named
  have hlocks := B.notSynchronized
  have hin : meth.name = "<init>" := (name_of_methodNamed B.named B.method).1
  subst hsz
  have hD := hD0.self (sz := s.heap.size)
  generalize hAe : va_A [(h0, .inr (7, [.null, .int 0, .null, .null, .null, .null, .int 0, .int 0]))] s.heap.size = A at hD ⊢
  have hA : ∀ q : Nat, s.heap.size ≤ q → A q := fun q h => by rw [← hAe]; exact Or.inr h
  have hS : va_S A s.heap s.heap [] := va_S.rf
  have hP : va_P D xG.1 [(h0, .inr (7, [.null, .int 0, .null, .null, .null, .null, .int 0, .int 0]))] s.heap := hP
  have hl := lv_entry ([.ref h0]) (n := 1) (Nat.le_of_ble_eq_true rfl)
  rw [lg_entry_eq]
  generalize (lg_sl ([.ref h0]) ++ List.replicate (1 - (lg_sl ([.ref h0])).length) Slot.unset).toArray = ls at hl ⊢
  have hl : lv_has ls 1 [(0, .ref h0)] := hl
  refine lv_aload_n hx hb dX7_init_0 rfl (lv_at hl 0 rfl) ?_
  refine W.objInit hx hb hown (hts _ gw_245) (hts _ gw_136) (hts _ gw_137) rfl (by rw [hml]; exact hl.1) rfl dX7_init_1 (Nat.le_of_ble_eq_true rfl) (Nat.le_of_ble_eq_true rfl) ?_
  refine W.eq (g2 := F0 m 4 ls []) rfl ?_
  refine lv_aload_n hx hb dX7_init_4 rfl (lv_at hl 0 rfl) ?_
  refine lv_sipush (v := 300) hx hb dX7_init_5 (by decide +kernel) ?_
  refine k_newa0 (N := 300) hx hb (hts _ gw_233) hK hP hD hS hA (by decide +kernel) (by decide +kernel) (Nat.le_of_ble_eq_true rfl) (Nat.le_of_ble_eq_true rfl) (Nat.le_of_ble_eq_true rfl) dX7_init_8 (fun q1 H hP hD hS => ?_)
  refine W.widen (k := 1) (n := 300) (Nat.le_of_ble_eq_true rfl) (Nat.le_of_ble_eq_true rfl) ?_
  have hP : va_P D xG.1 [(h0, .inr (7, [.null, .int 0, .null, .null, .null, .null, .int 0, .int 0])), (q1, .inl (cA 0, 300, .inl (fun _ => 0)))] H := hP
  have hD : va_D A [(h0, .inr (7, [.null, .int 0, .null, .null, .null, .null, .int 0, .int 0])), (q1, .inl (cA 0, 300, .inl (fun _ => 0)))] := hD
  refine va_putF (D := D) (ci := 7) (v := .ref q1) (ty := (.array .int)) (C := RX7) (T := TX7) (N := 8) hx hb hts xin_7 tyX7 tyX7_ok nmX7 hown hK hP hD hS 0 rfl rfl 0 (by decide) (hts _ gw_246) (fun _ h9 => h9) rfl hin rfl (by decide +kernel) rfl rfl (Nat.le_of_ble_eq_true rfl) dX7_init_10 (fun H locs hP hD hS => ?_)
  have hP : va_P D xG.1 [(h0, .inr (7, [.ref q1, .int 0, .null, .null, .null, .null, .int 0, .int 0])), (q1, .inl (cA 0, 300, .inl (fun _ => 0)))] H := hP
  have hD : va_D A [(h0, .inr (7, [.ref q1, .int 0, .null, .null, .null, .null, .int 0, .int 0])), (q1, .inl (cA 0, 300, .inl (fun _ => 0)))] := hD
  refine lv_aload_n hx hb dX7_init_13 rfl (lv_at hl 0 rfl) ?_
  refine lv_iconst (v := 3) hx hb dX7_init_14 (by decide +kernel) ?_
  refine k_newa0 (N := 3) hx hb (hts _ gw_233) hK hP hD hS hA (by decide +kernel) (by decide +kernel) (Nat.le_of_ble_eq_true rfl) (Nat.le_of_ble_eq_true rfl) (Nat.le_of_ble_eq_true rfl) dX7_init_15 (fun q2 H hP hD hS => ?_)
  refine W.widen (k := 2) (n := 303) (Nat.le_of_ble_eq_true rfl) (Nat.le_of_ble_eq_true rfl) ?_
  have hP : va_P D xG.1 [(h0, .inr (7, [.ref q1, .int 0, .null, .null, .null, .null, .int 0, .int 0])), (q1, .inl (cA 0, 300, .inl (fun _ => 0))), (q2, .inl (cA 0, 3, .inl (fun _ => 0)))] H := hP
  have hD : va_D A [(h0, .inr (7, [.ref q1, .int 0, .null, .null, .null, .null, .int 0, .int 0])), (q1, .inl (cA 0, 300, .inl (fun _ => 0))), (q2, .inl (cA 0, 3, .inl (fun _ => 0)))] := hD
  refine va_putF (D := D) (ci := 7) (v := .ref q2) (ty := (.array .int)) (C := RX7) (T := TX7) (N := 8) hx hb hts xin_7 tyX7 tyX7_ok nmX7 hown hK hP hD hS 0 rfl rfl 2 (by decide) (hts _ gw_250) (fun _ h9 => h9) rfl hin rfl (by decide +kernel) rfl rfl (Nat.le_of_ble_eq_true rfl) dX7_init_17 (fun H locs hP hD hS => ?_)
  have hP : va_P D xG.1 [(h0, .inr (7, [.ref q1, .int 0, .ref q2, .null, .null, .null, .int 0, .int 0])), (q1, .inl (cA 0, 300, .inl (fun _ => 0))), (q2, .inl (cA 0, 3, .inl (fun _ => 0)))] H := hP
  have hD : va_D A [(h0, .inr (7, [.ref q1, .int 0, .ref q2, .null, .null, .null, .int 0, .int 0])), (q1, .inl (cA 0, 300, .inl (fun _ => 0))), (q2, .inl (cA 0, 3, .inl (fun _ => 0)))] := hD
  refine lv_aload_n hx hb dX7_init_20 rfl (lv_at hl 0 rfl) ?_
  refine lv_iconst (v := 3) hx hb dX7_init_21 (by decide +kernel) ?_
  refine k_newa0 (N := 3) hx hb (hts _ gw_233) hK hP hD hS hA (by decide +kernel) (by decide +kernel) (Nat.le_of_ble_eq_true rfl) (Nat.le_of_ble_eq_true rfl) (Nat.le_of_ble_eq_true rfl) dX7_init_22 (fun q3 H hP hD hS => ?_)
  refine W.widen (k := 3) (n := 306) (Nat.le_of_ble_eq_true rfl) (Nat.le_of_ble_eq_true rfl) ?_
  have hP : va_P D xG.1 [(h0, .inr (7, [.ref q1, .int 0, .ref q2, .null, .null, .null, .int 0, .int 0])), (q1, .inl (cA 0, 300, .inl (fun _ => 0))), (q2, .inl (cA 0, 3, .inl (fun _ => 0))), (q3, .inl (cA 0, 3, .inl (fun _ => 0)))] H := hP
  have hD : va_D A [(h0, .inr (7, [.ref q1, .int 0, .ref q2, .null, .null, .null, .int 0, .int 0])), (q1, .inl (cA 0, 300, .inl (fun _ => 0))), (q2, .inl (cA 0, 3, .inl (fun _ => 0))), (q3, .inl (cA 0, 3, .inl (fun _ => 0)))] := hD
  refine va_putF (D := D) (ci := 7) (v := .ref q3) (ty := (.array .int)) (C := RX7) (T := TX7) (N := 8) hx hb hts xin_7 tyX7 tyX7_ok nmX7 hown hK hP hD hS 0 rfl rfl 3 (by decide) (hts _ gw_253) (fun _ h9 => h9) rfl hin rfl (by decide +kernel) rfl rfl (Nat.le_of_ble_eq_true rfl) dX7_init_24 (fun H locs hP hD hS => ?_)
  have hP : va_P D xG.1 [(h0, .inr (7, [.ref q1, .int 0, .ref q2, .ref q3, .null, .null, .int 0, .int 0])), (q1, .inl (cA 0, 300, .inl (fun _ => 0))), (q2, .inl (cA 0, 3, .inl (fun _ => 0))), (q3, .inl (cA 0, 3, .inl (fun _ => 0)))] H := hP
  have hD : va_D A [(h0, .inr (7, [.ref q1, .int 0, .ref q2, .ref q3, .null, .null, .int 0, .int 0])), (q1, .inl (cA 0, 300, .inl (fun _ => 0))), (q2, .inl (cA 0, 3, .inl (fun _ => 0))), (q3, .inl (cA 0, 3, .inl (fun _ => 0)))] := hD
  refine lv_aload_n hx hb dX7_init_27 rfl (lv_at hl 0 rfl) ?_
  refine lv_bipush (v := 24) hx hb dX7_init_28 (by decide +kernel) ?_
  refine k_newa0 (N := 24) hx hb (hts _ gw_233) hK hP hD hS hA (by decide +kernel) (by decide +kernel) (Nat.le_of_ble_eq_true rfl) (Nat.le_of_ble_eq_true rfl) (Nat.le_of_ble_eq_true rfl) dX7_init_30 (fun q4 H hP hD hS => ?_)
  refine W.widen (k := 4) (n := 330) (Nat.le_of_ble_eq_true rfl) (Nat.le_of_ble_eq_true rfl) ?_
  have hP : va_P D xG.1 [(h0, .inr (7, [.ref q1, .int 0, .ref q2, .ref q3, .null, .null, .int 0, .int 0])), (q1, .inl (cA 0, 300, .inl (fun _ => 0))), (q2, .inl (cA 0, 3, .inl (fun _ => 0))), (q3, .inl (cA 0, 3, .inl (fun _ => 0))), (q4, .inl (cA 0, 24, .inl (fun _ => 0)))] H := hP
  have hD : va_D A [(h0, .inr (7, [.ref q1, .int 0, .ref q2, .ref q3, .null, .null, .int 0, .int 0])), (q1, .inl (cA 0, 300, .inl (fun _ => 0))), (q2, .inl (cA 0, 3, .inl (fun _ => 0))), (q3, .inl (cA 0, 3, .inl (fun _ => 0))), (q4, .inl (cA 0, 24, .inl (fun _ => 0)))] := hD
  refine va_putF (D := D) (ci := 7) (v := .ref q4) (ty := (.array .int)) (C := RX7) (T := TX7) (N := 8) hx hb hts xin_7 tyX7 tyX7_ok nmX7 hown hK hP hD hS 0 rfl rfl 4 (by decide) (hts _ gw_256) (fun _ h9 => h9) rfl hin rfl (by decide +kernel) rfl rfl (Nat.le_of_ble_eq_true rfl) dX7_init_32 (fun H locs hP hD hS => ?_)
  have hP : va_P D xG.1 [(h0, .inr (7, [.ref q1, .int 0, .ref q2, .ref q3, .ref q4, .null, .int 0, .int 0])), (q1, .inl (cA 0, 300, .inl (fun _ => 0))), (q2, .inl (cA 0, 3, .inl (fun _ => 0))), (q3, .inl (cA 0, 3, .inl (fun _ => 0))), (q4, .inl (cA 0, 24, .inl (fun _ => 0)))] H := hP
  have hD : va_D A [(h0, .inr (7, [.ref q1, .int 0, .ref q2, .ref q3, .ref q4, .null, .int 0, .int 0])), (q1, .inl (cA 0, 300, .inl (fun _ => 0))), (q2, .inl (cA 0, 3, .inl (fun _ => 0))), (q3, .inl (cA 0, 3, .inl (fun _ => 0))), (q4, .inl (cA 0, 24, .inl (fun _ => 0)))] := hD
  refine lv_aload_n hx hb dX7_init_35 rfl (lv_at hl 0 rfl) ?_
  refine lv_bipush (v := 72) hx hb dX7_init_36 (by decide +kernel) ?_
  refine k_newa0 (N := 72) hx hb (hts _ gw_233) hK hP hD hS hA (by decide +kernel) (by decide +kernel) (Nat.le_of_ble_eq_true rfl) (Nat.le_of_ble_eq_true rfl) (Nat.le_of_ble_eq_true rfl) dX7_init_38 (fun q5 H hP hD hS => ?_)
  refine W.widen (k := 5) (n := 402) (Nat.le_of_ble_eq_true rfl) (Nat.le_of_ble_eq_true rfl) ?_
  have hP : va_P D xG.1 [(h0, .inr (7, [.ref q1, .int 0, .ref q2, .ref q3, .ref q4, .null, .int 0, .int 0])), (q1, .inl (cA 0, 300, .inl (fun _ => 0))), (q2, .inl (cA 0, 3, .inl (fun _ => 0))), (q3, .inl (cA 0, 3, .inl (fun _ => 0))), (q4, .inl (cA 0, 24, .inl (fun _ => 0))), (q5, .inl (cA 0, 72, .inl (fun _ => 0)))] H := hP
  have hD : va_D A [(h0, .inr (7, [.ref q1, .int 0, .ref q2, .ref q3, .ref q4, .null, .int 0, .int 0])), (q1, .inl (cA 0, 300, .inl (fun _ => 0))), (q2, .inl (cA 0, 3, .inl (fun _ => 0))), (q3, .inl (cA 0, 3, .inl (fun _ => 0))), (q4, .inl (cA 0, 24, .inl (fun _ => 0))), (q5, .inl (cA 0, 72, .inl (fun _ => 0)))] := hD
  refine va_putF (D := D) (ci := 7) (v := .ref q5) (ty := (.array .int)) (C := RX7) (T := TX7) (N := 8) hx hb hts xin_7 tyX7 tyX7_ok nmX7 hown hK hP hD hS 0 rfl rfl 5 (by decide) (hts _ gw_258) (fun _ h9 => h9) rfl hin rfl (by decide +kernel) rfl rfl (Nat.le_of_ble_eq_true rfl) dX7_init_40 (fun H locs hP hD hS => ?_)
  have hP : va_P D xG.1 [(h0, .inr (7, [.ref q1, .int 0, .ref q2, .ref q3, .ref q4, .ref q5, .int 0, .int 0])), (q1, .inl (cA 0, 300, .inl (fun _ => 0))), (q2, .inl (cA 0, 3, .inl (fun _ => 0))), (q3, .inl (cA 0, 3, .inl (fun _ => 0))), (q4, .inl (cA 0, 24, .inl (fun _ => 0))), (q5, .inl (cA 0, 72, .inl (fun _ => 0)))] H := hP
  have hD : va_D A [(h0, .inr (7, [.ref q1, .int 0, .ref q2, .ref q3, .ref q4, .ref q5, .int 0, .int 0])), (q1, .inl (cA 0, 300, .inl (fun _ => 0))), (q2, .inl (cA 0, 3, .inl (fun _ => 0))), (q3, .inl (cA 0, 3, .inl (fun _ => 0))), (q4, .inl (cA 0, 24, .inl (fun _ => 0))), (q5, .inl (cA 0, 72, .inl (fun _ => 0)))] := hD
  have hP9 := hP.sub (ws' := [(h0, .inr (7, [.ref q1, .int 0, .ref q2, .ref q3, .ref q4, .ref q5, .int 0, .int 0])), (q1, .inl (cA 0, 300, .inl (fun _ => 0))), (q2, .inl (cA 0, 3, .inl (fun _ => 0))), (q3, .inl (cA 0, 3, .inl (fun _ => 0))), (q4, .inl (cA 0, 24, .inl (fun _ => 0))), (q5, .inl (cA 0, 72, .inl (fun _ => 0)))]) [0, 1, 2, 3, 4, 5] rfl
  have hD9 := hD.sub (ws' := [(h0, .inr (7, [.ref q1, .int 0, .ref q2, .ref q3, .ref q4, .ref q5, .int 0, .int 0])), (q1, .inl (cA 0, 300, .inl (fun _ => 0))), (q2, .inl (cA 0, 3, .inl (fun _ => 0))), (q3, .inl (cA 0, 3, .inl (fun _ => 0))), (q4, .inl (cA 0, 24, .inl (fun _ => 0))), (q5, .inl (cA 0, 72, .inl (fun _ => 0)))]) [0, 1, 2, 3, 4, 5] (by decide) rfl
  exact W.vret hx hb hr (fun t ht hW => ⟨⟨(), rfl, trivial, q1, q2, q3, q4, q5, by rw [ht]; exact hP9, hD9⟩, hS.F ht⟩) hS.2.2 dX7_init_43
set_option maxRecDepth 100000 in
set_option maxHeartbeats 40000000 in
theorem k_X1_init (l : Launch) (D : va_G) (cA : Nat → ClassId) (h0 : Nat)  (sz : Nat) : Met l yX1_init (Cond.code yX1_init cX1_init 3 none :: GT) ({ frames := 1, cells := 10, slots := 4263, locals := 12 }) (va_Pc [.ref h0] (fun U => U.heap.size = sz ∧ va_P D xG.1 [(h0, .inr (1, [.null, .null, .int 0, .int 0, .null, .null, .null, .int 0, .int 0, .int 0, .null, .int 0, .null, .int 0, .null, .null, .null, .int 0]))] U.heap ∧ va_K D xG.1 (g_tys (D, cA, fun _ => 0)) U ∧ va_D (fun _ => True) [(h0, .inr (1, [.null, .null, .int 0, .int 0, .null, .null, .null, .int 0, .int 0, .int 0, .null, .int 0, .null, .int 0, .null, .null, .null, .int 0]))] ∧ (∀ w ∈ k_nests, va_Nw w U) ∧ va_AO "FilmLooksBack$Text" U)) (va_Qv (fun _ : Unit => True) (fun _ t => ∃ q1 q2 q3 q4 q5 q6 q7 q8 q9 q10 : Nat, va_P D xG.1 [(h0, .inr (1, [.ref q1, .ref q2, .int 0, .int 0, .ref q3, .ref q4, .ref q5, .int 0, .int 0, .int (-1), .ref q6, .int 0, .ref q7, .int 4095, .ref q8, .ref q9, .ref q10, .int 0])), (q1, .inl (cA 0, 133, .inl (upd (upd (upd (upd (upd (upd (upd (upd (upd (upd (upd (upd (upd (fun _ => 0) 42 199) 16 1) 17 2) 18 3) 19 4) 20 5) 21 6) 22 7) 23 8) 24 9) 25 10) 26 11) 27 12))), (q2, .inl (cA 0, 3990, .inl (fun _ => 0))), (q3, .inl (cA 0, 48, .inl (upd (upd (upd (upd (upd (upd (upd (upd (upd (upd (upd (upd (upd (upd (upd (upd (upd (upd (upd (upd (upd (upd (upd (upd (upd (upd (upd (upd (upd (upd (upd (upd (upd (upd (upd (upd (upd (upd (upd (upd (upd (upd (upd (upd (upd (upd (upd (upd (fun _ => 0) 0 1) 1 1) 2 1) 3 1) 4 2) 5 2) 6 2) 7 2) 8 3) 9 3) 10 3) 11 3) 12 4) 13 4) 14 4) 15 4) 16 5) 17 5) 18 5) 19 5) 20 6) 21 6) 22 6) 23 6) 24 7) 25 7) 26 7) 27 7) 28 8) 29 8) 30 8) 31 8) 32 9) 33 9) 34 9) 35 9) 36 10) 37 10) 38 10) 39 10) 40 11) 41 11) 42 11) 43 11) 44 12) 45 12) 46 12) 47 12))), (q4, .inl (cA 0, 12, .inl (fun _ => 0))), (q5, .inl (cA 0, 8, .inl (fun _ => 0))), (q6, .inl (cA 0, 12, .inl (fun _ => 0))), (q7, .inl (cA 0, 4, .inl (upd (upd (upd (upd (fun _ => 0) 0 7) 1 1) 2 1) 3 1))), (q8, .inl (cA 0, 40, .inl (fun _ => 0))), (q9, .inl (cA 0, 8, .inl (fun _ => 0))), (q10, .inl (cA 0, 8, .inl (fun _ => 0)))] t.heap ∧ va_D (va_A [(h0, .inr (1, [.null, .null, .int 0, .int 0, .null, .null, .null, .int 0, .int 0, .int 0, .null, .int 0, .null, .int 0, .null, .null, .null, .int 0]))] sz) [(h0, .inr (1, [.ref q1, .ref q2, .int 0, .int 0, .ref q3, .ref q4, .ref q5, .int 0, .int 0, .int (-1), .ref q6, .int 0, .ref q7, .int 4095, .ref q8, .ref q9, .ref q10, .int 0])), (q1, .inl (cA 0, 133, .inl (upd (upd (upd (upd (upd (upd (upd (upd (upd (upd (upd (upd (upd (fun _ => 0) 42 199) 16 1) 17 2) 18 3) 19 4) 20 5) 21 6) 22 7) 23 8) 24 9) 25 10) 26 11) 27 12))), (q2, .inl (cA 0, 3990, .inl (fun _ => 0))), (q3, .inl (cA 0, 48, .inl (upd (upd (upd (upd (upd (upd (upd (upd (upd (upd (upd (upd (upd (upd (upd (upd (upd (upd (upd (upd (upd (upd (upd (upd (upd (upd (upd (upd (upd (upd (upd (upd (upd (upd (upd (upd (upd (upd (upd (upd (upd (upd (upd (upd (upd (upd (upd (upd (fun _ => 0) 0 1) 1 1) 2 1) 3 1) 4 2) 5 2) 6 2) 7 2) 8 3) 9 3) 10 3) 11 3) 12 4) 13 4) 14 4) 15 4) 16 5) 17 5) 18 5) 19 5) 20 6) 21 6) 22 6) 23 6) 24 7) 25 7) 26 7) 27 7) 28 8) 29 8) 30 8) 31 8) 32 9) 33 9) 34 9) 35 9) 36 10) 37 10) 38 10) 39 10) 40 11) 41 11) 42 11) 43 11) 44 12) 45 12) 46 12) 47 12))), (q4, .inl (cA 0, 12, .inl (fun _ => 0))), (q5, .inl (cA 0, 8, .inl (fun _ => 0))), (q6, .inl (cA 0, 12, .inl (fun _ => 0))), (q7, .inl (cA 0, 4, .inl (upd (upd (upd (upd (fun _ => 0) 0 7) 1 1) 2 1) 3 1))), (q8, .inl (cA 0, 40, .inl (fun _ => 0))), (q9, .inl (cA 0, 8, .inl (fun _ => 0))), (q10, .inl (cA 0, 8, .inl (fun _ => 0)))]) (va_A [(h0, .inr (1, [.null, .null, .int 0, .int 0, .null, .null, .null, .int 0, .int 0, .int 0, .null, .int 0, .null, .int 0, .null, .null, .null, .int 0]))] sz)) 10 4263 (va_A [(h0, .inr (1, [.null, .null, .int 0, .int 0, .null, .null, .null, .int 0, .int 0, .int 0, .null, .int 0, .null, .int 0, .null, .null, .null, .int 0]))] sz) := by
  refine Met.ofW (cc := cX1_init) (maxL := 3) (ret := none) (by decide +kernel) rfl ?_
  intro p e s m args below meth c s₁ B hml hv
  obtain ⟨rfl, hsz, hP, hK, hD0, hN, hO⟩ := hv
  have hx := B.exec
  have hb := B.bytes
  have hr := B.returns
  have hts0 := atoms_spec (ws := Cond.code yX1_init cX1_init 3 none :: GT) B.pre
  have hts : ∀ w ∈ GT, w.before _ s = true := fun w hw => hts0 w (List.mem_cons_of_mem _ hw)
  have hown : s.vm.findClass RX1 = some m.cls := findClass_of_methodNamed B.named
  have hlocks := B.notSynchronized
  have hin : meth.name = "<init>" := (name_of_methodNamed B.named B.method).1
  subst hsz
  have hD := hD0.self (sz := s.heap.size)
  generalize hAe : va_A [(h0, .inr (1, [.null, .null, .int 0, .int 0, .null, .null, .null, .int 0, .int 0, .int 0, .null, .int 0, .null, .int 0, .null, .null, .null, .int 0]))] s.heap.size = A at hD ⊢
  have hA : ∀ q : Nat, s.heap.size ≤ q → A q := fun q h => by rw [← hAe]; exact Or.inr h
  have hS : va_S A s.heap s.heap [] := va_S.rf
  have hP : va_P D xG.1 [(h0, .inr (1, [.null, .null, .int 0, .int 0, .null, .null, .null, .int 0, .int 0, .int 0, .null, .int 0, .null, .int 0, .null, .null, .null, .int 0]))] s.heap := hP
  have hl := lv_entry ([.ref h0]) (n := 3) (Nat.le_of_ble_eq_true rfl)
  rw [lg_entry_eq]
  generalize (lg_sl ([.ref h0]) ++ List.replicate (3 - (lg_sl ([.ref h0])).length) Slot.unset).toArray = ls at hl ⊢
  have hl : lv_has ls 3 [(0, .ref h0)] := hl
  refine lv_aload_n hx hb dX1_init_0 rfl (lv_at hl 0 rfl) ?_
  refine W.objInit hx hb hown (hts _ gw_143) (hts _ gw_136) (hts _ gw_137) rfl (by rw [hml]; exact hl.1) rfl dX1_init_1 (Nat.le_of_ble_eq_true rfl) (Nat.le_of_ble_eq_true rfl) ?_
  refine W.eq (g2 := F0 m 4 ls []) rfl ?_
  refine lv_aload_n hx hb dX1_init_4 rfl (lv_at hl 0 rfl) ?_
  refine lv_sipush (v := 133) hx hb dX1_init_5 (by decide +kernel) ?_
  refine k_newa0 (N := 133) hx hb (hts _ gw_233) hK hP hD hS hA (by decide +kernel) (by decide +kernel) (Nat.le_of_ble_eq_true rfl) (Nat.le_of_ble_eq_true rfl) (Nat.le_of_ble_eq_true rfl) dX1_init_8 (fun q1 H hP hD hS => ?_)
  refine W.widen (k := 1) (n := 133) (Nat.le_of_ble_eq_true rfl) (Nat.le_of_ble_eq_true rfl) ?_
  have hP : va_P D xG.1 [(h0, .inr (1, [.null, .null, .int 0, .int 0, .null, .null, .null, .int 0, .int 0, .int 0, .null, .int 0, .null, .int 0, .null, .null, .null, .int 0])), (q1, .inl (cA 0, 133, .inl (fun _ => 0)))] H := hP
  have hD : va_D A [(h0, .inr (1, [.null, .null, .int 0, .int 0, .null, .null, .null, .int 0, .int 0, .int 0, .null, .int 0, .null, .int 0, .null, .null, .null, .int 0])), (q1, .inl (cA 0, 133, .inl (fun _ => 0)))] := hD
  refine va_putF (D := D) (ci := 1) (v := .ref q1) (ty := (.array .int)) (C := RX1) (T := TX1) (N := 18) hx hb hts xin_1 tyX1 tyX1_ok nmX1 hown hK hP hD hS 0 rfl rfl 0 (by decide) (hts _ gw_144) (fun _ h9 => h9) rfl hin rfl (by decide +kernel) rfl rfl (Nat.le_of_ble_eq_true rfl) dX1_init_10 (fun H locs hP hD hS => ?_)
  have hP : va_P D xG.1 [(h0, .inr (1, [.ref q1, .null, .int 0, .int 0, .null, .null, .null, .int 0, .int 0, .int 0, .null, .int 0, .null, .int 0, .null, .null, .null, .int 0])), (q1, .inl (cA 0, 133, .inl (fun _ => 0)))] H := hP
  have hD : va_D A [(h0, .inr (1, [.ref q1, .null, .int 0, .int 0, .null, .null, .null, .int 0, .int 0, .int 0, .null, .int 0, .null, .int 0, .null, .null, .null, .int 0])), (q1, .inl (cA 0, 133, .inl (fun _ => 0)))] := hD
  refine lv_aload_n hx hb dX1_init_13 rfl (lv_at hl 0 rfl) ?_
  refine lv_sipush (v := 3990) hx hb dX1_init_14 (by decide +kernel) ?_
  refine k_newa0 (N := 3990) hx hb (hts _ gw_233) hK hP hD hS hA (by decide +kernel) (by decide +kernel) (Nat.le_of_ble_eq_true rfl) (Nat.le_of_ble_eq_true rfl) (Nat.le_of_ble_eq_true rfl) dX1_init_17 (fun q2 H hP hD hS => ?_)
  refine W.widen (k := 2) (n := 4123) (Nat.le_of_ble_eq_true rfl) (Nat.le_of_ble_eq_true rfl) ?_
  have hP : va_P D xG.1 [(h0, .inr (1, [.ref q1, .null, .int 0, .int 0, .null, .null, .null, .int 0, .int 0, .int 0, .null, .int 0, .null, .int 0, .null, .null, .null, .int 0])), (q1, .inl (cA 0, 133, .inl (fun _ => 0))), (q2, .inl (cA 0, 3990, .inl (fun _ => 0)))] H := hP
  have hD : va_D A [(h0, .inr (1, [.ref q1, .null, .int 0, .int 0, .null, .null, .null, .int 0, .int 0, .int 0, .null, .int 0, .null, .int 0, .null, .null, .null, .int 0])), (q1, .inl (cA 0, 133, .inl (fun _ => 0))), (q2, .inl (cA 0, 3990, .inl (fun _ => 0)))] := hD
  refine va_putF (D := D) (ci := 1) (v := .ref q2) (ty := (.array .int)) (C := RX1) (T := TX1) (N := 18) hx hb hts xin_1 tyX1 tyX1_ok nmX1 hown hK hP hD hS 0 rfl rfl 1 (by decide) (hts _ gw_148) (fun _ h9 => h9) rfl hin rfl (by decide +kernel) rfl rfl (Nat.le_of_ble_eq_true rfl) dX1_init_19 (fun H locs hP hD hS => ?_)
  have hP : va_P D xG.1 [(h0, .inr (1, [.ref q1, .ref q2, .int 0, .int 0, .null, .null, .null, .int 0, .int 0, .int 0, .null, .int 0, .null, .int 0, .null, .null, .null, .int 0])), (q1, .inl (cA 0, 133, .inl (fun _ => 0))), (q2, .inl (cA 0, 3990, .inl (fun _ => 0)))] H := hP
  have hD : va_D A [(h0, .inr (1, [.ref q1, .ref q2, .int 0, .int 0, .null, .null, .null, .int 0, .int 0, .int 0, .null, .int 0, .null, .int 0, .null, .null, .null, .int 0])), (q1, .inl (cA 0, 133, .inl (fun _ => 0))), (q2, .inl (cA 0, 3990, .inl (fun _ => 0)))] := hD
  refine lv_aload_n hx hb dX1_init_22 rfl (lv_at hl 0 rfl) ?_
  refine lv_bipush (v := 48) hx hb dX1_init_23 (by decide +kernel) ?_
  refine k_newa0 (N := 48) hx hb (hts _ gw_233) hK hP hD hS hA (by decide +kernel) (by decide +kernel) (Nat.le_of_ble_eq_true rfl) (Nat.le_of_ble_eq_true rfl) (Nat.le_of_ble_eq_true rfl) dX1_init_25 (fun q3 H hP hD hS => ?_)
  refine W.widen (k := 3) (n := 4171) (Nat.le_of_ble_eq_true rfl) (Nat.le_of_ble_eq_true rfl) ?_
  have hP : va_P D xG.1 [(h0, .inr (1, [.ref q1, .ref q2, .int 0, .int 0, .null, .null, .null, .int 0, .int 0, .int 0, .null, .int 0, .null, .int 0, .null, .null, .null, .int 0])), (q1, .inl (cA 0, 133, .inl (fun _ => 0))), (q2, .inl (cA 0, 3990, .inl (fun _ => 0))), (q3, .inl (cA 0, 48, .inl (fun _ => 0)))] H := hP
  have hD : va_D A [(h0, .inr (1, [.ref q1, .ref q2, .int 0, .int 0, .null, .null, .null, .int 0, .int 0, .int 0, .null, .int 0, .null, .int 0, .null, .null, .null, .int 0])), (q1, .inl (cA 0, 133, .inl (fun _ => 0))), (q2, .inl (cA 0, 3990, .inl (fun _ => 0))), (q3, .inl (cA 0, 48, .inl (fun _ => 0)))] := hD
  refine va_putF (D := D) (ci := 1) (v := .ref q3) (ty := (.array .int)) (C := RX1) (T := TX1) (N := 18) hx hb hts xin_1 tyX1 tyX1_ok nmX1 hown hK hP hD hS 0 rfl rfl 4 (by decide) (hts _ gw_152) (fun _ h9 => h9) rfl hin rfl (by decide +kernel) rfl rfl (Nat.le_of_ble_eq_true rfl) dX1_init_27 (fun H locs hP hD hS => ?_)
  have hP : va_P D xG.1 [(h0, .inr (1, [.ref q1, .ref q2, .int 0, .int 0, .ref q3, .null, .null, .int 0, .int 0, .int 0, .null, .int 0, .null, .int 0, .null, .null, .null, .int 0])), (q1, .inl (cA 0, 133, .inl (fun _ => 0))), (q2, .inl (cA 0, 3990, .inl (fun _ => 0))), (q3, .inl (cA 0, 48, .inl (fun _ => 0)))] H := hP
  have hD : va_D A [(h0, .inr (1, [.ref q1, .ref q2, .int 0, .int 0, .ref q3, .null, .null, .int 0, .int 0, .int 0, .null, .int 0, .null, .int 0, .null, .null, .null, .int 0])), (q1, .inl (cA 0, 133, .inl (fun _ => 0))), (q2, .inl (cA 0, 3990, .inl (fun _ => 0))), (q3, .inl (cA 0, 48, .inl (fun _ => 0)))] := hD
  refine lv_aload_n hx hb dX1_init_30 rfl (lv_at hl 0 rfl) ?_
  refine lv_bipush (v := 12) hx hb dX1_init_31 (by decide +kernel) ?_
  refine k_newa0 (N := 12) hx hb (hts _ gw_233) hK hP hD hS hA (by decide +kernel) (by decide +kernel) (Nat.le_of_ble_eq_true rfl) (Nat.le_of_ble_eq_true rfl) (Nat.le_of_ble_eq_true rfl) dX1_init_33 (fun q4 H hP hD hS => ?_)
  refine W.widen (k := 4) (n := 4183) (Nat.le_of_ble_eq_true rfl) (Nat.le_of_ble_eq_true rfl) ?_
  have hP : va_P D xG.1 [(h0, .inr (1, [.ref q1, .ref q2, .int 0, .int 0, .ref q3, .null, .null, .int 0, .int 0, .int 0, .null, .int 0, .null, .int 0, .null, .null, .null, .int 0])), (q1, .inl (cA 0, 133, .inl (fun _ => 0))), (q2, .inl (cA 0, 3990, .inl (fun _ => 0))), (q3, .inl (cA 0, 48, .inl (fun _ => 0))), (q4, .inl (cA 0, 12, .inl (fun _ => 0)))] H := hP
  have hD : va_D A [(h0, .inr (1, [.ref q1, .ref q2, .int 0, .int 0, .ref q3, .null, .null, .int 0, .int 0, .int 0, .null, .int 0, .null, .int 0, .null, .null, .null, .int 0])), (q1, .inl (cA 0, 133, .inl (fun _ => 0))), (q2, .inl (cA 0, 3990, .inl (fun _ => 0))), (q3, .inl (cA 0, 48, .inl (fun _ => 0))), (q4, .inl (cA 0, 12, .inl (fun _ => 0)))] := hD
  refine va_putF (D := D) (ci := 1) (v := .ref q4) (ty := (.array .int)) (C := RX1) (T := TX1) (N := 18) hx hb hts xin_1 tyX1 tyX1_ok nmX1 hown hK hP hD hS 0 rfl rfl 5 (by decide) (hts _ gw_155) (fun _ h9 => h9) rfl hin rfl (by decide +kernel) rfl rfl (Nat.le_of_ble_eq_true rfl) dX1_init_35 (fun H locs hP hD hS => ?_)
  have hP : va_P D xG.1 [(h0, .inr (1, [.ref q1, .ref q2, .int 0, .int 0, .ref q3, .ref q4, .null, .int 0, .int 0, .int 0, .null, .int 0, .null, .int 0, .null, .null, .null, .int 0])), (q1, .inl (cA 0, 133, .inl (fun _ => 0))), (q2, .inl (cA 0, 3990, .inl (fun _ => 0))), (q3, .inl (cA 0, 48, .inl (fun _ => 0))), (q4, .inl (cA 0, 12, .inl (fun _ => 0)))] H := hP
  have hD : va_D A [(h0, .inr (1, [.ref q1, .ref q2, .int 0, .int 0, .ref q3, .ref q4, .null, .int 0, .int 0, .int 0, .null, .int 0, .null, .int 0, .null, .null, .null, .int 0])), (q1, .inl (cA 0, 133, .inl (fun _ => 0))), (q2, .inl (cA 0, 3990, .inl (fun _ => 0))), (q3, .inl (cA 0, 48, .inl (fun _ => 0))), (q4, .inl (cA 0, 12, .inl (fun _ => 0)))] := hD
  refine lv_aload_n hx hb dX1_init_38 rfl (lv_at hl 0 rfl) ?_
  refine lv_bipush (v := 8) hx hb dX1_init_39 (by decide +kernel) ?_
  refine k_newa0 (N := 8) hx hb (hts _ gw_233) hK hP hD hS hA (by decide +kernel) (by decide +kernel) (Nat.le_of_ble_eq_true rfl) (Nat.le_of_ble_eq_true rfl) (Nat.le_of_ble_eq_true rfl) dX1_init_41 (fun q5 H hP hD hS => ?_)
  refine W.widen (k := 5) (n := 4191) (Nat.le_of_ble_eq_true rfl) (Nat.le_of_ble_eq_true rfl) ?_
  have hP : va_P D xG.1 [(h0, .inr (1, [.ref q1, .ref q2, .int 0, .int 0, .ref q3, .ref q4, .null, .int 0, .int 0, .int 0, .null, .int 0, .null, .int 0, .null, .null, .null, .int 0])), (q1, .inl (cA 0, 133, .inl (fun _ => 0))), (q2, .inl (cA 0, 3990, .inl (fun _ => 0))), (q3, .inl (cA 0, 48, .inl (fun _ => 0))), (q4, .inl (cA 0, 12, .inl (fun _ => 0))), (q5, .inl (cA 0, 8, .inl (fun _ => 0)))] H := hP
  have hD : va_D A [(h0, .inr (1, [.ref q1, .ref q2, .int 0, .int 0, .ref q3, .ref q4, .null, .int 0, .int 0, .int 0, .null, .int 0, .null, .int 0, .null, .null, .null, .int 0])), (q1, .inl (cA 0, 133, .inl (fun _ => 0))), (q2, .inl (cA 0, 3990, .inl (fun _ => 0))), (q3, .inl (cA 0, 48, .inl (fun _ => 0))), (q4, .inl (cA 0, 12, .inl (fun _ => 0))), (q5, .inl (cA 0, 8, .inl (fun _ => 0)))] := hD
  refine va_putF (D := D) (ci := 1) (v := .ref q5) (ty := (.array .int)) (C := RX1) (T := TX1) (N := 18) hx hb hts xin_1 tyX1 tyX1_ok nmX1 hown hK hP hD hS 0 rfl rfl 6 (by decide) (hts _ gw_161) (fun _ h9 => h9) rfl hin rfl (by decide +kernel) rfl rfl (Nat.le_of_ble_eq_true rfl) dX1_init_43 (fun H locs hP hD hS => ?_)
  have hP : va_P D xG.1 [(h0, .inr (1, [.ref q1, .ref q2, .int 0, .int 0, .ref q3, .ref q4, .ref q5, .int 0, .int 0, .int 0, .null, .int 0, .null, .int 0, .null, .null, .null, .int 0])), (q1, .inl (cA 0, 133, .inl (fun _ => 0))), (q2, .inl (cA 0, 3990, .inl (fun _ => 0))), (q3, .inl (cA 0, 48, .inl (fun _ => 0))), (q4, .inl (cA 0, 12, .inl (fun _ => 0))), (q5, .inl (cA 0, 8, .inl (fun _ => 0)))] H := hP
  have hD : va_D A [(h0, .inr (1, [.ref q1, .ref q2, .int 0, .int 0, .ref q3, .ref q4, .ref q5, .int 0, .int 0, .int 0, .null, .int 0, .null, .int 0, .null, .null, .null, .int 0])), (q1, .inl (cA 0, 133, .inl (fun _ => 0))), (q2, .inl (cA 0, 3990, .inl (fun _ => 0))), (q3, .inl (cA 0, 48, .inl (fun _ => 0))), (q4, .inl (cA 0, 12, .inl (fun _ => 0))), (q5, .inl (cA 0, 8, .inl (fun _ => 0)))] := hD
  refine lv_aload_n hx hb dX1_init_46 rfl (lv_at hl 0 rfl) ?_
  refine lv_iconst (v := (-1)) hx hb dX1_init_47 (by decide +kernel) ?_
  refine va_put (D := D) (ci := 1) (v := .int (-1)) (ty := .int) (C := RX1) (T := TX1) (N := 18) hx hb hts xin_1 tyX1 tyX1_ok nmX1 hown hK hP hD hS 0 rfl rfl 9 (by decide) (hts _ gw_170) (fun _ h9 => h9) rfl (by decide +kernel) rfl rfl (Nat.le_of_ble_eq_true rfl) dX1_init_48 (fun H locs hP hD hS => ?_)
  have hP : va_P D xG.1 [(h0, .inr (1, [.ref q1, .ref q2, .int 0, .int 0, .ref q3, .ref q4, .ref q5, .int 0, .int 0, .int (-1), .null, .int 0, .null, .int 0, .null, .null, .null, .int 0])), (q1, .inl (cA 0, 133, .inl (fun _ => 0))), (q2, .inl (cA 0, 3990, .inl (fun _ => 0))), (q3, .inl (cA 0, 48, .inl (fun _ => 0))), (q4, .inl (cA 0, 12, .inl (fun _ => 0))), (q5, .inl (cA 0, 8, .inl (fun _ => 0)))] H := hP
  have hD : va_D A [(h0, .inr (1, [.ref q1, .ref q2, .int 0, .int 0, .ref q3, .ref q4, .ref q5, .int 0, .int 0, .int (-1), .null, .int 0, .null, .int 0, .null, .null, .null, .int 0])), (q1, .inl (cA 0, 133, .inl (fun _ => 0))), (q2, .inl (cA 0, 3990, .inl (fun _ => 0))), (q3, .inl (cA 0, 48, .inl (fun _ => 0))), (q4, .inl (cA 0, 12, .inl (fun _ => 0))), (q5, .inl (cA 0, 8, .inl (fun _ => 0)))] := hD
  refine lv_aload_n hx hb dX1_init_51 rfl (lv_at hl 0 rfl) ?_
  refine lv_bipush (v := 12) hx hb dX1_init_52 (by decide +kernel) ?_
  refine k_newa0 (N := 12) hx hb (hts _ gw_233) hK hP hD hS hA (by decide +kernel) (by decide +kernel) (Nat.le_of_ble_eq_true rfl) (Nat.le_of_ble_eq_true rfl) (Nat.le_of_ble_eq_true rfl) dX1_init_54 (fun q6 H hP hD hS => ?_)
  refine W.widen (k := 6) (n := 4203) (Nat.le_of_ble_eq_true rfl) (Nat.le_of_ble_eq_true rfl) ?_
  have hP : va_P D xG.1 [(h0, .inr (1, [.ref q1, .ref q2, .int 0, .int 0, .ref q3, .ref q4, .ref q5, .int 0, .int 0, .int (-1), .null, .int 0, .null, .int 0, .null, .null, .null, .int 0])), (q1, .inl (cA 0, 133, .inl (fun _ => 0))), (q2, .inl (cA 0, 3990, .inl (fun _ => 0))), (q3, .inl (cA 0, 48, .inl (fun _ => 0))), (q4, .inl (cA 0, 12, .inl (fun _ => 0))), (q5, .inl (cA 0, 8, .inl (fun _ => 0))), (q6, .inl (cA 0, 12, .inl (fun _ => 0)))] H := hP
  have hD : va_D A [(h0, .inr (1, [.ref q1, .ref q2, .int 0, .int 0, .ref q3, .ref q4, .ref q5, .int 0, .int 0, .int (-1), .null, .int 0, .null, .int 0, .null, .null, .null, .int 0])), (q1, .inl (cA 0, 133, .inl (fun _ => 0))), (q2, .inl (cA 0, 3990, .inl (fun _ => 0))), (q3, .inl (cA 0, 48, .inl (fun _ => 0))), (q4, .inl (cA 0, 12, .inl (fun _ => 0))), (q5, .inl (cA 0, 8, .inl (fun _ => 0))), (q6, .inl (cA 0, 12, .inl (fun _ => 0)))] := hD
  refine va_putF (D := D) (ci := 1) (v := .ref q6) (ty := (.array .int)) (C := RX1) (T := TX1) (N := 18) hx hb hts xin_1 tyX1 tyX1_ok nmX1 hown hK hP hD hS 0 rfl rfl 10 (by decide) (hts _ gw_174) (fun _ h9 => h9) rfl hin rfl (by decide +kernel) rfl rfl (Nat.le_of_ble_eq_true rfl) dX1_init_56 (fun H locs hP hD hS => ?_)
  have hP : va_P D xG.1 [(h0, .inr (1, [.ref q1, .ref q2, .int 0, .int 0, .ref q3, .ref q4, .ref q5, .int 0, .int 0, .int (-1), .ref q6, .int 0, .null, .int 0, .null, .null, .null, .int 0])), (q1, .inl (cA 0, 133, .inl (fun _ => 0))), (q2, .inl (cA 0, 3990, .inl (fun _ => 0))), (q3, .inl (cA 0, 48, .inl (fun _ => 0))), (q4, .inl (cA 0, 12, .inl (fun _ => 0))), (q5, .inl (cA 0, 8, .inl (fun _ => 0))), (q6, .inl (cA 0, 12, .inl (fun _ => 0)))] H := hP
  have hD : va_D A [(h0, .inr (1, [.ref q1, .ref q2, .int 0, .int 0, .ref q3, .ref q4, .ref q5, .int 0, .int 0, .int (-1), .ref q6, .int 0, .null, .int 0, .null, .null, .null, .int 0])), (q1, .inl (cA 0, 133, .inl (fun _ => 0))), (q2, .inl (cA 0, 3990, .inl (fun _ => 0))), (q3, .inl (cA 0, 48, .inl (fun _ => 0))), (q4, .inl (cA 0, 12, .inl (fun _ => 0))), (q5, .inl (cA 0, 8, .inl (fun _ => 0))), (q6, .inl (cA 0, 12, .inl (fun _ => 0)))] := hD
  refine lv_aload_n hx hb dX1_init_59 rfl (lv_at hl 0 rfl) ?_
  refine lv_iconst (v := 4) hx hb dX1_init_60 (by decide +kernel) ?_
  refine k_newa0 (N := 4) hx hb (hts _ gw_233) hK hP hD hS hA (by decide +kernel) (by decide +kernel) (Nat.le_of_ble_eq_true rfl) (Nat.le_of_ble_eq_true rfl) (Nat.le_of_ble_eq_true rfl) dX1_init_61 (fun q7 H hP hD hS => ?_)
  refine W.widen (k := 7) (n := 4207) (Nat.le_of_ble_eq_true rfl) (Nat.le_of_ble_eq_true rfl) ?_
  have hP : va_P D xG.1 [(h0, .inr (1, [.ref q1, .ref q2, .int 0, .int 0, .ref q3, .ref q4, .ref q5, .int 0, .int 0, .int (-1), .ref q6, .int 0, .null, .int 0, .null, .null, .null, .int 0])), (q1, .inl (cA 0, 133, .inl (fun _ => 0))), (q2, .inl (cA 0, 3990, .inl (fun _ => 0))), (q3, .inl (cA 0, 48, .inl (fun _ => 0))), (q4, .inl (cA 0, 12, .inl (fun _ => 0))), (q5, .inl (cA 0, 8, .inl (fun _ => 0))), (q6, .inl (cA 0, 12, .inl (fun _ => 0))), (q7, .inl (cA 0, 4, .inl (fun _ => 0)))] H := hP
  have hD : va_D A [(h0, .inr (1, [.ref q1, .ref q2, .int 0, .int 0, .ref q3, .ref q4, .ref q5, .int 0, .int 0, .int (-1), .ref q6, .int 0, .null, .int 0, .null, .null, .null, .int 0])), (q1, .inl (cA 0, 133, .inl (fun _ => 0))), (q2, .inl (cA 0, 3990, .inl (fun _ => 0))), (q3, .inl (cA 0, 48, .inl (fun _ => 0))), (q4, .inl (cA 0, 12, .inl (fun _ => 0))), (q5, .inl (cA 0, 8, .inl (fun _ => 0))), (q6, .inl (cA 0, 12, .inl (fun _ => 0))), (q7, .inl (cA 0, 4, .inl (fun _ => 0)))] := hD
  refine lv_dup hx hb dX1_init_63 rfl ?_
  refine lv_iconst (v := 0) hx hb dX1_init_64 (by decide +kernel) ?_
  refine lv_bipush (v := 7) hx hb dX1_init_65 (by decide +kernel) ?_
  refine k_iast (k := 0) hx hb hK hP hD hS 7 rfl (by decide +kernel) (Nat.le_of_ble_eq_true rfl) dX1_init_67 (fun H locs hP hD hS => ?_)
  generalize hg1 : upd (fun _ => 0) 0 7 = g1 at hP hD
  have hP : va_P D xG.1 [(h0, .inr (1, [.ref q1, .ref q2, .int 0, .int 0, .ref q3, .ref q4, .ref q5, .int 0, .int 0, .int (-1), .ref q6, .int 0, .null, .int 0, .null, .null, .null, .int 0])), (q1, .inl (cA 0, 133, .inl (fun _ => 0))), (q2, .inl (cA 0, 3990, .inl (fun _ => 0))), (q3, .inl (cA 0, 48, .inl (fun _ => 0))), (q4, .inl (cA 0, 12, .inl (fun _ => 0))), (q5, .inl (cA 0, 8, .inl (fun _ => 0))), (q6, .inl (cA 0, 12, .inl (fun _ => 0))), (q7, .inl (cA 0, 4, .inl g1))] H := hP
  have hD : va_D A [(h0, .inr (1, [.ref q1, .ref q2, .int 0, .int 0, .ref q3, .ref q4, .ref q5, .int 0, .int 0, .int (-1), .ref q6, .int 0, .null, .int 0, .null, .null, .null, .int 0])), (q1, .inl (cA 0, 133, .inl (fun _ => 0))), (q2, .inl (cA 0, 3990, .inl (fun _ => 0))), (q3, .inl (cA 0, 48, .inl (fun _ => 0))), (q4, .inl (cA 0, 12, .inl (fun _ => 0))), (q5, .inl (cA 0, 8, .inl (fun _ => 0))), (q6, .inl (cA 0, 12, .inl (fun _ => 0))), (q7, .inl (cA 0, 4, .inl g1))] := hD
  refine lv_dup hx hb dX1_init_68 rfl ?_
  refine lv_iconst (v := 1) hx hb dX1_init_69 (by decide +kernel) ?_
  refine lv_iconst (v := 1) hx hb dX1_init_70 (by decide +kernel) ?_
  refine k_iast (k := 1) hx hb hK hP hD hS 7 rfl (by decide +kernel) (Nat.le_of_ble_eq_true rfl) dX1_init_71 (fun H locs hP hD hS => ?_)
  generalize hg2 : upd g1 1 1 = g2 at hP hD
  have hP : va_P D xG.1 [(h0, .inr (1, [.ref q1, .ref q2, .int 0, .int 0, .ref q3, .ref q4, .ref q5, .int 0, .int 0, .int (-1), .ref q6, .int 0, .null, .int 0, .null, .null, .null, .int 0])), (q1, .inl (cA 0, 133, .inl (fun _ => 0))), (q2, .inl (cA 0, 3990, .inl (fun _ => 0))), (q3, .inl (cA 0, 48, .inl (fun _ => 0))), (q4, .inl (cA 0, 12, .inl (fun _ => 0))), (q5, .inl (cA 0, 8, .inl (fun _ => 0))), (q6, .inl (cA 0, 12, .inl (fun _ => 0))), (q7, .inl (cA 0, 4, .inl g2))] H := hP
  have hD : va_D A [(h0, .inr (1, [.ref q1, .ref q2, .int 0, .int 0, .ref q3, .ref q4, .ref q5, .int 0, .int 0, .int (-1), .ref q6, .int 0, .null, .int 0, .null, .null, .null, .int 0])), (q1, .inl (cA 0, 133, .inl (fun _ => 0))), (q2, .inl (cA 0, 3990, .inl (fun _ => 0))), (q3, .inl (cA 0, 48, .inl (fun _ => 0))), (q4, .inl (cA 0, 12, .inl (fun _ => 0))), (q5, .inl (cA 0, 8, .inl (fun _ => 0))), (q6, .inl (cA 0, 12, .inl (fun _ => 0))), (q7, .inl (cA 0, 4, .inl g2))] := hD
  refine lv_dup hx hb dX1_init_72 rfl ?_
  refine lv_iconst (v := 2) hx hb dX1_init_73 (by decide +kernel) ?_
  refine lv_iconst (v := 1) hx hb dX1_init_74 (by decide +kernel) ?_
  refine k_iast (k := 2) hx hb hK hP hD hS 7 rfl (by decide +kernel) (Nat.le_of_ble_eq_true rfl) dX1_init_75 (fun H locs hP hD hS => ?_)
  generalize hg3 : upd g2 2 1 = g3 at hP hD
  have hP : va_P D xG.1 [(h0, .inr (1, [.ref q1, .ref q2, .int 0, .int 0, .ref q3, .ref q4, .ref q5, .int 0, .int 0, .int (-1), .ref q6, .int 0, .null, .int 0, .null, .null, .null, .int 0])), (q1, .inl (cA 0, 133, .inl (fun _ => 0))), (q2, .inl (cA 0, 3990, .inl (fun _ => 0))), (q3, .inl (cA 0, 48, .inl (fun _ => 0))), (q4, .inl (cA 0, 12, .inl (fun _ => 0))), (q5, .inl (cA 0, 8, .inl (fun _ => 0))), (q6, .inl (cA 0, 12, .inl (fun _ => 0))), (q7, .inl (cA 0, 4, .inl g3))] H := hP
  have hD : va_D A [(h0, .inr (1, [.ref q1, .ref q2, .int 0, .int 0, .ref q3, .ref q4, .ref q5, .int 0, .int 0, .int (-1), .ref q6, .int 0, .null, .int 0, .null, .null, .null, .int 0])), (q1, .inl (cA 0, 133, .inl (fun _ => 0))), (q2, .inl (cA 0, 3990, .inl (fun _ => 0))), (q3, .inl (cA 0, 48, .inl (fun _ => 0))), (q4, .inl (cA 0, 12, .inl (fun _ => 0))), (q5, .inl (cA 0, 8, .inl (fun _ => 0))), (q6, .inl (cA 0, 12, .inl (fun _ => 0))), (q7, .inl (cA 0, 4, .inl g3))] := hD
  refine lv_dup hx hb dX1_init_76 rfl ?_
  refine lv_iconst (v := 3) hx hb dX1_init_77 (by decide +kernel) ?_
  refine lv_iconst (v := 1) hx hb dX1_init_78 (by decide +kernel) ?_
  refine k_iast (k := 3) hx hb hK hP hD hS 7 rfl (by decide +kernel) (Nat.le_of_ble_eq_true rfl) dX1_init_79 (fun H locs hP hD hS => ?_)
  generalize hg4 : upd g3 3 1 = g4 at hP hD
  have hP : va_P D xG.1 [(h0, .inr (1, [.ref q1, .ref q2, .int 0, .int 0, .ref q3, .ref q4, .ref q5, .int 0, .int 0, .int (-1), .ref q6, .int 0, .null, .int 0, .null, .null, .null, .int 0])), (q1, .inl (cA 0, 133, .inl (fun _ => 0))), (q2, .inl (cA 0, 3990, .inl (fun _ => 0))), (q3, .inl (cA 0, 48, .inl (fun _ => 0))), (q4, .inl (cA 0, 12, .inl (fun _ => 0))), (q5, .inl (cA 0, 8, .inl (fun _ => 0))), (q6, .inl (cA 0, 12, .inl (fun _ => 0))), (q7, .inl (cA 0, 4, .inl g4))] H := hP
  have hD : va_D A [(h0, .inr (1, [.ref q1, .ref q2, .int 0, .int 0, .ref q3, .ref q4, .ref q5, .int 0, .int 0, .int (-1), .ref q6, .int 0, .null, .int 0, .null, .null, .null, .int 0])), (q1, .inl (cA 0, 133, .inl (fun _ => 0))), (q2, .inl (cA 0, 3990, .inl (fun _ => 0))), (q3, .inl (cA 0, 48, .inl (fun _ => 0))), (q4, .inl (cA 0, 12, .inl (fun _ => 0))), (q5, .inl (cA 0, 8, .inl (fun _ => 0))), (q6, .inl (cA 0, 12, .inl (fun _ => 0))), (q7, .inl (cA 0, 4, .inl g4))] := hD
  refine va_putF (D := D) (ci := 1) (v := .ref q7) (ty := (.array .int)) (C := RX1) (T := TX1) (N := 18) hx hb hts xin_1 tyX1 tyX1_ok nmX1 hown hK hP hD hS 0 rfl rfl 12 (by decide) (hts _ gw_178) (fun _ h9 => h9) rfl hin rfl (by decide +kernel) rfl rfl (Nat.le_of_ble_eq_true rfl) dX1_init_80 (fun H locs hP hD hS => ?_)
  have hP : va_P D xG.1 [(h0, .inr (1, [.ref q1, .ref q2, .int 0, .int 0, .ref q3, .ref q4, .ref q5, .int 0, .int 0, .int (-1), .ref q6, .int 0, .ref q7, .int 0, .null, .null, .null, .int 0])), (q1, .inl (cA 0, 133, .inl (fun _ => 0))), (q2, .inl (cA 0, 3990, .inl (fun _ => 0))), (q3, .inl (cA 0, 48, .inl (fun _ => 0))), (q4, .inl (cA 0, 12, .inl (fun _ => 0))), (q5, .inl (cA 0, 8, .inl (fun _ => 0))), (q6, .inl (cA 0, 12, .inl (fun _ => 0))), (q7, .inl (cA 0, 4, .inl g4))] H := hP
  have hD : va_D A [(h0, .inr (1, [.ref q1, .ref q2, .int 0, .int 0, .ref q3, .ref q4, .ref q5, .int 0, .int 0, .int (-1), .ref q6, .int 0, .ref q7, .int 0, .null, .null, .null, .int 0])), (q1, .inl (cA 0, 133, .inl (fun _ => 0))), (q2, .inl (cA 0, 3990, .inl (fun _ => 0))), (q3, .inl (cA 0, 48, .inl (fun _ => 0))), (q4, .inl (cA 0, 12, .inl (fun _ => 0))), (q5, .inl (cA 0, 8, .inl (fun _ => 0))), (q6, .inl (cA 0, 12, .inl (fun _ => 0))), (q7, .inl (cA 0, 4, .inl g4))] := hD
  refine lv_aload_n hx hb dX1_init_83 rfl (lv_at hl 0 rfl) ?_
  refine lv_sipush (v := 4095) hx hb dX1_init_84 (by decide +kernel) ?_
  refine va_put (D := D) (ci := 1) (v := .int 4095) (ty := .int) (C := RX1) (T := TX1) (N := 18) hx hb hts xin_1 tyX1 tyX1_ok nmX1 hown hK hP hD hS 0 rfl rfl 13 (by decide) (hts _ gw_181) (fun _ h9 => h9) rfl (by decide +kernel) rfl rfl (Nat.le_of_ble_eq_true rfl) dX1_init_87 (fun H locs hP hD hS => ?_)
  have hP : va_P D xG.1 [(h0, .inr (1, [.ref q1, .ref q2, .int 0, .int 0, .ref q3, .ref q4, .ref q5, .int 0, .int 0, .int (-1), .ref q6, .int 0, .ref q7, .int 4095, .null, .null, .null, .int 0])), (q1, .inl (cA 0, 133, .inl (fun _ => 0))), (q2, .inl (cA 0, 3990, .inl (fun _ => 0))), (q3, .inl (cA 0, 48, .inl (fun _ => 0))), (q4, .inl (cA 0, 12, .inl (fun _ => 0))), (q5, .inl (cA 0, 8, .inl (fun _ => 0))), (q6, .inl (cA 0, 12, .inl (fun _ => 0))), (q7, .inl (cA 0, 4, .inl g4))] H := hP
  have hD : va_D A [(h0, .inr (1, [.ref q1, .ref q2, .int 0, .int 0, .ref q3, .ref q4, .ref q5, .int 0, .int 0, .int (-1), .ref q6, .int 0, .ref q7, .int 4095, .null, .null, .null, .int 0])), (q1, .inl (cA 0, 133, .inl (fun _ => 0))), (q2, .inl (cA 0, 3990, .inl (fun _ => 0))), (q3, .inl (cA 0, 48, .inl (fun _ => 0))), (q4, .inl (cA 0, 12, .inl (fun _ => 0))), (q5, .inl (cA 0, 8, .inl (fun _ => 0))), (q6, .inl (cA 0, 12, .inl (fun _ => 0))), (q7, .inl (cA 0, 4, .inl g4))] := hD
  refine lv_aload_n hx hb dX1_init_90 rfl (lv_at hl 0 rfl) ?_
  refine lv_bipush (v := 40) hx hb dX1_init_91 (by decide +kernel) ?_
  refine k_newa0 (N := 40) hx hb (hts _ gw_233) hK hP hD hS hA (by decide +kernel) (by decide +kernel) (Nat.le_of_ble_eq_true rfl) (Nat.le_of_ble_eq_true rfl) (Nat.le_of_ble_eq_true rfl) dX1_init_93 (fun q8 H hP hD hS => ?_)
  refine W.widen (k := 8) (n := 4247) (Nat.le_of_ble_eq_true rfl) (Nat.le_of_ble_eq_true rfl) ?_
  have hP : va_P D xG.1 [(h0, .inr (1, [.ref q1, .ref q2, .int 0, .int 0, .ref q3, .ref q4, .ref q5, .int 0, .int 0, .int (-1), .ref q6, .int 0, .ref q7, .int 4095, .null, .null, .null, .int 0])), (q1, .inl (cA 0, 133, .inl (fun _ => 0))), (q2, .inl (cA 0, 3990, .inl (fun _ => 0))), (q3, .inl (cA 0, 48, .inl (fun _ => 0))), (q4, .inl (cA 0, 12, .inl (fun _ => 0))), (q5, .inl (cA 0, 8, .inl (fun _ => 0))), (q6, .inl (cA 0, 12, .inl (fun _ => 0))), (q7, .inl (cA 0, 4, .inl g4)), (q8, .inl (cA 0, 40, .inl (fun _ => 0)))] H := hP
  have hD : va_D A [(h0, .inr (1, [.ref q1, .ref q2, .int 0, .int 0, .ref q3, .ref q4, .ref q5, .int 0, .int 0, .int (-1), .ref q6, .int 0, .ref q7, .int 4095, .null, .null, .null, .int 0])), (q1, .inl (cA 0, 133, .inl (fun _ => 0))), (q2, .inl (cA 0, 3990, .inl (fun _ => 0))), (q3, .inl (cA 0, 48, .inl (fun _ => 0))), (q4, .inl (cA 0, 12, .inl (fun _ => 0))), (q5, .inl (cA 0, 8, .inl (fun _ => 0))), (q6, .inl (cA 0, 12, .inl (fun _ => 0))), (q7, .inl (cA 0, 4, .inl g4)), (q8, .inl (cA 0, 40, .inl (fun _ => 0)))] := hD
  refine va_putF (D := D) (ci := 1) (v := .ref q8) (ty := (.array .int)) (C := RX1) (T := TX1) (N := 18) hx hb hts xin_1 tyX1 tyX1_ok nmX1 hown hK hP hD hS 0 rfl rfl 14 (by decide) (hts _ gw_184) (fun _ h9 => h9) rfl hin rfl (by decide +kernel) rfl rfl (Nat.le_of_ble_eq_true rfl) dX1_init_95 (fun H locs hP hD hS => ?_)
  have hP : va_P D xG.1 [(h0, .inr (1, [.ref q1, .ref q2, .int 0, .int 0, .ref q3, .ref q4, .ref q5, .int 0, .int 0, .int (-1), .ref q6, .int 0, .ref q7, .int 4095, .ref q8, .null, .null, .int 0])), (q1, .inl (cA 0, 133, .inl (fun _ => 0))), (q2, .inl (cA 0, 3990, .inl (fun _ => 0))), (q3, .inl (cA 0, 48, .inl (fun _ => 0))), (q4, .inl (cA 0, 12, .inl (fun _ => 0))), (q5, .inl (cA 0, 8, .inl (fun _ => 0))), (q6, .inl (cA 0, 12, .inl (fun _ => 0))), (q7, .inl (cA 0, 4, .inl g4)), (q8, .inl (cA 0, 40, .inl (fun _ => 0)))] H := hP
  have hD : va_D A [(h0, .inr (1, [.ref q1, .ref q2, .int 0, .int 0, .ref q3, .ref q4, .ref q5, .int 0, .int 0, .int (-1), .ref q6, .int 0, .ref q7, .int 4095, .ref q8, .null, .null, .int 0])), (q1, .inl (cA 0, 133, .inl (fun _ => 0))), (q2, .inl (cA 0, 3990, .inl (fun _ => 0))), (q3, .inl (cA 0, 48, .inl (fun _ => 0))), (q4, .inl (cA 0, 12, .inl (fun _ => 0))), (q5, .inl (cA 0, 8, .inl (fun _ => 0))), (q6, .inl (cA 0, 12, .inl (fun _ => 0))), (q7, .inl (cA 0, 4, .inl g4)), (q8, .inl (cA 0, 40, .inl (fun _ => 0)))] := hD
  refine lv_aload_n hx hb dX1_init_98 rfl (lv_at hl 0 rfl) ?_
  refine lv_bipush (v := 8) hx hb dX1_init_99 (by decide +kernel) ?_
  refine k_newa0 (N := 8) hx hb (hts _ gw_233) hK hP hD hS hA (by decide +kernel) (by decide +kernel) (Nat.le_of_ble_eq_true rfl) (Nat.le_of_ble_eq_true rfl) (Nat.le_of_ble_eq_true rfl) dX1_init_101 (fun q9 H hP hD hS => ?_)
  refine W.widen (k := 9) (n := 4255) (Nat.le_of_ble_eq_true rfl) (Nat.le_of_ble_eq_true rfl) ?_
  have hP : va_P D xG.1 [(h0, .inr (1, [.ref q1, .ref q2, .int 0, .int 0, .ref q3, .ref q4, .ref q5, .int 0, .int 0, .int (-1), .ref q6, .int 0, .ref q7, .int 4095, .ref q8, .null, .null, .int 0])), (q1, .inl (cA 0, 133, .inl (fun _ => 0))), (q2, .inl (cA 0, 3990, .inl (fun _ => 0))), (q3, .inl (cA 0, 48, .inl (fun _ => 0))), (q4, .inl (cA 0, 12, .inl (fun _ => 0))), (q5, .inl (cA 0, 8, .inl (fun _ => 0))), (q6, .inl (cA 0, 12, .inl (fun _ => 0))), (q7, .inl (cA 0, 4, .inl g4)), (q8, .inl (cA 0, 40, .inl (fun _ => 0))), (q9, .inl (cA 0, 8, .inl (fun _ => 0)))] H := hP
  have hD : va_D A [(h0, .inr (1, [.ref q1, .ref q2, .int 0, .int 0, .ref q3, .ref q4, .ref q5, .int 0, .int 0, .int (-1), .ref q6, .int 0, .ref q7, .int 4095, .ref q8, .null, .null, .int 0])), (q1, .inl (cA 0, 133, .inl (fun _ => 0))), (q2, .inl (cA 0, 3990, .inl (fun _ => 0))), (q3, .inl (cA 0, 48, .inl (fun _ => 0))), (q4, .inl (cA 0, 12, .inl (fun _ => 0))), (q5, .inl (cA 0, 8, .inl (fun _ => 0))), (q6, .inl (cA 0, 12, .inl (fun _ => 0))), (q7, .inl (cA 0, 4, .inl g4)), (q8, .inl (cA 0, 40, .inl (fun _ => 0))), (q9, .inl (cA 0, 8, .inl (fun _ => 0)))] := hD
  refine va_putF (D := D) (ci := 1) (v := .ref q9) (ty := (.array .int)) (C := RX1) (T := TX1) (N := 18) hx hb hts xin_1 tyX1 tyX1_ok nmX1 hown hK hP hD hS 0 rfl rfl 15 (by decide) (hts _ gw_187) (fun _ h9 => h9) rfl hin rfl (by decide +kernel) rfl rfl (Nat.le_of_ble_eq_true rfl) dX1_init_103 (fun H locs hP hD hS => ?_)
  have hP : va_P D xG.1 [(h0, .inr (1, [.ref q1, .ref q2, .int 0, .int 0, .ref q3, .ref q4, .ref q5, .int 0, .int 0, .int (-1), .ref q6, .int 0, .ref q7, .int 4095, .ref q8, .ref q9, .null, .int 0])), (q1, .inl (cA 0, 133, .inl (fun _ => 0))), (q2, .inl (cA 0, 3990, .inl (fun _ => 0))), (q3, .inl (cA 0, 48, .inl (fun _ => 0))), (q4, .inl (cA 0, 12, .inl (fun _ => 0))), (q5, .inl (cA 0, 8, .inl (fun _ => 0))), (q6, .inl (cA 0, 12, .inl (fun _ => 0))), (q7, .inl (cA 0, 4, .inl g4)), (q8, .inl (cA 0, 40, .inl (fun _ => 0))), (q9, .inl (cA 0, 8, .inl (fun _ => 0)))] H := hP
  have hD : va_D A [(h0, .inr (1, [.ref q1, .ref q2, .int 0, .int 0, .ref q3, .ref q4, .ref q5, .int 0, .int 0, .int (-1), .ref q6, .int 0, .ref q7, .int 4095, .ref q8, .ref q9, .null, .int 0])), (q1, .inl (cA 0, 133, .inl (fun _ => 0))), (q2, .inl (cA 0, 3990, .inl (fun _ => 0))), (q3, .inl (cA 0, 48, .inl (fun _ => 0))), (q4, .inl (cA 0, 12, .inl (fun _ => 0))), (q5, .inl (cA 0, 8, .inl (fun _ => 0))), (q6, .inl (cA 0, 12, .inl (fun _ => 0))), (q7, .inl (cA 0, 4, .inl g4)), (q8, .inl (cA 0, 40, .inl (fun _ => 0))), (q9, .inl (cA 0, 8, .inl (fun _ => 0)))] := hD
  refine lv_aload_n hx hb dX1_init_106 rfl (lv_at hl 0 rfl) ?_
  refine lv_bipush (v := 8) hx hb dX1_init_107 (by decide +kernel) ?_
  refine k_newa0 (N := 8) hx hb (hts _ gw_233) hK hP hD hS hA (by decide +kernel) (by decide +kernel) (Nat.le_of_ble_eq_true rfl) (Nat.le_of_ble_eq_true rfl) (Nat.le_of_ble_eq_true rfl) dX1_init_109 (fun q10 H hP hD hS => ?_)
  refine W.widen (k := 10) (n := 4263) (Nat.le_of_ble_eq_true rfl) (Nat.le_of_ble_eq_true rfl) ?_
  have hP : va_P D xG.1 [(h0, .inr (1, [.ref q1, .ref q2, .int 0, .int 0, .ref q3, .ref q4, .ref q5, .int 0, .int 0, .int (-1), .ref q6, .int 0, .ref q7, .int 4095, .ref q8, .ref q9, .null, .int 0])), (q1, .inl (cA 0, 133, .inl (fun _ => 0))), (q2, .inl (cA 0, 3990, .inl (fun _ => 0))), (q3, .inl (cA 0, 48, .inl (fun _ => 0))), (q4, .inl (cA 0, 12, .inl (fun _ => 0))), (q5, .inl (cA 0, 8, .inl (fun _ => 0))), (q6, .inl (cA 0, 12, .inl (fun _ => 0))), (q7, .inl (cA 0, 4, .inl g4)), (q8, .inl (cA 0, 40, .inl (fun _ => 0))), (q9, .inl (cA 0, 8, .inl (fun _ => 0))), (q10, .inl (cA 0, 8, .inl (fun _ => 0)))] H := hP
  have hD : va_D A [(h0, .inr (1, [.ref q1, .ref q2, .int 0, .int 0, .ref q3, .ref q4, .ref q5, .int 0, .int 0, .int (-1), .ref q6, .int 0, .ref q7, .int 4095, .ref q8, .ref q9, .null, .int 0])), (q1, .inl (cA 0, 133, .inl (fun _ => 0))), (q2, .inl (cA 0, 3990, .inl (fun _ => 0))), (q3, .inl (cA 0, 48, .inl (fun _ => 0))), (q4, .inl (cA 0, 12, .inl (fun _ => 0))), (q5, .inl (cA 0, 8, .inl (fun _ => 0))), (q6, .inl (cA 0, 12, .inl (fun _ => 0))), (q7, .inl (cA 0, 4, .inl g4)), (q8, .inl (cA 0, 40, .inl (fun _ => 0))), (q9, .inl (cA 0, 8, .inl (fun _ => 0))), (q10, .inl (cA 0, 8, .inl (fun _ => 0)))] := hD
  refine va_putF (D := D) (ci := 1) (v := .ref q10) (ty := (.array .int)) (C := RX1) (T := TX1) (N := 18) hx hb hts xin_1 tyX1 tyX1_ok nmX1 hown hK hP hD hS 0 rfl rfl 16 (by decide) (hts _ gw_190) (fun _ h9 => h9) rfl hin rfl (by decide +kernel) rfl rfl (Nat.le_of_ble_eq_true rfl) dX1_init_111 (fun H locs hP hD hS => ?_)
  have hP : va_P D xG.1 [(h0, .inr (1, [.ref q1, .ref q2, .int 0, .int 0, .ref q3, .ref q4, .ref q5, .int 0, .int 0, .int (-1), .ref q6, .int 0, .ref q7, .int 4095, .ref q8, .ref q9, .ref q10, .int 0])), (q1, .inl (cA 0, 133, .inl (fun _ => 0))), (q2, .inl (cA 0, 3990, .inl (fun _ => 0))), (q3, .inl (cA 0, 48, .inl (fun _ => 0))), (q4, .inl (cA 0, 12, .inl (fun _ => 0))), (q5, .inl (cA 0, 8, .inl (fun _ => 0))), (q6, .inl (cA 0, 12, .inl (fun _ => 0))), (q7, .inl (cA 0, 4, .inl g4)), (q8, .inl (cA 0, 40, .inl (fun _ => 0))), (q9, .inl (cA 0, 8, .inl (fun _ => 0))), (q10, .inl (cA 0, 8, .inl (fun _ => 0)))] H := hP
  have hD : va_D A [(h0, .inr (1, [.ref q1, .ref q2, .int 0, .int 0, .ref q3, .ref q4, .ref q5, .int 0, .int 0, .int (-1), .ref q6, .int 0, .ref q7, .int 4095, .ref q8, .ref q9, .ref q10, .int 0])), (q1, .inl (cA 0, 133, .inl (fun _ => 0))), (q2, .inl (cA 0, 3990, .inl (fun _ => 0))), (q3, .inl (cA 0, 48, .inl (fun _ => 0))), (q4, .inl (cA 0, 12, .inl (fun _ => 0))), (q5, .inl (cA 0, 8, .inl (fun _ => 0))), (q6, .inl (cA 0, 12, .inl (fun _ => 0))), (q7, .inl (cA 0, 4, .inl g4)), (q8, .inl (cA 0, 40, .inl (fun _ => 0))), (q9, .inl (cA 0, 8, .inl (fun _ => 0))), (q10, .inl (cA 0, 8, .inl (fun _ => 0)))] := hD
  refine lv_aload_n hx hb dX1_init_114 rfl (lv_at hl 0 rfl) ?_
  refine va_get (D := D) (ci := 1) (v := .ref q1) (C := RX1) (T := TX1) (N := 18) hx hb hts xin_1 hown hK hP 0 rfl rfl 0 (by decide) (hts _ gw_144) (fun _ h9 => h9) rfl dX1_init_115 ?_
  refine lv_bipush (v := 42) hx hb dX1_init_118 (by decide +kernel) ?_
  refine lv_sipush (v := 199) hx hb dX1_init_120 (by decide +kernel) ?_
  refine k_iast (k := 42) hx hb hK hP hD hS 1 rfl (by decide +kernel) (Nat.le_of_ble_eq_true rfl) dX1_init_123 (fun H locs hP hD hS => ?_)
  generalize hg5 : upd (fun _ => 0) 42 199 = g5 at hP hD
  have hP : va_P D xG.1 [(h0, .inr (1, [.ref q1, .ref q2, .int 0, .int 0, .ref q3, .ref q4, .ref q5, .int 0, .int 0, .int (-1), .ref q6, .int 0, .ref q7, .int 4095, .ref q8, .ref q9, .ref q10, .int 0])), (q1, .inl (cA 0, 133, .inl g5)), (q2, .inl (cA 0, 3990, .inl (fun _ => 0))), (q3, .inl (cA 0, 48, .inl (fun _ => 0))), (q4, .inl (cA 0, 12, .inl (fun _ => 0))), (q5, .inl (cA 0, 8, .inl (fun _ => 0))), (q6, .inl (cA 0, 12, .inl (fun _ => 0))), (q7, .inl (cA 0, 4, .inl g4)), (q8, .inl (cA 0, 40, .inl (fun _ => 0))), (q9, .inl (cA 0, 8, .inl (fun _ => 0))), (q10, .inl (cA 0, 8, .inl (fun _ => 0)))] H := hP
  have hD : va_D A [(h0, .inr (1, [.ref q1, .ref q2, .int 0, .int 0, .ref q3, .ref q4, .ref q5, .int 0, .int 0, .int (-1), .ref q6, .int 0, .ref q7, .int 4095, .ref q8, .ref q9, .ref q10, .int 0])), (q1, .inl (cA 0, 133, .inl g5)), (q2, .inl (cA 0, 3990, .inl (fun _ => 0))), (q3, .inl (cA 0, 48, .inl (fun _ => 0))), (q4, .inl (cA 0, 12, .inl (fun _ => 0))), (q5, .inl (cA 0, 8, .inl (fun _ => 0))), (q6, .inl (cA 0, 12, .inl (fun _ => 0))), (q7, .inl (cA 0, 4, .inl g4)), (q8, .inl (cA 0, 40, .inl (fun _ => 0))), (q9, .inl (cA 0, 8, .inl (fun _ => 0))), (q10, .inl (cA 0, 8, .inl (fun _ => 0)))] := hD
  refine lv_iconst (v := 0) hx hb dX1_init_124 (by decide +kernel) ?_
  refine lv_istore_n (lv' := [(1, .int 0), (0, .ref h0)]) hx hb dX1_init_125 rfl hl (by decide) rfl (fun ls hl => ?_)
  refine lv_iload_n hx hb dX1_init_126 rfl (lv_at hl 0 rfl) ?_
  refine lv_bipush (v := 12) hx hb dX1_init_127 (by decide +kernel) ?_
  refine lv_icmp_ge (tgt := 176) hx hb dX1_init_129 (by decide) (fun hc => absurd hc (by decide +kernel)) (fun _ => ?_)
  refine lv_aload_n hx hb dX1_init_132 rfl (lv_at hl 1 rfl) ?_
  refine va_get (D := D) (ci := 1) (v := .ref q1) (C := RX1) (T := TX1) (N := 18) hx hb hts xin_1 hown hK hP 0 rfl rfl 0 (by decide) (hts _ gw_144) (fun _ h9 => h9) rfl dX1_init_133 ?_
  refine lv_bipush (v := 16) hx hb dX1_init_136 (by decide +kernel) ?_
  refine lv_iload_n hx hb dX1_init_138 rfl (lv_at hl 0 rfl) ?_
  refine k_iadd (v := 16) hx hb dX1_init_139 (by decide +kernel) ?_
  refine lv_iload_n hx hb dX1_init_140 rfl (lv_at hl 0 rfl) ?_
  refine lv_iconst (v := 1) hx hb dX1_init_141 (by decide +kernel) ?_
  refine k_iadd (v := 1) hx hb dX1_init_142 (by decide +kernel) ?_
  refine k_iast (k := 16) hx hb hK hP hD hS 1 rfl (by decide +kernel) (Nat.le_of_ble_eq_true rfl) dX1_init_143 (fun H locs hP hD hS => ?_)
  generalize hg6 : upd g5 16 1 = g6 at hP hD
  have hP : va_P D xG.1 [(h0, .inr (1, [.ref q1, .ref q2, .int 0, .int 0, .ref q3, .ref q4, .ref q5, .int 0, .int 0, .int (-1), .ref q6, .int 0, .ref q7, .int 4095, .ref q8, .ref q9, .ref q10, .int 0])), (q1, .inl (cA 0, 133, .inl g6)), (q2, .inl (cA 0, 3990, .inl (fun _ => 0))), (q3, .inl (cA 0, 48, .inl (fun _ => 0))), (q4, .inl (cA 0, 12, .inl (fun _ => 0))), (q5, .inl (cA 0, 8, .inl (fun _ => 0))), (q6, .inl (cA 0, 12, .inl (fun _ => 0))), (q7, .inl (cA 0, 4, .inl g4)), (q8, .inl (cA 0, 40, .inl (fun _ => 0))), (q9, .inl (cA 0, 8, .inl (fun _ => 0))), (q10, .inl (cA 0, 8, .inl (fun _ => 0)))] H := hP
  have hD : va_D A [(h0, .inr (1, [.ref q1, .ref q2, .int 0, .int 0, .ref q3, .ref q4, .ref q5, .int 0, .int 0, .int (-1), .ref q6, .int 0, .ref q7, .int 4095, .ref q8, .ref q9, .ref q10, .int 0])), (q1, .inl (cA 0, 133, .inl g6)), (q2, .inl (cA 0, 3990, .inl (fun _ => 0))), (q3, .inl (cA 0, 48, .inl (fun _ => 0))), (q4, .inl (cA 0, 12, .inl (fun _ => 0))), (q5, .inl (cA 0, 8, .inl (fun _ => 0))), (q6, .inl (cA 0, 12, .inl (fun _ => 0))), (q7, .inl (cA 0, 4, .inl g4)), (q8, .inl (cA 0, 40, .inl (fun _ => 0))), (q9, .inl (cA 0, 8, .inl (fun _ => 0))), (q10, .inl (cA 0, 8, .inl (fun _ => 0)))] := hD
  refine lv_iconst (v := 0) hx hb dX1_init_144 (by decide +kernel) ?_
  refine lv_istore_n (lv' := [(2, .int 0), (1, .int 0), (0, .ref h0)]) hx hb dX1_init_145 rfl hl (by decide) rfl (fun ls hl => ?_)
  refine lv_iload_n hx hb dX1_init_146 rfl (lv_at hl 0 rfl) ?_
  refine lv_iconst (v := 4) hx hb dX1_init_147 (by decide +kernel) ?_
  refine lv_icmp_ge (tgt := 170) hx hb dX1_init_148 (by decide) (fun hc => absurd hc (by decide +kernel)) (fun _ => ?_)
  refine lv_aload_n hx hb dX1_init_151 rfl (lv_at hl 2 rfl) ?_
  refine va_get (D := D) (ci := 1) (v := .ref q3) (C := RX1) (T := TX1) (N := 18) hx hb hts xin_1 hown hK hP 0 rfl rfl 4 (by decide) (hts _ gw_152) (fun _ h9 => h9) rfl dX1_init_152 ?_
  refine lv_iload_n hx hb dX1_init_155 rfl (lv_at hl 1 rfl) ?_
  refine lv_iconst (v := 4) hx hb dX1_init_156 (by decide +kernel) ?_
  refine k_imul (v := 0) hx hb dX1_init_157 (by decide +kernel) ?_
  refine lv_iload_n hx hb dX1_init_158 rfl (lv_at hl 0 rfl) ?_
  refine k_iadd (v := 0) hx hb dX1_init_159 (by decide +kernel) ?_
  refine lv_iload_n hx hb dX1_init_160 rfl (lv_at hl 1 rfl) ?_
  refine lv_iconst (v := 1) hx hb dX1_init_161 (by decide +kernel) ?_
  refine k_iadd (v := 1) hx hb dX1_init_162 (by decide +kernel) ?_
  refine k_iast (k := 0) hx hb hK hP hD hS 3 rfl (by decide +kernel) (Nat.le_of_ble_eq_true rfl) dX1_init_163 (fun H locs hP hD hS => ?_)
  generalize hg7 : upd (fun _ => 0) 0 1 = g7 at hP hD
  have hP : va_P D xG.1 [(h0, .inr (1, [.ref q1, .ref q2, .int 0, .int 0, .ref q3, .ref q4, .ref q5, .int 0, .int 0, .int (-1), .ref q6, .int 0, .ref q7, .int 4095, .ref q8, .ref q9, .ref q10, .int 0])), (q1, .inl (cA 0, 133, .inl g6)), (q2, .inl (cA 0, 3990, .inl (fun _ => 0))), (q3, .inl (cA 0, 48, .inl g7)), (q4, .inl (cA 0, 12, .inl (fun _ => 0))), (q5, .inl (cA 0, 8, .inl (fun _ => 0))), (q6, .inl (cA 0, 12, .inl (fun _ => 0))), (q7, .inl (cA 0, 4, .inl g4)), (q8, .inl (cA 0, 40, .inl (fun _ => 0))), (q9, .inl (cA 0, 8, .inl (fun _ => 0))), (q10, .inl (cA 0, 8, .inl (fun _ => 0)))] H := hP
  have hD : va_D A [(h0, .inr (1, [.ref q1, .ref q2, .int 0, .int 0, .ref q3, .ref q4, .ref q5, .int 0, .int 0, .int (-1), .ref q6, .int 0, .ref q7, .int 4095, .ref q8, .ref q9, .ref q10, .int 0])), (q1, .inl (cA 0, 133, .inl g6)), (q2, .inl (cA 0, 3990, .inl (fun _ => 0))), (q3, .inl (cA 0, 48, .inl g7)), (q4, .inl (cA 0, 12, .inl (fun _ => 0))), (q5, .inl (cA 0, 8, .inl (fun _ => 0))), (q6, .inl (cA 0, 12, .inl (fun _ => 0))), (q7, .inl (cA 0, 4, .inl g4)), (q8, .inl (cA 0, 40, .inl (fun _ => 0))), (q9, .inl (cA 0, 8, .inl (fun _ => 0))), (q10, .inl (cA 0, 8, .inl (fun _ => 0)))] := hD
  refine lv_iinc (v := 1) (lv' := [(2, .int 1), (1, .int 0), (0, .ref h0)]) hx hb dX1_init_164 hl (k := 0) rfl (by decide +kernel) (by decide) rfl (fun ls hl => ?_)
  refine lv_goto (tgt := 146) hx hb dX1_init_167 (by decide) ?_
  refine lv_iload_n hx hb dX1_init_146 rfl (lv_at hl 0 rfl) ?_
  refine lv_iconst (v := 4) hx hb dX1_init_147 (by decide +kernel) ?_
  refine lv_icmp_ge (tgt := 170) hx hb dX1_init_148 (by decide) (fun hc => absurd hc (by decide +kernel)) (fun _ => ?_)
  refine lv_aload_n hx hb dX1_init_151 rfl (lv_at hl 2 rfl) ?_
  refine va_get (D := D) (ci := 1) (v := .ref q3) (C := RX1) (T := TX1) (N := 18) hx hb hts xin_1 hown hK hP 0 rfl rfl 4 (by decide) (hts _ gw_152) (fun _ h9 => h9) rfl dX1_init_152 ?_
  refine lv_iload_n hx hb dX1_init_155 rfl (lv_at hl 1 rfl) ?_
  refine lv_iconst (v := 4) hx hb dX1_init_156 (by decide +kernel) ?_
  refine k_imul (v := 0) hx hb dX1_init_157 (by decide +kernel) ?_
  refine lv_iload_n hx hb dX1_init_158 rfl (lv_at hl 0 rfl) ?_
  refine k_iadd (v := 1) hx hb dX1_init_159 (by decide +kernel) ?_
  refine lv_iload_n hx hb dX1_init_160 rfl (lv_at hl 1 rfl) ?_
  refine lv_iconst (v := 1) hx hb dX1_init_161 (by decide +kernel) ?_
  refine k_iadd (v := 1) hx hb dX1_init_162 (by decide +kernel) ?_
  refine k_iast (k := 1) hx hb hK hP hD hS 3 rfl (by decide +kernel) (Nat.le_of_ble_eq_true rfl) dX1_init_163 (fun H locs hP hD hS => ?_)
  generalize hg8 : upd g7 1 1 = g8 at hP hD
  have hP : va_P D xG.1 [(h0, .inr (1, [.ref q1, .ref q2, .int 0, .int 0, .ref q3, .ref q4, .ref q5, .int 0, .int 0, .int (-1), .ref q6, .int 0, .ref q7, .int 4095, .ref q8, .ref q9, .ref q10, .int 0])), (q1, .inl (cA 0, 133, .inl g6)), (q2, .inl (cA 0, 3990, .inl (fun _ => 0))), (q3, .inl (cA 0, 48, .inl g8)), (q4, .inl (cA 0, 12, .inl (fun _ => 0))), (q5, .inl (cA 0, 8, .inl (fun _ => 0))), (q6, .inl (cA 0, 12, .inl (fun _ => 0))), (q7, .inl (cA 0, 4, .inl g4)), (q8, .inl (cA 0, 40, .inl (fun _ => 0))), (q9, .inl (cA 0, 8, .inl (fun _ => 0))), (q10, .inl (cA 0, 8, .inl (fun _ => 0)))] H := hP
  have hD : va_D A [(h0, .inr (1, [.ref q1, .ref q2, .int 0, .int 0, .ref q3, .ref q4, .ref q5, .int 0, .int 0, .int (-1), .ref q6, .int 0, .ref q7, .int 4095, .ref q8, .ref q9, .ref q10, .int 0])), (q1, .inl (cA 0, 133, .inl g6)), (q2, .inl (cA 0, 3990, .inl (fun _ => 0))), (q3, .inl (cA 0, 48, .inl g8)), (q4, .inl (cA 0, 12, .inl (fun _ => 0))), (q5, .inl (cA 0, 8, .inl (fun _ => 0))), (q6, .inl (cA 0, 12, .inl (fun _ => 0))), (q7, .inl (cA 0, 4, .inl g4)), (q8, .inl (cA 0, 40, .inl (fun _ => 0))), (q9, .inl (cA 0, 8, .inl (fun _ => 0))), (q10, .inl (cA 0, 8, .inl (fun _ => 0)))] := hD
  refine lv_iinc (v := 2) (lv' := [(2, .int 2), (1, .int 0), (0, .ref h0)]) hx hb dX1_init_164 hl (k := 0) rfl (by decide +kernel) (by decide) rfl (fun ls hl => ?_)
  refine lv_goto (tgt := 146) hx hb dX1_init_167 (by decide) ?_
  refine lv_iload_n hx hb dX1_init_146 rfl (lv_at hl 0 rfl) ?_
  refine lv_iconst (v := 4) hx hb dX1_init_147 (by decide +kernel) ?_
  refine lv_icmp_ge (tgt := 170) hx hb dX1_init_148 (by decide) (fun hc => absurd hc (by decide +kernel)) (fun _ => ?_)
  refine lv_aload_n hx hb dX1_init_151 rfl (lv_at hl 2 rfl) ?_
  refine va_get (D := D) (ci := 1) (v := .ref q3) (C := RX1) (T := TX1) (N := 18) hx hb hts xin_1 hown hK hP 0 rfl rfl 4 (by decide) (hts _ gw_152) (fun _ h9 => h9) rfl dX1_init_152 ?_
  refine lv_iload_n hx hb dX1_init_155 rfl (lv_at hl 1 rfl) ?_
  refine lv_iconst (v := 4) hx hb dX1_init_156 (by decide +kernel) ?_
  refine k_imul (v := 0) hx hb dX1_init_157 (by decide +kernel) ?_
  refine lv_iload_n hx hb dX1_init_158 rfl (lv_at hl 0 rfl) ?_
  refine k_iadd (v := 2) hx hb dX1_init_159 (by decide +kernel) ?_
  refine lv_iload_n hx hb dX1_init_160 rfl (lv_at hl 1 rfl) ?_
  refine lv_iconst (v := 1) hx hb dX1_init_161 (by decide +kernel) ?_
  refine k_iadd (v := 1) hx hb dX1_init_162 (by decide +kernel) ?_
  refine k_iast (k := 2) hx hb hK hP hD hS 3 rfl (by decide +kernel) (Nat.le_of_ble_eq_true rfl) dX1_init_163 (fun H locs hP hD hS => ?_)
  generalize hg9 : upd g8 2 1 = g9 at hP hD
  have hP : va_P D xG.1 [(h0, .inr (1, [.ref q1, .ref q2, .int 0, .int 0, .ref q3, .ref q4, .ref q5, .int 0, .int 0, .int (-1), .ref q6, .int 0, .ref q7, .int 4095, .ref q8, .ref q9, .ref q10, .int 0])), (q1, .inl (cA 0, 133, .inl g6)), (q2, .inl (cA 0, 3990, .inl (fun _ => 0))), (q3, .inl (cA 0, 48, .inl g9)), (q4, .inl (cA 0, 12, .inl (fun _ => 0))), (q5, .inl (cA 0, 8, .inl (fun _ => 0))), (q6, .inl (cA 0, 12, .inl (fun _ => 0))), (q7, .inl (cA 0, 4, .inl g4)), (q8, .inl (cA 0, 40, .inl (fun _ => 0))), (q9, .inl (cA 0, 8, .inl (fun _ => 0))), (q10, .inl (cA 0, 8, .inl (fun _ => 0)))] H := hP
  have hD : va_D A [(h0, .inr (1, [.ref q1, .ref q2, .int 0, .int 0, .ref q3, .ref q4, .ref q5, .int 0, .int 0, .int (-1), .ref q6, .int 0, .ref q7, .int 4095, .ref q8, .ref q9, .ref q10, .int 0])), (q1, .inl (cA 0, 133, .inl g6)), (q2, .inl (cA 0, 3990, .inl (fun _ => 0))), (q3, .inl (cA 0, 48, .inl g9)), (q4, .inl (cA 0, 12, .inl (fun _ => 0))), (q5, .inl (cA 0, 8, .inl (fun _ => 0))), (q6, .inl (cA 0, 12, .inl (fun _ => 0))), (q7, .inl (cA 0, 4, .inl g4)), (q8, .inl (cA 0, 40, .inl (fun _ => 0))), (q9, .inl (cA 0, 8, .inl (fun _ => 0))), (q10, .inl (cA 0, 8, .inl (fun _ => 0)))] := hD
  refine lv_iinc (v := 3) (lv' := [(2, .int 3), (1, .int 0), (0, .ref h0)]) hx hb dX1_init_164 hl (k := 0) rfl (by decide +kernel) (by decide) rfl (fun ls hl => ?_)
  refine lv_goto (tgt := 146) hx hb dX1_init_167 (by decide) ?_
  refine lv_iload_n hx hb dX1_init_146 rfl (lv_at hl 0 rfl) ?_
  refine lv_iconst (v := 4) hx hb dX1_init_147 (by decide +kernel) ?_
  refine lv_icmp_ge (tgt := 170) hx hb dX1_init_148 (by decide) (fun hc => absurd hc (by decide +kernel)) (fun _ => ?_)
  refine lv_aload_n hx hb dX1_init_151 rfl (lv_at hl 2 rfl) ?_
  refine va_get (D := D) (ci := 1) (v := .ref q3) (C := RX1) (T := TX1) (N := 18) hx hb hts xin_1 hown hK hP 0 rfl rfl 4 (by decide) (hts _ gw_152) (fun _ h9 => h9) rfl dX1_init_152 ?_
  refine lv_iload_n hx hb dX1_init_155 rfl (lv_at hl 1 rfl) ?_
  refine lv_iconst (v := 4) hx hb dX1_init_156 (by decide +kernel) ?_
  refine k_imul (v := 0) hx hb dX1_init_157 (by decide +kernel) ?_
  refine lv_iload_n hx hb dX1_init_158 rfl (lv_at hl 0 rfl) ?_
  refine k_iadd (v := 3) hx hb dX1_init_159 (by decide +kernel) ?_
  refine lv_iload_n hx hb dX1_init_160 rfl (lv_at hl 1 rfl) ?_
  refine lv_iconst (v := 1) hx hb dX1_init_161 (by decide +kernel) ?_
  refine k_iadd (v := 1) hx hb dX1_init_162 (by decide +kernel) ?_
  refine k_iast (k := 3) hx hb hK hP hD hS 3 rfl (by decide +kernel) (Nat.le_of_ble_eq_true rfl) dX1_init_163 (fun H locs hP hD hS => ?_)
  generalize hg10 : upd g9 3 1 = g10 at hP hD
  have hP : va_P D xG.1 [(h0, .inr (1, [.ref q1, .ref q2, .int 0, .int 0, .ref q3, .ref q4, .ref q5, .int 0, .int 0, .int (-1), .ref q6, .int 0, .ref q7, .int 4095, .ref q8, .ref q9, .ref q10, .int 0])), (q1, .inl (cA 0, 133, .inl g6)), (q2, .inl (cA 0, 3990, .inl (fun _ => 0))), (q3, .inl (cA 0, 48, .inl g10)), (q4, .inl (cA 0, 12, .inl (fun _ => 0))), (q5, .inl (cA 0, 8, .inl (fun _ => 0))), (q6, .inl (cA 0, 12, .inl (fun _ => 0))), (q7, .inl (cA 0, 4, .inl g4)), (q8, .inl (cA 0, 40, .inl (fun _ => 0))), (q9, .inl (cA 0, 8, .inl (fun _ => 0))), (q10, .inl (cA 0, 8, .inl (fun _ => 0)))] H := hP
  have hD : va_D A [(h0, .inr (1, [.ref q1, .ref q2, .int 0, .int 0, .ref q3, .ref q4, .ref q5, .int 0, .int 0, .int (-1), .ref q6, .int 0, .ref q7, .int 4095, .ref q8, .ref q9, .ref q10, .int 0])), (q1, .inl (cA 0, 133, .inl g6)), (q2, .inl (cA 0, 3990, .inl (fun _ => 0))), (q3, .inl (cA 0, 48, .inl g10)), (q4, .inl (cA 0, 12, .inl (fun _ => 0))), (q5, .inl (cA 0, 8, .inl (fun _ => 0))), (q6, .inl (cA 0, 12, .inl (fun _ => 0))), (q7, .inl (cA 0, 4, .inl g4)), (q8, .inl (cA 0, 40, .inl (fun _ => 0))), (q9, .inl (cA 0, 8, .inl (fun _ => 0))), (q10, .inl (cA 0, 8, .inl (fun _ => 0)))] := hD
  refine lv_iinc (v := 4) (lv' := [(2, .int 4), (1, .int 0), (0, .ref h0)]) hx hb dX1_init_164 hl (k := 0) rfl (by decide +kernel) (by decide) rfl (fun ls hl => ?_)
  refine lv_goto (tgt := 146) hx hb dX1_init_167 (by decide) ?_
  refine lv_iload_n hx hb dX1_init_146 rfl (lv_at hl 0 rfl) ?_
  refine lv_iconst (v := 4) hx hb dX1_init_147 (by decide +kernel) ?_
  refine lv_icmp_ge (tgt := 170) hx hb dX1_init_148 (by decide) (fun _ => ?_) (fun hc => absurd (by decide +kernel) hc)
  refine lv_iinc (v := 1) (lv' := [(1, .int 1), (2, .int 4), (0, .ref h0)]) hx hb dX1_init_170 hl (k := 1) rfl (by decide +kernel) (by decide) rfl (fun ls hl => ?_)
  refine lv_goto (tgt := 126) hx hb dX1_init_173 (by decide) ?_
  refine lv_iload_n hx hb dX1_init_126 rfl (lv_at hl 0 rfl) ?_
  refine lv_bipush (v := 12) hx hb dX1_init_127 (by decide +kernel) ?_
  refine lv_icmp_ge (tgt := 176) hx hb dX1_init_129 (by decide) (fun hc => absurd hc (by decide +kernel)) (fun _ => ?_)
  refine lv_aload_n hx hb dX1_init_132 rfl (lv_at hl 2 rfl) ?_
  refine va_get (D := D) (ci := 1) (v := .ref q1) (C := RX1) (T := TX1) (N := 18) hx hb hts xin_1 hown hK hP 0 rfl rfl 0 (by decide) (hts _ gw_144) (fun _ h9 => h9) rfl dX1_init_133 ?_
  refine lv_bipush (v := 16) hx hb dX1_init_136 (by decide +kernel) ?_
  refine lv_iload_n hx hb dX1_init_138 rfl (lv_at hl 0 rfl) ?_
  refine k_iadd (v := 17) hx hb dX1_init_139 (by decide +kernel) ?_
  refine lv_iload_n hx hb dX1_init_140 rfl (lv_at hl 0 rfl) ?_
  refine lv_iconst (v := 1) hx hb dX1_init_141 (by decide +kernel) ?_
  refine k_iadd (v := 2) hx hb dX1_init_142 (by decide +kernel) ?_
  refine k_iast (k := 17) hx hb hK hP hD hS 1 rfl (by decide +kernel) (Nat.le_of_ble_eq_true rfl) dX1_init_143 (fun H locs hP hD hS => ?_)
  generalize hg11 : upd g6 17 2 = g11 at hP hD
  have hP : va_P D xG.1 [(h0, .inr (1, [.ref q1, .ref q2, .int 0, .int 0, .ref q3, .ref q4, .ref q5, .int 0, .int 0, .int (-1), .ref q6, .int 0, .ref q7, .int 4095, .ref q8, .ref q9, .ref q10, .int 0])), (q1, .inl (cA 0, 133, .inl g11)), (q2, .inl (cA 0, 3990, .inl (fun _ => 0))), (q3, .inl (cA 0, 48, .inl g10)), (q4, .inl (cA 0, 12, .inl (fun _ => 0))), (q5, .inl (cA 0, 8, .inl (fun _ => 0))), (q6, .inl (cA 0, 12, .inl (fun _ => 0))), (q7, .inl (cA 0, 4, .inl g4)), (q8, .inl (cA 0, 40, .inl (fun _ => 0))), (q9, .inl (cA 0, 8, .inl (fun _ => 0))), (q10, .inl (cA 0, 8, .inl (fun _ => 0)))] H := hP
  have hD : va_D A [(h0, .inr (1, [.ref q1, .ref q2, .int 0, .int 0, .ref q3, .ref q4, .ref q5, .int 0, .int 0, .int (-1), .ref q6, .int 0, .ref q7, .int 4095, .ref q8, .ref q9, .ref q10, .int 0])), (q1, .inl (cA 0, 133, .inl g11)), (q2, .inl (cA 0, 3990, .inl (fun _ => 0))), (q3, .inl (cA 0, 48, .inl g10)), (q4, .inl (cA 0, 12, .inl (fun _ => 0))), (q5, .inl (cA 0, 8, .inl (fun _ => 0))), (q6, .inl (cA 0, 12, .inl (fun _ => 0))), (q7, .inl (cA 0, 4, .inl g4)), (q8, .inl (cA 0, 40, .inl (fun _ => 0))), (q9, .inl (cA 0, 8, .inl (fun _ => 0))), (q10, .inl (cA 0, 8, .inl (fun _ => 0)))] := hD
  refine lv_iconst (v := 0) hx hb dX1_init_144 (by decide +kernel) ?_
  refine lv_istore_n (lv' := [(2, .int 0), (1, .int 1), (0, .ref h0)]) hx hb dX1_init_145 rfl hl (by decide) rfl (fun ls hl => ?_)
  refine lv_iload_n hx hb dX1_init_146 rfl (lv_at hl 0 rfl) ?_
  refine lv_iconst (v := 4) hx hb dX1_init_147 (by decide +kernel) ?_
  refine lv_icmp_ge (tgt := 170) hx hb dX1_init_148 (by decide) (fun hc => absurd hc (by decide +kernel)) (fun _ => ?_)
  refine lv_aload_n hx hb dX1_init_151 rfl (lv_at hl 2 rfl) ?_
  refine va_get (D := D) (ci := 1) (v := .ref q3) (C := RX1) (T := TX1) (N := 18) hx hb hts xin_1 hown hK hP 0 rfl rfl 4 (by decide) (hts _ gw_152) (fun _ h9 => h9) rfl dX1_init_152 ?_
  refine lv_iload_n hx hb dX1_init_155 rfl (lv_at hl 1 rfl) ?_
  refine lv_iconst (v := 4) hx hb dX1_init_156 (by decide +kernel) ?_
  refine k_imul (v := 4) hx hb dX1_init_157 (by decide +kernel) ?_
  refine lv_iload_n hx hb dX1_init_158 rfl (lv_at hl 0 rfl) ?_
  refine k_iadd (v := 4) hx hb dX1_init_159 (by decide +kernel) ?_
  refine lv_iload_n hx hb dX1_init_160 rfl (lv_at hl 1 rfl) ?_
  refine lv_iconst (v := 1) hx hb dX1_init_161 (by decide +kernel) ?_
  refine k_iadd (v := 2) hx hb dX1_init_162 (by decide +kernel) ?_
  refine k_iast (k := 4) hx hb hK hP hD hS 3 rfl (by decide +kernel) (Nat.le_of_ble_eq_true rfl) dX1_init_163 (fun H locs hP hD hS => ?_)
  generalize hg12 : upd g10 4 2 = g12 at hP hD
  have hP : va_P D xG.1 [(h0, .inr (1, [.ref q1, .ref q2, .int 0, .int 0, .ref q3, .ref q4, .ref q5, .int 0, .int 0, .int (-1), .ref q6, .int 0, .ref q7, .int 4095, .ref q8, .ref q9, .ref q10, .int 0])), (q1, .inl (cA 0, 133, .inl g11)), (q2, .inl (cA 0, 3990, .inl (fun _ => 0))), (q3, .inl (cA 0, 48, .inl g12)), (q4, .inl (cA 0, 12, .inl (fun _ => 0))), (q5, .inl (cA 0, 8, .inl (fun _ => 0))), (q6, .inl (cA 0, 12, .inl (fun _ => 0))), (q7, .inl (cA 0, 4, .inl g4)), (q8, .inl (cA 0, 40, .inl (fun _ => 0))), (q9, .inl (cA 0, 8, .inl (fun _ => 0))), (q10, .inl (cA 0, 8, .inl (fun _ => 0)))] H := hP
  have hD : va_D A [(h0, .inr (1, [.ref q1, .ref q2, .int 0, .int 0, .ref q3, .ref q4, .ref q5, .int 0, .int 0, .int (-1), .ref q6, .int 0, .ref q7, .int 4095, .ref q8, .ref q9, .ref q10, .int 0])), (q1, .inl (cA 0, 133, .inl g11)), (q2, .inl (cA 0, 3990, .inl (fun _ => 0))), (q3, .inl (cA 0, 48, .inl g12)), (q4, .inl (cA 0, 12, .inl (fun _ => 0))), (q5, .inl (cA 0, 8, .inl (fun _ => 0))), (q6, .inl (cA 0, 12, .inl (fun _ => 0))), (q7, .inl (cA 0, 4, .inl g4)), (q8, .inl (cA 0, 40, .inl (fun _ => 0))), (q9, .inl (cA 0, 8, .inl (fun _ => 0))), (q10, .inl (cA 0, 8, .inl (fun _ => 0)))] := hD
  refine lv_iinc (v := 1) (lv' := [(2, .int 1), (1, .int 1), (0, .ref h0)]) hx hb dX1_init_164 hl (k := 0) rfl (by decide +kernel) (by decide) rfl (fun ls hl => ?_)
  refine lv_goto (tgt := 146) hx hb dX1_init_167 (by decide) ?_
  refine lv_iload_n hx hb dX1_init_146 rfl (lv_at hl 0 rfl) ?_
  refine lv_iconst (v := 4) hx hb dX1_init_147 (by decide +kernel) ?_
  refine lv_icmp_ge (tgt := 170) hx hb dX1_init_148 (by decide) (fun hc => absurd hc (by decide +kernel)) (fun _ => ?_)
  refine lv_aload_n hx hb dX1_init_151 rfl (lv_at hl 2 rfl) ?_
  refine va_get (D := D) (ci := 1) (v := .ref q3) (C := RX1) (T := TX1) (N := 18) hx hb hts xin_1 hown hK hP 0 rfl rfl 4 (by decide) (hts _ gw_152) (fun _ h9 => h9) rfl dX1_init_152 ?_
  refine lv_iload_n hx hb dX1_init_155 rfl (lv_at hl 1 rfl) ?_
  refine lv_iconst (v := 4) hx hb dX1_init_156 (by decide +kernel) ?_
  refine k_imul (v := 4) hx hb dX1_init_157 (by decide +kernel) ?_
  refine lv_iload_n hx hb dX1_init_158 rfl (lv_at hl 0 rfl) ?_
  refine k_iadd (v := 5) hx hb dX1_init_159 (by decide +kernel) ?_
  refine lv_iload_n hx hb dX1_init_160 rfl (lv_at hl 1 rfl) ?_
  refine lv_iconst (v := 1) hx hb dX1_init_161 (by decide +kernel) ?_
  refine k_iadd (v := 2) hx hb dX1_init_162 (by decide +kernel) ?_
  refine k_iast (k := 5) hx hb hK hP hD hS 3 rfl (by decide +kernel) (Nat.le_of_ble_eq_true rfl) dX1_init_163 (fun H locs hP hD hS => ?_)
  generalize hg13 : upd g12 5 2 = g13 at hP hD
  have hP : va_P D xG.1 [(h0, .inr (1, [.ref q1, .ref q2, .int 0, .int 0, .ref q3, .ref q4, .ref q5, .int 0, .int 0, .int (-1), .ref q6, .int 0, .ref q7, .int 4095, .ref q8, .ref q9, .ref q10, .int 0])), (q1, .inl (cA 0, 133, .inl g11)), (q2, .inl (cA 0, 3990, .inl (fun _ => 0))), (q3, .inl (cA 0, 48, .inl g13)), (q4, .inl (cA 0, 12, .inl (fun _ => 0))), (q5, .inl (cA 0, 8, .inl (fun _ => 0))), (q6, .inl (cA 0, 12, .inl (fun _ => 0))), (q7, .inl (cA 0, 4, .inl g4)), (q8, .inl (cA 0, 40, .inl (fun _ => 0))), (q9, .inl (cA 0, 8, .inl (fun _ => 0))), (q10, .inl (cA 0, 8, .inl (fun _ => 0)))] H := hP
  have hD : va_D A [(h0, .inr (1, [.ref q1, .ref q2, .int 0, .int 0, .ref q3, .ref q4, .ref q5, .int 0, .int 0, .int (-1), .ref q6, .int 0, .ref q7, .int 4095, .ref q8, .ref q9, .ref q10, .int 0])), (q1, .inl (cA 0, 133, .inl g11)), (q2, .inl (cA 0, 3990, .inl (fun _ => 0))), (q3, .inl (cA 0, 48, .inl g13)), (q4, .inl (cA 0, 12, .inl (fun _ => 0))), (q5, .inl (cA 0, 8, .inl (fun _ => 0))), (q6, .inl (cA 0, 12, .inl (fun _ => 0))), (q7, .inl (cA 0, 4, .inl g4)), (q8, .inl (cA 0, 40, .inl (fun _ => 0))), (q9, .inl (cA 0, 8, .inl (fun _ => 0))), (q10, .inl (cA 0, 8, .inl (fun _ => 0)))] := hD
  refine lv_iinc (v := 2) (lv' := [(2, .int 2), (1, .int 1), (0, .ref h0)]) hx hb dX1_init_164 hl (k := 0) rfl (by decide +kernel) (by decide) rfl (fun ls hl => ?_)
  refine lv_goto (tgt := 146) hx hb dX1_init_167 (by decide) ?_
  refine lv_iload_n hx hb dX1_init_146 rfl (lv_at hl 0 rfl) ?_
  refine lv_iconst (v := 4) hx hb dX1_init_147 (by decide +kernel) ?_
  refine lv_icmp_ge (tgt := 170) hx hb dX1_init_148 (by decide) (fun hc => absurd hc (by decide +kernel)) (fun _ => ?_)
  refine lv_aload_n hx hb dX1_init_151 rfl (lv_at hl 2 rfl) ?_
  refine va_get (D := D) (ci := 1) (v := .ref q3) (C := RX1) (T := TX1) (N := 18) hx hb hts xin_1 hown hK hP 0 rfl rfl 4 (by decide) (hts _ gw_152) (fun _ h9 => h9) rfl dX1_init_152 ?_
  refine lv_iload_n hx hb dX1_init_155 rfl (lv_at hl 1 rfl) ?_
  refine lv_iconst (v := 4) hx hb dX1_init_156 (by decide +kernel) ?_
  refine k_imul (v := 4) hx hb dX1_init_157 (by decide +kernel) ?_
  refine lv_iload_n hx hb dX1_init_158 rfl (lv_at hl 0 rfl) ?_
  refine k_iadd (v := 6) hx hb dX1_init_159 (by decide +kernel) ?_
  refine lv_iload_n hx hb dX1_init_160 rfl (lv_at hl 1 rfl) ?_
  refine lv_iconst (v := 1) hx hb dX1_init_161 (by decide +kernel) ?_
  refine k_iadd (v := 2) hx hb dX1_init_162 (by decide +kernel) ?_
  refine k_iast (k := 6) hx hb hK hP hD hS 3 rfl (by decide +kernel) (Nat.le_of_ble_eq_true rfl) dX1_init_163 (fun H locs hP hD hS => ?_)
  generalize hg14 : upd g13 6 2 = g14 at hP hD
  have hP : va_P D xG.1 [(h0, .inr (1, [.ref q1, .ref q2, .int 0, .int 0, .ref q3, .ref q4, .ref q5, .int 0, .int 0, .int (-1), .ref q6, .int 0, .ref q7, .int 4095, .ref q8, .ref q9, .ref q10, .int 0])), (q1, .inl (cA 0, 133, .inl g11)), (q2, .inl (cA 0, 3990, .inl (fun _ => 0))), (q3, .inl (cA 0, 48, .inl g14)), (q4, .inl (cA 0, 12, .inl (fun _ => 0))), (q5, .inl (cA 0, 8, .inl (fun _ => 0))), (q6, .inl (cA 0, 12, .inl (fun _ => 0))), (q7, .inl (cA 0, 4, .inl g4)), (q8, .inl (cA 0, 40, .inl (fun _ => 0))), (q9, .inl (cA 0, 8, .inl (fun _ => 0))), (q10, .inl (cA 0, 8, .inl (fun _ => 0)))] H := hP
  have hD : va_D A [(h0, .inr (1, [.ref q1, .ref q2, .int 0, .int 0, .ref q3, .ref q4, .ref q5, .int 0, .int 0, .int (-1), .ref q6, .int 0, .ref q7, .int 4095, .ref q8, .ref q9, .ref q10, .int 0])), (q1, .inl (cA 0, 133, .inl g11)), (q2, .inl (cA 0, 3990, .inl (fun _ => 0))), (q3, .inl (cA 0, 48, .inl g14)), (q4, .inl (cA 0, 12, .inl (fun _ => 0))), (q5, .inl (cA 0, 8, .inl (fun _ => 0))), (q6, .inl (cA 0, 12, .inl (fun _ => 0))), (q7, .inl (cA 0, 4, .inl g4)), (q8, .inl (cA 0, 40, .inl (fun _ => 0))), (q9, .inl (cA 0, 8, .inl (fun _ => 0))), (q10, .inl (cA 0, 8, .inl (fun _ => 0)))] := hD
  refine lv_iinc (v := 3) (lv' := [(2, .int 3), (1, .int 1), (0, .ref h0)]) hx hb dX1_init_164 hl (k := 0) rfl (by decide +kernel) (by decide) rfl (fun ls hl => ?_)
  refine lv_goto (tgt := 146) hx hb dX1_init_167 (by decide) ?_
  refine lv_iload_n hx hb dX1_init_146 rfl (lv_at hl 0 rfl) ?_
  refine lv_iconst (v := 4) hx hb dX1_init_147 (by decide +kernel) ?_
  refine lv_icmp_ge (tgt := 170) hx hb dX1_init_148 (by decide) (fun hc => absurd hc (by decide +kernel)) (fun _ => ?_)
  refine lv_aload_n hx hb dX1_init_151 rfl (lv_at hl 2 rfl) ?_
  refine va_get (D := D) (ci := 1) (v := .ref q3) (C := RX1) (T := TX1) (N := 18) hx hb hts xin_1 hown hK hP 0 rfl rfl 4 (by decide) (hts _ gw_152) (fun _ h9 => h9) rfl dX1_init_152 ?_
  refine lv_iload_n hx hb dX1_init_155 rfl (lv_at hl 1 rfl) ?_
  refine lv_iconst (v := 4) hx hb dX1_init_156 (by decide +kernel) ?_
  refine k_imul (v := 4) hx hb dX1_init_157 (by decide +kernel) ?_
  refine lv_iload_n hx hb dX1_init_158 rfl (lv_at hl 0 rfl) ?_
  refine k_iadd (v := 7) hx hb dX1_init_159 (by decide +kernel) ?_
  refine lv_iload_n hx hb dX1_init_160 rfl (lv_at hl 1 rfl) ?_
  refine lv_iconst (v := 1) hx hb dX1_init_161 (by decide +kernel) ?_
  refine k_iadd (v := 2) hx hb dX1_init_162 (by decide +kernel) ?_
  refine k_iast (k := 7) hx hb hK hP hD hS 3 rfl (by decide +kernel) (Nat.le_of_ble_eq_true rfl) dX1_init_163 (fun H locs hP hD hS => ?_)
  generalize hg15 : upd g14 7 2 = g15 at hP hD
  have hP : va_P D xG.1 [(h0, .inr (1, [.ref q1, .ref q2, .int 0, .int 0, .ref q3, .ref q4, .ref q5, .int 0, .int 0, .int (-1), .ref q6, .int 0, .ref q7, .int 4095, .ref q8, .ref q9, .ref q10, .int 0])), (q1, .inl (cA 0, 133, .inl g11)), (q2, .inl (cA 0, 3990, .inl (fun _ => 0))), (q3, .inl (cA 0, 48, .inl g15)), (q4, .inl (cA 0, 12, .inl (fun _ => 0))), (q5, .inl (cA 0, 8, .inl (fun _ => 0))), (q6, .inl (cA 0, 12, .inl (fun _ => 0))), (q7, .inl (cA 0, 4, .inl g4)), (q8, .inl (cA 0, 40, .inl (fun _ => 0))), (q9, .inl (cA 0, 8, .inl (fun _ => 0))), (q10, .inl (cA 0, 8, .inl (fun _ => 0)))] H := hP
  have hD : va_D A [(h0, .inr (1, [.ref q1, .ref q2, .int 0, .int 0, .ref q3, .ref q4, .ref q5, .int 0, .int 0, .int (-1), .ref q6, .int 0, .ref q7, .int 4095, .ref q8, .ref q9, .ref q10, .int 0])), (q1, .inl (cA 0, 133, .inl g11)), (q2, .inl (cA 0, 3990, .inl (fun _ => 0))), (q3, .inl (cA 0, 48, .inl g15)), (q4, .inl (cA 0, 12, .inl (fun _ => 0))), (q5, .inl (cA 0, 8, .inl (fun _ => 0))), (q6, .inl (cA 0, 12, .inl (fun _ => 0))), (q7, .inl (cA 0, 4, .inl g4)), (q8, .inl (cA 0, 40, .inl (fun _ => 0))), (q9, .inl (cA 0, 8, .inl (fun _ => 0))), (q10, .inl (cA 0, 8, .inl (fun _ => 0)))] := hD
  refine lv_iinc (v := 4) (lv' := [(2, .int 4), (1, .int 1), (0, .ref h0)]) hx hb dX1_init_164 hl (k := 0) rfl (by decide +kernel) (by decide) rfl (fun ls hl => ?_)
  refine lv_goto (tgt := 146) hx hb dX1_init_167 (by decide) ?_
  refine lv_iload_n hx hb dX1_init_146 rfl (lv_at hl 0 rfl) ?_
  refine lv_iconst (v := 4) hx hb dX1_init_147 (by decide +kernel) ?_
  refine lv_icmp_ge (tgt := 170) hx hb dX1_init_148 (by decide) (fun _ => ?_) (fun hc => absurd (by decide +kernel) hc)
  refine lv_iinc (v := 2) (lv' := [(1, .int 2), (2, .int 4), (0, .ref h0)]) hx hb dX1_init_170 hl (k := 1) rfl (by decide +kernel) (by decide) rfl (fun ls hl => ?_)
  refine lv_goto (tgt := 126) hx hb dX1_init_173 (by decide) ?_
  refine lv_iload_n hx hb dX1_init_126 rfl (lv_at hl 0 rfl) ?_
  refine lv_bipush (v := 12) hx hb dX1_init_127 (by decide +kernel) ?_
  refine lv_icmp_ge (tgt := 176) hx hb dX1_init_129 (by decide) (fun hc => absurd hc (by decide +kernel)) (fun _ => ?_)
  refine lv_aload_n hx hb dX1_init_132 rfl (lv_at hl 2 rfl) ?_
  refine va_get (D := D) (ci := 1) (v := .ref q1) (C := RX1) (T := TX1) (N := 18) hx hb hts xin_1 hown hK hP 0 rfl rfl 0 (by decide) (hts _ gw_144) (fun _ h9 => h9) rfl dX1_init_133 ?_
  refine lv_bipush (v := 16) hx hb dX1_init_136 (by decide +kernel) ?_
  refine lv_iload_n hx hb dX1_init_138 rfl (lv_at hl 0 rfl) ?_
  refine k_iadd (v := 18) hx hb dX1_init_139 (by decide +kernel) ?_
  refine lv_iload_n hx hb dX1_init_140 rfl (lv_at hl 0 rfl) ?_
  refine lv_iconst (v := 1) hx hb dX1_init_141 (by decide +kernel) ?_
  refine k_iadd (v := 3) hx hb dX1_init_142 (by decide +kernel) ?_
  refine k_iast (k := 18) hx hb hK hP hD hS 1 rfl (by decide +kernel) (Nat.le_of_ble_eq_true rfl) dX1_init_143 (fun H locs hP hD hS => ?_)
  generalize hg16 : upd g11 18 3 = g16 at hP hD
  have hP : va_P D xG.1 [(h0, .inr (1, [.ref q1, .ref q2, .int 0, .int 0, .ref q3, .ref q4, .ref q5, .int 0, .int 0, .int (-1), .ref q6, .int 0, .ref q7, .int 4095, .ref q8, .ref q9, .ref q10, .int 0])), (q1, .inl (cA 0, 133, .inl g16)), (q2, .inl (cA 0, 3990, .inl (fun _ => 0))), (q3, .inl (cA 0, 48, .inl g15)), (q4, .inl (cA 0, 12, .inl (fun _ => 0))), (q5, .inl (cA 0, 8, .inl (fun _ => 0))), (q6, .inl (cA 0, 12, .inl (fun _ => 0))), (q7, .inl (cA 0, 4, .inl g4)), (q8, .inl (cA 0, 40, .inl (fun _ => 0))), (q9, .inl (cA 0, 8, .inl (fun _ => 0))), (q10, .inl (cA 0, 8, .inl (fun _ => 0)))] H := hP
  have hD : va_D A [(h0, .inr (1, [.ref q1, .ref q2, .int 0, .int 0, .ref q3, .ref q4, .ref q5, .int 0, .int 0, .int (-1), .ref q6, .int 0, .ref q7, .int 4095, .ref q8, .ref q9, .ref q10, .int 0])), (q1, .inl (cA 0, 133, .inl g16)), (q2, .inl (cA 0, 3990, .inl (fun _ => 0))), (q3, .inl (cA 0, 48, .inl g15)), (q4, .inl (cA 0, 12, .inl (fun _ => 0))), (q5, .inl (cA 0, 8, .inl (fun _ => 0))), (q6, .inl (cA 0, 12, .inl (fun _ => 0))), (q7, .inl (cA 0, 4, .inl g4)), (q8, .inl (cA 0, 40, .inl (fun _ => 0))), (q9, .inl (cA 0, 8, .inl (fun _ => 0))), (q10, .inl (cA 0, 8, .inl (fun _ => 0)))] := hD
  refine lv_iconst (v := 0) hx hb dX1_init_144 (by decide +kernel) ?_
  refine lv_istore_n (lv' := [(2, .int 0), (1, .int 2), (0, .ref h0)]) hx hb dX1_init_145 rfl hl (by decide) rfl (fun ls hl => ?_)
  refine lv_iload_n hx hb dX1_init_146 rfl (lv_at hl 0 rfl) ?_
  refine lv_iconst (v := 4) hx hb dX1_init_147 (by decide +kernel) ?_
  refine lv_icmp_ge (tgt := 170) hx hb dX1_init_148 (by decide) (fun hc => absurd hc (by decide +kernel)) (fun _ => ?_)
  refine lv_aload_n hx hb dX1_init_151 rfl (lv_at hl 2 rfl) ?_
  refine va_get (D := D) (ci := 1) (v := .ref q3) (C := RX1) (T := TX1) (N := 18) hx hb hts xin_1 hown hK hP 0 rfl rfl 4 (by decide) (hts _ gw_152) (fun _ h9 => h9) rfl dX1_init_152 ?_
  refine lv_iload_n hx hb dX1_init_155 rfl (lv_at hl 1 rfl) ?_
  refine lv_iconst (v := 4) hx hb dX1_init_156 (by decide +kernel) ?_
  refine k_imul (v := 8) hx hb dX1_init_157 (by decide +kernel) ?_
  refine lv_iload_n hx hb dX1_init_158 rfl (lv_at hl 0 rfl) ?_
  refine k_iadd (v := 8) hx hb dX1_init_159 (by decide +kernel) ?_
  refine lv_iload_n hx hb dX1_init_160 rfl (lv_at hl 1 rfl) ?_
  refine lv_iconst (v := 1) hx hb dX1_init_161 (by decide +kernel) ?_
  refine k_iadd (v := 3) hx hb dX1_init_162 (by decide +kernel) ?_
  refine k_iast (k := 8) hx hb hK hP hD hS 3 rfl (by decide +kernel) (Nat.le_of_ble_eq_true rfl) dX1_init_163 (fun H locs hP hD hS => ?_)
  generalize hg17 : upd g15 8 3 = g17 at hP hD
  have hP : va_P D xG.1 [(h0, .inr (1, [.ref q1, .ref q2, .int 0, .int 0, .ref q3, .ref q4, .ref q5, .int 0, .int 0, .int (-1), .ref q6, .int 0, .ref q7, .int 4095, .ref q8, .ref q9, .ref q10, .int 0])), (q1, .inl (cA 0, 133, .inl g16)), (q2, .inl (cA 0, 3990, .inl (fun _ => 0))), (q3, .inl (cA 0, 48, .inl g17)), (q4, .inl (cA 0, 12, .inl (fun _ => 0))), (q5, .inl (cA 0, 8, .inl (fun _ => 0))), (q6, .inl (cA 0, 12, .inl (fun _ => 0))), (q7, .inl (cA 0, 4, .inl g4)), (q8, .inl (cA 0, 40, .inl (fun _ => 0))), (q9, .inl (cA 0, 8, .inl (fun _ => 0))), (q10, .inl (cA 0, 8, .inl (fun _ => 0)))] H := hP
  have hD : va_D A [(h0, .inr (1, [.ref q1, .ref q2, .int 0, .int 0, .ref q3, .ref q4, .ref q5, .int 0, .int 0, .int (-1), .ref q6, .int 0, .ref q7, .int 4095, .ref q8, .ref q9, .ref q10, .int 0])), (q1, .inl (cA 0, 133, .inl g16)), (q2, .inl (cA 0, 3990, .inl (fun _ => 0))), (q3, .inl (cA 0, 48, .inl g17)), (q4, .inl (cA 0, 12, .inl (fun _ => 0))), (q5, .inl (cA 0, 8, .inl (fun _ => 0))), (q6, .inl (cA 0, 12, .inl (fun _ => 0))), (q7, .inl (cA 0, 4, .inl g4)), (q8, .inl (cA 0, 40, .inl (fun _ => 0))), (q9, .inl (cA 0, 8, .inl (fun _ => 0))), (q10, .inl (cA 0, 8, .inl (fun _ => 0)))] := hD
  refine lv_iinc (v := 1) (lv' := [(2, .int 1), (1, .int 2), (0, .ref h0)]) hx hb dX1_init_164 hl (k := 0) rfl (by decide +kernel) (by decide) rfl (fun ls hl => ?_)
  refine lv_goto (tgt := 146) hx hb dX1_init_167 (by decide) ?_
  refine lv_iload_n hx hb dX1_init_146 rfl (lv_at hl 0 rfl) ?_
  refine lv_iconst (v := 4) hx hb dX1_init_147 (by decide +kernel) ?_
  refine lv_icmp_ge (tgt := 170) hx hb dX1_init_148 (by decide) (fun hc => absurd hc (by decide +kernel)) (fun _ => ?_)
  refine lv_aload_n hx hb dX1_init_151 rfl (lv_at hl 2 rfl) ?_
  refine va_get (D := D) (ci := 1) (v := .ref q3) (C := RX1) (T := TX1) (N := 18) hx hb hts xin_1 hown hK hP 0 rfl rfl 4 (by decide) (hts _ gw_152) (fun _ h9 => h9) rfl dX1_init_152 ?_
  refine lv_iload_n hx hb dX1_init_155 rfl (lv_at hl 1 rfl) ?_
  refine lv_iconst (v := 4) hx hb dX1_init_156 (by decide +kernel) ?_
  refine k_imul (v := 8) hx hb dX1_init_157 (by decide +kernel) ?_
  refine lv_iload_n hx hb dX1_init_158 rfl (lv_at hl 0 rfl) ?_
  refine k_iadd (v := 9) hx hb dX1_init_159 (by decide +kernel) ?_
  refine lv_iload_n hx hb dX1_init_160 rfl (lv_at hl 1 rfl) ?_
  refine lv_iconst (v := 1) hx hb dX1_init_161 (by decide +kernel) ?_
  refine k_iadd (v := 3) hx hb dX1_init_162 (by decide +kernel) ?_
  refine k_iast (k := 9) hx hb hK hP hD hS 3 rfl (by decide +kernel) (Nat.le_of_ble_eq_true rfl) dX1_init_163 (fun H locs hP hD hS => ?_)
  generalize hg18 : upd g17 9 3 = g18 at hP hD
  have hP : va_P D xG.1 [(h0, .inr (1, [.ref q1, .ref q2, .int 0, .int 0, .ref q3, .ref q4, .ref q5, .int 0, .int 0, .int (-1), .ref q6, .int 0, .ref q7, .int 4095, .ref q8, .ref q9, .ref q10, .int 0])), (q1, .inl (cA 0, 133, .inl g16)), (q2, .inl (cA 0, 3990, .inl (fun _ => 0))), (q3, .inl (cA 0, 48, .inl g18)), (q4, .inl (cA 0, 12, .inl (fun _ => 0))), (q5, .inl (cA 0, 8, .inl (fun _ => 0))), (q6, .inl (cA 0, 12, .inl (fun _ => 0))), (q7, .inl (cA 0, 4, .inl g4)), (q8, .inl (cA 0, 40, .inl (fun _ => 0))), (q9, .inl (cA 0, 8, .inl (fun _ => 0))), (q10, .inl (cA 0, 8, .inl (fun _ => 0)))] H := hP
  have hD : va_D A [(h0, .inr (1, [.ref q1, .ref q2, .int 0, .int 0, .ref q3, .ref q4, .ref q5, .int 0, .int 0, .int (-1), .ref q6, .int 0, .ref q7, .int 4095, .ref q8, .ref q9, .ref q10, .int 0])), (q1, .inl (cA 0, 133, .inl g16)), (q2, .inl (cA 0, 3990, .inl (fun _ => 0))), (q3, .inl (cA 0, 48, .inl g18)), (q4, .inl (cA 0, 12, .inl (fun _ => 0))), (q5, .inl (cA 0, 8, .inl (fun _ => 0))), (q6, .inl (cA 0, 12, .inl (fun _ => 0))), (q7, .inl (cA 0, 4, .inl g4)), (q8, .inl (cA 0, 40, .inl (fun _ => 0))), (q9, .inl (cA 0, 8, .inl (fun _ => 0))), (q10, .inl (cA 0, 8, .inl (fun _ => 0)))] := hD
  refine lv_iinc (v := 2) (lv' := [(2, .int 2), (1, .int 2), (0, .ref h0)]) hx hb dX1_init_164 hl (k := 0) rfl (by decide +kernel) (by decide) rfl (fun ls hl => ?_)
  refine lv_goto (tgt := 146) hx hb dX1_init_167 (by decide) ?_
  refine lv_iload_n hx hb dX1_init_146 rfl (lv_at hl 0 rfl) ?_
  refine lv_iconst (v := 4) hx hb dX1_init_147 (by decide +kernel) ?_
  refine lv_icmp_ge (tgt := 170) hx hb dX1_init_148 (by decide) (fun hc => absurd hc (by decide +kernel)) (fun _ => ?_)
  refine lv_aload_n hx hb dX1_init_151 rfl (lv_at hl 2 rfl) ?_
  refine va_get (D := D) (ci := 1) (v := .ref q3) (C := RX1) (T := TX1) (N := 18) hx hb hts xin_1 hown hK hP 0 rfl rfl 4 (by decide) (hts _ gw_152) (fun _ h9 => h9) rfl dX1_init_152 ?_
  refine lv_iload_n hx hb dX1_init_155 rfl (lv_at hl 1 rfl) ?_
  refine lv_iconst (v := 4) hx hb dX1_init_156 (by decide +kernel) ?_
  refine k_imul (v := 8) hx hb dX1_init_157 (by decide +kernel) ?_
  refine lv_iload_n hx hb dX1_init_158 rfl (lv_at hl 0 rfl) ?_
  refine k_iadd (v := 10) hx hb dX1_init_159 (by decide +kernel) ?_
  refine lv_iload_n hx hb dX1_init_160 rfl (lv_at hl 1 rfl) ?_
  refine lv_iconst (v := 1) hx hb dX1_init_161 (by decide +kernel) ?_
  refine k_iadd (v := 3) hx hb dX1_init_162 (by decide +kernel) ?_
  refine k_iast (k := 10) hx hb hK hP hD hS 3 rfl (by decide +kernel) (Nat.le_of_ble_eq_true rfl) dX1_init_163 (fun H locs hP hD hS => ?_)
  generalize hg19 : upd g18 10 3 = g19 at hP hD
  have hP : va_P D xG.1 [(h0, .inr (1, [.ref q1, .ref q2, .int 0, .int 0, .ref q3, .ref q4, .ref q5, .int 0, .int 0, .int (-1), .ref q6, .int 0, .ref q7, .int 4095, .ref q8, .ref q9, .ref q10, .int 0])), (q1, .inl (cA 0, 133, .inl g16)), (q2, .inl (cA 0, 3990, .inl (fun _ => 0))), (q3, .inl (cA 0, 48, .inl g19)), (q4, .inl (cA 0, 12, .inl (fun _ => 0))), (q5, .inl (cA 0, 8, .inl (fun _ => 0))), (q6, .inl (cA 0, 12, .inl (fun _ => 0))), (q7, .inl (cA 0, 4, .inl g4)), (q8, .inl (cA 0, 40, .inl (fun _ => 0))), (q9, .inl (cA 0, 8, .inl (fun _ => 0))), (q10, .inl (cA 0, 8, .inl (fun _ => 0)))] H := hP
  have hD : va_D A [(h0, .inr (1, [.ref q1, .ref q2, .int 0, .int 0, .ref q3, .ref q4, .ref q5, .int 0, .int 0, .int (-1), .ref q6, .int 0, .ref q7, .int 4095, .ref q8, .ref q9, .ref q10, .int 0])), (q1, .inl (cA 0, 133, .inl g16)), (q2, .inl (cA 0, 3990, .inl (fun _ => 0))), (q3, .inl (cA 0, 48, .inl g19)), (q4, .inl (cA 0, 12, .inl (fun _ => 0))), (q5, .inl (cA 0, 8, .inl (fun _ => 0))), (q6, .inl (cA 0, 12, .inl (fun _ => 0))), (q7, .inl (cA 0, 4, .inl g4)), (q8, .inl (cA 0, 40, .inl (fun _ => 0))), (q9, .inl (cA 0, 8, .inl (fun _ => 0))), (q10, .inl (cA 0, 8, .inl (fun _ => 0)))] := hD
  refine lv_iinc (v := 3) (lv' := [(2, .int 3), (1, .int 2), (0, .ref h0)]) hx hb dX1_init_164 hl (k := 0) rfl (by decide +kernel) (by decide) rfl (fun ls hl => ?_)
  refine lv_goto (tgt := 146) hx hb dX1_init_167 (by decide) ?_
  refine lv_iload_n hx hb dX1_init_146 rfl (lv_at hl 0 rfl) ?_
  refine lv_iconst (v := 4) hx hb dX1_init_147 (by decide +kernel) ?_
  refine lv_icmp_ge (tgt := 170) hx hb dX1_init_148 (by decide) (fun hc => absurd hc (by decide +kernel)) (fun _ => ?_)
  refine lv_aload_n hx hb dX1_init_151 rfl (lv_at hl 2 rfl) ?_
  refine va_get (D := D) (ci := 1) (v := .ref q3) (C := RX1) (T := TX1) (N := 18) hx hb hts xin_1 hown hK hP 0 rfl rfl 4 (by decide) (hts _ gw_152) (fun _ h9 => h9) rfl dX1_init_152 ?_
  refine lv_iload_n hx hb dX1_init_155 rfl (lv_at hl 1 rfl) ?_
  refine lv_iconst (v := 4) hx hb dX1_init_156 (by decide +kernel) ?_
  refine k_imul (v := 8) hx hb dX1_init_157 (by decide +kernel) ?_
  refine lv_iload_n hx hb dX1_init_158 rfl (lv_at hl 0 rfl) ?_
  refine k_iadd (v := 11) hx hb dX1_init_159 (by decide +kernel) ?_
  refine lv_iload_n hx hb dX1_init_160 rfl (lv_at hl 1 rfl) ?_
  refine lv_iconst (v := 1) hx hb dX1_init_161 (by decide +kernel) ?_
  refine k_iadd (v := 3) hx hb dX1_init_162 (by decide +kernel) ?_
  refine k_iast (k := 11) hx hb hK hP hD hS 3 rfl (by decide +kernel) (Nat.le_of_ble_eq_true rfl) dX1_init_163 (fun H locs hP hD hS => ?_)
  generalize hg20 : upd g19 11 3 = g20 at hP hD
  have hP : va_P D xG.1 [(h0, .inr (1, [.ref q1, .ref q2, .int 0, .int 0, .ref q3, .ref q4, .ref q5, .int 0, .int 0, .int (-1), .ref q6, .int 0, .ref q7, .int 4095, .ref q8, .ref q9, .ref q10, .int 0])), (q1, .inl (cA 0, 133, .inl g16)), (q2, .inl (cA 0, 3990, .inl (fun _ => 0))), (q3, .inl (cA 0, 48, .inl g20)), (q4, .inl (cA 0, 12, .inl (fun _ => 0))), (q5, .inl (cA 0, 8, .inl (fun _ => 0))), (q6, .inl (cA 0, 12, .inl (fun _ => 0))), (q7, .inl (cA 0, 4, .inl g4)), (q8, .inl (cA 0, 40, .inl (fun _ => 0))), (q9, .inl (cA 0, 8, .inl (fun _ => 0))), (q10, .inl (cA 0, 8, .inl (fun _ => 0)))] H := hP
  have hD : va_D A [(h0, .inr (1, [.ref q1, .ref q2, .int 0, .int 0, .ref q3, .ref q4, .ref q5, .int 0, .int 0, .int (-1), .ref q6, .int 0, .ref q7, .int 4095, .ref q8, .ref q9, .ref q10, .int 0])), (q1, .inl (cA 0, 133, .inl g16)), (q2, .inl (cA 0, 3990, .inl (fun _ => 0))), (q3, .inl (cA 0, 48, .inl g20)), (q4, .inl (cA 0, 12, .inl (fun _ => 0))), (q5, .inl (cA 0, 8, .inl (fun _ => 0))), (q6, .inl (cA 0, 12, .inl (fun _ => 0))), (q7, .inl (cA 0, 4, .inl g4)), (q8, .inl (cA 0, 40, .inl (fun _ => 0))), (q9, .inl (cA 0, 8, .inl (fun _ => 0))), (q10, .inl (cA 0, 8, .inl (fun _ => 0)))] := hD
  refine lv_iinc (v := 4) (lv' := [(2, .int 4), (1, .int 2), (0, .ref h0)]) hx hb dX1_init_164 hl (k := 0) rfl (by decide +kernel) (by decide) rfl (fun ls hl => ?_)
  refine lv_goto (tgt := 146) hx hb dX1_init_167 (by decide) ?_
  refine lv_iload_n hx hb dX1_init_146 rfl (lv_at hl 0 rfl) ?_
  refine lv_iconst (v := 4) hx hb dX1_init_147 (by decide +kernel) ?_
  refine lv_icmp_ge (tgt := 170) hx hb dX1_init_148 (by decide) (fun _ => ?_) (fun hc => absurd (by decide +kernel) hc)
  refine lv_iinc (v := 3) (lv' := [(1, .int 3), (2, .int 4), (0, .ref h0)]) hx hb dX1_init_170 hl (k := 1) rfl (by decide +kernel) (by decide) rfl (fun ls hl => ?_)
  refine lv_goto (tgt := 126) hx hb dX1_init_173 (by decide) ?_
  refine lv_iload_n hx hb dX1_init_126 rfl (lv_at hl 0 rfl) ?_
  refine lv_bipush (v := 12) hx hb dX1_init_127 (by decide +kernel) ?_
  refine lv_icmp_ge (tgt := 176) hx hb dX1_init_129 (by decide) (fun hc => absurd hc (by decide +kernel)) (fun _ => ?_)
  refine lv_aload_n hx hb dX1_init_132 rfl (lv_at hl 2 rfl) ?_
  refine va_get (D := D) (ci := 1) (v := .ref q1) (C := RX1) (T := TX1) (N := 18) hx hb hts xin_1 hown hK hP 0 rfl rfl 0 (by decide) (hts _ gw_144) (fun _ h9 => h9) rfl dX1_init_133 ?_
  refine lv_bipush (v := 16) hx hb dX1_init_136 (by decide +kernel) ?_
  refine lv_iload_n hx hb dX1_init_138 rfl (lv_at hl 0 rfl) ?_
  refine k_iadd (v := 19) hx hb dX1_init_139 (by decide +kernel) ?_
  refine lv_iload_n hx hb dX1_init_140 rfl (lv_at hl 0 rfl) ?_
  refine lv_iconst (v := 1) hx hb dX1_init_141 (by decide +kernel) ?_
  refine k_iadd (v := 4) hx hb dX1_init_142 (by decide +kernel) ?_
  refine k_iast (k := 19) hx hb hK hP hD hS 1 rfl (by decide +kernel) (Nat.le_of_ble_eq_true rfl) dX1_init_143 (fun H locs hP hD hS => ?_)
  generalize hg21 : upd g16 19 4 = g21 at hP hD
  have hP : va_P D xG.1 [(h0, .inr (1, [.ref q1, .ref q2, .int 0, .int 0, .ref q3, .ref q4, .ref q5, .int 0, .int 0, .int (-1), .ref q6, .int 0, .ref q7, .int 4095, .ref q8, .ref q9, .ref q10, .int 0])), (q1, .inl (cA 0, 133, .inl g21)), (q2, .inl (cA 0, 3990, .inl (fun _ => 0))), (q3, .inl (cA 0, 48, .inl g20)), (q4, .inl (cA 0, 12, .inl (fun _ => 0))), (q5, .inl (cA 0, 8, .inl (fun _ => 0))), (q6, .inl (cA 0, 12, .inl (fun _ => 0))), (q7, .inl (cA 0, 4, .inl g4)), (q8, .inl (cA 0, 40, .inl (fun _ => 0))), (q9, .inl (cA 0, 8, .inl (fun _ => 0))), (q10, .inl (cA 0, 8, .inl (fun _ => 0)))] H := hP
  have hD : va_D A [(h0, .inr (1, [.ref q1, .ref q2, .int 0, .int 0, .ref q3, .ref q4, .ref q5, .int 0, .int 0, .int (-1), .ref q6, .int 0, .ref q7, .int 4095, .ref q8, .ref q9, .ref q10, .int 0])), (q1, .inl (cA 0, 133, .inl g21)), (q2, .inl (cA 0, 3990, .inl (fun _ => 0))), (q3, .inl (cA 0, 48, .inl g20)), (q4, .inl (cA 0, 12, .inl (fun _ => 0))), (q5, .inl (cA 0, 8, .inl (fun _ => 0))), (q6, .inl (cA 0, 12, .inl (fun _ => 0))), (q7, .inl (cA 0, 4, .inl g4)), (q8, .inl (cA 0, 40, .inl (fun _ => 0))), (q9, .inl (cA 0, 8, .inl (fun _ => 0))), (q10, .inl (cA 0, 8, .inl (fun _ => 0)))] := hD
  refine lv_iconst (v := 0) hx hb dX1_init_144 (by decide +kernel) ?_
  refine lv_istore_n (lv' := [(2, .int 0), (1, .int 3), (0, .ref h0)]) hx hb dX1_init_145 rfl hl (by decide) rfl (fun ls hl => ?_)
  refine lv_iload_n hx hb dX1_init_146 rfl (lv_at hl 0 rfl) ?_
  refine lv_iconst (v := 4) hx hb dX1_init_147 (by decide +kernel) ?_
  refine lv_icmp_ge (tgt := 170) hx hb dX1_init_148 (by decide) (fun hc => absurd hc (by decide +kernel)) (fun _ => ?_)
  refine lv_aload_n hx hb dX1_init_151 rfl (lv_at hl 2 rfl) ?_
  refine va_get (D := D) (ci := 1) (v := .ref q3) (C := RX1) (T := TX1) (N := 18) hx hb hts xin_1 hown hK hP 0 rfl rfl 4 (by decide) (hts _ gw_152) (fun _ h9 => h9) rfl dX1_init_152 ?_
  refine lv_iload_n hx hb dX1_init_155 rfl (lv_at hl 1 rfl) ?_
  refine lv_iconst (v := 4) hx hb dX1_init_156 (by decide +kernel) ?_
  refine k_imul (v := 12) hx hb dX1_init_157 (by decide +kernel) ?_
  refine lv_iload_n hx hb dX1_init_158 rfl (lv_at hl 0 rfl) ?_
  refine k_iadd (v := 12) hx hb dX1_init_159 (by decide +kernel) ?_
  refine lv_iload_n hx hb dX1_init_160 rfl (lv_at hl 1 rfl) ?_
  refine lv_iconst (v := 1) hx hb dX1_init_161 (by decide +kernel) ?_
  refine k_iadd (v := 4) hx hb dX1_init_162 (by decide +kernel) ?_
  refine k_iast (k := 12) hx hb hK hP hD hS 3 rfl (by decide +kernel) (Nat.le_of_ble_eq_true rfl) dX1_init_163 (fun H locs hP hD hS => ?_)
  generalize hg22 : upd g20 12 4 = g22 at hP hD
  have hP : va_P D xG.1 [(h0, .inr (1, [.ref q1, .ref q2, .int 0, .int 0, .ref q3, .ref q4, .ref q5, .int 0, .int 0, .int (-1), .ref q6, .int 0, .ref q7, .int 4095, .ref q8, .ref q9, .ref q10, .int 0])), (q1, .inl (cA 0, 133, .inl g21)), (q2, .inl (cA 0, 3990, .inl (fun _ => 0))), (q3, .inl (cA 0, 48, .inl g22)), (q4, .inl (cA 0, 12, .inl (fun _ => 0))), (q5, .inl (cA 0, 8, .inl (fun _ => 0))), (q6, .inl (cA 0, 12, .inl (fun _ => 0))), (q7, .inl (cA 0, 4, .inl g4)), (q8, .inl (cA 0, 40, .inl (fun _ => 0))), (q9, .inl (cA 0, 8, .inl (fun _ => 0))), (q10, .inl (cA 0, 8, .inl (fun _ => 0)))] H := hP
  have hD : va_D A [(h0, .inr (1, [.ref q1, .ref q2, .int 0, .int 0, .ref q3, .ref q4, .ref q5, .int 0, .int 0, .int (-1), .ref q6, .int 0, .ref q7, .int 4095, .ref q8, .ref q9, .ref q10, .int 0])), (q1, .inl (cA 0, 133, .inl g21)), (q2, .inl (cA 0, 3990, .inl (fun _ => 0))), (q3, .inl (cA 0, 48, .inl g22)), (q4, .inl (cA 0, 12, .inl (fun _ => 0))), (q5, .inl (cA 0, 8, .inl (fun _ => 0))), (q6, .inl (cA 0, 12, .inl (fun _ => 0))), (q7, .inl (cA 0, 4, .inl g4)), (q8, .inl (cA 0, 40, .inl (fun _ => 0))), (q9, .inl (cA 0, 8, .inl (fun _ => 0))), (q10, .inl (cA 0, 8, .inl (fun _ => 0)))] := hD
  refine lv_iinc (v := 1) (lv' := [(2, .int 1), (1, .int 3), (0, .ref h0)]) hx hb dX1_init_164 hl (k := 0) rfl (by decide +kernel) (by decide) rfl (fun ls hl => ?_)
  refine lv_goto (tgt := 146) hx hb dX1_init_167 (by decide) ?_
  refine lv_iload_n hx hb dX1_init_146 rfl (lv_at hl 0 rfl) ?_
  refine lv_iconst (v := 4) hx hb dX1_init_147 (by decide +kernel) ?_
  refine lv_icmp_ge (tgt := 170) hx hb dX1_init_148 (by decide) (fun hc => absurd hc (by decide +kernel)) (fun _ => ?_)
  refine lv_aload_n hx hb dX1_init_151 rfl (lv_at hl 2 rfl) ?_
  refine va_get (D := D) (ci := 1) (v := .ref q3) (C := RX1) (T := TX1) (N := 18) hx hb hts xin_1 hown hK hP 0 rfl rfl 4 (by decide) (hts _ gw_152) (fun _ h9 => h9) rfl dX1_init_152 ?_
  refine lv_iload_n hx hb dX1_init_155 rfl (lv_at hl 1 rfl) ?_
  refine lv_iconst (v := 4) hx hb dX1_init_156 (by decide +kernel) ?_
  refine k_imul (v := 12) hx hb dX1_init_157 (by decide +kernel) ?_
  refine lv_iload_n hx hb dX1_init_158 rfl (lv_at hl 0 rfl) ?_
  refine k_iadd (v := 13) hx hb dX1_init_159 (by decide +kernel) ?_
  refine lv_iload_n hx hb dX1_init_160 rfl (lv_at hl 1 rfl) ?_
  refine lv_iconst (v := 1) hx hb dX1_init_161 (by decide +kernel) ?_
  refine k_iadd (v := 4) hx hb dX1_init_162 (by decide +kernel) ?_
  refine k_iast (k := 13) hx hb hK hP hD hS 3 rfl (by decide +kernel) (Nat.le_of_ble_eq_true rfl) dX1_init_163 (fun H locs hP hD hS => ?_)
  generalize hg23 : upd g22 13 4 = g23 at hP hD
  have hP : va_P D xG.1 [(h0, .inr (1, [.ref q1, .ref q2, .int 0, .int 0, .ref q3, .ref q4, .ref q5, .int 0, .int 0, .int (-1), .ref q6, .int 0, .ref q7, .int 4095, .ref q8, .ref q9, .ref q10, .int 0])), (q1, .inl (cA 0, 133, .inl g21)), (q2, .inl (cA 0, 3990, .inl (fun _ => 0))), (q3, .inl (cA 0, 48, .inl g23)), (q4, .inl (cA 0, 12, .inl (fun _ => 0))), (q5, .inl (cA 0, 8, .inl (fun _ => 0))), (q6, .inl (cA 0, 12, .inl (fun _ => 0))), (q7, .inl (cA 0, 4, .inl g4)), (q8, .inl (cA 0, 40, .inl (fun _ => 0))), (q9, .inl (cA 0, 8, .inl (fun _ => 0))), (q10, .inl (cA 0, 8, .inl (fun _ => 0)))] H := hP
  have hD : va_D A [(h0, .inr (1, [.ref q1, .ref q2, .int 0, .int 0, .ref q3, .ref q4, .ref q5, .int 0, .int 0, .int (-1), .ref q6, .int 0, .ref q7, .int 4095, .ref q8, .ref q9, .ref q10, .int 0])), (q1, .inl (cA 0, 133, .inl g21)), (q2, .inl (cA 0, 3990, .inl (fun _ => 0))), (q3, .inl (cA 0, 48, .inl g23)), (q4, .inl (cA 0, 12, .inl (fun _ => 0))), (q5, .inl (cA 0, 8, .inl (fun _ => 0))), (q6, .inl (cA 0, 12, .inl (fun _ => 0))), (q7, .inl (cA 0, 4, .inl g4)), (q8, .inl (cA 0, 40, .inl (fun _ => 0))), (q9, .inl (cA 0, 8, .inl (fun _ => 0))), (q10, .inl (cA 0, 8, .inl (fun _ => 0)))] := hD
  refine lv_iinc (v := 2) (lv' := [(2, .int 2), (1, .int 3), (0, .ref h0)]) hx hb dX1_init_164 hl (k := 0) rfl (by decide +kernel) (by decide) rfl (fun ls hl => ?_)
  refine lv_goto (tgt := 146) hx hb dX1_init_167 (by decide) ?_
  refine lv_iload_n hx hb dX1_init_146 rfl (lv_at hl 0 rfl) ?_
  refine lv_iconst (v := 4) hx hb dX1_init_147 (by decide +kernel) ?_
  refine lv_icmp_ge (tgt := 170) hx hb dX1_init_148 (by decide) (fun hc => absurd hc (by decide +kernel)) (fun _ => ?_)
  refine lv_aload_n hx hb dX1_init_151 rfl (lv_at hl 2 rfl) ?_
  refine va_get (D := D) (ci := 1) (v := .ref q3) (C := RX1) (T := TX1) (N := 18) hx hb hts xin_1 hown hK hP 0 rfl rfl 4 (by decide) (hts _ gw_152) (fun _ h9 => h9) rfl dX1_init_152 ?_
  refine lv_iload_n hx hb dX1_init_155 rfl (lv_at hl 1 rfl) ?_
  refine lv_iconst (v := 4) hx hb dX1_init_156 (by decide +kernel) ?_
  refine k_imul (v := 12) hx hb dX1_init_157 (by decide +kernel) ?_
  refine lv_iload_n hx hb dX1_init_158 rfl (lv_at hl 0 rfl) ?_
  refine k_iadd (v := 14) hx hb dX1_init_159 (by decide +kernel) ?_
  refine lv_iload_n hx hb dX1_init_160 rfl (lv_at hl 1 rfl) ?_
  refine lv_iconst (v := 1) hx hb dX1_init_161 (by decide +kernel) ?_
  refine k_iadd (v := 4) hx hb dX1_init_162 (by decide +kernel) ?_
  refine k_iast (k := 14) hx hb hK hP hD hS 3 rfl (by decide +kernel) (Nat.le_of_ble_eq_true rfl) dX1_init_163 (fun H locs hP hD hS => ?_)
  generalize hg24 : upd g23 14 4 = g24 at hP hD
  have hP : va_P D xG.1 [(h0, .inr (1, [.ref q1, .ref q2, .int 0, .int 0, .ref q3, .ref q4, .ref q5, .int 0, .int 0, .int (-1), .ref q6, .int 0, .ref q7, .int 4095, .ref q8, .ref q9, .ref q10, .int 0])), (q1, .inl (cA 0, 133, .inl g21)), (q2, .inl (cA 0, 3990, .inl (fun _ => 0))), (q3, .inl (cA 0, 48, .inl g24)), (q4, .inl (cA 0, 12, .inl (fun _ => 0))), (q5, .inl (cA 0, 8, .inl (fun _ => 0))), (q6, .inl (cA 0, 12, .inl (fun _ => 0))), (q7, .inl (cA 0, 4, .inl g4)), (q8, .inl (cA 0, 40, .inl (fun _ => 0))), (q9, .inl (cA 0, 8, .inl (fun _ => 0))), (q10, .inl (cA 0, 8, .inl (fun _ => 0)))] H := hP
  have hD : va_D A [(h0, .inr (1, [.ref q1, .ref q2, .int 0, .int 0, .ref q3, .ref q4, .ref q5, .int 0, .int 0, .int (-1), .ref q6, .int 0, .ref q7, .int 4095, .ref q8, .ref q9, .ref q10, .int 0])), (q1, .inl (cA 0, 133, .inl g21)), (q2, .inl (cA 0, 3990, .inl (fun _ => 0))), (q3, .inl (cA 0, 48, .inl g24)), (q4, .inl (cA 0, 12, .inl (fun _ => 0))), (q5, .inl (cA 0, 8, .inl (fun _ => 0))), (q6, .inl (cA 0, 12, .inl (fun _ => 0))), (q7, .inl (cA 0, 4, .inl g4)), (q8, .inl (cA 0, 40, .inl (fun _ => 0))), (q9, .inl (cA 0, 8, .inl (fun _ => 0))), (q10, .inl (cA 0, 8, .inl (fun _ => 0)))] := hD
  refine lv_iinc (v := 3) (lv' := [(2, .int 3), (1, .int 3), (0, .ref h0)]) hx hb dX1_init_164 hl (k := 0) rfl (by decide +kernel) (by decide) rfl (fun ls hl => ?_)
  refine lv_goto (tgt := 146) hx hb dX1_init_167 (by decide) ?_
  refine lv_iload_n hx hb dX1_init_146 rfl (lv_at hl 0 rfl) ?_
  refine lv_iconst (v := 4) hx hb dX1_init_147 (by decide +kernel) ?_
  refine lv_icmp_ge (tgt := 170) hx hb dX1_init_148 (by decide) (fun hc => absurd hc (by decide +kernel)) (fun _ => ?_)
  refine lv_aload_n hx hb dX1_init_151 rfl (lv_at hl 2 rfl) ?_
  refine va_get (D := D) (ci := 1) (v := .ref q3) (C := RX1) (T := TX1) (N := 18) hx hb hts xin_1 hown hK hP 0 rfl rfl 4 (by decide) (hts _ gw_152) (fun _ h9 => h9) rfl dX1_init_152 ?_
  refine lv_iload_n hx hb dX1_init_155 rfl (lv_at hl 1 rfl) ?_
  refine lv_iconst (v := 4) hx hb dX1_init_156 (by decide +kernel) ?_
  refine k_imul (v := 12) hx hb dX1_init_157 (by decide +kernel) ?_
  refine lv_iload_n hx hb dX1_init_158 rfl (lv_at hl 0 rfl) ?_
  refine k_iadd (v := 15) hx hb dX1_init_159 (by decide +kernel) ?_
  refine lv_iload_n hx hb dX1_init_160 rfl (lv_at hl 1 rfl) ?_
  refine lv_iconst (v := 1) hx hb dX1_init_161 (by decide +kernel) ?_
  refine k_iadd (v := 4) hx hb dX1_init_162 (by decide +kernel) ?_
  refine k_iast (k := 15) hx hb hK hP hD hS 3 rfl (by decide +kernel) (Nat.le_of_ble_eq_true rfl) dX1_init_163 (fun H locs hP hD hS => ?_)
  generalize hg25 : upd g24 15 4 = g25 at hP hD
  have hP : va_P D xG.1 [(h0, .inr (1, [.ref q1, .ref q2, .int 0, .int 0, .ref q3, .ref q4, .ref q5, .int 0, .int 0, .int (-1), .ref q6, .int 0, .ref q7, .int 4095, .ref q8, .ref q9, .ref q10, .int 0])), (q1, .inl (cA 0, 133, .inl g21)), (q2, .inl (cA 0, 3990, .inl (fun _ => 0))), (q3, .inl (cA 0, 48, .inl g25)), (q4, .inl (cA 0, 12, .inl (fun _ => 0))), (q5, .inl (cA 0, 8, .inl (fun _ => 0))), (q6, .inl (cA 0, 12, .inl (fun _ => 0))), (q7, .inl (cA 0, 4, .inl g4)), (q8, .inl (cA 0, 40, .inl (fun _ => 0))), (q9, .inl (cA 0, 8, .inl (fun _ => 0))), (q10, .inl (cA 0, 8, .inl (fun _ => 0)))] H := hP
  have hD : va_D A [(h0, .inr (1, [.ref q1, .ref q2, .int 0, .int 0, .ref q3, .ref q4, .ref q5, .int 0, .int 0, .int (-1), .ref q6, .int 0, .ref q7, .int 4095, .ref q8, .ref q9, .ref q10, .int 0])), (q1, .inl (cA 0, 133, .inl g21)), (q2, .inl (cA 0, 3990, .inl (fun _ => 0))), (q3, .inl (cA 0, 48, .inl g25)), (q4, .inl (cA 0, 12, .inl (fun _ => 0))), (q5, .inl (cA 0, 8, .inl (fun _ => 0))), (q6, .inl (cA 0, 12, .inl (fun _ => 0))), (q7, .inl (cA 0, 4, .inl g4)), (q8, .inl (cA 0, 40, .inl (fun _ => 0))), (q9, .inl (cA 0, 8, .inl (fun _ => 0))), (q10, .inl (cA 0, 8, .inl (fun _ => 0)))] := hD
  refine lv_iinc (v := 4) (lv' := [(2, .int 4), (1, .int 3), (0, .ref h0)]) hx hb dX1_init_164 hl (k := 0) rfl (by decide +kernel) (by decide) rfl (fun ls hl => ?_)
  refine lv_goto (tgt := 146) hx hb dX1_init_167 (by decide) ?_
  refine lv_iload_n hx hb dX1_init_146 rfl (lv_at hl 0 rfl) ?_
  refine lv_iconst (v := 4) hx hb dX1_init_147 (by decide +kernel) ?_
  refine lv_icmp_ge (tgt := 170) hx hb dX1_init_148 (by decide) (fun _ => ?_) (fun hc => absurd (by decide +kernel) hc)
  refine lv_iinc (v := 4) (lv' := [(1, .int 4), (2, .int 4), (0, .ref h0)]) hx hb dX1_init_170 hl (k := 1) rfl (by decide +kernel) (by decide) rfl (fun ls hl => ?_)
  refine lv_goto (tgt := 126) hx hb dX1_init_173 (by decide) ?_
  refine lv_iload_n hx hb dX1_init_126 rfl (lv_at hl 0 rfl) ?_
  refine lv_bipush (v := 12) hx hb dX1_init_127 (by decide +kernel) ?_
  refine lv_icmp_ge (tgt := 176) hx hb dX1_init_129 (by decide) (fun hc => absurd hc (by decide +kernel)) (fun _ => ?_)
  refine lv_aload_n hx hb dX1_init_132 rfl (lv_at hl 2 rfl) ?_
  refine va_get (D := D) (ci := 1) (v := .ref q1) (C := RX1) (T := TX1) (N := 18) hx hb hts xin_1 hown hK hP 0 rfl rfl 0 (by decide) (hts _ gw_144) (fun _ h9 => h9) rfl dX1_init_133 ?_
  refine lv_bipush (v := 16) hx hb dX1_init_136 (by decide +kernel) ?_
  refine lv_iload_n hx hb dX1_init_138 rfl (lv_at hl 0 rfl) ?_
  refine k_iadd (v := 20) hx hb dX1_init_139 (by decide +kernel) ?_
  refine lv_iload_n hx hb dX1_init_140 rfl (lv_at hl 0 rfl) ?_
  refine lv_iconst (v := 1) hx hb dX1_init_141 (by decide +kernel) ?_
  refine k_iadd (v := 5) hx hb dX1_init_142 (by decide +kernel) ?_
  refine k_iast (k := 20) hx hb hK hP hD hS 1 rfl (by decide +kernel) (Nat.le_of_ble_eq_true rfl) dX1_init_143 (fun H locs hP hD hS => ?_)
  generalize hg26 : upd g21 20 5 = g26 at hP hD
  have hP : va_P D xG.1 [(h0, .inr (1, [.ref q1, .ref q2, .int 0, .int 0, .ref q3, .ref q4, .ref q5, .int 0, .int 0, .int (-1), .ref q6, .int 0, .ref q7, .int 4095, .ref q8, .ref q9, .ref q10, .int 0])), (q1, .inl (cA 0, 133, .inl g26)), (q2, .inl (cA 0, 3990, .inl (fun _ => 0))), (q3, .inl (cA 0, 48, .inl g25)), (q4, .inl (cA 0, 12, .inl (fun _ => 0))), (q5, .inl (cA 0, 8, .inl (fun _ => 0))), (q6, .inl (cA 0, 12, .inl (fun _ => 0))), (q7, .inl (cA 0, 4, .inl g4)), (q8, .inl (cA 0, 40, .inl (fun _ => 0))), (q9, .inl (cA 0, 8, .inl (fun _ => 0))), (q10, .inl (cA 0, 8, .inl (fun _ => 0)))] H := hP
  have hD : va_D A [(h0, .inr (1, [.ref q1, .ref q2, .int 0, .int 0, .ref q3, .ref q4, .ref q5, .int 0, .int 0, .int (-1), .ref q6, .int 0, .ref q7, .int 4095, .ref q8, .ref q9, .ref q10, .int 0])), (q1, .inl (cA 0, 133, .inl g26)), (q2, .inl (cA 0, 3990, .inl (fun _ => 0))), (q3, .inl (cA 0, 48, .inl g25)), (q4, .inl (cA 0, 12, .inl (fun _ => 0))), (q5, .inl (cA 0, 8, .inl (fun _ => 0))), (q6, .inl (cA 0, 12, .inl (fun _ => 0))), (q7, .inl (cA 0, 4, .inl g4)), (q8, .inl (cA 0, 40, .inl (fun _ => 0))), (q9, .inl (cA 0, 8, .inl (fun _ => 0))), (q10, .inl (cA 0, 8, .inl (fun _ => 0)))] := hD
  refine lv_iconst (v := 0) hx hb dX1_init_144 (by decide +kernel) ?_
  refine lv_istore_n (lv' := [(2, .int 0), (1, .int 4), (0, .ref h0)]) hx hb dX1_init_145 rfl hl (by decide) rfl (fun ls hl => ?_)
  refine lv_iload_n hx hb dX1_init_146 rfl (lv_at hl 0 rfl) ?_
  refine lv_iconst (v := 4) hx hb dX1_init_147 (by decide +kernel) ?_
  refine lv_icmp_ge (tgt := 170) hx hb dX1_init_148 (by decide) (fun hc => absurd hc (by decide +kernel)) (fun _ => ?_)
  refine lv_aload_n hx hb dX1_init_151 rfl (lv_at hl 2 rfl) ?_
  refine va_get (D := D) (ci := 1) (v := .ref q3) (C := RX1) (T := TX1) (N := 18) hx hb hts xin_1 hown hK hP 0 rfl rfl 4 (by decide) (hts _ gw_152) (fun _ h9 => h9) rfl dX1_init_152 ?_
  refine lv_iload_n hx hb dX1_init_155 rfl (lv_at hl 1 rfl) ?_
  refine lv_iconst (v := 4) hx hb dX1_init_156 (by decide +kernel) ?_
  refine k_imul (v := 16) hx hb dX1_init_157 (by decide +kernel) ?_
  refine lv_iload_n hx hb dX1_init_158 rfl (lv_at hl 0 rfl) ?_
  refine k_iadd (v := 16) hx hb dX1_init_159 (by decide +kernel) ?_
  refine lv_iload_n hx hb dX1_init_160 rfl (lv_at hl 1 rfl) ?_
  refine lv_iconst (v := 1) hx hb dX1_init_161 (by decide +kernel) ?_
  refine k_iadd (v := 5) hx hb dX1_init_162 (by decide +kernel) ?_
  refine k_iast (k := 16) hx hb hK hP hD hS 3 rfl (by decide +kernel) (Nat.le_of_ble_eq_true rfl) dX1_init_163 (fun H locs hP hD hS => ?_)
  generalize hg27 : upd g25 16 5 = g27 at hP hD
  have hP : va_P D xG.1 [(h0, .inr (1, [.ref q1, .ref q2, .int 0, .int 0, .ref q3, .ref q4, .ref q5, .int 0, .int 0, .int (-1), .ref q6, .int 0, .ref q7, .int 4095, .ref q8, .ref q9, .ref q10, .int 0])), (q1, .inl (cA 0, 133, .inl g26)), (q2, .inl (cA 0, 3990, .inl (fun _ => 0))), (q3, .inl (cA 0, 48, .inl g27)), (q4, .inl (cA 0, 12, .inl (fun _ => 0))), (q5, .inl (cA 0, 8, .inl (fun _ => 0))), (q6, .inl (cA 0, 12, .inl (fun _ => 0))), (q7, .inl (cA 0, 4, .inl g4)), (q8, .inl (cA 0, 40, .inl (fun _ => 0))), (q9, .inl (cA 0, 8, .inl (fun _ => 0))), (q10, .inl (cA 0, 8, .inl (fun _ => 0)))] H := hP
  have hD : va_D A [(h0, .inr (1, [.ref q1, .ref q2, .int 0, .int 0, .ref q3, .ref q4, .ref q5, .int 0, .int 0, .int (-1), .ref q6, .int 0, .ref q7, .int 4095, .ref q8, .ref q9, .ref q10, .int 0])), (q1, .inl (cA 0, 133, .inl g26)), (q2, .inl (cA 0, 3990, .inl (fun _ => 0))), (q3, .inl (cA 0, 48, .inl g27)), (q4, .inl (cA 0, 12, .inl (fun _ => 0))), (q5, .inl (cA 0, 8, .inl (fun _ => 0))), (q6, .inl (cA 0, 12, .inl (fun _ => 0))), (q7, .inl (cA 0, 4, .inl g4)), (q8, .inl (cA 0, 40, .inl (fun _ => 0))), (q9, .inl (cA 0, 8, .inl (fun _ => 0))), (q10, .inl (cA 0, 8, .inl (fun _ => 0)))] := hD
  refine lv_iinc (v := 1) (lv' := [(2, .int 1), (1, .int 4), (0, .ref h0)]) hx hb dX1_init_164 hl (k := 0) rfl (by decide +kernel) (by decide) rfl (fun ls hl => ?_)
  refine lv_goto (tgt := 146) hx hb dX1_init_167 (by decide) ?_
  refine lv_iload_n hx hb dX1_init_146 rfl (lv_at hl 0 rfl) ?_
  refine lv_iconst (v := 4) hx hb dX1_init_147 (by decide +kernel) ?_
  refine lv_icmp_ge (tgt := 170) hx hb dX1_init_148 (by decide) (fun hc => absurd hc (by decide +kernel)) (fun _ => ?_)
  refine lv_aload_n hx hb dX1_init_151 rfl (lv_at hl 2 rfl) ?_
  refine va_get (D := D) (ci := 1) (v := .ref q3) (C := RX1) (T := TX1) (N := 18) hx hb hts xin_1 hown hK hP 0 rfl rfl 4 (by decide) (hts _ gw_152) (fun _ h9 => h9) rfl dX1_init_152 ?_
  refine lv_iload_n hx hb dX1_init_155 rfl (lv_at hl 1 rfl) ?_
  refine lv_iconst (v := 4) hx hb dX1_init_156 (by decide +kernel) ?_
  refine k_imul (v := 16) hx hb dX1_init_157 (by decide +kernel) ?_
  refine lv_iload_n hx hb dX1_init_158 rfl (lv_at hl 0 rfl) ?_
  refine k_iadd (v := 17) hx hb dX1_init_159 (by decide +kernel) ?_
  refine lv_iload_n hx hb dX1_init_160 rfl (lv_at hl 1 rfl) ?_
  refine lv_iconst (v := 1) hx hb dX1_init_161 (by decide +kernel) ?_
  refine k_iadd (v := 5) hx hb dX1_init_162 (by decide +kernel) ?_
  refine k_iast (k := 17) hx hb hK hP hD hS 3 rfl (by decide +kernel) (Nat.le_of_ble_eq_true rfl) dX1_init_163 (fun H locs hP hD hS => ?_)
  generalize hg28 : upd g27 17 5 = g28 at hP hD
  have hP : va_P D xG.1 [(h0, .inr (1, [.ref q1, .ref q2, .int 0, .int 0, .ref q3, .ref q4, .ref q5, .int 0, .int 0, .int (-1), .ref q6, .int 0, .ref q7, .int 4095, .ref q8, .ref q9, .ref q10, .int 0])), (q1, .inl (cA 0, 133, .inl g26)), (q2, .inl (cA 0, 3990, .inl (fun _ => 0))), (q3, .inl (cA 0, 48, .inl g28)), (q4, .inl (cA 0, 12, .inl (fun _ => 0))), (q5, .inl (cA 0, 8, .inl (fun _ => 0))), (q6, .inl (cA 0, 12, .inl (fun _ => 0))), (q7, .inl (cA 0, 4, .inl g4)), (q8, .inl (cA 0, 40, .inl (fun _ => 0))), (q9, .inl (cA 0, 8, .inl (fun _ => 0))), (q10, .inl (cA 0, 8, .inl (fun _ => 0)))] H := hP
  have hD : va_D A [(h0, .inr (1, [.ref q1, .ref q2, .int 0, .int 0, .ref q3, .ref q4, .ref q5, .int 0, .int 0, .int (-1), .ref q6, .int 0, .ref q7, .int 4095, .ref q8, .ref q9, .ref q10, .int 0])), (q1, .inl (cA 0, 133, .inl g26)), (q2, .inl (cA 0, 3990, .inl (fun _ => 0))), (q3, .inl (cA 0, 48, .inl g28)), (q4, .inl (cA 0, 12, .inl (fun _ => 0))), (q5, .inl (cA 0, 8, .inl (fun _ => 0))), (q6, .inl (cA 0, 12, .inl (fun _ => 0))), (q7, .inl (cA 0, 4, .inl g4)), (q8, .inl (cA 0, 40, .inl (fun _ => 0))), (q9, .inl (cA 0, 8, .inl (fun _ => 0))), (q10, .inl (cA 0, 8, .inl (fun _ => 0)))] := hD
  refine lv_iinc (v := 2) (lv' := [(2, .int 2), (1, .int 4), (0, .ref h0)]) hx hb dX1_init_164 hl (k := 0) rfl (by decide +kernel) (by decide) rfl (fun ls hl => ?_)
  refine lv_goto (tgt := 146) hx hb dX1_init_167 (by decide) ?_
  refine lv_iload_n hx hb dX1_init_146 rfl (lv_at hl 0 rfl) ?_
  refine lv_iconst (v := 4) hx hb dX1_init_147 (by decide +kernel) ?_
  refine lv_icmp_ge (tgt := 170) hx hb dX1_init_148 (by decide) (fun hc => absurd hc (by decide +kernel)) (fun _ => ?_)
  refine lv_aload_n hx hb dX1_init_151 rfl (lv_at hl 2 rfl) ?_
  refine va_get (D := D) (ci := 1) (v := .ref q3) (C := RX1) (T := TX1) (N := 18) hx hb hts xin_1 hown hK hP 0 rfl rfl 4 (by decide) (hts _ gw_152) (fun _ h9 => h9) rfl dX1_init_152 ?_
  refine lv_iload_n hx hb dX1_init_155 rfl (lv_at hl 1 rfl) ?_
  refine lv_iconst (v := 4) hx hb dX1_init_156 (by decide +kernel) ?_
  refine k_imul (v := 16) hx hb dX1_init_157 (by decide +kernel) ?_
  refine lv_iload_n hx hb dX1_init_158 rfl (lv_at hl 0 rfl) ?_
  refine k_iadd (v := 18) hx hb dX1_init_159 (by decide +kernel) ?_
  refine lv_iload_n hx hb dX1_init_160 rfl (lv_at hl 1 rfl) ?_
  refine lv_iconst (v := 1) hx hb dX1_init_161 (by decide +kernel) ?_
  refine k_iadd (v := 5) hx hb dX1_init_162 (by decide +kernel) ?_
  refine k_iast (k := 18) hx hb hK hP hD hS 3 rfl (by decide +kernel) (Nat.le_of_ble_eq_true rfl) dX1_init_163 (fun H locs hP hD hS => ?_)
  generalize hg29 : upd g28 18 5 = g29 at hP hD
  have hP : va_P D xG.1 [(h0, .inr (1, [.ref q1, .ref q2, .int 0, .int 0, .ref q3, .ref q4, .ref q5, .int 0, .int 0, .int (-1), .ref q6, .int 0, .ref q7, .int 4095, .ref q8, .ref q9, .ref q10, .int 0])), (q1, .inl (cA 0, 133, .inl g26)), (q2, .inl (cA 0, 3990, .inl (fun _ => 0))), (q3, .inl (cA 0, 48, .inl g29)), (q4, .inl (cA 0, 12, .inl (fun _ => 0))), (q5, .inl (cA 0, 8, .inl (fun _ => 0))), (q6, .inl (cA 0, 12, .inl (fun _ => 0))), (q7, .inl (cA 0, 4, .inl g4)), (q8, .inl (cA 0, 40, .inl (fun _ => 0))), (q9, .inl (cA 0, 8, .inl (fun _ => 0))), (q10, .inl (cA 0, 8, .inl (fun _ => 0)))] H := hP
  have hD : va_D A [(h0, .inr (1, [.ref q1, .ref q2, .int 0, .int 0, .ref q3, .ref q4, .ref q5, .int 0, .int 0, .int (-1), .ref q6, .int 0, .ref q7, .int 4095, .ref q8, .ref q9, .ref q10, .int 0])), (q1, .inl (cA 0, 133, .inl g26)), (q2, .inl (cA 0, 3990, .inl (fun _ => 0))), (q3, .inl (cA 0, 48, .inl g29)), (q4, .inl (cA 0, 12, .inl (fun _ => 0))), (q5, .inl (cA 0, 8, .inl (fun _ => 0))), (q6, .inl (cA 0, 12, .inl (fun _ => 0))), (q7, .inl (cA 0, 4, .inl g4)), (q8, .inl (cA 0, 40, .inl (fun _ => 0))), (q9, .inl (cA 0, 8, .inl (fun _ => 0))), (q10, .inl (cA 0, 8, .inl (fun _ => 0)))] := hD
  refine lv_iinc (v := 3) (lv' := [(2, .int 3), (1, .int 4), (0, .ref h0)]) hx hb dX1_init_164 hl (k := 0) rfl (by decide +kernel) (by decide) rfl (fun ls hl => ?_)
  refine lv_goto (tgt := 146) hx hb dX1_init_167 (by decide) ?_
  refine lv_iload_n hx hb dX1_init_146 rfl (lv_at hl 0 rfl) ?_
  refine lv_iconst (v := 4) hx hb dX1_init_147 (by decide +kernel) ?_
  refine lv_icmp_ge (tgt := 170) hx hb dX1_init_148 (by decide) (fun hc => absurd hc (by decide +kernel)) (fun _ => ?_)
  refine lv_aload_n hx hb dX1_init_151 rfl (lv_at hl 2 rfl) ?_
  refine va_get (D := D) (ci := 1) (v := .ref q3) (C := RX1) (T := TX1) (N := 18) hx hb hts xin_1 hown hK hP 0 rfl rfl 4 (by decide) (hts _ gw_152) (fun _ h9 => h9) rfl dX1_init_152 ?_
  refine lv_iload_n hx hb dX1_init_155 rfl (lv_at hl 1 rfl) ?_
  refine lv_iconst (v := 4) hx hb dX1_init_156 (by decide +kernel) ?_
  refine k_imul (v := 16) hx hb dX1_init_157 (by decide +kernel) ?_
  refine lv_iload_n hx hb dX1_init_158 rfl (lv_at hl 0 rfl) ?_
  refine k_iadd (v := 19) hx hb dX1_init_159 (by decide +kernel) ?_
  refine lv_iload_n hx hb dX1_init_160 rfl (lv_at hl 1 rfl) ?_
  refine lv_iconst (v := 1) hx hb dX1_init_161 (by decide +kernel) ?_
  refine k_iadd (v := 5) hx hb dX1_init_162 (by decide +kernel) ?_
  refine k_iast (k := 19) hx hb hK hP hD hS 3 rfl (by decide +kernel) (Nat.le_of_ble_eq_true rfl) dX1_init_163 (fun H locs hP hD hS => ?_)
  generalize hg30 : upd g29 19 5 = g30 at hP hD
  have hP : va_P D xG.1 [(h0, .inr (1, [.ref q1, .ref q2, .int 0, .int 0, .ref q3, .ref q4, .ref q5, .int 0, .int 0, .int (-1), .ref q6, .int 0, .ref q7, .int 4095, .ref q8, .ref q9, .ref q10, .int 0])), (q1, .inl (cA 0, 133, .inl g26)), (q2, .inl (cA 0, 3990, .inl (fun _ => 0))), (q3, .inl (cA 0, 48, .inl g30)), (q4, .inl (cA 0, 12, .inl (fun _ => 0))), (q5, .inl (cA 0, 8, .inl (fun _ => 0))), (q6, .inl (cA 0, 12, .inl (fun _ => 0))), (q7, .inl (cA 0, 4, .inl g4)), (q8, .inl (cA 0, 40, .inl (fun _ => 0))), (q9, .inl (cA 0, 8, .inl (fun _ => 0))), (q10, .inl (cA 0, 8, .inl (fun _ => 0)))] H := hP
  have hD : va_D A [(h0, .inr (1, [.ref q1, .ref q2, .int 0, .int 0, .ref q3, .ref q4, .ref q5, .int 0, .int 0, .int (-1), .ref q6, .int 0, .ref q7, .int 4095, .ref q8, .ref q9, .ref q10, .int 0])), (q1, .inl (cA 0, 133, .inl g26)), (q2, .inl (cA 0, 3990, .inl (fun _ => 0))), (q3, .inl (cA 0, 48, .inl g30)), (q4, .inl (cA 0, 12, .inl (fun _ => 0))), (q5, .inl (cA 0, 8, .inl (fun _ => 0))), (q6, .inl (cA 0, 12, .inl (fun _ => 0))), (q7, .inl (cA 0, 4, .inl g4)), (q8, .inl (cA 0, 40, .inl (fun _ => 0))), (q9, .inl (cA 0, 8, .inl (fun _ => 0))), (q10, .inl (cA 0, 8, .inl (fun _ => 0)))] := hD
  refine lv_iinc (v := 4) (lv' := [(2, .int 4), (1, .int 4), (0, .ref h0)]) hx hb dX1_init_164 hl (k := 0) rfl (by decide +kernel) (by decide) rfl (fun ls hl => ?_)
  refine lv_goto (tgt := 146) hx hb dX1_init_167 (by decide) ?_
  refine lv_iload_n hx hb dX1_init_146 rfl (lv_at hl 0 rfl) ?_
  refine lv_iconst (v := 4) hx hb dX1_init_147 (by decide +kernel) ?_
  refine lv_icmp_ge (tgt := 170) hx hb dX1_init_148 (by decide) (fun _ => ?_) (fun hc => absurd (by decide +kernel) hc)
  refine lv_iinc (v := 5) (lv' := [(1, .int 5), (2, .int 4), (0, .ref h0)]) hx hb dX1_init_170 hl (k := 1) rfl (by decide +kernel) (by decide) rfl (fun ls hl => ?_)
  refine lv_goto (tgt := 126) hx hb dX1_init_173 (by decide) ?_
  refine lv_iload_n hx hb dX1_init_126 rfl (lv_at hl 0 rfl) ?_
  refine lv_bipush (v := 12) hx hb dX1_init_127 (by decide +kernel) ?_
  refine lv_icmp_ge (tgt := 176) hx hb dX1_init_129 (by decide) (fun hc => absurd hc (by decide +kernel)) (fun _ => ?_)
  refine lv_aload_n hx hb dX1_init_132 rfl (lv_at hl 2 rfl) ?_
  refine va_get (D := D) (ci := 1) (v := .ref q1) (C := RX1) (T := TX1) (N := 18) hx hb hts xin_1 hown hK hP 0 rfl rfl 0 (by decide) (hts _ gw_144) (fun _ h9 => h9) rfl dX1_init_133 ?_
  refine lv_bipush (v := 16) hx hb dX1_init_136 (by decide +kernel) ?_
  refine lv_iload_n hx hb dX1_init_138 rfl (lv_at hl 0 rfl) ?_
  refine k_iadd (v := 21) hx hb dX1_init_139 (by decide +kernel) ?_
  refine lv_iload_n hx hb dX1_init_140 rfl (lv_at hl 0 rfl) ?_
  refine lv_iconst (v := 1) hx hb dX1_init_141 (by decide +kernel) ?_
  refine k_iadd (v := 6) hx hb dX1_init_142 (by decide +kernel) ?_
  refine k_iast (k := 21) hx hb hK hP hD hS 1 rfl (by decide +kernel) (Nat.le_of_ble_eq_true rfl) dX1_init_143 (fun H locs hP hD hS => ?_)
  generalize hg31 : upd g26 21 6 = g31 at hP hD
  have hP : va_P D xG.1 [(h0, .inr (1, [.ref q1, .ref q2, .int 0, .int 0, .ref q3, .ref q4, .ref q5, .int 0, .int 0, .int (-1), .ref q6, .int 0, .ref q7, .int 4095, .ref q8, .ref q9, .ref q10, .int 0])), (q1, .inl (cA 0, 133, .inl g31)), (q2, .inl (cA 0, 3990, .inl (fun _ => 0))), (q3, .inl (cA 0, 48, .inl g30)), (q4, .inl (cA 0, 12, .inl (fun _ => 0))), (q5, .inl (cA 0, 8, .inl (fun _ => 0))), (q6, .inl (cA 0, 12, .inl (fun _ => 0))), (q7, .inl (cA 0, 4, .inl g4)), (q8, .inl (cA 0, 40, .inl (fun _ => 0))), (q9, .inl (cA 0, 8, .inl (fun _ => 0))), (q10, .inl (cA 0, 8, .inl (fun _ => 0)))] H := hP
  have hD : va_D A [(h0, .inr (1, [.ref q1, .ref q2, .int 0, .int 0, .ref q3, .ref q4, .ref q5, .int 0, .int 0, .int (-1), .ref q6, .int 0, .ref q7, .int 4095, .ref q8, .ref q9, .ref q10, .int 0])), (q1, .inl (cA 0, 133, .inl g31)), (q2, .inl (cA 0, 3990, .inl (fun _ => 0))), (q3, .inl (cA 0, 48, .inl g30)), (q4, .inl (cA 0, 12, .inl (fun _ => 0))), (q5, .inl (cA 0, 8, .inl (fun _ => 0))), (q6, .inl (cA 0, 12, .inl (fun _ => 0))), (q7, .inl (cA 0, 4, .inl g4)), (q8, .inl (cA 0, 40, .inl (fun _ => 0))), (q9, .inl (cA 0, 8, .inl (fun _ => 0))), (q10, .inl (cA 0, 8, .inl (fun _ => 0)))] := hD
  refine lv_iconst (v := 0) hx hb dX1_init_144 (by decide +kernel) ?_
  refine lv_istore_n (lv' := [(2, .int 0), (1, .int 5), (0, .ref h0)]) hx hb dX1_init_145 rfl hl (by decide) rfl (fun ls hl => ?_)
  refine lv_iload_n hx hb dX1_init_146 rfl (lv_at hl 0 rfl) ?_
  refine lv_iconst (v := 4) hx hb dX1_init_147 (by decide +kernel) ?_
  refine lv_icmp_ge (tgt := 170) hx hb dX1_init_148 (by decide) (fun hc => absurd hc (by decide +kernel)) (fun _ => ?_)
  refine lv_aload_n hx hb dX1_init_151 rfl (lv_at hl 2 rfl) ?_
  refine va_get (D := D) (ci := 1) (v := .ref q3) (C := RX1) (T := TX1) (N := 18) hx hb hts xin_1 hown hK hP 0 rfl rfl 4 (by decide) (hts _ gw_152) (fun _ h9 => h9) rfl dX1_init_152 ?_
  refine lv_iload_n hx hb dX1_init_155 rfl (lv_at hl 1 rfl) ?_
  refine lv_iconst (v := 4) hx hb dX1_init_156 (by decide +kernel) ?_
  refine k_imul (v := 20) hx hb dX1_init_157 (by decide +kernel) ?_
  refine lv_iload_n hx hb dX1_init_158 rfl (lv_at hl 0 rfl) ?_
  refine k_iadd (v := 20) hx hb dX1_init_159 (by decide +kernel) ?_
  refine lv_iload_n hx hb dX1_init_160 rfl (lv_at hl 1 rfl) ?_
  refine lv_iconst (v := 1) hx hb dX1_init_161 (by decide +kernel) ?_
  refine k_iadd (v := 6) hx hb dX1_init_162 (by decide +kernel) ?_
  refine k_iast (k := 20) hx hb hK hP hD hS 3 rfl (by decide +kernel) (Nat.le_of_ble_eq_true rfl) dX1_init_163 (fun H locs hP hD hS => ?_)
  generalize hg32 : upd g30 20 6 = g32 at hP hD
  have hP : va_P D xG.1 [(h0, .inr (1, [.ref q1, .ref q2, .int 0, .int 0, .ref q3, .ref q4, .ref q5, .int 0, .int 0, .int (-1), .ref q6, .int 0, .ref q7, .int 4095, .ref q8, .ref q9, .ref q10, .int 0])), (q1, .inl (cA 0, 133, .inl g31)), (q2, .inl (cA 0, 3990, .inl (fun _ => 0))), (q3, .inl (cA 0, 48, .inl g32)), (q4, .inl (cA 0, 12, .inl (fun _ => 0))), (q5, .inl (cA 0, 8, .inl (fun _ => 0))), (q6, .inl (cA 0, 12, .inl (fun _ => 0))), (q7, .inl (cA 0, 4, .inl g4)), (q8, .inl (cA 0, 40, .inl (fun _ => 0))), (q9, .inl (cA 0, 8, .inl (fun _ => 0))), (q10, .inl (cA 0, 8, .inl (fun _ => 0)))] H := hP
  have hD : va_D A [(h0, .inr (1, [.ref q1, .ref q2, .int 0, .int 0, .ref q3, .ref q4, .ref q5, .int 0, .int 0, .int (-1), .ref q6, .int 0, .ref q7, .int 4095, .ref q8, .ref q9, .ref q10, .int 0])), (q1, .inl (cA 0, 133, .inl g31)), (q2, .inl (cA 0, 3990, .inl (fun _ => 0))), (q3, .inl (cA 0, 48, .inl g32)), (q4, .inl (cA 0, 12, .inl (fun _ => 0))), (q5, .inl (cA 0, 8, .inl (fun _ => 0))), (q6, .inl (cA 0, 12, .inl (fun _ => 0))), (q7, .inl (cA 0, 4, .inl g4)), (q8, .inl (cA 0, 40, .inl (fun _ => 0))), (q9, .inl (cA 0, 8, .inl (fun _ => 0))), (q10, .inl (cA 0, 8, .inl (fun _ => 0)))] := hD
  refine lv_iinc (v := 1) (lv' := [(2, .int 1), (1, .int 5), (0, .ref h0)]) hx hb dX1_init_164 hl (k := 0) rfl (by decide +kernel) (by decide) rfl (fun ls hl => ?_)
  refine lv_goto (tgt := 146) hx hb dX1_init_167 (by decide) ?_
  refine lv_iload_n hx hb dX1_init_146 rfl (lv_at hl 0 rfl) ?_
  refine lv_iconst (v := 4) hx hb dX1_init_147 (by decide +kernel) ?_
  refine lv_icmp_ge (tgt := 170) hx hb dX1_init_148 (by decide) (fun hc => absurd hc (by decide +kernel)) (fun _ => ?_)
  refine lv_aload_n hx hb dX1_init_151 rfl (lv_at hl 2 rfl) ?_
  refine va_get (D := D) (ci := 1) (v := .ref q3) (C := RX1) (T := TX1) (N := 18) hx hb hts xin_1 hown hK hP 0 rfl rfl 4 (by decide) (hts _ gw_152) (fun _ h9 => h9) rfl dX1_init_152 ?_
  refine lv_iload_n hx hb dX1_init_155 rfl (lv_at hl 1 rfl) ?_
  refine lv_iconst (v := 4) hx hb dX1_init_156 (by decide +kernel) ?_
  refine k_imul (v := 20) hx hb dX1_init_157 (by decide +kernel) ?_
  refine lv_iload_n hx hb dX1_init_158 rfl (lv_at hl 0 rfl) ?_
  refine k_iadd (v := 21) hx hb dX1_init_159 (by decide +kernel) ?_
  refine lv_iload_n hx hb dX1_init_160 rfl (lv_at hl 1 rfl) ?_
  refine lv_iconst (v := 1) hx hb dX1_init_161 (by decide +kernel) ?_
  refine k_iadd (v := 6) hx hb dX1_init_162 (by decide +kernel) ?_
  refine k_iast (k := 21) hx hb hK hP hD hS 3 rfl (by decide +kernel) (Nat.le_of_ble_eq_true rfl) dX1_init_163 (fun H locs hP hD hS => ?_)
  generalize hg33 : upd g32 21 6 = g33 at hP hD
  have hP : va_P D xG.1 [(h0, .inr (1, [.ref q1, .ref q2, .int 0, .int 0, .ref q3, .ref q4, .ref q5, .int 0, .int 0, .int (-1), .ref q6, .int 0, .ref q7, .int 4095, .ref q8, .ref q9, .ref q10, .int 0])), (q1, .inl (cA 0, 133, .inl g31)), (q2, .inl (cA 0, 3990, .inl (fun _ => 0))), (q3, .inl (cA 0, 48, .inl g33)), (q4, .inl (cA 0, 12, .inl (fun _ => 0))), (q5, .inl (cA 0, 8, .inl (fun _ => 0))), (q6, .inl (cA 0, 12, .inl (fun _ => 0))), (q7, .inl (cA 0, 4, .inl g4)), (q8, .inl (cA 0, 40, .inl (fun _ => 0))), (q9, .inl (cA 0, 8, .inl (fun _ => 0))), (q10, .inl (cA 0, 8, .inl (fun _ => 0)))] H := hP
  have hD : va_D A [(h0, .inr (1, [.ref q1, .ref q2, .int 0, .int 0, .ref q3, .ref q4, .ref q5, .int 0, .int 0, .int (-1), .ref q6, .int 0, .ref q7, .int 4095, .ref q8, .ref q9, .ref q10, .int 0])), (q1, .inl (cA 0, 133, .inl g31)), (q2, .inl (cA 0, 3990, .inl (fun _ => 0))), (q3, .inl (cA 0, 48, .inl g33)), (q4, .inl (cA 0, 12, .inl (fun _ => 0))), (q5, .inl (cA 0, 8, .inl (fun _ => 0))), (q6, .inl (cA 0, 12, .inl (fun _ => 0))), (q7, .inl (cA 0, 4, .inl g4)), (q8, .inl (cA 0, 40, .inl (fun _ => 0))), (q9, .inl (cA 0, 8, .inl (fun _ => 0))), (q10, .inl (cA 0, 8, .inl (fun _ => 0)))] := hD
  refine lv_iinc (v := 2) (lv' := [(2, .int 2), (1, .int 5), (0, .ref h0)]) hx hb dX1_init_164 hl (k := 0) rfl (by decide +kernel) (by decide) rfl (fun ls hl => ?_)
  refine lv_goto (tgt := 146) hx hb dX1_init_167 (by decide) ?_
  refine lv_iload_n hx hb dX1_init_146 rfl (lv_at hl 0 rfl) ?_
  refine lv_iconst (v := 4) hx hb dX1_init_147 (by decide +kernel) ?_
  refine lv_icmp_ge (tgt := 170) hx hb dX1_init_148 (by decide) (fun hc => absurd hc (by decide +kernel)) (fun _ => ?_)
  refine lv_aload_n hx hb dX1_init_151 rfl (lv_at hl 2 rfl) ?_
  refine va_get (D := D) (ci := 1) (v := .ref q3) (C := RX1) (T := TX1) (N := 18) hx hb hts xin_1 hown hK hP 0 rfl rfl 4 (by decide) (hts _ gw_152) (fun _ h9 => h9) rfl dX1_init_152 ?_
  refine lv_iload_n hx hb dX1_init_155 rfl (lv_at hl 1 rfl) ?_
  refine lv_iconst (v := 4) hx hb dX1_init_156 (by decide +kernel) ?_
  refine k_imul (v := 20) hx hb dX1_init_157 (by decide +kernel) ?_
  refine lv_iload_n hx hb dX1_init_158 rfl (lv_at hl 0 rfl) ?_
  refine k_iadd (v := 22) hx hb dX1_init_159 (by decide +kernel) ?_
  refine lv_iload_n hx hb dX1_init_160 rfl (lv_at hl 1 rfl) ?_
  refine lv_iconst (v := 1) hx hb dX1_init_161 (by decide +kernel) ?_
  refine k_iadd (v := 6) hx hb dX1_init_162 (by decide +kernel) ?_
  refine k_iast (k := 22) hx hb hK hP hD hS 3 rfl (by decide +kernel) (Nat.le_of_ble_eq_true rfl) dX1_init_163 (fun H locs hP hD hS => ?_)
  generalize hg34 : upd g33 22 6 = g34 at hP hD
  have hP : va_P D xG.1 [(h0, .inr (1, [.ref q1, .ref q2, .int 0, .int 0, .ref q3, .ref q4, .ref q5, .int 0, .int 0, .int (-1), .ref q6, .int 0, .ref q7, .int 4095, .ref q8, .ref q9, .ref q10, .int 0])), (q1, .inl (cA 0, 133, .inl g31)), (q2, .inl (cA 0, 3990, .inl (fun _ => 0))), (q3, .inl (cA 0, 48, .inl g34)), (q4, .inl (cA 0, 12, .inl (fun _ => 0))), (q5, .inl (cA 0, 8, .inl (fun _ => 0))), (q6, .inl (cA 0, 12, .inl (fun _ => 0))), (q7, .inl (cA 0, 4, .inl g4)), (q8, .inl (cA 0, 40, .inl (fun _ => 0))), (q9, .inl (cA 0, 8, .inl (fun _ => 0))), (q10, .inl (cA 0, 8, .inl (fun _ => 0)))] H := hP
  have hD : va_D A [(h0, .inr (1, [.ref q1, .ref q2, .int 0, .int 0, .ref q3, .ref q4, .ref q5, .int 0, .int 0, .int (-1), .ref q6, .int 0, .ref q7, .int 4095, .ref q8, .ref q9, .ref q10, .int 0])), (q1, .inl (cA 0, 133, .inl g31)), (q2, .inl (cA 0, 3990, .inl (fun _ => 0))), (q3, .inl (cA 0, 48, .inl g34)), (q4, .inl (cA 0, 12, .inl (fun _ => 0))), (q5, .inl (cA 0, 8, .inl (fun _ => 0))), (q6, .inl (cA 0, 12, .inl (fun _ => 0))), (q7, .inl (cA 0, 4, .inl g4)), (q8, .inl (cA 0, 40, .inl (fun _ => 0))), (q9, .inl (cA 0, 8, .inl (fun _ => 0))), (q10, .inl (cA 0, 8, .inl (fun _ => 0)))] := hD
  refine lv_iinc (v := 3) (lv' := [(2, .int 3), (1, .int 5), (0, .ref h0)]) hx hb dX1_init_164 hl (k := 0) rfl (by decide +kernel) (by decide) rfl (fun ls hl => ?_)
  refine lv_goto (tgt := 146) hx hb dX1_init_167 (by decide) ?_
  refine lv_iload_n hx hb dX1_init_146 rfl (lv_at hl 0 rfl) ?_
  refine lv_iconst (v := 4) hx hb dX1_init_147 (by decide +kernel) ?_
  refine lv_icmp_ge (tgt := 170) hx hb dX1_init_148 (by decide) (fun hc => absurd hc (by decide +kernel)) (fun _ => ?_)
  refine lv_aload_n hx hb dX1_init_151 rfl (lv_at hl 2 rfl) ?_
  refine va_get (D := D) (ci := 1) (v := .ref q3) (C := RX1) (T := TX1) (N := 18) hx hb hts xin_1 hown hK hP 0 rfl rfl 4 (by decide) (hts _ gw_152) (fun _ h9 => h9) rfl dX1_init_152 ?_
  refine lv_iload_n hx hb dX1_init_155 rfl (lv_at hl 1 rfl) ?_
  refine lv_iconst (v := 4) hx hb dX1_init_156 (by decide +kernel) ?_
  refine k_imul (v := 20) hx hb dX1_init_157 (by decide +kernel) ?_
  refine lv_iload_n hx hb dX1_init_158 rfl (lv_at hl 0 rfl) ?_
  refine k_iadd (v := 23) hx hb dX1_init_159 (by decide +kernel) ?_
  refine lv_iload_n hx hb dX1_init_160 rfl (lv_at hl 1 rfl) ?_
  refine lv_iconst (v := 1) hx hb dX1_init_161 (by decide +kernel) ?_
  refine k_iadd (v := 6) hx hb dX1_init_162 (by decide +kernel) ?_
  refine k_iast (k := 23) hx hb hK hP hD hS 3 rfl (by decide +kernel) (Nat.le_of_ble_eq_true rfl) dX1_init_163 (fun H locs hP hD hS => ?_)
  generalize hg35 : upd g34 23 6 = g35 at hP hD
  have hP : va_P D xG.1 [(h0, .inr (1, [.ref q1, .ref q2, .int 0, .int 0, .ref q3, .ref q4, .ref q5, .int 0, .int 0, .int (-1), .ref q6, .int 0, .ref q7, .int 4095, .ref q8, .ref q9, .ref q10, .int 0])), (q1, .inl (cA 0, 133, .inl g31)), (q2, .inl (cA 0, 3990, .inl (fun _ => 0))), (q3, .inl (cA 0, 48, .inl g35)), (q4, .inl (cA 0, 12, .inl (fun _ => 0))), (q5, .inl (cA 0, 8, .inl (fun _ => 0))), (q6, .inl (cA 0, 12, .inl (fun _ => 0))), (q7, .inl (cA 0, 4, .inl g4)), (q8, .inl (cA 0, 40, .inl (fun _ => 0))), (q9, .inl (cA 0, 8, .inl (fun _ => 0))), (q10, .inl (cA 0, 8, .inl (fun _ => 0)))] H := hP
  have hD : va_D A [(h0, .inr (1, [.ref q1, .ref q2, .int 0, .int 0, .ref q3, .ref q4, .ref q5, .int 0, .int 0, .int (-1), .ref q6, .int 0, .ref q7, .int 4095, .ref q8, .ref q9, .ref q10, .int 0])), (q1, .inl (cA 0, 133, .inl g31)), (q2, .inl (cA 0, 3990, .inl (fun _ => 0))), (q3, .inl (cA 0, 48, .inl g35)), (q4, .inl (cA 0, 12, .inl (fun _ => 0))), (q5, .inl (cA 0, 8, .inl (fun _ => 0))), (q6, .inl (cA 0, 12, .inl (fun _ => 0))), (q7, .inl (cA 0, 4, .inl g4)), (q8, .inl (cA 0, 40, .inl (fun _ => 0))), (q9, .inl (cA 0, 8, .inl (fun _ => 0))), (q10, .inl (cA 0, 8, .inl (fun _ => 0)))] := hD
  refine lv_iinc (v := 4) (lv' := [(2, .int 4), (1, .int 5), (0, .ref h0)]) hx hb dX1_init_164 hl (k := 0) rfl (by decide +kernel) (by decide) rfl (fun ls hl => ?_)
  refine lv_goto (tgt := 146) hx hb dX1_init_167 (by decide) ?_
  refine lv_iload_n hx hb dX1_init_146 rfl (lv_at hl 0 rfl) ?_
  refine lv_iconst (v := 4) hx hb dX1_init_147 (by decide +kernel) ?_
  refine lv_icmp_ge (tgt := 170) hx hb dX1_init_148 (by decide) (fun _ => ?_) (fun hc => absurd (by decide +kernel) hc)
  refine lv_iinc (v := 6) (lv' := [(1, .int 6), (2, .int 4), (0, .ref h0)]) hx hb dX1_init_170 hl (k := 1) rfl (by decide +kernel) (by decide) rfl (fun ls hl => ?_)
  refine lv_goto (tgt := 126) hx hb dX1_init_173 (by decide) ?_
  refine lv_iload_n hx hb dX1_init_126 rfl (lv_at hl 0 rfl) ?_
  refine lv_bipush (v := 12) hx hb dX1_init_127 (by decide +kernel) ?_
  refine lv_icmp_ge (tgt := 176) hx hb dX1_init_129 (by decide) (fun hc => absurd hc (by decide +kernel)) (fun _ => ?_)
  refine lv_aload_n hx hb dX1_init_132 rfl (lv_at hl 2 rfl) ?_
  refine va_get (D := D) (ci := 1) (v := .ref q1) (C := RX1) (T := TX1) (N := 18) hx hb hts xin_1 hown hK hP 0 rfl rfl 0 (by decide) (hts _ gw_144) (fun _ h9 => h9) rfl dX1_init_133 ?_
  refine lv_bipush (v := 16) hx hb dX1_init_136 (by decide +kernel) ?_
  refine lv_iload_n hx hb dX1_init_138 rfl (lv_at hl 0 rfl) ?_
  refine k_iadd (v := 22) hx hb dX1_init_139 (by decide +kernel) ?_
  refine lv_iload_n hx hb dX1_init_140 rfl (lv_at hl 0 rfl) ?_
  refine lv_iconst (v := 1) hx hb dX1_init_141 (by decide +kernel) ?_
  refine k_iadd (v := 7) hx hb dX1_init_142 (by decide +kernel) ?_
  refine k_iast (k := 22) hx hb hK hP hD hS 1 rfl (by decide +kernel) (Nat.le_of_ble_eq_true rfl) dX1_init_143 (fun H locs hP hD hS => ?_)
  generalize hg36 : upd g31 22 7 = g36 at hP hD
  have hP : va_P D xG.1 [(h0, .inr (1, [.ref q1, .ref q2, .int 0, .int 0, .ref q3, .ref q4, .ref q5, .int 0, .int 0, .int (-1), .ref q6, .int 0, .ref q7, .int 4095, .ref q8, .ref q9, .ref q10, .int 0])), (q1, .inl (cA 0, 133, .inl g36)), (q2, .inl (cA 0, 3990, .inl (fun _ => 0))), (q3, .inl (cA 0, 48, .inl g35)), (q4, .inl (cA 0, 12, .inl (fun _ => 0))), (q5, .inl (cA 0, 8, .inl (fun _ => 0))), (q6, .inl (cA 0, 12, .inl (fun _ => 0))), (q7, .inl (cA 0, 4, .inl g4)), (q8, .inl (cA 0, 40, .inl (fun _ => 0))), (q9, .inl (cA 0, 8, .inl (fun _ => 0))), (q10, .inl (cA 0, 8, .inl (fun _ => 0)))] H := hP
  have hD : va_D A [(h0, .inr (1, [.ref q1, .ref q2, .int 0, .int 0, .ref q3, .ref q4, .ref q5, .int 0, .int 0, .int (-1), .ref q6, .int 0, .ref q7, .int 4095, .ref q8, .ref q9, .ref q10, .int 0])), (q1, .inl (cA 0, 133, .inl g36)), (q2, .inl (cA 0, 3990, .inl (fun _ => 0))), (q3, .inl (cA 0, 48, .inl g35)), (q4, .inl (cA 0, 12, .inl (fun _ => 0))), (q5, .inl (cA 0, 8, .inl (fun _ => 0))), (q6, .inl (cA 0, 12, .inl (fun _ => 0))), (q7, .inl (cA 0, 4, .inl g4)), (q8, .inl (cA 0, 40, .inl (fun _ => 0))), (q9, .inl (cA 0, 8, .inl (fun _ => 0))), (q10, .inl (cA 0, 8, .inl (fun _ => 0)))] := hD
  refine lv_iconst (v := 0) hx hb dX1_init_144 (by decide +kernel) ?_
  refine lv_istore_n (lv' := [(2, .int 0), (1, .int 6), (0, .ref h0)]) hx hb dX1_init_145 rfl hl (by decide) rfl (fun ls hl => ?_)
  refine lv_iload_n hx hb dX1_init_146 rfl (lv_at hl 0 rfl) ?_
  refine lv_iconst (v := 4) hx hb dX1_init_147 (by decide +kernel) ?_
  refine lv_icmp_ge (tgt := 170) hx hb dX1_init_148 (by decide) (fun hc => absurd hc (by decide +kernel)) (fun _ => ?_)
  refine lv_aload_n hx hb dX1_init_151 rfl (lv_at hl 2 rfl) ?_
  refine va_get (D := D) (ci := 1) (v := .ref q3) (C := RX1) (T := TX1) (N := 18) hx hb hts xin_1 hown hK hP 0 rfl rfl 4 (by decide) (hts _ gw_152) (fun _ h9 => h9) rfl dX1_init_152 ?_
  refine lv_iload_n hx hb dX1_init_155 rfl (lv_at hl 1 rfl) ?_
  refine lv_iconst (v := 4) hx hb dX1_init_156 (by decide +kernel) ?_
  refine k_imul (v := 24) hx hb dX1_init_157 (by decide +kernel) ?_
  refine lv_iload_n hx hb dX1_init_158 rfl (lv_at hl 0 rfl) ?_
  refine k_iadd (v := 24) hx hb dX1_init_159 (by decide +kernel) ?_
  refine lv_iload_n hx hb dX1_init_160 rfl (lv_at hl 1 rfl) ?_
  refine lv_iconst (v := 1) hx hb dX1_init_161 (by decide +kernel) ?_
  refine k_iadd (v := 7) hx hb dX1_init_162 (by decide +kernel) ?_
  refine k_iast (k := 24) hx hb hK hP hD hS 3 rfl (by decide +kernel) (Nat.le_of_ble_eq_true rfl) dX1_init_163 (fun H locs hP hD hS => ?_)
  generalize hg37 : upd g35 24 7 = g37 at hP hD
  have hP : va_P D xG.1 [(h0, .inr (1, [.ref q1, .ref q2, .int 0, .int 0, .ref q3, .ref q4, .ref q5, .int 0, .int 0, .int (-1), .ref q6, .int 0, .ref q7, .int 4095, .ref q8, .ref q9, .ref q10, .int 0])), (q1, .inl (cA 0, 133, .inl g36)), (q2, .inl (cA 0, 3990, .inl (fun _ => 0))), (q3, .inl (cA 0, 48, .inl g37)), (q4, .inl (cA 0, 12, .inl (fun _ => 0))), (q5, .inl (cA 0, 8, .inl (fun _ => 0))), (q6, .inl (cA 0, 12, .inl (fun _ => 0))), (q7, .inl (cA 0, 4, .inl g4)), (q8, .inl (cA 0, 40, .inl (fun _ => 0))), (q9, .inl (cA 0, 8, .inl (fun _ => 0))), (q10, .inl (cA 0, 8, .inl (fun _ => 0)))] H := hP
  have hD : va_D A [(h0, .inr (1, [.ref q1, .ref q2, .int 0, .int 0, .ref q3, .ref q4, .ref q5, .int 0, .int 0, .int (-1), .ref q6, .int 0, .ref q7, .int 4095, .ref q8, .ref q9, .ref q10, .int 0])), (q1, .inl (cA 0, 133, .inl g36)), (q2, .inl (cA 0, 3990, .inl (fun _ => 0))), (q3, .inl (cA 0, 48, .inl g37)), (q4, .inl (cA 0, 12, .inl (fun _ => 0))), (q5, .inl (cA 0, 8, .inl (fun _ => 0))), (q6, .inl (cA 0, 12, .inl (fun _ => 0))), (q7, .inl (cA 0, 4, .inl g4)), (q8, .inl (cA 0, 40, .inl (fun _ => 0))), (q9, .inl (cA 0, 8, .inl (fun _ => 0))), (q10, .inl (cA 0, 8, .inl (fun _ => 0)))] := hD
  refine lv_iinc (v := 1) (lv' := [(2, .int 1), (1, .int 6), (0, .ref h0)]) hx hb dX1_init_164 hl (k := 0) rfl (by decide +kernel) (by decide) rfl (fun ls hl => ?_)
  refine lv_goto (tgt := 146) hx hb dX1_init_167 (by decide) ?_
  refine lv_iload_n hx hb dX1_init_146 rfl (lv_at hl 0 rfl) ?_
  refine lv_iconst (v := 4) hx hb dX1_init_147 (by decide +kernel) ?_
  refine lv_icmp_ge (tgt := 170) hx hb dX1_init_148 (by decide) (fun hc => absurd hc (by decide +kernel)) (fun _ => ?_)
  refine lv_aload_n hx hb dX1_init_151 rfl (lv_at hl 2 rfl) ?_
  refine va_get (D := D) (ci := 1) (v := .ref q3) (C := RX1) (T := TX1) (N := 18) hx hb hts xin_1 hown hK hP 0 rfl rfl 4 (by decide) (hts _ gw_152) (fun _ h9 => h9) rfl dX1_init_152 ?_
  refine lv_iload_n hx hb dX1_init_155 rfl (lv_at hl 1 rfl) ?_
  refine lv_iconst (v := 4) hx hb dX1_init_156 (by decide +kernel) ?_
  refine k_imul (v := 24) hx hb dX1_init_157 (by decide +kernel) ?_
  refine lv_iload_n hx hb dX1_init_158 rfl (lv_at hl 0 rfl) ?_
  refine k_iadd (v := 25) hx hb dX1_init_159 (by decide +kernel) ?_
  refine lv_iload_n hx hb dX1_init_160 rfl (lv_at hl 1 rfl) ?_
  refine lv_iconst (v := 1) hx hb dX1_init_161 (by decide +kernel) ?_
  refine k_iadd (v := 7) hx hb dX1_init_162 (by decide +kernel) ?_
  refine k_iast (k := 25) hx hb hK hP hD hS 3 rfl (by decide +kernel) (Nat.le_of_ble_eq_true rfl) dX1_init_163 (fun H locs hP hD hS => ?_)
  generalize hg38 : upd g37 25 7 = g38 at hP hD
  have hP : va_P D xG.1 [(h0, .inr (1, [.ref q1, .ref q2, .int 0, .int 0, .ref q3, .ref q4, .ref q5, .int 0, .int 0, .int (-1), .ref q6, .int 0, .ref q7, .int 4095, .ref q8, .ref q9, .ref q10, .int 0])), (q1, .inl (cA 0, 133, .inl g36)), (q2, .inl (cA 0, 3990, .inl (fun _ => 0))), (q3, .inl (cA 0, 48, .inl g38)), (q4, .inl (cA 0, 12, .inl (fun _ => 0))), (q5, .inl (cA 0, 8, .inl (fun _ => 0))), (q6, .inl (cA 0, 12, .inl (fun _ => 0))), (q7, .inl (cA 0, 4, .inl g4)), (q8, .inl (cA 0, 40, .inl (fun _ => 0))), (q9, .inl (cA 0, 8, .inl (fun _ => 0))), (q10, .inl (cA 0, 8, .inl (fun _ => 0)))] H := hP
  have hD : va_D A [(h0, .inr (1, [.ref q1, .ref q2, .int 0, .int 0, .ref q3, .ref q4, .ref q5, .int 0, .int 0, .int (-1), .ref q6, .int 0, .ref q7, .int 4095, .ref q8, .ref q9, .ref q10, .int 0])), (q1, .inl (cA 0, 133, .inl g36)), (q2, .inl (cA 0, 3990, .inl (fun _ => 0))), (q3, .inl (cA 0, 48, .inl g38)), (q4, .inl (cA 0, 12, .inl (fun _ => 0))), (q5, .inl (cA 0, 8, .inl (fun _ => 0))), (q6, .inl (cA 0, 12, .inl (fun _ => 0))), (q7, .inl (cA 0, 4, .inl g4)), (q8, .inl (cA 0, 40, .inl (fun _ => 0))), (q9, .inl (cA 0, 8, .inl (fun _ => 0))), (q10, .inl (cA 0, 8, .inl (fun _ => 0)))] := hD
  refine lv_iinc (v := 2) (lv' := [(2, .int 2), (1, .int 6), (0, .ref h0)]) hx hb dX1_init_164 hl (k := 0) rfl (by decide +kernel) (by decide) rfl (fun ls hl => ?_)
  refine lv_goto (tgt := 146) hx hb dX1_init_167 (by decide) ?_
  refine lv_iload_n hx hb dX1_init_146 rfl (lv_at hl 0 rfl) ?_
  refine lv_iconst (v := 4) hx hb dX1_init_147 (by decide +kernel) ?_
  refine lv_icmp_ge (tgt := 170) hx hb dX1_init_148 (by decide) (fun hc => absurd hc (by decide +kernel)) (fun _ => ?_)
  refine lv_aload_n hx hb dX1_init_151 rfl (lv_at hl 2 rfl) ?_
  refine va_get (D := D) (ci := 1) (v := .ref q3) (C := RX1) (T := TX1) (N := 18) hx hb hts xin_1 hown hK hP 0 rfl rfl 4 (by decide) (hts _ gw_152) (fun _ h9 => h9) rfl dX1_init_152 ?_
  refine lv_iload_n hx hb dX1_init_155 rfl (lv_at hl 1 rfl) ?_
  refine lv_iconst (v := 4) hx hb dX1_init_156 (by decide +kernel) ?_
  refine k_imul (v := 24) hx hb dX1_init_157 (by decide +kernel) ?_
  refine lv_iload_n hx hb dX1_init_158 rfl (lv_at hl 0 rfl) ?_
  refine k_iadd (v := 26) hx hb dX1_init_159 (by decide +kernel) ?_
  refine lv_iload_n hx hb dX1_init_160 rfl (lv_at hl 1 rfl) ?_
  refine lv_iconst (v := 1) hx hb dX1_init_161 (by decide +kernel) ?_
  refine k_iadd (v := 7) hx hb dX1_init_162 (by decide +kernel) ?_
  refine k_iast (k := 26) hx hb hK hP hD hS 3 rfl (by decide +kernel) (Nat.le_of_ble_eq_true rfl) dX1_init_163 (fun H locs hP hD hS => ?_)
  generalize hg39 : upd g38 26 7 = g39 at hP hD
  have hP : va_P D xG.1 [(h0, .inr (1, [.ref q1, .ref q2, .int 0, .int 0, .ref q3, .ref q4, .ref q5, .int 0, .int 0, .int (-1), .ref q6, .int 0, .ref q7, .int 4095, .ref q8, .ref q9, .ref q10, .int 0])), (q1, .inl (cA 0, 133, .inl g36)), (q2, .inl (cA 0, 3990, .inl (fun _ => 0))), (q3, .inl (cA 0, 48, .inl g39)), (q4, .inl (cA 0, 12, .inl (fun _ => 0))), (q5, .inl (cA 0, 8, .inl (fun _ => 0))), (q6, .inl (cA 0, 12, .inl (fun _ => 0))), (q7, .inl (cA 0, 4, .inl g4)), (q8, .inl (cA 0, 40, .inl (fun _ => 0))), (q9, .inl (cA 0, 8, .inl (fun _ => 0))), (q10, .inl (cA 0, 8, .inl (fun _ => 0)))] H := hP
  have hD : va_D A [(h0, .inr (1, [.ref q1, .ref q2, .int 0, .int 0, .ref q3, .ref q4, .ref q5, .int 0, .int 0, .int (-1), .ref q6, .int 0, .ref q7, .int 4095, .ref q8, .ref q9, .ref q10, .int 0])), (q1, .inl (cA 0, 133, .inl g36)), (q2, .inl (cA 0, 3990, .inl (fun _ => 0))), (q3, .inl (cA 0, 48, .inl g39)), (q4, .inl (cA 0, 12, .inl (fun _ => 0))), (q5, .inl (cA 0, 8, .inl (fun _ => 0))), (q6, .inl (cA 0, 12, .inl (fun _ => 0))), (q7, .inl (cA 0, 4, .inl g4)), (q8, .inl (cA 0, 40, .inl (fun _ => 0))), (q9, .inl (cA 0, 8, .inl (fun _ => 0))), (q10, .inl (cA 0, 8, .inl (fun _ => 0)))] := hD
  refine lv_iinc (v := 3) (lv' := [(2, .int 3), (1, .int 6), (0, .ref h0)]) hx hb dX1_init_164 hl (k := 0) rfl (by decide +kernel) (by decide) rfl (fun ls hl => ?_)
  refine lv_goto (tgt := 146) hx hb dX1_init_167 (by decide) ?_
  refine lv_iload_n hx hb dX1_init_146 rfl (lv_at hl 0 rfl) ?_
  refine lv_iconst (v := 4) hx hb dX1_init_147 (by decide +kernel) ?_
  refine lv_icmp_ge (tgt := 170) hx hb dX1_init_148 (by decide) (fun hc => absurd hc (by decide +kernel)) (fun _ => ?_)
  refine lv_aload_n hx hb dX1_init_151 rfl (lv_at hl 2 rfl) ?_
  refine va_get (D := D) (ci := 1) (v := .ref q3) (C := RX1) (T := TX1) (N := 18) hx hb hts xin_1 hown hK hP 0 rfl rfl 4 (by decide) (hts _ gw_152) (fun _ h9 => h9) rfl dX1_init_152 ?_
  refine lv_iload_n hx hb dX1_init_155 rfl (lv_at hl 1 rfl) ?_
  refine lv_iconst (v := 4) hx hb dX1_init_156 (by decide +kernel) ?_
  refine k_imul (v := 24) hx hb dX1_init_157 (by decide +kernel) ?_
  refine lv_iload_n hx hb dX1_init_158 rfl (lv_at hl 0 rfl) ?_
  refine k_iadd (v := 27) hx hb dX1_init_159 (by decide +kernel) ?_
  refine lv_iload_n hx hb dX1_init_160 rfl (lv_at hl 1 rfl) ?_
  refine lv_iconst (v := 1) hx hb dX1_init_161 (by decide +kernel) ?_
  refine k_iadd (v := 7) hx hb dX1_init_162 (by decide +kernel) ?_
  refine k_iast (k := 27) hx hb hK hP hD hS 3 rfl (by decide +kernel) (Nat.le_of_ble_eq_true rfl) dX1_init_163 (fun H locs hP hD hS => ?_)
  generalize hg40 : upd g39 27 7 = g40 at hP hD
  have hP : va_P D xG.1 [(h0, .inr (1, [.ref q1, .ref q2, .int 0, .int 0, .ref q3, .ref q4, .ref q5, .int 0, .int 0, .int (-1), .ref q6, .int 0, .ref q7, .int 4095, .ref q8, .ref q9, .ref q10, .int 0])), (q1, .inl (cA 0, 133, .inl g36)), (q2, .inl (cA 0, 3990, .inl (fun _ => 0))), (q3, .inl (cA 0, 48, .inl g40)), (q4, .inl (cA 0, 12, .inl (fun _ => 0))), (q5, .inl (cA 0, 8, .inl (fun _ => 0))), (q6, .inl (cA 0, 12, .inl (fun _ => 0))), (q7, .inl (cA 0, 4, .inl g4)), (q8, .inl (cA 0, 40, .inl (fun _ => 0))), (q9, .inl (cA 0, 8, .inl (fun _ => 0))), (q10, .inl (cA 0, 8, .inl (fun _ => 0)))] H := hP
  have hD : va_D A [(h0, .inr (1, [.ref q1, .ref q2, .int 0, .int 0, .ref q3, .ref q4, .ref q5, .int 0, .int 0, .int (-1), .ref q6, .int 0, .ref q7, .int 4095, .ref q8, .ref q9, .ref q10, .int 0])), (q1, .inl (cA 0, 133, .inl g36)), (q2, .inl (cA 0, 3990, .inl (fun _ => 0))), (q3, .inl (cA 0, 48, .inl g40)), (q4, .inl (cA 0, 12, .inl (fun _ => 0))), (q5, .inl (cA 0, 8, .inl (fun _ => 0))), (q6, .inl (cA 0, 12, .inl (fun _ => 0))), (q7, .inl (cA 0, 4, .inl g4)), (q8, .inl (cA 0, 40, .inl (fun _ => 0))), (q9, .inl (cA 0, 8, .inl (fun _ => 0))), (q10, .inl (cA 0, 8, .inl (fun _ => 0)))] := hD
  refine lv_iinc (v := 4) (lv' := [(2, .int 4), (1, .int 6), (0, .ref h0)]) hx hb dX1_init_164 hl (k := 0) rfl (by decide +kernel) (by decide) rfl (fun ls hl => ?_)
  refine lv_goto (tgt := 146) hx hb dX1_init_167 (by decide) ?_
  refine lv_iload_n hx hb dX1_init_146 rfl (lv_at hl 0 rfl) ?_
  refine lv_iconst (v := 4) hx hb dX1_init_147 (by decide +kernel) ?_
  refine lv_icmp_ge (tgt := 170) hx hb dX1_init_148 (by decide) (fun _ => ?_) (fun hc => absurd (by decide +kernel) hc)
  refine lv_iinc (v := 7) (lv' := [(1, .int 7), (2, .int 4), (0, .ref h0)]) hx hb dX1_init_170 hl (k := 1) rfl (by decide +kernel) (by decide) rfl (fun ls hl => ?_)
  refine lv_goto (tgt := 126) hx hb dX1_init_173 (by decide) ?_
  refine lv_iload_n hx hb dX1_init_126 rfl (lv_at hl 0 rfl) ?_
  refine lv_bipush (v := 12) hx hb dX1_init_127 (by decide +kernel) ?_
  refine lv_icmp_ge (tgt := 176) hx hb dX1_init_129 (by decide) (fun hc => absurd hc (by decide +kernel)) (fun _ => ?_)
  refine lv_aload_n hx hb dX1_init_132 rfl (lv_at hl 2 rfl) ?_
  refine va_get (D := D) (ci := 1) (v := .ref q1) (C := RX1) (T := TX1) (N := 18) hx hb hts xin_1 hown hK hP 0 rfl rfl 0 (by decide) (hts _ gw_144) (fun _ h9 => h9) rfl dX1_init_133 ?_
  refine lv_bipush (v := 16) hx hb dX1_init_136 (by decide +kernel) ?_
  refine lv_iload_n hx hb dX1_init_138 rfl (lv_at hl 0 rfl) ?_
  refine k_iadd (v := 23) hx hb dX1_init_139 (by decide +kernel) ?_
  refine lv_iload_n hx hb dX1_init_140 rfl (lv_at hl 0 rfl) ?_
  refine lv_iconst (v := 1) hx hb dX1_init_141 (by decide +kernel) ?_
  refine k_iadd (v := 8) hx hb dX1_init_142 (by decide +kernel) ?_
  refine k_iast (k := 23) hx hb hK hP hD hS 1 rfl (by decide +kernel) (Nat.le_of_ble_eq_true rfl) dX1_init_143 (fun H locs hP hD hS => ?_)
  generalize hg41 : upd g36 23 8 = g41 at hP hD
  have hP : va_P D xG.1 [(h0, .inr (1, [.ref q1, .ref q2, .int 0, .int 0, .ref q3, .ref q4, .ref q5, .int 0, .int 0, .int (-1), .ref q6, .int 0, .ref q7, .int 4095, .ref q8, .ref q9, .ref q10, .int 0])), (q1, .inl (cA 0, 133, .inl g41)), (q2, .inl (cA 0, 3990, .inl (fun _ => 0))), (q3, .inl (cA 0, 48, .inl g40)), (q4, .inl (cA 0, 12, .inl (fun _ => 0))), (q5, .inl (cA 0, 8, .inl (fun _ => 0))), (q6, .inl (cA 0, 12, .inl (fun _ => 0))), (q7, .inl (cA 0, 4, .inl g4)), (q8, .inl (cA 0, 40, .inl (fun _ => 0))), (q9, .inl (cA 0, 8, .inl (fun _ => 0))), (q10, .inl (cA 0, 8, .inl (fun _ => 0)))] H := hP
  have hD : va_D A [(h0, .inr (1, [.ref q1, .ref q2, .int 0, .int 0, .ref q3, .ref q4, .ref q5, .int 0, .int 0, .int (-1), .ref q6, .int 0, .ref q7, .int 4095, .ref q8, .ref q9, .ref q10, .int 0])), (q1, .inl (cA 0, 133, .inl g41)), (q2, .inl (cA 0, 3990, .inl (fun _ => 0))), (q3, .inl (cA 0, 48, .inl g40)), (q4, .inl (cA 0, 12, .inl (fun _ => 0))), (q5, .inl (cA 0, 8, .inl (fun _ => 0))), (q6, .inl (cA 0, 12, .inl (fun _ => 0))), (q7, .inl (cA 0, 4, .inl g4)), (q8, .inl (cA 0, 40, .inl (fun _ => 0))), (q9, .inl (cA 0, 8, .inl (fun _ => 0))), (q10, .inl (cA 0, 8, .inl (fun _ => 0)))] := hD
  refine lv_iconst (v := 0) hx hb dX1_init_144 (by decide +kernel) ?_
  refine lv_istore_n (lv' := [(2, .int 0), (1, .int 7), (0, .ref h0)]) hx hb dX1_init_145 rfl hl (by decide) rfl (fun ls hl => ?_)
  refine lv_iload_n hx hb dX1_init_146 rfl (lv_at hl 0 rfl) ?_
  refine lv_iconst (v := 4) hx hb dX1_init_147 (by decide +kernel) ?_
  refine lv_icmp_ge (tgt := 170) hx hb dX1_init_148 (by decide) (fun hc => absurd hc (by decide +kernel)) (fun _ => ?_)
  refine lv_aload_n hx hb dX1_init_151 rfl (lv_at hl 2 rfl) ?_
  refine va_get (D := D) (ci := 1) (v := .ref q3) (C := RX1) (T := TX1) (N := 18) hx hb hts xin_1 hown hK hP 0 rfl rfl 4 (by decide) (hts _ gw_152) (fun _ h9 => h9) rfl dX1_init_152 ?_
  refine lv_iload_n hx hb dX1_init_155 rfl (lv_at hl 1 rfl) ?_
  refine lv_iconst (v := 4) hx hb dX1_init_156 (by decide +kernel) ?_
  refine k_imul (v := 28) hx hb dX1_init_157 (by decide +kernel) ?_
  refine lv_iload_n hx hb dX1_init_158 rfl (lv_at hl 0 rfl) ?_
  refine k_iadd (v := 28) hx hb dX1_init_159 (by decide +kernel) ?_
  refine lv_iload_n hx hb dX1_init_160 rfl (lv_at hl 1 rfl) ?_
  refine lv_iconst (v := 1) hx hb dX1_init_161 (by decide +kernel) ?_
  refine k_iadd (v := 8) hx hb dX1_init_162 (by decide +kernel) ?_
  refine k_iast (k := 28) hx hb hK hP hD hS 3 rfl (by decide +kernel) (Nat.le_of_ble_eq_true rfl) dX1_init_163 (fun H locs hP hD hS => ?_)
  generalize hg42 : upd g40 28 8 = g42 at hP hD
  have hP : va_P D xG.1 [(h0, .inr (1, [.ref q1, .ref q2, .int 0, .int 0, .ref q3, .ref q4, .ref q5, .int 0, .int 0, .int (-1), .ref q6, .int 0, .ref q7, .int 4095, .ref q8, .ref q9, .ref q10, .int 0])), (q1, .inl (cA 0, 133, .inl g41)), (q2, .inl (cA 0, 3990, .inl (fun _ => 0))), (q3, .inl (cA 0, 48, .inl g42)), (q4, .inl (cA 0, 12, .inl (fun _ => 0))), (q5, .inl (cA 0, 8, .inl (fun _ => 0))), (q6, .inl (cA 0, 12, .inl (fun _ => 0))), (q7, .inl (cA 0, 4, .inl g4)), (q8, .inl (cA 0, 40, .inl (fun _ => 0))), (q9, .inl (cA 0, 8, .inl (fun _ => 0))), (q10, .inl (cA 0, 8, .inl (fun _ => 0)))] H := hP
  have hD : va_D A [(h0, .inr (1, [.ref q1, .ref q2, .int 0, .int 0, .ref q3, .ref q4, .ref q5, .int 0, .int 0, .int (-1), .ref q6, .int 0, .ref q7, .int 4095, .ref q8, .ref q9, .ref q10, .int 0])), (q1, .inl (cA 0, 133, .inl g41)), (q2, .inl (cA 0, 3990, .inl (fun _ => 0))), (q3, .inl (cA 0, 48, .inl g42)), (q4, .inl (cA 0, 12, .inl (fun _ => 0))), (q5, .inl (cA 0, 8, .inl (fun _ => 0))), (q6, .inl (cA 0, 12, .inl (fun _ => 0))), (q7, .inl (cA 0, 4, .inl g4)), (q8, .inl (cA 0, 40, .inl (fun _ => 0))), (q9, .inl (cA 0, 8, .inl (fun _ => 0))), (q10, .inl (cA 0, 8, .inl (fun _ => 0)))] := hD
  refine lv_iinc (v := 1) (lv' := [(2, .int 1), (1, .int 7), (0, .ref h0)]) hx hb dX1_init_164 hl (k := 0) rfl (by decide +kernel) (by decide) rfl (fun ls hl => ?_)
  refine lv_goto (tgt := 146) hx hb dX1_init_167 (by decide) ?_
  refine lv_iload_n hx hb dX1_init_146 rfl (lv_at hl 0 rfl) ?_
  refine lv_iconst (v := 4) hx hb dX1_init_147 (by decide +kernel) ?_
  refine lv_icmp_ge (tgt := 170) hx hb dX1_init_148 (by decide) (fun hc => absurd hc (by decide +kernel)) (fun _ => ?_)
  refine lv_aload_n hx hb dX1_init_151 rfl (lv_at hl 2 rfl) ?_
  refine va_get (D := D) (ci := 1) (v := .ref q3) (C := RX1) (T := TX1) (N := 18) hx hb hts xin_1 hown hK hP 0 rfl rfl 4 (by decide) (hts _ gw_152) (fun _ h9 => h9) rfl dX1_init_152 ?_
  refine lv_iload_n hx hb dX1_init_155 rfl (lv_at hl 1 rfl) ?_
  refine lv_iconst (v := 4) hx hb dX1_init_156 (by decide +kernel) ?_
  refine k_imul (v := 28) hx hb dX1_init_157 (by decide +kernel) ?_
  refine lv_iload_n hx hb dX1_init_158 rfl (lv_at hl 0 rfl) ?_
  refine k_iadd (v := 29) hx hb dX1_init_159 (by decide +kernel) ?_
  refine lv_iload_n hx hb dX1_init_160 rfl (lv_at hl 1 rfl) ?_
  refine lv_iconst (v := 1) hx hb dX1_init_161 (by decide +kernel) ?_
  refine k_iadd (v := 8) hx hb dX1_init_162 (by decide +kernel) ?_
  refine k_iast (k := 29) hx hb hK hP hD hS 3 rfl (by decide +kernel) (Nat.le_of_ble_eq_true rfl) dX1_init_163 (fun H locs hP hD hS => ?_)
  generalize hg43 : upd g42 29 8 = g43 at hP hD
  have hP : va_P D xG.1 [(h0, .inr (1, [.ref q1, .ref q2, .int 0, .int 0, .ref q3, .ref q4, .ref q5, .int 0, .int 0, .int (-1), .ref q6, .int 0, .ref q7, .int 4095, .ref q8, .ref q9, .ref q10, .int 0])), (q1, .inl (cA 0, 133, .inl g41)), (q2, .inl (cA 0, 3990, .inl (fun _ => 0))), (q3, .inl (cA 0, 48, .inl g43)), (q4, .inl (cA 0, 12, .inl (fun _ => 0))), (q5, .inl (cA 0, 8, .inl (fun _ => 0))), (q6, .inl (cA 0, 12, .inl (fun _ => 0))), (q7, .inl (cA 0, 4, .inl g4)), (q8, .inl (cA 0, 40, .inl (fun _ => 0))), (q9, .inl (cA 0, 8, .inl (fun _ => 0))), (q10, .inl (cA 0, 8, .inl (fun _ => 0)))] H := hP
  have hD : va_D A [(h0, .inr (1, [.ref q1, .ref q2, .int 0, .int 0, .ref q3, .ref q4, .ref q5, .int 0, .int 0, .int (-1), .ref q6, .int 0, .ref q7, .int 4095, .ref q8, .ref q9, .ref q10, .int 0])), (q1, .inl (cA 0, 133, .inl g41)), (q2, .inl (cA 0, 3990, .inl (fun _ => 0))), (q3, .inl (cA 0, 48, .inl g43)), (q4, .inl (cA 0, 12, .inl (fun _ => 0))), (q5, .inl (cA 0, 8, .inl (fun _ => 0))), (q6, .inl (cA 0, 12, .inl (fun _ => 0))), (q7, .inl (cA 0, 4, .inl g4)), (q8, .inl (cA 0, 40, .inl (fun _ => 0))), (q9, .inl (cA 0, 8, .inl (fun _ => 0))), (q10, .inl (cA 0, 8, .inl (fun _ => 0)))] := hD
  refine lv_iinc (v := 2) (lv' := [(2, .int 2), (1, .int 7), (0, .ref h0)]) hx hb dX1_init_164 hl (k := 0) rfl (by decide +kernel) (by decide) rfl (fun ls hl => ?_)
  refine lv_goto (tgt := 146) hx hb dX1_init_167 (by decide) ?_
  refine lv_iload_n hx hb dX1_init_146 rfl (lv_at hl 0 rfl) ?_
  refine lv_iconst (v := 4) hx hb dX1_init_147 (by decide +kernel) ?_
  refine lv_icmp_ge (tgt := 170) hx hb dX1_init_148 (by decide) (fun hc => absurd hc (by decide +kernel)) (fun _ => ?_)
  refine lv_aload_n hx hb dX1_init_151 rfl (lv_at hl 2 rfl) ?_
  refine va_get (D := D) (ci := 1) (v := .ref q3) (C := RX1) (T := TX1) (N := 18) hx hb hts xin_1 hown hK hP 0 rfl rfl 4 (by decide) (hts _ gw_152) (fun _ h9 => h9) rfl dX1_init_152 ?_
  refine lv_iload_n hx hb dX1_init_155 rfl (lv_at hl 1 rfl) ?_
  refine lv_iconst (v := 4) hx hb dX1_init_156 (by decide +kernel) ?_
  refine k_imul (v := 28) hx hb dX1_init_157 (by decide +kernel) ?_
  refine lv_iload_n hx hb dX1_init_158 rfl (lv_at hl 0 rfl) ?_
  refine k_iadd (v := 30) hx hb dX1_init_159 (by decide +kernel) ?_
  refine lv_iload_n hx hb dX1_init_160 rfl (lv_at hl 1 rfl) ?_
  refine lv_iconst (v := 1) hx hb dX1_init_161 (by decide +kernel) ?_
  refine k_iadd (v := 8) hx hb dX1_init_162 (by decide +kernel) ?_
  refine k_iast (k := 30) hx hb hK hP hD hS 3 rfl (by decide +kernel) (Nat.le_of_ble_eq_true rfl) dX1_init_163 (fun H locs hP hD hS => ?_)
  generalize hg44 : upd g43 30 8 = g44 at hP hD
  have hP : va_P D xG.1 [(h0, .inr (1, [.ref q1, .ref q2, .int 0, .int 0, .ref q3, .ref q4, .ref q5, .int 0, .int 0, .int (-1), .ref q6, .int 0, .ref q7, .int 4095, .ref q8, .ref q9, .ref q10, .int 0])), (q1, .inl (cA 0, 133, .inl g41)), (q2, .inl (cA 0, 3990, .inl (fun _ => 0))), (q3, .inl (cA 0, 48, .inl g44)), (q4, .inl (cA 0, 12, .inl (fun _ => 0))), (q5, .inl (cA 0, 8, .inl (fun _ => 0))), (q6, .inl (cA 0, 12, .inl (fun _ => 0))), (q7, .inl (cA 0, 4, .inl g4)), (q8, .inl (cA 0, 40, .inl (fun _ => 0))), (q9, .inl (cA 0, 8, .inl (fun _ => 0))), (q10, .inl (cA 0, 8, .inl (fun _ => 0)))] H := hP
  have hD : va_D A [(h0, .inr (1, [.ref q1, .ref q2, .int 0, .int 0, .ref q3, .ref q4, .ref q5, .int 0, .int 0, .int (-1), .ref q6, .int 0, .ref q7, .int 4095, .ref q8, .ref q9, .ref q10, .int 0])), (q1, .inl (cA 0, 133, .inl g41)), (q2, .inl (cA 0, 3990, .inl (fun _ => 0))), (q3, .inl (cA 0, 48, .inl g44)), (q4, .inl (cA 0, 12, .inl (fun _ => 0))), (q5, .inl (cA 0, 8, .inl (fun _ => 0))), (q6, .inl (cA 0, 12, .inl (fun _ => 0))), (q7, .inl (cA 0, 4, .inl g4)), (q8, .inl (cA 0, 40, .inl (fun _ => 0))), (q9, .inl (cA 0, 8, .inl (fun _ => 0))), (q10, .inl (cA 0, 8, .inl (fun _ => 0)))] := hD
  refine lv_iinc (v := 3) (lv' := [(2, .int 3), (1, .int 7), (0, .ref h0)]) hx hb dX1_init_164 hl (k := 0) rfl (by decide +kernel) (by decide) rfl (fun ls hl => ?_)
  refine lv_goto (tgt := 146) hx hb dX1_init_167 (by decide) ?_
  refine lv_iload_n hx hb dX1_init_146 rfl (lv_at hl 0 rfl) ?_
  refine lv_iconst (v := 4) hx hb dX1_init_147 (by decide +kernel) ?_
  refine lv_icmp_ge (tgt := 170) hx hb dX1_init_148 (by decide) (fun hc => absurd hc (by decide +kernel)) (fun _ => ?_)
  refine lv_aload_n hx hb dX1_init_151 rfl (lv_at hl 2 rfl) ?_
  refine va_get (D := D) (ci := 1) (v := .ref q3) (C := RX1) (T := TX1) (N := 18) hx hb hts xin_1 hown hK hP 0 rfl rfl 4 (by decide) (hts _ gw_152) (fun _ h9 => h9) rfl dX1_init_152 ?_
  refine lv_iload_n hx hb dX1_init_155 rfl (lv_at hl 1 rfl) ?_
  refine lv_iconst (v := 4) hx hb dX1_init_156 (by decide +kernel) ?_
  refine k_imul (v := 28) hx hb dX1_init_157 (by decide +kernel) ?_
  refine lv_iload_n hx hb dX1_init_158 rfl (lv_at hl 0 rfl) ?_
  refine k_iadd (v := 31) hx hb dX1_init_159 (by decide +kernel) ?_
  refine lv_iload_n hx hb dX1_init_160 rfl (lv_at hl 1 rfl) ?_
  refine lv_iconst (v := 1) hx hb dX1_init_161 (by decide +kernel) ?_
  refine k_iadd (v := 8) hx hb dX1_init_162 (by decide +kernel) ?_
  refine k_iast (k := 31) hx hb hK hP hD hS 3 rfl (by decide +kernel) (Nat.le_of_ble_eq_true rfl) dX1_init_163 (fun H locs hP hD hS => ?_)
  generalize hg45 : upd g44 31 8 = g45 at hP hD
  have hP : va_P D xG.1 [(h0, .inr (1, [.ref q1, .ref q2, .int 0, .int 0, .ref q3, .ref q4, .ref q5, .int 0, .int 0, .int (-1), .ref q6, .int 0, .ref q7, .int 4095, .ref q8, .ref q9, .ref q10, .int 0])), (q1, .inl (cA 0, 133, .inl g41)), (q2, .inl (cA 0, 3990, .inl (fun _ => 0))), (q3, .inl (cA 0, 48, .inl g45)), (q4, .inl (cA 0, 12, .inl (fun _ => 0))), (q5, .inl (cA 0, 8, .inl (fun _ => 0))), (q6, .inl (cA 0, 12, .inl (fun _ => 0))), (q7, .inl (cA 0, 4, .inl g4)), (q8, .inl (cA 0, 40, .inl (fun _ => 0))), (q9, .inl (cA 0, 8, .inl (fun _ => 0))), (q10, .inl (cA 0, 8, .inl (fun _ => 0)))] H := hP
  have hD : va_D A [(h0, .inr (1, [.ref q1, .ref q2, .int 0, .int 0, .ref q3, .ref q4, .ref q5, .int 0, .int 0, .int (-1), .ref q6, .int 0, .ref q7, .int 4095, .ref q8, .ref q9, .ref q10, .int 0])), (q1, .inl (cA 0, 133, .inl g41)), (q2, .inl (cA 0, 3990, .inl (fun _ => 0))), (q3, .inl (cA 0, 48, .inl g45)), (q4, .inl (cA 0, 12, .inl (fun _ => 0))), (q5, .inl (cA 0, 8, .inl (fun _ => 0))), (q6, .inl (cA 0, 12, .inl (fun _ => 0))), (q7, .inl (cA 0, 4, .inl g4)), (q8, .inl (cA 0, 40, .inl (fun _ => 0))), (q9, .inl (cA 0, 8, .inl (fun _ => 0))), (q10, .inl (cA 0, 8, .inl (fun _ => 0)))] := hD
  refine lv_iinc (v := 4) (lv' := [(2, .int 4), (1, .int 7), (0, .ref h0)]) hx hb dX1_init_164 hl (k := 0) rfl (by decide +kernel) (by decide) rfl (fun ls hl => ?_)
  refine lv_goto (tgt := 146) hx hb dX1_init_167 (by decide) ?_
  refine lv_iload_n hx hb dX1_init_146 rfl (lv_at hl 0 rfl) ?_
  refine lv_iconst (v := 4) hx hb dX1_init_147 (by decide +kernel) ?_
  refine lv_icmp_ge (tgt := 170) hx hb dX1_init_148 (by decide) (fun _ => ?_) (fun hc => absurd (by decide +kernel) hc)
  refine lv_iinc (v := 8) (lv' := [(1, .int 8), (2, .int 4), (0, .ref h0)]) hx hb dX1_init_170 hl (k := 1) rfl (by decide +kernel) (by decide) rfl (fun ls hl => ?_)
  refine lv_goto (tgt := 126) hx hb dX1_init_173 (by decide) ?_
  refine lv_iload_n hx hb dX1_init_126 rfl (lv_at hl 0 rfl) ?_
  refine lv_bipush (v := 12) hx hb dX1_init_127 (by decide +kernel) ?_
  refine lv_icmp_ge (tgt := 176) hx hb dX1_init_129 (by decide) (fun hc => absurd hc (by decide +kernel)) (fun _ => ?_)
  refine lv_aload_n hx hb dX1_init_132 rfl (lv_at hl 2 rfl) ?_
  refine va_get (D := D) (ci := 1) (v := .ref q1) (C := RX1) (T := TX1) (N := 18) hx hb hts xin_1 hown hK hP 0 rfl rfl 0 (by decide) (hts _ gw_144) (fun _ h9 => h9) rfl dX1_init_133 ?_
  refine lv_bipush (v := 16) hx hb dX1_init_136 (by decide +kernel) ?_
  refine lv_iload_n hx hb dX1_init_138 rfl (lv_at hl 0 rfl) ?_
  refine k_iadd (v := 24) hx hb dX1_init_139 (by decide +kernel) ?_
  refine lv_iload_n hx hb dX1_init_140 rfl (lv_at hl 0 rfl) ?_
  refine lv_iconst (v := 1) hx hb dX1_init_141 (by decide +kernel) ?_
  refine k_iadd (v := 9) hx hb dX1_init_142 (by decide +kernel) ?_
  refine k_iast (k := 24) hx hb hK hP hD hS 1 rfl (by decide +kernel) (Nat.le_of_ble_eq_true rfl) dX1_init_143 (fun H locs hP hD hS => ?_)
  generalize hg46 : upd g41 24 9 = g46 at hP hD
  have hP : va_P D xG.1 [(h0, .inr (1, [.ref q1, .ref q2, .int 0, .int 0, .ref q3, .ref q4, .ref q5, .int 0, .int 0, .int (-1), .ref q6, .int 0, .ref q7, .int 4095, .ref q8, .ref q9, .ref q10, .int 0])), (q1, .inl (cA 0, 133, .inl g46)), (q2, .inl (cA 0, 3990, .inl (fun _ => 0))), (q3, .inl (cA 0, 48, .inl g45)), (q4, .inl (cA 0, 12, .inl (fun _ => 0))), (q5, .inl (cA 0, 8, .inl (fun _ => 0))), (q6, .inl (cA 0, 12, .inl (fun _ => 0))), (q7, .inl (cA 0, 4, .inl g4)), (q8, .inl (cA 0, 40, .inl (fun _ => 0))), (q9, .inl (cA 0, 8, .inl (fun _ => 0))), (q10, .inl (cA 0, 8, .inl (fun _ => 0)))] H := hP
  have hD : va_D A [(h0, .inr (1, [.ref q1, .ref q2, .int 0, .int 0, .ref q3, .ref q4, .ref q5, .int 0, .int 0, .int (-1), .ref q6, .int 0, .ref q7, .int 4095, .ref q8, .ref q9, .ref q10, .int 0])), (q1, .inl (cA 0, 133, .inl g46)), (q2, .inl (cA 0, 3990, .inl (fun _ => 0))), (q3, .inl (cA 0, 48, .inl g45)), (q4, .inl (cA 0, 12, .inl (fun _ => 0))), (q5, .inl (cA 0, 8, .inl (fun _ => 0))), (q6, .inl (cA 0, 12, .inl (fun _ => 0))), (q7, .inl (cA 0, 4, .inl g4)), (q8, .inl (cA 0, 40, .inl (fun _ => 0))), (q9, .inl (cA 0, 8, .inl (fun _ => 0))), (q10, .inl (cA 0, 8, .inl (fun _ => 0)))] := hD
  refine lv_iconst (v := 0) hx hb dX1_init_144 (by decide +kernel) ?_
  refine lv_istore_n (lv' := [(2, .int 0), (1, .int 8), (0, .ref h0)]) hx hb dX1_init_145 rfl hl (by decide) rfl (fun ls hl => ?_)
  refine lv_iload_n hx hb dX1_init_146 rfl (lv_at hl 0 rfl) ?_
  refine lv_iconst (v := 4) hx hb dX1_init_147 (by decide +kernel) ?_
  refine lv_icmp_ge (tgt := 170) hx hb dX1_init_148 (by decide) (fun hc => absurd hc (by decide +kernel)) (fun _ => ?_)
  refine lv_aload_n hx hb dX1_init_151 rfl (lv_at hl 2 rfl) ?_
  refine va_get (D := D) (ci := 1) (v := .ref q3) (C := RX1) (T := TX1) (N := 18) hx hb hts xin_1 hown hK hP 0 rfl rfl 4 (by decide) (hts _ gw_152) (fun _ h9 => h9) rfl dX1_init_152 ?_
  refine lv_iload_n hx hb dX1_init_155 rfl (lv_at hl 1 rfl) ?_
  refine lv_iconst (v := 4) hx hb dX1_init_156 (by decide +kernel) ?_
  refine k_imul (v := 32) hx hb dX1_init_157 (by decide +kernel) ?_
  refine lv_iload_n hx hb dX1_init_158 rfl (lv_at hl 0 rfl) ?_
  refine k_iadd (v := 32) hx hb dX1_init_159 (by decide +kernel) ?_
  refine lv_iload_n hx hb dX1_init_160 rfl (lv_at hl 1 rfl) ?_
  refine lv_iconst (v := 1) hx hb dX1_init_161 (by decide +kernel) ?_
  refine k_iadd (v := 9) hx hb dX1_init_162 (by decide +kernel) ?_
  refine k_iast (k := 32) hx hb hK hP hD hS 3 rfl (by decide +kernel) (Nat.le_of_ble_eq_true rfl) dX1_init_163 (fun H locs hP hD hS => ?_)
  generalize hg47 : upd g45 32 9 = g47 at hP hD
  have hP : va_P D xG.1 [(h0, .inr (1, [.ref q1, .ref q2, .int 0, .int 0, .ref q3, .ref q4, .ref q5, .int 0, .int 0, .int (-1), .ref q6, .int 0, .ref q7, .int 4095, .ref q8, .ref q9, .ref q10, .int 0])), (q1, .inl (cA 0, 133, .inl g46)), (q2, .inl (cA 0, 3990, .inl (fun _ => 0))), (q3, .inl (cA 0, 48, .inl g47)), (q4, .inl (cA 0, 12, .inl (fun _ => 0))), (q5, .inl (cA 0, 8, .inl (fun _ => 0))), (q6, .inl (cA 0, 12, .inl (fun _ => 0))), (q7, .inl (cA 0, 4, .inl g4)), (q8, .inl (cA 0, 40, .inl (fun _ => 0))), (q9, .inl (cA 0, 8, .inl (fun _ => 0))), (q10, .inl (cA 0, 8, .inl (fun _ => 0)))] H := hP
  have hD : va_D A [(h0, .inr (1, [.ref q1, .ref q2, .int 0, .int 0, .ref q3, .ref q4, .ref q5, .int 0, .int 0, .int (-1), .ref q6, .int 0, .ref q7, .int 4095, .ref q8, .ref q9, .ref q10, .int 0])), (q1, .inl (cA 0, 133, .inl g46)), (q2, .inl (cA 0, 3990, .inl (fun _ => 0))), (q3, .inl (cA 0, 48, .inl g47)), (q4, .inl (cA 0, 12, .inl (fun _ => 0))), (q5, .inl (cA 0, 8, .inl (fun _ => 0))), (q6, .inl (cA 0, 12, .inl (fun _ => 0))), (q7, .inl (cA 0, 4, .inl g4)), (q8, .inl (cA 0, 40, .inl (fun _ => 0))), (q9, .inl (cA 0, 8, .inl (fun _ => 0))), (q10, .inl (cA 0, 8, .inl (fun _ => 0)))] := hD
  refine lv_iinc (v := 1) (lv' := [(2, .int 1), (1, .int 8), (0, .ref h0)]) hx hb dX1_init_164 hl (k := 0) rfl (by decide +kernel) (by decide) rfl (fun ls hl => ?_)
  refine lv_goto (tgt := 146) hx hb dX1_init_167 (by decide) ?_
  refine lv_iload_n hx hb dX1_init_146 rfl (lv_at hl 0 rfl) ?_
  refine lv_iconst (v := 4) hx hb dX1_init_147 (by decide +kernel) ?_
  refine lv_icmp_ge (tgt := 170) hx hb dX1_init_148 (by decide) (fun hc => absurd hc (by decide +kernel)) (fun _ => ?_)
  refine lv_aload_n hx hb dX1_init_151 rfl (lv_at hl 2 rfl) ?_
  refine va_get (D := D) (ci := 1) (v := .ref q3) (C := RX1) (T := TX1) (N := 18) hx hb hts xin_1 hown hK hP 0 rfl rfl 4 (by decide) (hts _ gw_152) (fun _ h9 => h9) rfl dX1_init_152 ?_
  refine lv_iload_n hx hb dX1_init_155 rfl (lv_at hl 1 rfl) ?_
  refine lv_iconst (v := 4) hx hb dX1_init_156 (by decide +kernel) ?_
  refine k_imul (v := 32) hx hb dX1_init_157 (by decide +kernel) ?_
  refine lv_iload_n hx hb dX1_init_158 rfl (lv_at hl 0 rfl) ?_
  refine k_iadd (v := 33) hx hb dX1_init_159 (by decide +kernel) ?_
  refine lv_iload_n hx hb dX1_init_160 rfl (lv_at hl 1 rfl) ?_
  refine lv_iconst (v := 1) hx hb dX1_init_161 (by decide +kernel) ?_
  refine k_iadd (v := 9) hx hb dX1_init_162 (by decide +kernel) ?_
  refine k_iast (k := 33) hx hb hK hP hD hS 3 rfl (by decide +kernel) (Nat.le_of_ble_eq_true rfl) dX1_init_163 (fun H locs hP hD hS => ?_)
  generalize hg48 : upd g47 33 9 = g48 at hP hD
  have hP : va_P D xG.1 [(h0, .inr (1, [.ref q1, .ref q2, .int 0, .int 0, .ref q3, .ref q4, .ref q5, .int 0, .int 0, .int (-1), .ref q6, .int 0, .ref q7, .int 4095, .ref q8, .ref q9, .ref q10, .int 0])), (q1, .inl (cA 0, 133, .inl g46)), (q2, .inl (cA 0, 3990, .inl (fun _ => 0))), (q3, .inl (cA 0, 48, .inl g48)), (q4, .inl (cA 0, 12, .inl (fun _ => 0))), (q5, .inl (cA 0, 8, .inl (fun _ => 0))), (q6, .inl (cA 0, 12, .inl (fun _ => 0))), (q7, .inl (cA 0, 4, .inl g4)), (q8, .inl (cA 0, 40, .inl (fun _ => 0))), (q9, .inl (cA 0, 8, .inl (fun _ => 0))), (q10, .inl (cA 0, 8, .inl (fun _ => 0)))] H := hP
  have hD : va_D A [(h0, .inr (1, [.ref q1, .ref q2, .int 0, .int 0, .ref q3, .ref q4, .ref q5, .int 0, .int 0, .int (-1), .ref q6, .int 0, .ref q7, .int 4095, .ref q8, .ref q9, .ref q10, .int 0])), (q1, .inl (cA 0, 133, .inl g46)), (q2, .inl (cA 0, 3990, .inl (fun _ => 0))), (q3, .inl (cA 0, 48, .inl g48)), (q4, .inl (cA 0, 12, .inl (fun _ => 0))), (q5, .inl (cA 0, 8, .inl (fun _ => 0))), (q6, .inl (cA 0, 12, .inl (fun _ => 0))), (q7, .inl (cA 0, 4, .inl g4)), (q8, .inl (cA 0, 40, .inl (fun _ => 0))), (q9, .inl (cA 0, 8, .inl (fun _ => 0))), (q10, .inl (cA 0, 8, .inl (fun _ => 0)))] := hD
  refine lv_iinc (v := 2) (lv' := [(2, .int 2), (1, .int 8), (0, .ref h0)]) hx hb dX1_init_164 hl (k := 0) rfl (by decide +kernel) (by decide) rfl (fun ls hl => ?_)
  refine lv_goto (tgt := 146) hx hb dX1_init_167 (by decide) ?_
  refine lv_iload_n hx hb dX1_init_146 rfl (lv_at hl 0 rfl) ?_
  refine lv_iconst (v := 4) hx hb dX1_init_147 (by decide +kernel) ?_
  refine lv_icmp_ge (tgt := 170) hx hb dX1_init_148 (by decide) (fun hc => absurd hc (by decide +kernel)) (fun _ => ?_)
  refine lv_aload_n hx hb dX1_init_151 rfl (lv_at hl 2 rfl) ?_
  refine va_get (D := D) (ci := 1) (v := .ref q3) (C := RX1) (T := TX1) (N := 18) hx hb hts xin_1 hown hK hP 0 rfl rfl 4 (by decide) (hts _ gw_152) (fun _ h9 => h9) rfl dX1_init_152 ?_
  refine lv_iload_n hx hb dX1_init_155 rfl (lv_at hl 1 rfl) ?_
  refine lv_iconst (v := 4) hx hb dX1_init_156 (by decide +kernel) ?_
  refine k_imul (v := 32) hx hb dX1_init_157 (by decide +kernel) ?_
  refine lv_iload_n hx hb dX1_init_158 rfl (lv_at hl 0 rfl) ?_
  refine k_iadd (v := 34) hx hb dX1_init_159 (by decide +kernel) ?_
  refine lv_iload_n hx hb dX1_init_160 rfl (lv_at hl 1 rfl) ?_
  refine lv_iconst (v := 1) hx hb dX1_init_161 (by decide +kernel) ?_
  refine k_iadd (v := 9) hx hb dX1_init_162 (by decide +kernel) ?_
  refine k_iast (k := 34) hx hb hK hP hD hS 3 rfl (by decide +kernel) (Nat.le_of_ble_eq_true rfl) dX1_init_163 (fun H locs hP hD hS => ?_)
  generalize hg49 : upd g48 34 9 = g49 at hP hD
  have hP : va_P D xG.1 [(h0, .inr (1, [.ref q1, .ref q2, .int 0, .int 0, .ref q3, .ref q4, .ref q5, .int 0, .int 0, .int (-1), .ref q6, .int 0, .ref q7, .int 4095, .ref q8, .ref q9, .ref q10, .int 0])), (q1, .inl (cA 0, 133, .inl g46)), (q2, .inl (cA 0, 3990, .inl (fun _ => 0))), (q3, .inl (cA 0, 48, .inl g49)), (q4, .inl (cA 0, 12, .inl (fun _ => 0))), (q5, .inl (cA 0, 8, .inl (fun _ => 0))), (q6, .inl (cA 0, 12, .inl (fun _ => 0))), (q7, .inl (cA 0, 4, .inl g4)), (q8, .inl (cA 0, 40, .inl (fun _ => 0))), (q9, .inl (cA 0, 8, .inl (fun _ => 0))), (q10, .inl (cA 0, 8, .inl (fun _ => 0)))] H := hP
  have hD : va_D A [(h0, .inr (1, [.ref q1, .ref q2, .int 0, .int 0, .ref q3, .ref q4, .ref q5, .int 0, .int 0, .int (-1), .ref q6, .int 0, .ref q7, .int 4095, .ref q8, .ref q9, .ref q10, .int 0])), (q1, .inl (cA 0, 133, .inl g46)), (q2, .inl (cA 0, 3990, .inl (fun _ => 0))), (q3, .inl (cA 0, 48, .inl g49)), (q4, .inl (cA 0, 12, .inl (fun _ => 0))), (q5, .inl (cA 0, 8, .inl (fun _ => 0))), (q6, .inl (cA 0, 12, .inl (fun _ => 0))), (q7, .inl (cA 0, 4, .inl g4)), (q8, .inl (cA 0, 40, .inl (fun _ => 0))), (q9, .inl (cA 0, 8, .inl (fun _ => 0))), (q10, .inl (cA 0, 8, .inl (fun _ => 0)))] := hD
  refine lv_iinc (v := 3) (lv' := [(2, .int 3), (1, .int 8), (0, .ref h0)]) hx hb dX1_init_164 hl (k := 0) rfl (by decide +kernel) (by decide) rfl (fun ls hl => ?_)
  refine lv_goto (tgt := 146) hx hb dX1_init_167 (by decide) ?_
  refine lv_iload_n hx hb dX1_init_146 rfl (lv_at hl 0 rfl) ?_
  refine lv_iconst (v := 4) hx hb dX1_init_147 (by decide +kernel) ?_
  refine lv_icmp_ge (tgt := 170) hx hb dX1_init_148 (by decide) (fun hc => absurd hc (by decide +kernel)) (fun _ => ?_)
  refine lv_aload_n hx hb dX1_init_151 rfl (lv_at hl 2 rfl) ?_
  refine va_get (D := D) (ci := 1) (v := .ref q3) (C := RX1) (T := TX1) (N := 18) hx hb hts xin_1 hown hK hP 0 rfl rfl 4 (by decide) (hts _ gw_152) (fun _ h9 => h9) rfl dX1_init_152 ?_
  refine lv_iload_n hx hb dX1_init_155 rfl (lv_at hl 1 rfl) ?_
  refine lv_iconst (v := 4) hx hb dX1_init_156 (by decide +kernel) ?_
  refine k_imul (v := 32) hx hb dX1_init_157 (by decide +kernel) ?_
  refine lv_iload_n hx hb dX1_init_158 rfl (lv_at hl 0 rfl) ?_
  refine k_iadd (v := 35) hx hb dX1_init_159 (by decide +kernel) ?_
  refine lv_iload_n hx hb dX1_init_160 rfl (lv_at hl 1 rfl) ?_
  refine lv_iconst (v := 1) hx hb dX1_init_161 (by decide +kernel) ?_
  refine k_iadd (v := 9) hx hb dX1_init_162 (by decide +kernel) ?_
  refine k_iast (k := 35) hx hb hK hP hD hS 3 rfl (by decide +kernel) (Nat.le_of_ble_eq_true rfl) dX1_init_163 (fun H locs hP hD hS => ?_)
  generalize hg50 : upd g49 35 9 = g50 at hP hD
  have hP : va_P D xG.1 [(h0, .inr (1, [.ref q1, .ref q2, .int 0, .int 0, .ref q3, .ref q4, .ref q5, .int 0, .int 0, .int (-1), .ref q6, .int 0, .ref q7, .int 4095, .ref q8, .ref q9, .ref q10, .int 0])), (q1, .inl (cA 0, 133, .inl g46)), (q2, .inl (cA 0, 3990, .inl (fun _ => 0))), (q3, .inl (cA 0, 48, .inl g50)), (q4, .inl (cA 0, 12, .inl (fun _ => 0))), (q5, .inl (cA 0, 8, .inl (fun _ => 0))), (q6, .inl (cA 0, 12, .inl (fun _ => 0))), (q7, .inl (cA 0, 4, .inl g4)), (q8, .inl (cA 0, 40, .inl (fun _ => 0))), (q9, .inl (cA 0, 8, .inl (fun _ => 0))), (q10, .inl (cA 0, 8, .inl (fun _ => 0)))] H := hP
  have hD : va_D A [(h0, .inr (1, [.ref q1, .ref q2, .int 0, .int 0, .ref q3, .ref q4, .ref q5, .int 0, .int 0, .int (-1), .ref q6, .int 0, .ref q7, .int 4095, .ref q8, .ref q9, .ref q10, .int 0])), (q1, .inl (cA 0, 133, .inl g46)), (q2, .inl (cA 0, 3990, .inl (fun _ => 0))), (q3, .inl (cA 0, 48, .inl g50)), (q4, .inl (cA 0, 12, .inl (fun _ => 0))), (q5, .inl (cA 0, 8, .inl (fun _ => 0))), (q6, .inl (cA 0, 12, .inl (fun _ => 0))), (q7, .inl (cA 0, 4, .inl g4)), (q8, .inl (cA 0, 40, .inl (fun _ => 0))), (q9, .inl (cA 0, 8, .inl (fun _ => 0))), (q10, .inl (cA 0, 8, .inl (fun _ => 0)))] := hD
  refine lv_iinc (v := 4) (lv' := [(2, .int 4), (1, .int 8), (0, .ref h0)]) hx hb dX1_init_164 hl (k := 0) rfl (by decide +kernel) (by decide) rfl (fun ls hl => ?_)
  refine lv_goto (tgt := 146) hx hb dX1_init_167 (by decide) ?_
  refine lv_iload_n hx hb dX1_init_146 rfl (lv_at hl 0 rfl) ?_
  refine lv_iconst (v := 4) hx hb dX1_init_147 (by decide +kernel) ?_
  refine lv_icmp_ge (tgt := 170) hx hb dX1_init_148 (by decide) (fun _ => ?_) (fun hc => absurd (by decide +kernel) hc)
  refine lv_iinc (v := 9) (lv' := [(1, .int 9), (2, .int 4), (0, .ref h0)]) hx hb dX1_init_170 hl (k := 1) rfl (by decide +kernel) (by decide) rfl (fun ls hl => ?_)
  refine lv_goto (tgt := 126) hx hb dX1_init_173 (by decide) ?_
  refine lv_iload_n hx hb dX1_init_126 rfl (lv_at hl 0 rfl) ?_
  refine lv_bipush (v := 12) hx hb dX1_init_127 (by decide +kernel) ?_
  refine lv_icmp_ge (tgt := 176) hx hb dX1_init_129 (by decide) (fun hc => absurd hc (by decide +kernel)) (fun _ => ?_)
  refine lv_aload_n hx hb dX1_init_132 rfl (lv_at hl 2 rfl) ?_
  refine va_get (D := D) (ci := 1) (v := .ref q1) (C := RX1) (T := TX1) (N := 18) hx hb hts xin_1 hown hK hP 0 rfl rfl 0 (by decide) (hts _ gw_144) (fun _ h9 => h9) rfl dX1_init_133 ?_
  refine lv_bipush (v := 16) hx hb dX1_init_136 (by decide +kernel) ?_
  refine lv_iload_n hx hb dX1_init_138 rfl (lv_at hl 0 rfl) ?_
  refine k_iadd (v := 25) hx hb dX1_init_139 (by decide +kernel) ?_
  refine lv_iload_n hx hb dX1_init_140 rfl (lv_at hl 0 rfl) ?_
  refine lv_iconst (v := 1) hx hb dX1_init_141 (by decide +kernel) ?_
  refine k_iadd (v := 10) hx hb dX1_init_142 (by decide +kernel) ?_
  refine k_iast (k := 25) hx hb hK hP hD hS 1 rfl (by decide +kernel) (Nat.le_of_ble_eq_true rfl) dX1_init_143 (fun H locs hP hD hS => ?_)
  generalize hg51 : upd g46 25 10 = g51 at hP hD
  have hP : va_P D xG.1 [(h0, .inr (1, [.ref q1, .ref q2, .int 0, .int 0, .ref q3, .ref q4, .ref q5, .int 0, .int 0, .int (-1), .ref q6, .int 0, .ref q7, .int 4095, .ref q8, .ref q9, .ref q10, .int 0])), (q1, .inl (cA 0, 133, .inl g51)), (q2, .inl (cA 0, 3990, .inl (fun _ => 0))), (q3, .inl (cA 0, 48, .inl g50)), (q4, .inl (cA 0, 12, .inl (fun _ => 0))), (q5, .inl (cA 0, 8, .inl (fun _ => 0))), (q6, .inl (cA 0, 12, .inl (fun _ => 0))), (q7, .inl (cA 0, 4, .inl g4)), (q8, .inl (cA 0, 40, .inl (fun _ => 0))), (q9, .inl (cA 0, 8, .inl (fun _ => 0))), (q10, .inl (cA 0, 8, .inl (fun _ => 0)))] H := hP
  have hD : va_D A [(h0, .inr (1, [.ref q1, .ref q2, .int 0, .int 0, .ref q3, .ref q4, .ref q5, .int 0, .int 0, .int (-1), .ref q6, .int 0, .ref q7, .int 4095, .ref q8, .ref q9, .ref q10, .int 0])), (q1, .inl (cA 0, 133, .inl g51)), (q2, .inl (cA 0, 3990, .inl (fun _ => 0))), (q3, .inl (cA 0, 48, .inl g50)), (q4, .inl (cA 0, 12, .inl (fun _ => 0))), (q5, .inl (cA 0, 8, .inl (fun _ => 0))), (q6, .inl (cA 0, 12, .inl (fun _ => 0))), (q7, .inl (cA 0, 4, .inl g4)), (q8, .inl (cA 0, 40, .inl (fun _ => 0))), (q9, .inl (cA 0, 8, .inl (fun _ => 0))), (q10, .inl (cA 0, 8, .inl (fun _ => 0)))] := hD
  refine lv_iconst (v := 0) hx hb dX1_init_144 (by decide +kernel) ?_
  refine lv_istore_n (lv' := [(2, .int 0), (1, .int 9), (0, .ref h0)]) hx hb dX1_init_145 rfl hl (by decide) rfl (fun ls hl => ?_)
  refine lv_iload_n hx hb dX1_init_146 rfl (lv_at hl 0 rfl) ?_
  refine lv_iconst (v := 4) hx hb dX1_init_147 (by decide +kernel) ?_
  refine lv_icmp_ge (tgt := 170) hx hb dX1_init_148 (by decide) (fun hc => absurd hc (by decide +kernel)) (fun _ => ?_)
  refine lv_aload_n hx hb dX1_init_151 rfl (lv_at hl 2 rfl) ?_
  refine va_get (D := D) (ci := 1) (v := .ref q3) (C := RX1) (T := TX1) (N := 18) hx hb hts xin_1 hown hK hP 0 rfl rfl 4 (by decide) (hts _ gw_152) (fun _ h9 => h9) rfl dX1_init_152 ?_
  refine lv_iload_n hx hb dX1_init_155 rfl (lv_at hl 1 rfl) ?_
  refine lv_iconst (v := 4) hx hb dX1_init_156 (by decide +kernel) ?_
  refine k_imul (v := 36) hx hb dX1_init_157 (by decide +kernel) ?_
  refine lv_iload_n hx hb dX1_init_158 rfl (lv_at hl 0 rfl) ?_
  refine k_iadd (v := 36) hx hb dX1_init_159 (by decide +kernel) ?_
  refine lv_iload_n hx hb dX1_init_160 rfl (lv_at hl 1 rfl) ?_
  refine lv_iconst (v := 1) hx hb dX1_init_161 (by decide +kernel) ?_
  refine k_iadd (v := 10) hx hb dX1_init_162 (by decide +kernel) ?_
  refine k_iast (k := 36) hx hb hK hP hD hS 3 rfl (by decide +kernel) (Nat.le_of_ble_eq_true rfl) dX1_init_163 (fun H locs hP hD hS => ?_)
  generalize hg52 : upd g50 36 10 = g52 at hP hD
  have hP : va_P D xG.1 [(h0, .inr (1, [.ref q1, .ref q2, .int 0, .int 0, .ref q3, .ref q4, .ref q5, .int 0, .int 0, .int (-1), .ref q6, .int 0, .ref q7, .int 4095, .ref q8, .ref q9, .ref q10, .int 0])), (q1, .inl (cA 0, 133, .inl g51)), (q2, .inl (cA 0, 3990, .inl (fun _ => 0))), (q3, .inl (cA 0, 48, .inl g52)), (q4, .inl (cA 0, 12, .inl (fun _ => 0))), (q5, .inl (cA 0, 8, .inl (fun _ => 0))), (q6, .inl (cA 0, 12, .inl (fun _ => 0))), (q7, .inl (cA 0, 4, .inl g4)), (q8, .inl (cA 0, 40, .inl (fun _ => 0))), (q9, .inl (cA 0, 8, .inl (fun _ => 0))), (q10, .inl (cA 0, 8, .inl (fun _ => 0)))] H := hP
  have hD : va_D A [(h0, .inr (1, [.ref q1, .ref q2, .int 0, .int 0, .ref q3, .ref q4, .ref q5, .int 0, .int 0, .int (-1), .ref q6, .int 0, .ref q7, .int 4095, .ref q8, .ref q9, .ref q10, .int 0])), (q1, .inl (cA 0, 133, .inl g51)), (q2, .inl (cA 0, 3990, .inl (fun _ => 0))), (q3, .inl (cA 0, 48, .inl g52)), (q4, .inl (cA 0, 12, .inl (fun _ => 0))), (q5, .inl (cA 0, 8, .inl (fun _ => 0))), (q6, .inl (cA 0, 12, .inl (fun _ => 0))), (q7, .inl (cA 0, 4, .inl g4)), (q8, .inl (cA 0, 40, .inl (fun _ => 0))), (q9, .inl (cA 0, 8, .inl (fun _ => 0))), (q10, .inl (cA 0, 8, .inl (fun _ => 0)))] := hD
  refine lv_iinc (v := 1) (lv' := [(2, .int 1), (1, .int 9), (0, .ref h0)]) hx hb dX1_init_164 hl (k := 0) rfl (by decide +kernel) (by decide) rfl (fun ls hl => ?_)
  refine lv_goto (tgt := 146) hx hb dX1_init_167 (by decide) ?_
  refine lv_iload_n hx hb dX1_init_146 rfl (lv_at hl 0 rfl) ?_
  refine lv_iconst (v := 4) hx hb dX1_init_147 (by decide +kernel) ?_
  refine lv_icmp_ge (tgt := 170) hx hb dX1_init_148 (by decide) (fun hc => absurd hc (by decide +kernel)) (fun _ => ?_)
  refine lv_aload_n hx hb dX1_init_151 rfl (lv_at hl 2 rfl) ?_
  refine va_get (D := D) (ci := 1) (v := .ref q3) (C := RX1) (T := TX1) (N := 18) hx hb hts xin_1 hown hK hP 0 rfl rfl 4 (by decide) (hts _ gw_152) (fun _ h9 => h9) rfl dX1_init_152 ?_
  refine lv_iload_n hx hb dX1_init_155 rfl (lv_at hl 1 rfl) ?_
  refine lv_iconst (v := 4) hx hb dX1_init_156 (by decide +kernel) ?_
  refine k_imul (v := 36) hx hb dX1_init_157 (by decide +kernel) ?_
  refine lv_iload_n hx hb dX1_init_158 rfl (lv_at hl 0 rfl) ?_
  refine k_iadd (v := 37) hx hb dX1_init_159 (by decide +kernel) ?_
  refine lv_iload_n hx hb dX1_init_160 rfl (lv_at hl 1 rfl) ?_
  refine lv_iconst (v := 1) hx hb dX1_init_161 (by decide +kernel) ?_
  refine k_iadd (v := 10) hx hb dX1_init_162 (by decide +kernel) ?_
  refine k_iast (k := 37) hx hb hK hP hD hS 3 rfl (by decide +kernel) (Nat.le_of_ble_eq_true rfl) dX1_init_163 (fun H locs hP hD hS => ?_)
  generalize hg53 : upd g52 37 10 = g53 at hP hD
  have hP : va_P D xG.1 [(h0, .inr (1, [.ref q1, .ref q2, .int 0, .int 0, .ref q3, .ref q4, .ref q5, .int 0, .int 0, .int (-1), .ref q6, .int 0, .ref q7, .int 4095, .ref q8, .ref q9, .ref q10, .int 0])), (q1, .inl (cA 0, 133, .inl g51)), (q2, .inl (cA 0, 3990, .inl (fun _ => 0))), (q3, .inl (cA 0, 48, .inl g53)), (q4, .inl (cA 0, 12, .inl (fun _ => 0))), (q5, .inl (cA 0, 8, .inl (fun _ => 0))), (q6, .inl (cA 0, 12, .inl (fun _ => 0))), (q7, .inl (cA 0, 4, .inl g4)), (q8, .inl (cA 0, 40, .inl (fun _ => 0))), (q9, .inl (cA 0, 8, .inl (fun _ => 0))), (q10, .inl (cA 0, 8, .inl (fun _ => 0)))] H := hP
  have hD : va_D A [(h0, .inr (1, [.ref q1, .ref q2, .int 0, .int 0, .ref q3, .ref q4, .ref q5, .int 0, .int 0, .int (-1), .ref q6, .int 0, .ref q7, .int 4095, .ref q8, .ref q9, .ref q10, .int 0])), (q1, .inl (cA 0, 133, .inl g51)), (q2, .inl (cA 0, 3990, .inl (fun _ => 0))), (q3, .inl (cA 0, 48, .inl g53)), (q4, .inl (cA 0, 12, .inl (fun _ => 0))), (q5, .inl (cA 0, 8, .inl (fun _ => 0))), (q6, .inl (cA 0, 12, .inl (fun _ => 0))), (q7, .inl (cA 0, 4, .inl g4)), (q8, .inl (cA 0, 40, .inl (fun _ => 0))), (q9, .inl (cA 0, 8, .inl (fun _ => 0))), (q10, .inl (cA 0, 8, .inl (fun _ => 0)))] := hD
  refine lv_iinc (v := 2) (lv' := [(2, .int 2), (1, .int 9), (0, .ref h0)]) hx hb dX1_init_164 hl (k := 0) rfl (by decide +kernel) (by decide) rfl (fun ls hl => ?_)
  refine lv_goto (tgt := 146) hx hb dX1_init_167 (by decide) ?_
  refine lv_iload_n hx hb dX1_init_146 rfl (lv_at hl 0 rfl) ?_
  refine lv_iconst (v := 4) hx hb dX1_init_147 (by decide +kernel) ?_
  refine lv_icmp_ge (tgt := 170) hx hb dX1_init_148 (by decide) (fun hc => absurd hc (by decide +kernel)) (fun _ => ?_)
  refine lv_aload_n hx hb dX1_init_151 rfl (lv_at hl 2 rfl) ?_
  refine va_get (D := D) (ci := 1) (v := .ref q3) (C := RX1) (T := TX1) (N := 18) hx hb hts xin_1 hown hK hP 0 rfl rfl 4 (by decide) (hts _ gw_152) (fun _ h9 => h9) rfl dX1_init_152 ?_
  refine lv_iload_n hx hb dX1_init_155 rfl (lv_at hl 1 rfl) ?_
  refine lv_iconst (v := 4) hx hb dX1_init_156 (by decide +kernel) ?_
  refine k_imul (v := 36) hx hb dX1_init_157 (by decide +kernel) ?_
  refine lv_iload_n hx hb dX1_init_158 rfl (lv_at hl 0 rfl) ?_
  refine k_iadd (v := 38) hx hb dX1_init_159 (by decide +kernel) ?_
  refine lv_iload_n hx hb dX1_init_160 rfl (lv_at hl 1 rfl) ?_
  refine lv_iconst (v := 1) hx hb dX1_init_161 (by decide +kernel) ?_
  refine k_iadd (v := 10) hx hb dX1_init_162 (by decide +kernel) ?_
  refine k_iast (k := 38) hx hb hK hP hD hS 3 rfl (by decide +kernel) (Nat.le_of_ble_eq_true rfl) dX1_init_163 (fun H locs hP hD hS => ?_)
  generalize hg54 : upd g53 38 10 = g54 at hP hD
  have hP : va_P D xG.1 [(h0, .inr (1, [.ref q1, .ref q2, .int 0, .int 0, .ref q3, .ref q4, .ref q5, .int 0, .int 0, .int (-1), .ref q6, .int 0, .ref q7, .int 4095, .ref q8, .ref q9, .ref q10, .int 0])), (q1, .inl (cA 0, 133, .inl g51)), (q2, .inl (cA 0, 3990, .inl (fun _ => 0))), (q3, .inl (cA 0, 48, .inl g54)), (q4, .inl (cA 0, 12, .inl (fun _ => 0))), (q5, .inl (cA 0, 8, .inl (fun _ => 0))), (q6, .inl (cA 0, 12, .inl (fun _ => 0))), (q7, .inl (cA 0, 4, .inl g4)), (q8, .inl (cA 0, 40, .inl (fun _ => 0))), (q9, .inl (cA 0, 8, .inl (fun _ => 0))), (q10, .inl (cA 0, 8, .inl (fun _ => 0)))] H := hP
  have hD : va_D A [(h0, .inr (1, [.ref q1, .ref q2, .int 0, .int 0, .ref q3, .ref q4, .ref q5, .int 0, .int 0, .int (-1), .ref q6, .int 0, .ref q7, .int 4095, .ref q8, .ref q9, .ref q10, .int 0])), (q1, .inl (cA 0, 133, .inl g51)), (q2, .inl (cA 0, 3990, .inl (fun _ => 0))), (q3, .inl (cA 0, 48, .inl g54)), (q4, .inl (cA 0, 12, .inl (fun _ => 0))), (q5, .inl (cA 0, 8, .inl (fun _ => 0))), (q6, .inl (cA 0, 12, .inl (fun _ => 0))), (q7, .inl (cA 0, 4, .inl g4)), (q8, .inl (cA 0, 40, .inl (fun _ => 0))), (q9, .inl (cA 0, 8, .inl (fun _ => 0))), (q10, .inl (cA 0, 8, .inl (fun _ => 0)))] := hD
  refine lv_iinc (v := 3) (lv' := [(2, .int 3), (1, .int 9), (0, .ref h0)]) hx hb dX1_init_164 hl (k := 0) rfl (by decide +kernel) (by decide) rfl (fun ls hl => ?_)
  refine lv_goto (tgt := 146) hx hb dX1_init_167 (by decide) ?_
  refine lv_iload_n hx hb dX1_init_146 rfl (lv_at hl 0 rfl) ?_
  refine lv_iconst (v := 4) hx hb dX1_init_147 (by decide +kernel) ?_
  refine lv_icmp_ge (tgt := 170) hx hb dX1_init_148 (by decide) (fun hc => absurd hc (by decide +kernel)) (fun _ => ?_)
  refine lv_aload_n hx hb dX1_init_151 rfl (lv_at hl 2 rfl) ?_
  refine va_get (D := D) (ci := 1) (v := .ref q3) (C := RX1) (T := TX1) (N := 18) hx hb hts xin_1 hown hK hP 0 rfl rfl 4 (by decide) (hts _ gw_152) (fun _ h9 => h9) rfl dX1_init_152 ?_
  refine lv_iload_n hx hb dX1_init_155 rfl (lv_at hl 1 rfl) ?_
  refine lv_iconst (v := 4) hx hb dX1_init_156 (by decide +kernel) ?_
  refine k_imul (v := 36) hx hb dX1_init_157 (by decide +kernel) ?_
  refine lv_iload_n hx hb dX1_init_158 rfl (lv_at hl 0 rfl) ?_
  refine k_iadd (v := 39) hx hb dX1_init_159 (by decide +kernel) ?_
  refine lv_iload_n hx hb dX1_init_160 rfl (lv_at hl 1 rfl) ?_
  refine lv_iconst (v := 1) hx hb dX1_init_161 (by decide +kernel) ?_
  refine k_iadd (v := 10) hx hb dX1_init_162 (by decide +kernel) ?_
  refine k_iast (k := 39) hx hb hK hP hD hS 3 rfl (by decide +kernel) (Nat.le_of_ble_eq_true rfl) dX1_init_163 (fun H locs hP hD hS => ?_)
  generalize hg55 : upd g54 39 10 = g55 at hP hD
  have hP : va_P D xG.1 [(h0, .inr (1, [.ref q1, .ref q2, .int 0, .int 0, .ref q3, .ref q4, .ref q5, .int 0, .int 0, .int (-1), .ref q6, .int 0, .ref q7, .int 4095, .ref q8, .ref q9, .ref q10, .int 0])), (q1, .inl (cA 0, 133, .inl g51)), (q2, .inl (cA 0, 3990, .inl (fun _ => 0))), (q3, .inl (cA 0, 48, .inl g55)), (q4, .inl (cA 0, 12, .inl (fun _ => 0))), (q5, .inl (cA 0, 8, .inl (fun _ => 0))), (q6, .inl (cA 0, 12, .inl (fun _ => 0))), (q7, .inl (cA 0, 4, .inl g4)), (q8, .inl (cA 0, 40, .inl (fun _ => 0))), (q9, .inl (cA 0, 8, .inl (fun _ => 0))), (q10, .inl (cA 0, 8, .inl (fun _ => 0)))] H := hP
  have hD : va_D A [(h0, .inr (1, [.ref q1, .ref q2, .int 0, .int 0, .ref q3, .ref q4, .ref q5, .int 0, .int 0, .int (-1), .ref q6, .int 0, .ref q7, .int 4095, .ref q8, .ref q9, .ref q10, .int 0])), (q1, .inl (cA 0, 133, .inl g51)), (q2, .inl (cA 0, 3990, .inl (fun _ => 0))), (q3, .inl (cA 0, 48, .inl g55)), (q4, .inl (cA 0, 12, .inl (fun _ => 0))), (q5, .inl (cA 0, 8, .inl (fun _ => 0))), (q6, .inl (cA 0, 12, .inl (fun _ => 0))), (q7, .inl (cA 0, 4, .inl g4)), (q8, .inl (cA 0, 40, .inl (fun _ => 0))), (q9, .inl (cA 0, 8, .inl (fun _ => 0))), (q10, .inl (cA 0, 8, .inl (fun _ => 0)))] := hD
  refine lv_iinc (v := 4) (lv' := [(2, .int 4), (1, .int 9), (0, .ref h0)]) hx hb dX1_init_164 hl (k := 0) rfl (by decide +kernel) (by decide) rfl (fun ls hl => ?_)
  refine lv_goto (tgt := 146) hx hb dX1_init_167 (by decide) ?_
  refine lv_iload_n hx hb dX1_init_146 rfl (lv_at hl 0 rfl) ?_
  refine lv_iconst (v := 4) hx hb dX1_init_147 (by decide +kernel) ?_
  refine lv_icmp_ge (tgt := 170) hx hb dX1_init_148 (by decide) (fun _ => ?_) (fun hc => absurd (by decide +kernel) hc)
  refine lv_iinc (v := 10) (lv' := [(1, .int 10), (2, .int 4), (0, .ref h0)]) hx hb dX1_init_170 hl (k := 1) rfl (by decide +kernel) (by decide) rfl (fun ls hl => ?_)
  refine lv_goto (tgt := 126) hx hb dX1_init_173 (by decide) ?_
  refine lv_iload_n hx hb dX1_init_126 rfl (lv_at hl 0 rfl) ?_
  refine lv_bipush (v := 12) hx hb dX1_init_127 (by decide +kernel) ?_
  refine lv_icmp_ge (tgt := 176) hx hb dX1_init_129 (by decide) (fun hc => absurd hc (by decide +kernel)) (fun _ => ?_)
  refine lv_aload_n hx hb dX1_init_132 rfl (lv_at hl 2 rfl) ?_
  refine va_get (D := D) (ci := 1) (v := .ref q1) (C := RX1) (T := TX1) (N := 18) hx hb hts xin_1 hown hK hP 0 rfl rfl 0 (by decide) (hts _ gw_144) (fun _ h9 => h9) rfl dX1_init_133 ?_
  refine lv_bipush (v := 16) hx hb dX1_init_136 (by decide +kernel) ?_
  refine lv_iload_n hx hb dX1_init_138 rfl (lv_at hl 0 rfl) ?_
  refine k_iadd (v := 26) hx hb dX1_init_139 (by decide +kernel) ?_
  refine lv_iload_n hx hb dX1_init_140 rfl (lv_at hl 0 rfl) ?_
  refine lv_iconst (v := 1) hx hb dX1_init_141 (by decide +kernel) ?_
  refine k_iadd (v := 11) hx hb dX1_init_142 (by decide +kernel) ?_
  refine k_iast (k := 26) hx hb hK hP hD hS 1 rfl (by decide +kernel) (Nat.le_of_ble_eq_true rfl) dX1_init_143 (fun H locs hP hD hS => ?_)
  generalize hg56 : upd g51 26 11 = g56 at hP hD
  have hP : va_P D xG.1 [(h0, .inr (1, [.ref q1, .ref q2, .int 0, .int 0, .ref q3, .ref q4, .ref q5, .int 0, .int 0, .int (-1), .ref q6, .int 0, .ref q7, .int 4095, .ref q8, .ref q9, .ref q10, .int 0])), (q1, .inl (cA 0, 133, .inl g56)), (q2, .inl (cA 0, 3990, .inl (fun _ => 0))), (q3, .inl (cA 0, 48, .inl g55)), (q4, .inl (cA 0, 12, .inl (fun _ => 0))), (q5, .inl (cA 0, 8, .inl (fun _ => 0))), (q6, .inl (cA 0, 12, .inl (fun _ => 0))), (q7, .inl (cA 0, 4, .inl g4)), (q8, .inl (cA 0, 40, .inl (fun _ => 0))), (q9, .inl (cA 0, 8, .inl (fun _ => 0))), (q10, .inl (cA 0, 8, .inl (fun _ => 0)))] H := hP
  have hD : va_D A [(h0, .inr (1, [.ref q1, .ref q2, .int 0, .int 0, .ref q3, .ref q4, .ref q5, .int 0, .int 0, .int (-1), .ref q6, .int 0, .ref q7, .int 4095, .ref q8, .ref q9, .ref q10, .int 0])), (q1, .inl (cA 0, 133, .inl g56)), (q2, .inl (cA 0, 3990, .inl (fun _ => 0))), (q3, .inl (cA 0, 48, .inl g55)), (q4, .inl (cA 0, 12, .inl (fun _ => 0))), (q5, .inl (cA 0, 8, .inl (fun _ => 0))), (q6, .inl (cA 0, 12, .inl (fun _ => 0))), (q7, .inl (cA 0, 4, .inl g4)), (q8, .inl (cA 0, 40, .inl (fun _ => 0))), (q9, .inl (cA 0, 8, .inl (fun _ => 0))), (q10, .inl (cA 0, 8, .inl (fun _ => 0)))] := hD
  refine lv_iconst (v := 0) hx hb dX1_init_144 (by decide +kernel) ?_
  refine lv_istore_n (lv' := [(2, .int 0), (1, .int 10), (0, .ref h0)]) hx hb dX1_init_145 rfl hl (by decide) rfl (fun ls hl => ?_)
  refine lv_iload_n hx hb dX1_init_146 rfl (lv_at hl 0 rfl) ?_
  refine lv_iconst (v := 4) hx hb dX1_init_147 (by decide +kernel) ?_
  refine lv_icmp_ge (tgt := 170) hx hb dX1_init_148 (by decide) (fun hc => absurd hc (by decide +kernel)) (fun _ => ?_)
  refine lv_aload_n hx hb dX1_init_151 rfl (lv_at hl 2 rfl) ?_
  refine va_get (D := D) (ci := 1) (v := .ref q3) (C := RX1) (T := TX1) (N := 18) hx hb hts xin_1 hown hK hP 0 rfl rfl 4 (by decide) (hts _ gw_152) (fun _ h9 => h9) rfl dX1_init_152 ?_
  refine lv_iload_n hx hb dX1_init_155 rfl (lv_at hl 1 rfl) ?_
  refine lv_iconst (v := 4) hx hb dX1_init_156 (by decide +kernel) ?_
  refine k_imul (v := 40) hx hb dX1_init_157 (by decide +kernel) ?_
  refine lv_iload_n hx hb dX1_init_158 rfl (lv_at hl 0 rfl) ?_
  refine k_iadd (v := 40) hx hb dX1_init_159 (by decide +kernel) ?_
  refine lv_iload_n hx hb dX1_init_160 rfl (lv_at hl 1 rfl) ?_
  refine lv_iconst (v := 1) hx hb dX1_init_161 (by decide +kernel) ?_
  refine k_iadd (v := 11) hx hb dX1_init_162 (by decide +kernel) ?_
  refine k_iast (k := 40) hx hb hK hP hD hS 3 rfl (by decide +kernel) (Nat.le_of_ble_eq_true rfl) dX1_init_163 (fun H locs hP hD hS => ?_)
  generalize hg57 : upd g55 40 11 = g57 at hP hD
  have hP : va_P D xG.1 [(h0, .inr (1, [.ref q1, .ref q2, .int 0, .int 0, .ref q3, .ref q4, .ref q5, .int 0, .int 0, .int (-1), .ref q6, .int 0, .ref q7, .int 4095, .ref q8, .ref q9, .ref q10, .int 0])), (q1, .inl (cA 0, 133, .inl g56)), (q2, .inl (cA 0, 3990, .inl (fun _ => 0))), (q3, .inl (cA 0, 48, .inl g57)), (q4, .inl (cA 0, 12, .inl (fun _ => 0))), (q5, .inl (cA 0, 8, .inl (fun _ => 0))), (q6, .inl (cA 0, 12, .inl (fun _ => 0))), (q7, .inl (cA 0, 4, .inl g4)), (q8, .inl (cA 0, 40, .inl (fun _ => 0))), (q9, .inl (cA 0, 8, .inl (fun _ => 0))), (q10, .inl (cA 0, 8, .inl (fun _ => 0)))] H := hP
  have hD : va_D A [(h0, .inr (1, [.ref q1, .ref q2, .int 0, .int 0, .ref q3, .ref q4, .ref q5, .int 0, .int 0, .int (-1), .ref q6, .int 0, .ref q7, .int 4095, .ref q8, .ref q9, .ref q10, .int 0])), (q1, .inl (cA 0, 133, .inl g56)), (q2, .inl (cA 0, 3990, .inl (fun _ => 0))), (q3, .inl (cA 0, 48, .inl g57)), (q4, .inl (cA 0, 12, .inl (fun _ => 0))), (q5, .inl (cA 0, 8, .inl (fun _ => 0))), (q6, .inl (cA 0, 12, .inl (fun _ => 0))), (q7, .inl (cA 0, 4, .inl g4)), (q8, .inl (cA 0, 40, .inl (fun _ => 0))), (q9, .inl (cA 0, 8, .inl (fun _ => 0))), (q10, .inl (cA 0, 8, .inl (fun _ => 0)))] := hD
  refine lv_iinc (v := 1) (lv' := [(2, .int 1), (1, .int 10), (0, .ref h0)]) hx hb dX1_init_164 hl (k := 0) rfl (by decide +kernel) (by decide) rfl (fun ls hl => ?_)
  refine lv_goto (tgt := 146) hx hb dX1_init_167 (by decide) ?_
  refine lv_iload_n hx hb dX1_init_146 rfl (lv_at hl 0 rfl) ?_
  refine lv_iconst (v := 4) hx hb dX1_init_147 (by decide +kernel) ?_
  refine lv_icmp_ge (tgt := 170) hx hb dX1_init_148 (by decide) (fun hc => absurd hc (by decide +kernel)) (fun _ => ?_)
  refine lv_aload_n hx hb dX1_init_151 rfl (lv_at hl 2 rfl) ?_
  refine va_get (D := D) (ci := 1) (v := .ref q3) (C := RX1) (T := TX1) (N := 18) hx hb hts xin_1 hown hK hP 0 rfl rfl 4 (by decide) (hts _ gw_152) (fun _ h9 => h9) rfl dX1_init_152 ?_
  refine lv_iload_n hx hb dX1_init_155 rfl (lv_at hl 1 rfl) ?_
  refine lv_iconst (v := 4) hx hb dX1_init_156 (by decide +kernel) ?_
  refine k_imul (v := 40) hx hb dX1_init_157 (by decide +kernel) ?_
  refine lv_iload_n hx hb dX1_init_158 rfl (lv_at hl 0 rfl) ?_
  refine k_iadd (v := 41) hx hb dX1_init_159 (by decide +kernel) ?_
  refine lv_iload_n hx hb dX1_init_160 rfl (lv_at hl 1 rfl) ?_
  refine lv_iconst (v := 1) hx hb dX1_init_161 (by decide +kernel) ?_
  refine k_iadd (v := 11) hx hb dX1_init_162 (by decide +kernel) ?_
  refine k_iast (k := 41) hx hb hK hP hD hS 3 rfl (by decide +kernel) (Nat.le_of_ble_eq_true rfl) dX1_init_163 (fun H locs hP hD hS => ?_)
  generalize hg58 : upd g57 41 11 = g58 at hP hD
  have hP : va_P D xG.1 [(h0, .inr (1, [.ref q1, .ref q2, .int 0, .int 0, .ref q3, .ref q4, .ref q5, .int 0, .int 0, .int (-1), .ref q6, .int 0, .ref q7, .int 4095, .ref q8, .ref q9, .ref q10, .int 0])), (q1, .inl (cA 0, 133, .inl g56)), (q2, .inl (cA 0, 3990, .inl (fun _ => 0))), (q3, .inl (cA 0, 48, .inl g58)), (q4, .inl (cA 0, 12, .inl (fun _ => 0))), (q5, .inl (cA 0, 8, .inl (fun _ => 0))), (q6, .inl (cA 0, 12, .inl (fun _ => 0))), (q7, .inl (cA 0, 4, .inl g4)), (q8, .inl (cA 0, 40, .inl (fun _ => 0))), (q9, .inl (cA 0, 8, .inl (fun _ => 0))), (q10, .inl (cA 0, 8, .inl (fun _ => 0)))] H := hP
  have hD : va_D A [(h0, .inr (1, [.ref q1, .ref q2, .int 0, .int 0, .ref q3, .ref q4, .ref q5, .int 0, .int 0, .int (-1), .ref q6, .int 0, .ref q7, .int 4095, .ref q8, .ref q9, .ref q10, .int 0])), (q1, .inl (cA 0, 133, .inl g56)), (q2, .inl (cA 0, 3990, .inl (fun _ => 0))), (q3, .inl (cA 0, 48, .inl g58)), (q4, .inl (cA 0, 12, .inl (fun _ => 0))), (q5, .inl (cA 0, 8, .inl (fun _ => 0))), (q6, .inl (cA 0, 12, .inl (fun _ => 0))), (q7, .inl (cA 0, 4, .inl g4)), (q8, .inl (cA 0, 40, .inl (fun _ => 0))), (q9, .inl (cA 0, 8, .inl (fun _ => 0))), (q10, .inl (cA 0, 8, .inl (fun _ => 0)))] := hD
  refine lv_iinc (v := 2) (lv' := [(2, .int 2), (1, .int 10), (0, .ref h0)]) hx hb dX1_init_164 hl (k := 0) rfl (by decide +kernel) (by decide) rfl (fun ls hl => ?_)
  refine lv_goto (tgt := 146) hx hb dX1_init_167 (by decide) ?_
  refine lv_iload_n hx hb dX1_init_146 rfl (lv_at hl 0 rfl) ?_
  refine lv_iconst (v := 4) hx hb dX1_init_147 (by decide +kernel) ?_
  refine lv_icmp_ge (tgt := 170) hx hb dX1_init_148 (by decide) (fun hc => absurd hc (by decide +kernel)) (fun _ => ?_)
  refine lv_aload_n hx hb dX1_init_151 rfl (lv_at hl 2 rfl) ?_
  refine va_get (D := D) (ci := 1) (v := .ref q3) (C := RX1) (T := TX1) (N := 18) hx hb hts xin_1 hown hK hP 0 rfl rfl 4 (by decide) (hts _ gw_152) (fun _ h9 => h9) rfl dX1_init_152 ?_
  refine lv_iload_n hx hb dX1_init_155 rfl (lv_at hl 1 rfl) ?_
  refine lv_iconst (v := 4) hx hb dX1_init_156 (by decide +kernel) ?_
  refine k_imul (v := 40) hx hb dX1_init_157 (by decide +kernel) ?_
  refine lv_iload_n hx hb dX1_init_158 rfl (lv_at hl 0 rfl) ?_
  refine k_iadd (v := 42) hx hb dX1_init_159 (by decide +kernel) ?_
  refine lv_iload_n hx hb dX1_init_160 rfl (lv_at hl 1 rfl) ?_
  refine lv_iconst (v := 1) hx hb dX1_init_161 (by decide +kernel) ?_
  refine k_iadd (v := 11) hx hb dX1_init_162 (by decide +kernel) ?_
  refine k_iast (k := 42) hx hb hK hP hD hS 3 rfl (by decide +kernel) (Nat.le_of_ble_eq_true rfl) dX1_init_163 (fun H locs hP hD hS => ?_)
  generalize hg59 : upd g58 42 11 = g59 at hP hD
  have hP : va_P D xG.1 [(h0, .inr (1, [.ref q1, .ref q2, .int 0, .int 0, .ref q3, .ref q4, .ref q5, .int 0, .int 0, .int (-1), .ref q6, .int 0, .ref q7, .int 4095, .ref q8, .ref q9, .ref q10, .int 0])), (q1, .inl (cA 0, 133, .inl g56)), (q2, .inl (cA 0, 3990, .inl (fun _ => 0))), (q3, .inl (cA 0, 48, .inl g59)), (q4, .inl (cA 0, 12, .inl (fun _ => 0))), (q5, .inl (cA 0, 8, .inl (fun _ => 0))), (q6, .inl (cA 0, 12, .inl (fun _ => 0))), (q7, .inl (cA 0, 4, .inl g4)), (q8, .inl (cA 0, 40, .inl (fun _ => 0))), (q9, .inl (cA 0, 8, .inl (fun _ => 0))), (q10, .inl (cA 0, 8, .inl (fun _ => 0)))] H := hP
  have hD : va_D A [(h0, .inr (1, [.ref q1, .ref q2, .int 0, .int 0, .ref q3, .ref q4, .ref q5, .int 0, .int 0, .int (-1), .ref q6, .int 0, .ref q7, .int 4095, .ref q8, .ref q9, .ref q10, .int 0])), (q1, .inl (cA 0, 133, .inl g56)), (q2, .inl (cA 0, 3990, .inl (fun _ => 0))), (q3, .inl (cA 0, 48, .inl g59)), (q4, .inl (cA 0, 12, .inl (fun _ => 0))), (q5, .inl (cA 0, 8, .inl (fun _ => 0))), (q6, .inl (cA 0, 12, .inl (fun _ => 0))), (q7, .inl (cA 0, 4, .inl g4)), (q8, .inl (cA 0, 40, .inl (fun _ => 0))), (q9, .inl (cA 0, 8, .inl (fun _ => 0))), (q10, .inl (cA 0, 8, .inl (fun _ => 0)))] := hD
  refine lv_iinc (v := 3) (lv' := [(2, .int 3), (1, .int 10), (0, .ref h0)]) hx hb dX1_init_164 hl (k := 0) rfl (by decide +kernel) (by decide) rfl (fun ls hl => ?_)
  refine lv_goto (tgt := 146) hx hb dX1_init_167 (by decide) ?_
  refine lv_iload_n hx hb dX1_init_146 rfl (lv_at hl 0 rfl) ?_
  refine lv_iconst (v := 4) hx hb dX1_init_147 (by decide +kernel) ?_
  refine lv_icmp_ge (tgt := 170) hx hb dX1_init_148 (by decide) (fun hc => absurd hc (by decide +kernel)) (fun _ => ?_)
  refine lv_aload_n hx hb dX1_init_151 rfl (lv_at hl 2 rfl) ?_
  refine va_get (D := D) (ci := 1) (v := .ref q3) (C := RX1) (T := TX1) (N := 18) hx hb hts xin_1 hown hK hP 0 rfl rfl 4 (by decide) (hts _ gw_152) (fun _ h9 => h9) rfl dX1_init_152 ?_
  refine lv_iload_n hx hb dX1_init_155 rfl (lv_at hl 1 rfl) ?_
  refine lv_iconst (v := 4) hx hb dX1_init_156 (by decide +kernel) ?_
  refine k_imul (v := 40) hx hb dX1_init_157 (by decide +kernel) ?_
  refine lv_iload_n hx hb dX1_init_158 rfl (lv_at hl 0 rfl) ?_
  refine k_iadd (v := 43) hx hb dX1_init_159 (by decide +kernel) ?_
  refine lv_iload_n hx hb dX1_init_160 rfl (lv_at hl 1 rfl) ?_
  refine lv_iconst (v := 1) hx hb dX1_init_161 (by decide +kernel) ?_
  refine k_iadd (v := 11) hx hb dX1_init_162 (by decide +kernel) ?_
  refine k_iast (k := 43) hx hb hK hP hD hS 3 rfl (by decide +kernel) (Nat.le_of_ble_eq_true rfl) dX1_init_163 (fun H locs hP hD hS => ?_)
  generalize hg60 : upd g59 43 11 = g60 at hP hD
  have hP : va_P D xG.1 [(h0, .inr (1, [.ref q1, .ref q2, .int 0, .int 0, .ref q3, .ref q4, .ref q5, .int 0, .int 0, .int (-1), .ref q6, .int 0, .ref q7, .int 4095, .ref q8, .ref q9, .ref q10, .int 0])), (q1, .inl (cA 0, 133, .inl g56)), (q2, .inl (cA 0, 3990, .inl (fun _ => 0))), (q3, .inl (cA 0, 48, .inl g60)), (q4, .inl (cA 0, 12, .inl (fun _ => 0))), (q5, .inl (cA 0, 8, .inl (fun _ => 0))), (q6, .inl (cA 0, 12, .inl (fun _ => 0))), (q7, .inl (cA 0, 4, .inl g4)), (q8, .inl (cA 0, 40, .inl (fun _ => 0))), (q9, .inl (cA 0, 8, .inl (fun _ => 0))), (q10, .inl (cA 0, 8, .inl (fun _ => 0)))] H := hP
  have hD : va_D A [(h0, .inr (1, [.ref q1, .ref q2, .int 0, .int 0, .ref q3, .ref q4, .ref q5, .int 0, .int 0, .int (-1), .ref q6, .int 0, .ref q7, .int 4095, .ref q8, .ref q9, .ref q10, .int 0])), (q1, .inl (cA 0, 133, .inl g56)), (q2, .inl (cA 0, 3990, .inl (fun _ => 0))), (q3, .inl (cA 0, 48, .inl g60)), (q4, .inl (cA 0, 12, .inl (fun _ => 0))), (q5, .inl (cA 0, 8, .inl (fun _ => 0))), (q6, .inl (cA 0, 12, .inl (fun _ => 0))), (q7, .inl (cA 0, 4, .inl g4)), (q8, .inl (cA 0, 40, .inl (fun _ => 0))), (q9, .inl (cA 0, 8, .inl (fun _ => 0))), (q10, .inl (cA 0, 8, .inl (fun _ => 0)))] := hD
  refine lv_iinc (v := 4) (lv' := [(2, .int 4), (1, .int 10), (0, .ref h0)]) hx hb dX1_init_164 hl (k := 0) rfl (by decide +kernel) (by decide) rfl (fun ls hl => ?_)
  refine lv_goto (tgt := 146) hx hb dX1_init_167 (by decide) ?_
  refine lv_iload_n hx hb dX1_init_146 rfl (lv_at hl 0 rfl) ?_
  refine lv_iconst (v := 4) hx hb dX1_init_147 (by decide +kernel) ?_
  refine lv_icmp_ge (tgt := 170) hx hb dX1_init_148 (by decide) (fun _ => ?_) (fun hc => absurd (by decide +kernel) hc)
  refine lv_iinc (v := 11) (lv' := [(1, .int 11), (2, .int 4), (0, .ref h0)]) hx hb dX1_init_170 hl (k := 1) rfl (by decide +kernel) (by decide) rfl (fun ls hl => ?_)
  refine lv_goto (tgt := 126) hx hb dX1_init_173 (by decide) ?_
  refine lv_iload_n hx hb dX1_init_126 rfl (lv_at hl 0 rfl) ?_
  refine lv_bipush (v := 12) hx hb dX1_init_127 (by decide +kernel) ?_
  refine lv_icmp_ge (tgt := 176) hx hb dX1_init_129 (by decide) (fun hc => absurd hc (by decide +kernel)) (fun _ => ?_)
  refine lv_aload_n hx hb dX1_init_132 rfl (lv_at hl 2 rfl) ?_
  refine va_get (D := D) (ci := 1) (v := .ref q1) (C := RX1) (T := TX1) (N := 18) hx hb hts xin_1 hown hK hP 0 rfl rfl 0 (by decide) (hts _ gw_144) (fun _ h9 => h9) rfl dX1_init_133 ?_
  refine lv_bipush (v := 16) hx hb dX1_init_136 (by decide +kernel) ?_
  refine lv_iload_n hx hb dX1_init_138 rfl (lv_at hl 0 rfl) ?_
  refine k_iadd (v := 27) hx hb dX1_init_139 (by decide +kernel) ?_
  refine lv_iload_n hx hb dX1_init_140 rfl (lv_at hl 0 rfl) ?_
  refine lv_iconst (v := 1) hx hb dX1_init_141 (by decide +kernel) ?_
  refine k_iadd (v := 12) hx hb dX1_init_142 (by decide +kernel) ?_
  refine k_iast (k := 27) hx hb hK hP hD hS 1 rfl (by decide +kernel) (Nat.le_of_ble_eq_true rfl) dX1_init_143 (fun H locs hP hD hS => ?_)
  generalize hg61 : upd g56 27 12 = g61 at hP hD
  have hP : va_P D xG.1 [(h0, .inr (1, [.ref q1, .ref q2, .int 0, .int 0, .ref q3, .ref q4, .ref q5, .int 0, .int 0, .int (-1), .ref q6, .int 0, .ref q7, .int 4095, .ref q8, .ref q9, .ref q10, .int 0])), (q1, .inl (cA 0, 133, .inl g61)), (q2, .inl (cA 0, 3990, .inl (fun _ => 0))), (q3, .inl (cA 0, 48, .inl g60)), (q4, .inl (cA 0, 12, .inl (fun _ => 0))), (q5, .inl (cA 0, 8, .inl (fun _ => 0))), (q6, .inl (cA 0, 12, .inl (fun _ => 0))), (q7, .inl (cA 0, 4, .inl g4)), (q8, .inl (cA 0, 40, .inl (fun _ => 0))), (q9, .inl (cA 0, 8, .inl (fun _ => 0))), (q10, .inl (cA 0, 8, .inl (fun _ => 0)))] H := hP
  have hD : va_D A [(h0, .inr (1, [.ref q1, .ref q2, .int 0, .int 0, .ref q3, .ref q4, .ref q5, .int 0, .int 0, .int (-1), .ref q6, .int 0, .ref q7, .int 4095, .ref q8, .ref q9, .ref q10, .int 0])), (q1, .inl (cA 0, 133, .inl g61)), (q2, .inl (cA 0, 3990, .inl (fun _ => 0))), (q3, .inl (cA 0, 48, .inl g60)), (q4, .inl (cA 0, 12, .inl (fun _ => 0))), (q5, .inl (cA 0, 8, .inl (fun _ => 0))), (q6, .inl (cA 0, 12, .inl (fun _ => 0))), (q7, .inl (cA 0, 4, .inl g4)), (q8, .inl (cA 0, 40, .inl (fun _ => 0))), (q9, .inl (cA 0, 8, .inl (fun _ => 0))), (q10, .inl (cA 0, 8, .inl (fun _ => 0)))] := hD
  refine lv_iconst (v := 0) hx hb dX1_init_144 (by decide +kernel) ?_
  refine lv_istore_n (lv' := [(2, .int 0), (1, .int 11), (0, .ref h0)]) hx hb dX1_init_145 rfl hl (by decide) rfl (fun ls hl => ?_)
  refine lv_iload_n hx hb dX1_init_146 rfl (lv_at hl 0 rfl) ?_
  refine lv_iconst (v := 4) hx hb dX1_init_147 (by decide +kernel) ?_
  refine lv_icmp_ge (tgt := 170) hx hb dX1_init_148 (by decide) (fun hc => absurd hc (by decide +kernel)) (fun _ => ?_)
  refine lv_aload_n hx hb dX1_init_151 rfl (lv_at hl 2 rfl) ?_
  refine va_get (D := D) (ci := 1) (v := .ref q3) (C := RX1) (T := TX1) (N := 18) hx hb hts xin_1 hown hK hP 0 rfl rfl 4 (by decide) (hts _ gw_152) (fun _ h9 => h9) rfl dX1_init_152 ?_
  refine lv_iload_n hx hb dX1_init_155 rfl (lv_at hl 1 rfl) ?_
  refine lv_iconst (v := 4) hx hb dX1_init_156 (by decide +kernel) ?_
  refine k_imul (v := 44) hx hb dX1_init_157 (by decide +kernel) ?_
  refine lv_iload_n hx hb dX1_init_158 rfl (lv_at hl 0 rfl) ?_
  refine k_iadd (v := 44) hx hb dX1_init_159 (by decide +kernel) ?_
  refine lv_iload_n hx hb dX1_init_160 rfl (lv_at hl 1 rfl) ?_
  refine lv_iconst (v := 1) hx hb dX1_init_161 (by decide +kernel) ?_
  refine k_iadd (v := 12) hx hb dX1_init_162 (by decide +kernel) ?_
  refine k_iast (k := 44) hx hb hK hP hD hS 3 rfl (by decide +kernel) (Nat.le_of_ble_eq_true rfl) dX1_init_163 (fun H locs hP hD hS => ?_)
  generalize hg62 : upd g60 44 12 = g62 at hP hD
  have hP : va_P D xG.1 [(h0, .inr (1, [.ref q1, .ref q2, .int 0, .int 0, .ref q3, .ref q4, .ref q5, .int 0, .int 0, .int (-1), .ref q6, .int 0, .ref q7, .int 4095, .ref q8, .ref q9, .ref q10, .int 0])), (q1, .inl (cA 0, 133, .inl g61)), (q2, .inl (cA 0, 3990, .inl (fun _ => 0))), (q3, .inl (cA 0, 48, .inl g62)), (q4, .inl (cA 0, 12, .inl (fun _ => 0))), (q5, .inl (cA 0, 8, .inl (fun _ => 0))), (q6, .inl (cA 0, 12, .inl (fun _ => 0))), (q7, .inl (cA 0, 4, .inl g4)), (q8, .inl (cA 0, 40, .inl (fun _ => 0))), (q9, .inl (cA 0, 8, .inl (fun _ => 0))), (q10, .inl (cA 0, 8, .inl (fun _ => 0)))] H := hP
  have hD : va_D A [(h0, .inr (1, [.ref q1, .ref q2, .int 0, .int 0, .ref q3, .ref q4, .ref q5, .int 0, .int 0, .int (-1), .ref q6, .int 0, .ref q7, .int 4095, .ref q8, .ref q9, .ref q10, .int 0])), (q1, .inl (cA 0, 133, .inl g61)), (q2, .inl (cA 0, 3990, .inl (fun _ => 0))), (q3, .inl (cA 0, 48, .inl g62)), (q4, .inl (cA 0, 12, .inl (fun _ => 0))), (q5, .inl (cA 0, 8, .inl (fun _ => 0))), (q6, .inl (cA 0, 12, .inl (fun _ => 0))), (q7, .inl (cA 0, 4, .inl g4)), (q8, .inl (cA 0, 40, .inl (fun _ => 0))), (q9, .inl (cA 0, 8, .inl (fun _ => 0))), (q10, .inl (cA 0, 8, .inl (fun _ => 0)))] := hD
  refine lv_iinc (v := 1) (lv' := [(2, .int 1), (1, .int 11), (0, .ref h0)]) hx hb dX1_init_164 hl (k := 0) rfl (by decide +kernel) (by decide) rfl (fun ls hl => ?_)
  refine lv_goto (tgt := 146) hx hb dX1_init_167 (by decide) ?_
  refine lv_iload_n hx hb dX1_init_146 rfl (lv_at hl 0 rfl) ?_
  refine lv_iconst (v := 4) hx hb dX1_init_147 (by decide +kernel) ?_
  refine lv_icmp_ge (tgt := 170) hx hb dX1_init_148 (by decide) (fun hc => absurd hc (by decide +kernel)) (fun _ => ?_)
  refine lv_aload_n hx hb dX1_init_151 rfl (lv_at hl 2 rfl) ?_
  refine va_get (D := D) (ci := 1) (v := .ref q3) (C := RX1) (T := TX1) (N := 18) hx hb hts xin_1 hown hK hP 0 rfl rfl 4 (by decide) (hts _ gw_152) (fun _ h9 => h9) rfl dX1_init_152 ?_
  refine lv_iload_n hx hb dX1_init_155 rfl (lv_at hl 1 rfl) ?_
  refine lv_iconst (v := 4) hx hb dX1_init_156 (by decide +kernel) ?_
  refine k_imul (v := 44) hx hb dX1_init_157 (by decide +kernel) ?_
  refine lv_iload_n hx hb dX1_init_158 rfl (lv_at hl 0 rfl) ?_
  refine k_iadd (v := 45) hx hb dX1_init_159 (by decide +kernel) ?_
  refine lv_iload_n hx hb dX1_init_160 rfl (lv_at hl 1 rfl) ?_
  refine lv_iconst (v := 1) hx hb dX1_init_161 (by decide +kernel) ?_
  refine k_iadd (v := 12) hx hb dX1_init_162 (by decide +kernel) ?_
  refine k_iast (k := 45) hx hb hK hP hD hS 3 rfl (by decide +kernel) (Nat.le_of_ble_eq_true rfl) dX1_init_163 (fun H locs hP hD hS => ?_)
  generalize hg63 : upd g62 45 12 = g63 at hP hD
  have hP : va_P D xG.1 [(h0, .inr (1, [.ref q1, .ref q2, .int 0, .int 0, .ref q3, .ref q4, .ref q5, .int 0, .int 0, .int (-1), .ref q6, .int 0, .ref q7, .int 4095, .ref q8, .ref q9, .ref q10, .int 0])), (q1, .inl (cA 0, 133, .inl g61)), (q2, .inl (cA 0, 3990, .inl (fun _ => 0))), (q3, .inl (cA 0, 48, .inl g63)), (q4, .inl (cA 0, 12, .inl (fun _ => 0))), (q5, .inl (cA 0, 8, .inl (fun _ => 0))), (q6, .inl (cA 0, 12, .inl (fun _ => 0))), (q7, .inl (cA 0, 4, .inl g4)), (q8, .inl (cA 0, 40, .inl (fun _ => 0))), (q9, .inl (cA 0, 8, .inl (fun _ => 0))), (q10, .inl (cA 0, 8, .inl (fun _ => 0)))] H := hP
  have hD : va_D A [(h0, .inr (1, [.ref q1, .ref q2, .int 0, .int 0, .ref q3, .ref q4, .ref q5, .int 0, .int 0, .int (-1), .ref q6, .int 0, .ref q7, .int 4095, .ref q8, .ref q9, .ref q10, .int 0])), (q1, .inl (cA 0, 133, .inl g61)), (q2, .inl (cA 0, 3990, .inl (fun _ => 0))), (q3, .inl (cA 0, 48, .inl g63)), (q4, .inl (cA 0, 12, .inl (fun _ => 0))), (q5, .inl (cA 0, 8, .inl (fun _ => 0))), (q6, .inl (cA 0, 12, .inl (fun _ => 0))), (q7, .inl (cA 0, 4, .inl g4)), (q8, .inl (cA 0, 40, .inl (fun _ => 0))), (q9, .inl (cA 0, 8, .inl (fun _ => 0))), (q10, .inl (cA 0, 8, .inl (fun _ => 0)))] := hD
  refine lv_iinc (v := 2) (lv' := [(2, .int 2), (1, .int 11), (0, .ref h0)]) hx hb dX1_init_164 hl (k := 0) rfl (by decide +kernel) (by decide) rfl (fun ls hl => ?_)
  refine lv_goto (tgt := 146) hx hb dX1_init_167 (by decide) ?_
  refine lv_iload_n hx hb dX1_init_146 rfl (lv_at hl 0 rfl) ?_
  refine lv_iconst (v := 4) hx hb dX1_init_147 (by decide +kernel) ?_
  refine lv_icmp_ge (tgt := 170) hx hb dX1_init_148 (by decide) (fun hc => absurd hc (by decide +kernel)) (fun _ => ?_)
  refine lv_aload_n hx hb dX1_init_151 rfl (lv_at hl 2 rfl) ?_
  refine va_get (D := D) (ci := 1) (v := .ref q3) (C := RX1) (T := TX1) (N := 18) hx hb hts xin_1 hown hK hP 0 rfl rfl 4 (by decide) (hts _ gw_152) (fun _ h9 => h9) rfl dX1_init_152 ?_
  refine lv_iload_n hx hb dX1_init_155 rfl (lv_at hl 1 rfl) ?_
  refine lv_iconst (v := 4) hx hb dX1_init_156 (by decide +kernel) ?_
  refine k_imul (v := 44) hx hb dX1_init_157 (by decide +kernel) ?_
  refine lv_iload_n hx hb dX1_init_158 rfl (lv_at hl 0 rfl) ?_
  refine k_iadd (v := 46) hx hb dX1_init_159 (by decide +kernel) ?_
  refine lv_iload_n hx hb dX1_init_160 rfl (lv_at hl 1 rfl) ?_
  refine lv_iconst (v := 1) hx hb dX1_init_161 (by decide +kernel) ?_
  refine k_iadd (v := 12) hx hb dX1_init_162 (by decide +kernel) ?_
  refine k_iast (k := 46) hx hb hK hP hD hS 3 rfl (by decide +kernel) (Nat.le_of_ble_eq_true rfl) dX1_init_163 (fun H locs hP hD hS => ?_)
  generalize hg64 : upd g63 46 12 = g64 at hP hD
  have hP : va_P D xG.1 [(h0, .inr (1, [.ref q1, .ref q2, .int 0, .int 0, .ref q3, .ref q4, .ref q5, .int 0, .int 0, .int (-1), .ref q6, .int 0, .ref q7, .int 4095, .ref q8, .ref q9, .ref q10, .int 0])), (q1, .inl (cA 0, 133, .inl g61)), (q2, .inl (cA 0, 3990, .inl (fun _ => 0))), (q3, .inl (cA 0, 48, .inl g64)), (q4, .inl (cA 0, 12, .inl (fun _ => 0))), (q5, .inl (cA 0, 8, .inl (fun _ => 0))), (q6, .inl (cA 0, 12, .inl (fun _ => 0))), (q7, .inl (cA 0, 4, .inl g4)), (q8, .inl (cA 0, 40, .inl (fun _ => 0))), (q9, .inl (cA 0, 8, .inl (fun _ => 0))), (q10, .inl (cA 0, 8, .inl (fun _ => 0)))] H := hP
  have hD : va_D A [(h0, .inr (1, [.ref q1, .ref q2, .int 0, .int 0, .ref q3, .ref q4, .ref q5, .int 0, .int 0, .int (-1), .ref q6, .int 0, .ref q7, .int 4095, .ref q8, .ref q9, .ref q10, .int 0])), (q1, .inl (cA 0, 133, .inl g61)), (q2, .inl (cA 0, 3990, .inl (fun _ => 0))), (q3, .inl (cA 0, 48, .inl g64)), (q4, .inl (cA 0, 12, .inl (fun _ => 0))), (q5, .inl (cA 0, 8, .inl (fun _ => 0))), (q6, .inl (cA 0, 12, .inl (fun _ => 0))), (q7, .inl (cA 0, 4, .inl g4)), (q8, .inl (cA 0, 40, .inl (fun _ => 0))), (q9, .inl (cA 0, 8, .inl (fun _ => 0))), (q10, .inl (cA 0, 8, .inl (fun _ => 0)))] := hD
  refine lv_iinc (v := 3) (lv' := [(2, .int 3), (1, .int 11), (0, .ref h0)]) hx hb dX1_init_164 hl (k := 0) rfl (by decide +kernel) (by decide) rfl (fun ls hl => ?_)
  refine lv_goto (tgt := 146) hx hb dX1_init_167 (by decide) ?_
  refine lv_iload_n hx hb dX1_init_146 rfl (lv_at hl 0 rfl) ?_
  refine lv_iconst (v := 4) hx hb dX1_init_147 (by decide +kernel) ?_
  refine lv_icmp_ge (tgt := 170) hx hb dX1_init_148 (by decide) (fun hc => absurd hc (by decide +kernel)) (fun _ => ?_)
  refine lv_aload_n hx hb dX1_init_151 rfl (lv_at hl 2 rfl) ?_
  refine va_get (D := D) (ci := 1) (v := .ref q3) (C := RX1) (T := TX1) (N := 18) hx hb hts xin_1 hown hK hP 0 rfl rfl 4 (by decide) (hts _ gw_152) (fun _ h9 => h9) rfl dX1_init_152 ?_
  refine lv_iload_n hx hb dX1_init_155 rfl (lv_at hl 1 rfl) ?_
  refine lv_iconst (v := 4) hx hb dX1_init_156 (by decide +kernel) ?_
  refine k_imul (v := 44) hx hb dX1_init_157 (by decide +kernel) ?_
  refine lv_iload_n hx hb dX1_init_158 rfl (lv_at hl 0 rfl) ?_
  refine k_iadd (v := 47) hx hb dX1_init_159 (by decide +kernel) ?_
  refine lv_iload_n hx hb dX1_init_160 rfl (lv_at hl 1 rfl) ?_
  refine lv_iconst (v := 1) hx hb dX1_init_161 (by decide +kernel) ?_
  refine k_iadd (v := 12) hx hb dX1_init_162 (by decide +kernel) ?_
  refine k_iast (k := 47) hx hb hK hP hD hS 3 rfl (by decide +kernel) (Nat.le_of_ble_eq_true rfl) dX1_init_163 (fun H locs hP hD hS => ?_)
  generalize hg65 : upd g64 47 12 = g65 at hP hD
  have hP : va_P D xG.1 [(h0, .inr (1, [.ref q1, .ref q2, .int 0, .int 0, .ref q3, .ref q4, .ref q5, .int 0, .int 0, .int (-1), .ref q6, .int 0, .ref q7, .int 4095, .ref q8, .ref q9, .ref q10, .int 0])), (q1, .inl (cA 0, 133, .inl g61)), (q2, .inl (cA 0, 3990, .inl (fun _ => 0))), (q3, .inl (cA 0, 48, .inl g65)), (q4, .inl (cA 0, 12, .inl (fun _ => 0))), (q5, .inl (cA 0, 8, .inl (fun _ => 0))), (q6, .inl (cA 0, 12, .inl (fun _ => 0))), (q7, .inl (cA 0, 4, .inl g4)), (q8, .inl (cA 0, 40, .inl (fun _ => 0))), (q9, .inl (cA 0, 8, .inl (fun _ => 0))), (q10, .inl (cA 0, 8, .inl (fun _ => 0)))] H := hP
  have hD : va_D A [(h0, .inr (1, [.ref q1, .ref q2, .int 0, .int 0, .ref q3, .ref q4, .ref q5, .int 0, .int 0, .int (-1), .ref q6, .int 0, .ref q7, .int 4095, .ref q8, .ref q9, .ref q10, .int 0])), (q1, .inl (cA 0, 133, .inl g61)), (q2, .inl (cA 0, 3990, .inl (fun _ => 0))), (q3, .inl (cA 0, 48, .inl g65)), (q4, .inl (cA 0, 12, .inl (fun _ => 0))), (q5, .inl (cA 0, 8, .inl (fun _ => 0))), (q6, .inl (cA 0, 12, .inl (fun _ => 0))), (q7, .inl (cA 0, 4, .inl g4)), (q8, .inl (cA 0, 40, .inl (fun _ => 0))), (q9, .inl (cA 0, 8, .inl (fun _ => 0))), (q10, .inl (cA 0, 8, .inl (fun _ => 0)))] := hD
  refine lv_iinc (v := 4) (lv' := [(2, .int 4), (1, .int 11), (0, .ref h0)]) hx hb dX1_init_164 hl (k := 0) rfl (by decide +kernel) (by decide) rfl (fun ls hl => ?_)
  refine lv_goto (tgt := 146) hx hb dX1_init_167 (by decide) ?_
  refine lv_iload_n hx hb dX1_init_146 rfl (lv_at hl 0 rfl) ?_
  refine lv_iconst (v := 4) hx hb dX1_init_147 (by decide +kernel) ?_
  refine lv_icmp_ge (tgt := 170) hx hb dX1_init_148 (by decide) (fun _ => ?_) (fun hc => absurd (by decide +kernel) hc)
  refine lv_iinc (v := 12) (lv' := [(1, .int 12), (2, .int 4), (0, .ref h0)]) hx hb dX1_init_170 hl (k := 1) rfl (by decide +kernel) (by decide) rfl (fun ls hl => ?_)
  refine lv_goto (tgt := 126) hx hb dX1_init_173 (by decide) ?_
  refine lv_iload_n hx hb dX1_init_126 rfl (lv_at hl 0 rfl) ?_
  refine lv_bipush (v := 12) hx hb dX1_init_127 (by decide +kernel) ?_
  refine lv_icmp_ge (tgt := 176) hx hb dX1_init_129 (by decide) (fun _ => ?_) (fun hc => absurd (by decide +kernel) hc)
  subst hg1 hg2 hg3 hg4 hg5 hg6 hg7 hg8 hg9 hg10 hg11 hg12 hg13 hg14 hg15 hg16 hg17 hg18 hg19 hg20 hg21 hg22 hg23 hg24 hg25 hg26 hg27 hg28 hg29 hg30 hg31 hg32 hg33 hg34 hg35 hg36 hg37 hg38 hg39 hg40 hg41 hg42 hg43 hg44 hg45 hg46 hg47 hg48 hg49 hg50 hg51 hg52 hg53 hg54 hg55 hg56 hg57 hg58 hg59 hg60 hg61 hg62 hg63 hg64 hg65
  have hP9 := hP.sub (ws' := [(h0, .inr (1, [.ref q1, .ref q2, .int 0, .int 0, .ref q3, .ref q4, .ref q5, .int 0, .int 0, .int (-1), .ref q6, .int 0, .ref q7, .int 4095, .ref q8, .ref q9, .ref q10, .int 0])), (q1, .inl (cA 0, 133, .inl (upd (upd (upd (upd (upd (upd (upd (upd (upd (upd (upd (upd (upd (fun _ => 0) 42 199) 16 1) 17 2) 18 3) 19 4) 20 5) 21 6) 22 7) 23 8) 24 9) 25 10) 26 11) 27 12))), (q2, .inl (cA 0, 3990, .inl (fun _ => 0))), (q3, .inl (cA 0, 48, .inl (upd (upd (upd (upd (upd (upd (upd (upd (upd (upd (upd (upd (upd (upd (upd (upd (upd (upd (upd (upd (upd (upd (upd (upd (upd (upd (upd (upd (upd (upd (upd (upd (upd (upd (upd (upd (upd (upd (upd (upd (upd (upd (upd (upd (upd (upd (upd (upd (fun _ => 0) 0 1) 1 1) 2 1) 3 1) 4 2) 5 2) 6 2) 7 2) 8 3) 9 3) 10 3) 11 3) 12 4) 13 4) 14 4) 15 4) 16 5) 17 5) 18 5) 19 5) 20 6) 21 6) 22 6) 23 6) 24 7) 25 7) 26 7) 27 7) 28 8) 29 8) 30 8) 31 8) 32 9) 33 9) 34 9) 35 9) 36 10) 37 10) 38 10) 39 10) 40 11) 41 11) 42 11) 43 11) 44 12) 45 12) 46 12) 47 12))), (q4, .inl (cA 0, 12, .inl (fun _ => 0))), (q5, .inl (cA 0, 8, .inl (fun _ => 0))), (q6, .inl (cA 0, 12, .inl (fun _ => 0))), (q7, .inl (cA 0, 4, .inl (upd (upd (upd (upd (fun _ => 0) 0 7) 1 1) 2 1) 3 1))), (q8, .inl (cA 0, 40, .inl (fun _ => 0))), (q9, .inl (cA 0, 8, .inl (fun _ => 0))), (q10, .inl (cA 0, 8, .inl (fun _ => 0)))]) [0, 1, 2, 3, 4, 5, 6, 7, 8, 9, 10] rfl
  have hD9 := hD.sub (ws' := [(h0, .inr (1, [.ref q1, .ref q2, .int 0, .int 0, .ref q3, .ref q4, .ref q5, .int 0, .int 0, .int (-1), .ref q6, .int 0, .ref q7, .int 4095, .ref q8, .ref q9, .ref q10, .int 0])), (q1, .inl (cA 0, 133, .inl (upd (upd (upd (upd (upd (upd (upd (upd (upd (upd (upd (upd (upd (fun _ => 0) 42 199) 16 1) 17 2) 18 3) 19 4) 20 5) 21 6) 22 7) 23 8) 24 9) 25 10) 26 11) 27 12))), (q2, .inl (cA 0, 3990, .inl (fun _ => 0))), (q3, .inl (cA 0, 48, .inl (upd (upd (upd (upd (upd (upd (upd (upd (upd (upd (upd (upd (upd (upd (upd (upd (upd (upd (upd (upd (upd (upd (upd (upd (upd (upd (upd (upd (upd (upd (upd (upd (upd (upd (upd (upd (upd (upd (upd (upd (upd (upd (upd (upd (upd (upd (upd (upd (fun _ => 0) 0 1) 1 1) 2 1) 3 1) 4 2) 5 2) 6 2) 7 2) 8 3) 9 3) 10 3) 11 3) 12 4) 13 4) 14 4) 15 4) 16 5) 17 5) 18 5) 19 5) 20 6) 21 6) 22 6) 23 6) 24 7) 25 7) 26 7) 27 7) 28 8) 29 8) 30 8) 31 8) 32 9) 33 9) 34 9) 35 9) 36 10) 37 10) 38 10) 39 10) 40 11) 41 11) 42 11) 43 11) 44 12) 45 12) 46 12) 47 12))), (q4, .inl (cA 0, 12, .inl (fun _ => 0))), (q5, .inl (cA 0, 8, .inl (fun _ => 0))), (q6, .inl (cA 0, 12, .inl (fun _ => 0))), (q7, .inl (cA 0, 4, .inl (upd (upd (upd (upd (fun _ => 0) 0 7) 1 1) 2 1) 3 1))), (q8, .inl (cA 0, 40, .inl (fun _ => 0))), (q9, .inl (cA 0, 8, .inl (fun _ => 0))), (q10, .inl (cA 0, 8, .inl (fun _ => 0)))]) [0, 1, 2, 3, 4, 5, 6, 7, 8, 9, 10] (by decide) rfl
  exact W.vret hx hb hr (fun t ht hW => ⟨⟨(), rfl, trivial, q1, q2, q3, q4, q5, q6, q7, q8, q9, q10, by rw [ht]; exact hP9, hD9⟩, hS.F ht⟩) hS.2.2 dX1_init_176
