set_option maxRecDepth 100000 in
set_option maxHeartbeats 40000000 in
/-- THE LAW, from its entry, given the 48 steps -/
theorem l_start {p : Program} {e : Env} {s : State} {m : MethodId} {below : List Frame} {meth : Method} {c : Code} {Q : State → Prop} (l : Launch) {b L : Nat} {xs : Nat → Int32} (hL : L ≤ 3072) {Rel : Nat → g_M → g_M → Prop} (hst : x_Steps Rel) (hr0 : Rel 0 x_M0 m_M0)
    (hx : p.tables.exec = Jvm.exec) (hb : c.code = code) (hml : c.maxLocals = 4) (hown : s.vm.findClass "FilmLooksBackLaw" = some m.cls) (hts : ∀ w ∈ lw_tbl, w.before #[Value.ref b] s = true) (hX : va_X b L xs s s.heap) (hbl : b < s.heap.size) (hgv : (Jvm.Cond.and given_1 narrow_1).before #[Value.ref b] s = true)
    (hfin : ∀ (ls : Array Slot) (H : Heap) (locs : List Loc), (∀ q ∈ locs, s.heap.size ≤ q.base) → W p l e room_1 s m #[Value.ref b] below meth c H locs 600000 7302250 Q (F0 m 1597 ls [.int 1])) :
    W p l e room_1 s m #[Value.ref b] below meth c s.heap [] 0 0 Q (entryFrame m ([Value.ref b] : List Value).toArray 4) := by
  have hG : ∀ w ∈ GT, w.before #[Value.ref b] s = true := fun w hw => hts w (List.mem_filter.mp hw).1
  obtain ⟨cx0, ix0, hkx0⟩ := u_known (C := RX0) (T := TX0) (N := 9) (n := 9) hG xin_0 (hG _ gw_363)
  obtain ⟨cx1, ix1, hkx1⟩ := u_known (C := RX1) (T := TX1) (N := 18) (n := 18) hG xin_1 (hG _ gw_139)
  obtain ⟨cx2, ix2, hkx2⟩ := u_known (C := RX2) (T := TX2) (N := 5) (n := 5) hG xin_2 (hG _ gw_341)
  obtain ⟨cx3, ix3, hkx3⟩ := u_known (C := RX3) (T := TX3) (N := 5) (n := 5) hG xin_3 (hG _ gw_316)
  obtain ⟨cx4, ix4, hkx4⟩ := u_known (C := RX4) (T := TX4) (N := 10) (n := 10) hG xin_4 (hG _ gw_235)
  obtain ⟨cx5, ix5, hkx5⟩ := u_known (C := RX5) (T := TX5) (N := 5) (n := 5) hG xin_5 (hG _ gw_409)
  obtain ⟨cx6, ix6, hkx6⟩ := u_known (C := RX6) (T := TX6) (N := 1) (n := 1) hG xin_6 (hG _ gw_399)
  obtain ⟨cx7, ix7, hkx7⟩ := u_known (C := RX7) (T := TX7) (N := 8) (n := 8) hG xin_7 (hG _ gw_241)
  obtain ⟨cx8, ix8, hkx8⟩ := u_known (C := RX8) (T := TX8) (N := 8) (n := 8) hG xin_8 (hG _ gw_131)
  obtain ⟨cm0, im0, hkm0⟩ := u_known (C := RX9) (T := TX9) (N := 36) (n := 36) hG min_0 (hG _ gw_1248)
  obtain ⟨Dx, hKx⟩ : ∃ D : va_G, ∀ (k : Nat) (q : vw_C), xG.1[k]? = some q → u_Kn s q.1 q.2.1 q.2.2 (D.1 k) (D.2 k) := by
    refine ⟨(fun k => if k = 0 then cx0 else if k = 1 then cx1 else if k = 2 then cx2 else if k = 3 then cx3 else if k = 4 then cx4 else if k = 5 then cx5 else if k = 6 then cx6 else if k = 7 then cx7 else cx8, fun k => if k = 0 then ix0 else if k = 1 then ix1 else if k = 2 then ix2 else if k = 3 then ix3 else if k = 4 then ix4 else if k = 5 then ix5 else if k = 6 then ix6 else if k = 7 then ix7 else ix8), ?_⟩
    intro k q hq
    match k, hq with
    | 0, hq => cases hq; exact hkx0
    | 1, hq => cases hq; exact hkx1
    | 2, hq => cases hq; exact hkx2
    | 3, hq => cases hq; exact hkx3
    | 4, hq => cases hq; exact hkx4
    | 5, hq => cases hq; exact hkx5
    | 6, hq => cases hq; exact hkx6
    | 7, hq => cases hq; exact hkx7
    | 8, hq => cases hq; exact hkx8
    | k + 9, hq => exact absurd hq (by simp [xG, x_cl])
  obtain ⟨Dm, hKm⟩ : ∃ D : va_G, ∀ (k : Nat) (q : vw_C), mG.1[k]? = some q → u_Kn s q.1 q.2.1 q.2.2 (D.1 k) (D.2 k) := by
    refine ⟨(fun k => cm0, fun k => im0), ?_⟩
    intro k q hq
    match k, hq with
    | 0, hq => cases hq; exact hkm0
    | k + 1, hq => exact absurd hq (by simp [mG, m_cl])
  obtain ⟨a0, ha0, hb0⟩ := s_arr (hG _ gw_233)
  obtain ⟨a1, ha1, hb1⟩ := s_arr (hG _ gw_397)
  obtain ⟨a2, ha2, hb2⟩ := s_arr (hG _ gw_1365)
  have hAOw : (Cond.arrayOver (.object "FilmLooksBack$Text")).before #[Value.ref b] s = true := hts _ (List.mem_of_getElem? (i := 322) (by decide +kernel))
  obtain ⟨a3, ha3, hb3⟩ := s_arrO hAOw
  obtain ⟨cA, e0, e1, e2, e3⟩ : ∃ cA : Nat → ClassId, cA 0 = a0 ∧ cA 1 = a1 ∧ cA 2 = a2 ∧ cA 3 = a3 := ⟨fun k => if k = 0 then a0 else if k = 1 then a1 else if k = 2 then a2 else a3, rfl, rfl, rfl, rfl⟩
  have hTy : ∀ (ad : Nat → Nat) (D : va_G) (k : Nat) (q : ClassId × FieldType), (g_tys (D, cA, ad))[k]? = some q → ArrOfT s q.1 q.2 ∧ va_RA s q.1 q.2 := by
    intro ad D k q hq
    match k, hq with
    | 0, hq => cases hq; show ArrOfT s (cA 0) .int ∧ va_RA s (cA 0) .int; rw [e0]; exact ⟨ha0, hb0⟩
    | 1, hq => cases hq; show ArrOfT s (cA 1) .long ∧ va_RA s (cA 1) .long; rw [e1]; exact ⟨ha1, hb1⟩
    | 2, hq => cases hq; show ArrOfT s (cA 2) .boolean ∧ va_RA s (cA 2) .boolean; rw [e2]; exact ⟨ha2, hb2⟩
    | 3, hq => cases hq; show ArrOfT s (cA 3) (.object "FilmLooksBack$Text") ∧ va_RA s (cA 3) (.object "FilmLooksBack$Text"); rw [e3]; exact ⟨ha3, hb3⟩
    | k + 4, hq => exact absurd hq (by simp [g_tys])
  have hN : ∀ w ∈ k_nests, va_Nw w s := by
    have hm : ∀ w ∈ k_nests, w ∈ lw_tbl := by decide +kernel
    exact fun w hw => va_Nw.of (A := #[Value.ref b]) (k_nestI w hw) (hts w (hm w hw))
  have hO : va_AO "FilmLooksBack$Text" s := va_AO.of hAOw
  have hA : ∀ q : Nat, s.heap.size ≤ q → (fun q : Nat => s.heap.size ≤ q) q := fun _ h => h
  have hK : va_K Dx xG.1 (g_tys (Dx, cA, fun _ => 0)) s := ⟨hKx, hTy _ _⟩
  have hS : va_S (fun q : Nat => s.heap.size ≤ q) s.heap s.heap [] := va_S.rf
  have hP : va_P Dx xG.1 [] s.heap := fun k q h => by simp at h
  have hD : va_D (fun q : Nat => s.heap.size ≤ q) [] := ⟨fun i j p q h => by simp at h, fun k q h => by simp at h⟩
  have hl := lv_entry ([.ref b]) (n := 4) (Nat.le_of_ble_eq_true rfl)
  rw [lg_entry_eq]
  generalize (lg_sl ([.ref b]) ++ List.replicate (4 - (lg_sl ([.ref b])).length) Slot.unset).toArray = ls at hl ⊢
  have hl : lv_has ls 4 [(0, .ref b)] := hl
  refine va_new (ci := 8) (fs := [.null, .null, .null, .null, .null, .null, .null, .null]) (C := RX8) (T := TX8) (N := 8) hx hb hG xin_8 tyX8 tyX8_ok hown (hG (.classLink "FilmLooksBackLaw" 7 RX8) gw_130) (hG _ gw_131) (hG _ gw_112) hK hP hD hS hA rfl (fun j hj => by rcases (show j = 0 ∨ j = 1 ∨ j = 2 ∨ j = 3 ∨ j = 4 ∨ j = 5 ∨ j = 6 ∨ j = 7 by omega) with rfl | rfl | rfl | rfl | rfl | rfl | rfl | rfl <;> rfl) (Nat.le_of_ble_eq_true rfl) (Nat.le_of_ble_eq_true rfl) dl_0 (fun q0v H hP hD hS => ?_)
  have hP : va_P Dx xG.1 [(q0v, .inr (8, [.null, .null, .null, .null, .null, .null, .null, .null]))] H := hP
  have hD : va_D (fun q : Nat => s.heap.size ≤ q) [(q0v, .inr (8, [.null, .null, .null, .null, .null, .null, .null, .null]))] := hD
  refine W.widen (k := 1) (n := 8) (Nat.le_of_ble_eq_true rfl) (Nat.le_of_ble_eq_true rfl) ?_
  refine lv_dup hx hb dl_3 rfl ?_
  have hFc := va_free (wc := [(q0v, .inr (8, [.null, .null, .null, .null, .null, .null, .null, .null]))]) hD hS hA [0] rfl
  refine va_callv (va_runI (As := []) (rest := [.ref q0v]) ⟨hx, hb, hml, hown, hG⟩ (k_X8_init l Dx cA q0v H.size) (cwI 0 hG (g_good cal_X8_init.2.1) rfl rfl rfl (hG _ cal_X8_init.2.2.1) (hG _ gw_132) (hG _ gw_133) rfl cal_X8_init.1 ⟨Nat.le_of_ble_eq_true rfl, Nat.le_of_ble_eq_true rfl⟩) ⟨fun a U g mk q => ⟨q.1, q.2.1, q.2.2.1, va_K.moved (u := U) (U := U.calling g mk a) (Vm.Alike.refl U.vm) q.2.2.2.1, q.2.2.2.2.1, fun w hw => va_Nw.same (u := U) (U := U.calling g mk a) (k_nestI w hw) rfl (q.2.2.2.2.2.1 w hw), k_AO_same (u := U) (U := U.calling g mk a) rfl q.2.2.2.2.2.2⟩, fun U hU hW => ⟨rfl, by rw [hU], by rw [hU]; exact hP, va_K.moved hW.alike hK, hD.weaken (fun _ _ _ _ => trivial), fun w hw => k_nest_warm w hw hW (hN w hw), k_AO_warm hW hO⟩⟩ rfl rfl hl.1 rfl (lv_room (Nat.le_of_ble_eq_true rfl)) dl_4 ⟨Nat.le_of_ble_eq_true rfl, Nat.le_of_ble_eq_true rfl⟩) hS (fun q _ h => hFc q h) hFc (fun u t H1 locs ht hvm hw hB hz1 hk1 hS => ?_)
  obtain ⟨q1, q2, q3, q4, q5, q6, q7, q8, q9, q10, q11, q12, q13, q14, q15, q16, q17, q18, q19, q20, q21, q22, q23, q24, q25, q26, q27, q28, q29, q30, q31, q32, q33, q34, q35, q36, q37, q38, q39, q40, q41, q42, q43, q44, q45, q46, q47, q48, q49, q50, q51, q52, q53, q54, q55, q56, q57, q58, q59, q60, q61, q62, q63, q64, q65, q66, q67, q68, q69, q70, q71, q72, q73, q74, q75, q76, q77, q78, q79, q80, q81, hP1, hD1⟩ := hB
  rw [ht] at hP1
  obtain ⟨hPw, hDw⟩ := x_W1 Dx cA q0v q1 q2 q3 q4 q5 q6 q7 q8 q9 q10 q11 q12 q13 q14 q15 q16 q17 q18 q19 q20 q21 q22 q23 q30 q24 q25 q26 q27 q28 q29 q31 q32 q39 q40 q33 q34 q35 q36 q37 q38 q41 q42 q43 q44 q45 q46 q47 q48 q49 q50 q51 q52 q53 q54 q55 q56 q57 q58 q59 q60 q61 q62 q63 q64 q65 q66 q67 q68 q69 q70 q71 q72 q73 q74 q75 q76 q77 q78 q79 q80 q81 hP1 (hD1.weaken (B := fun q : Nat => s.heap.size ≤ q) (fun k q _ h => hFc q.1 h))
  clear hP1 hD1
  clear hP hD hFc hk1
  have hVx0 : (([q0v, q1, q2, q3, q4, q5, q6, q7, q8, q9, q10, q11, q12, q13, q14, q15, q16, q17, q18, q19, q20, q21, q22, q23, q30, q24, q25, q26, q27, q28, q29, q31, q32, q39, q40, q33, q34, q35, q36, q37, q38, q41, q42, q43, q44, q45, q46, q47, q48, q49, q50, q51, q52, q53, q54, q55, q56, q57, q58, q59, q60, q61, q62, q63, q64, q65, q66, q67, q68, q69, q70, q71, q72, q73, q74, q75, q76, q77, q78, q79, q80, q81] : List Nat).getD 0 0) = q0v := rfl
  generalize hAd : (fun k => ([q0v, q1, q2, q3, q4, q5, q6, q7, q8, q9, q10, q11, q12, q13, q14, q15, q16, q17, q18, q19, q20, q21, q22, q23, q30, q24, q25, q26, q27, q28, q29, q31, q32, q39, q40, q33, q34, q35, q36, q37, q38, q41, q42, q43, q44, q45, q46, q47, q48, q49, q50, q51, q52, q53, q54, q55, q56, q57, q58, q59, q60, q61, q62, q63, q64, q65, q66, q67, q68, q69, q70, q71, q72, q73, q74, q75, q76, q77, q78, q79, q80, q81] : List Nat).getD k 0) = adx at hPw hDw
  have hq0 : q0v = adx 0 := by rw [← hAd]; rfl
  subst hq0
  clear hAd hVx0
  refine W.widen (k := 82) (n := 12001) (Nat.le_of_ble_eq_true rfl) (Nat.le_of_ble_eq_true rfl) ?_
  refine lv_astore_n (lv' := [(1, .ref (adx 0)), (0, .ref b)]) hx hb dl_7 rfl hl (by decide) rfl (fun ls hl => ?_)
  refine va_forget hS.2.2 ?_
  have hA2 : ∀ q : Nat, H1.size ≤ q → (fun q : Nat => H1.size ≤ q) q := fun _ h => h
  have hS2 : va_S (fun q : Nat => H1.size ≤ q) H1 H1 [] := va_S.rf
  have hP2 : va_P Dm mG.1 [] H1 := fun k q h => by simp at h
  have hD2 : va_D (fun q : Nat => H1.size ≤ q) [] := ⟨fun i j p q h => by simp at h, fun k q h => by simp at h⟩
  have hK2 : va_K Dm mG.1 (g_tys (Dm, cA, fun _ => 0)) s := ⟨hKm, hTy _ _⟩
  refine va_new (ci := 0) (fs := [.null, .null, .null, .null, .int 0, .int 0, .int 0, .int 0, .int 0, .int 0, .int 0, .long 0, .int 0, .int 0, .int 0, .null, .int 0, .int 0, .int 0, .int 0, .null, .null, .null, .int 0, .int 0, .int 0, .int 0, .null, .null, .null, .null, .null, .null, .null, .null, .null]) (C := RX9) (T := TX9) (N := 36) hx hb hG min_0 tyX9 tyX9_ok hown (hG (.classLink "FilmLooksBackLaw" 10 RX9) gw_1247) (hG _ gw_1248) (hG _ gw_121) hK2 hP2 hD2 hS2 hA2 rfl (fun j hj => by rcases (show j = 0 ∨ j = 1 ∨ j = 2 ∨ j = 3 ∨ j = 4 ∨ j = 5 ∨ j = 6 ∨ j = 7 ∨ j = 8 ∨ j = 9 ∨ j = 10 ∨ j = 11 ∨ j = 12 ∨ j = 13 ∨ j = 14 ∨ j = 15 ∨ j = 16 ∨ j = 17 ∨ j = 18 ∨ j = 19 ∨ j = 20 ∨ j = 21 ∨ j = 22 ∨ j = 23 ∨ j = 24 ∨ j = 25 ∨ j = 26 ∨ j = 27 ∨ j = 28 ∨ j = 29 ∨ j = 30 ∨ j = 31 ∨ j = 32 ∨ j = 33 ∨ j = 34 ∨ j = 35 by omega) with rfl | rfl | rfl | rfl | rfl | rfl | rfl | rfl | rfl | rfl | rfl | rfl | rfl | rfl | rfl | rfl | rfl | rfl | rfl | rfl | rfl | rfl | rfl | rfl | rfl | rfl | rfl | rfl | rfl | rfl | rfl | rfl | rfl | rfl | rfl | rfl <;> rfl) (Nat.le_of_ble_eq_true rfl) (Nat.le_of_ble_eq_true rfl) dl_8 (fun r0 H2 hP2 hD2 hS2 => ?_)
  have hP2 : va_P Dm mG.1 [(r0, .inr (0, [.null, .null, .null, .null, .int 0, .int 0, .int 0, .int 0, .int 0, .int 0, .int 0, .long 0, .int 0, .int 0, .int 0, .null, .int 0, .int 0, .int 0, .int 0, .null, .null, .null, .int 0, .int 0, .int 0, .int 0, .null, .null, .null, .null, .null, .null, .null, .null, .null]))] H2 := hP2
  have hD2 : va_D (fun q : Nat => H1.size ≤ q) [(r0, .inr (0, [.null, .null, .null, .null, .int 0, .int 0, .int 0, .int 0, .int 0, .int 0, .int 0, .long 0, .int 0, .int 0, .int 0, .null, .int 0, .int 0, .int 0, .int 0, .null, .null, .null, .int 0, .int 0, .int 0, .int 0, .null, .null, .null, .null, .null, .null, .null, .null, .null]))] := hD2
  refine W.widen (k := 83) (n := 12037) (Nat.le_of_ble_eq_true rfl) (Nat.le_of_ble_eq_true rfl) ?_
  refine lv_dup hx hb dl_11 rfl ?_
  have hFc := va_free (wc := [(r0, .inr (0, [.null, .null, .null, .null, .int 0, .int 0, .int 0, .int 0, .int 0, .int 0, .int 0, .long 0, .int 0, .int 0, .int 0, .null, .int 0, .int 0, .int 0, .int 0, .null, .null, .null, .int 0, .int 0, .int 0, .int 0, .null, .null, .null, .null, .null, .null, .null, .null, .null]))]) hD2 hS2 hA2 [0] rfl
  refine va_callv (va_runI (As := []) (rest := [.ref r0]) ⟨hx, hb, hml, hown, hG⟩ (k_X9_init l Dm cA r0 H2.size) (cwI 0 hG (g_good cal_X9_init.2.1) rfl rfl rfl (hG _ cal_X9_init.2.2.1) (hG _ gw_1249) (hG _ gw_1250) rfl cal_X9_init.1 ⟨Nat.le_of_ble_eq_true rfl, Nat.le_of_ble_eq_true rfl⟩) ⟨fun a U g mk q => ⟨q.1, q.2.1, q.2.2.1, va_K.moved (u := U) (U := U.calling g mk a) (Vm.Alike.refl U.vm) q.2.2.2.1, q.2.2.2.2.1, fun w hw => va_Nw.same (u := U) (U := U.calling g mk a) (k_nestI w hw) rfl (q.2.2.2.2.2.1 w hw), k_AO_same (u := U) (U := U.calling g mk a) rfl q.2.2.2.2.2.2⟩, fun U hU hW => ⟨rfl, by rw [hU], by rw [hU]; exact hP2, va_K.moved hW.alike hK2, hD2.weaken (fun _ _ _ _ => trivial), fun w hw => k_nest_warm w hw hW (hN w hw), k_AO_warm hW hO⟩⟩ rfl rfl hl.1 rfl (lv_room (Nat.le_of_ble_eq_true rfl)) dl_12 ⟨Nat.le_of_ble_eq_true rfl, Nat.le_of_ble_eq_true rfl⟩) hS2 (fun q _ h => hFc q h) hFc (fun u t2 H3 locs2 ht2 hvm2 hw2 hB hz2 hk2 hS2 => ?_)
  obtain ⟨r1, r2, r3, r4, r5, r6, r7, r8, r9, r10, r11, r12, r13, r14, r15, r16, r17, hP3, hD3⟩ := hB
  rw [ht2] at hP3
  have hD4 := hD3.weaken (B := fun q : Nat => H1.size ≤ q) (fun k q _ h => hFc q.1 h)
  generalize hAd : (fun k => ([r0, r1, r2, r3, r4, r5, r6, r7, r8, r9, r10, r11, r12, r13, r14, r15, r16, r17] : List Nat).getD k 0) = adm at hP3 hD4
  have hr0' : r0 = adm 0 := by rw [← hAd]; rfl
  subst hr0'
  clear hAd
  refine W.widen (k := 600000) (n := 7302250) (Nat.le_of_ble_eq_true rfl) (Nat.le_of_ble_eq_true rfl) ?_
  refine lv_astore_n (lv' := [(2, .ref (adm 0)), (1, .ref (adx 0)), (0, .ref b)]) hx hb dl_15 rfl hl (by decide) rfl (fun ls hl => ?_)
  refine lv_iconst (v := gI ((0 : Nat) : Int)) hx hb dl_16 (by decide +kernel) ?_
  refine lv_istore_n (lv' := [(3, .int (gI ((0 : Nat) : Int))), (2, .ref (adm 0)), (1, .ref (adx 0)), (0, .ref b)]) hx hb dl_17 rfl hl (by decide) rfl (fun ls hl => ?_)
  have hix : g_inj xG (Dx, cA, adx) := g_inj_of (V := (Dx, cA, adx)) hDw
  have him : g_inj mG (Dm, cA, adm) := g_inj_of (V := (Dm, cA, adm)) hD4
  have hnx : ∀ i, i < 82 → s.heap.size ≤ adx i := fun i hi => hDw.2 i _ (g_W_get (G := xG) (V := (Dx, cA, adx)) hi rfl)
  have hnm : ∀ i, i < 18 → H1.size ≤ adm i := fun i hi => hD4.2 i _ (g_W_get (G := mG) (V := (Dm, cA, adm)) hi rfl)
  have hlx : ∀ i, i < 82 → adx i < H1.size := fun i hi => g_lt (G := xG) (V := (Dx, cA, adx)) hPw hi
  have hz : s.heap.size ≤ H1.size := hS.1
  have hPx : va_P Dx xG.1 (g_W xG (Dx, cA, adx) x_M0) H3 := g_keep (G := xG) (V := (Dx, cA, adx)) hPw (fun i hi => hS2.2.1 _ (hlx i hi) (Nat.not_le.mpr (hlx i hi)))
  have hE : x_Ex (g_A xG (Dx, cA, adx)) s s.heap := s_Ex hts hgv (fun a ha z => by obtain ⟨i, hi, rfl⟩ := z; exact absurd (hnx i hi) (Nat.not_le.mpr ha))
  have C : l_CX (Dx, cA, adx) (Dm, cA, adm) p s m meth c b L xs := ⟨hx, hb, hml, hown, hG, hX, hbl, hL, ⟨hKx, hTy _ _⟩, ⟨hKm, hTy _ _⟩, hE, ⟨hix, x_Ex_ok⟩, ⟨him, m_Ex_ok⟩, hnx, fun i hi => Nat.le_trans hz (hnm i hi), fun i j hi hj h => by have h1 := hlx i hi; have h2 := hnm j hj; have h3 : adx i = adm j := h; omega⟩
  have hSS : va_S (fun q : Nat => s.heap.size ≤ q) s.heap H3 locs2 := ⟨Nat.le_trans hz hS2.1, fun q h1 h2 => (hS2.2.1 q (Nat.lt_of_lt_of_le h1 hz) (Nat.not_le.mpr (Nat.lt_of_lt_of_le h1 hz))).trans (hS.2.1 q h1 h2), fun q hq => Nat.le_trans hz (hS2.2.2 q hq)⟩
  refine l_loop C ⟨Nat.le_refl _, Nat.le_refl _⟩ hst ?_ (L + 1) 0 0 x_M0 m_M0 ls H3 locs2 (by omega) rfl (by omega) hr0 ⟨hPx, hP3, hSS⟩ (lv_sub hl [0, 3, 2, 1] rfl)
  intro Mx Mm ls H locs hp
  refine lv_iconst (v := 1) hx hb dl_1596 (by decide) ?_
  exact hfin ls H locs hp.2.2.2.2
