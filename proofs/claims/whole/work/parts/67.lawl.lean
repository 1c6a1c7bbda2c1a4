theorem l_ofN {n : Nat} (h : n < 2147483648) : Int32.ofNat n = gI (n : Int) := Int32.toInt_inj.mp (by
  show (nI n).toInt = gs (n : Int)
  rw [nI_toInt h]
  exact (gs_id (by omega) (by omega)).symm)
section
variable {p : Program} {l : Launch} {e : Env} {s : State} {m : MethodId} {below : List Frame} {meth : Method} {c : Code} {Q : State → Prop} {Vx Vm : g_V} {b L : Nat} {xs : Nat → Int32} {cells slots : Nat}
set_option maxRecDepth 100000 in
set_option maxHeartbeats 4000000 in
/-- the body of the law's loop -/
theorem l_body (C : l_CX Vx Vm p s m meth c b L xs) (hcs : cells ≤ 600000 ∧ slots ≤ 7302250) {Rel : Nat → g_M → g_M → Prop} (hst : x_Steps Rel) {ls : Array Slot} {H : Heap} {locs : List Loc} {Mx Mm : g_M} {i n : Nat} (hi : i + 6 ≤ L) (hn : n < 512) (hr : Rel n Mx Mm) (hp : l_PT Vx Vm Mx Mm s H locs) (hl : lv_has ls 4 [(3, .int (gI (i : Int))), (0, .ref b), (1, .ref (Vx.2.2 0)), (2, .ref (Vm.2.2 0))]) (kk : ∀ (Mx' Mm' : g_M) (H : Heap) (locs : List Loc), l_PT Vx Vm Mx' Mm' s H locs → Rel (n + 1) Mx' Mm' → W p l e room_1 s m #[Value.ref b] below meth c H locs cells slots Q (F0 m 1590 ls [])) : W p l e room_1 s m #[Value.ref b] below meth c H locs cells slots Q (F0 m 27 ls []) := by
  obtain ⟨hmono, h0, h1, h2, h3, h4, h5, h6, h7, h8, h9, h10, h11, h12, h13, h14, h15, h16, h17, h18, h19, h20, h21, h22, h23, h24, h25, h26, h27, h28, h29, h30, h31, h32, h33, h34, h35, h36, h37, h38, h39, h40, h41, h42, h43, h44, h45, h46, h47⟩ := hst
  refine lv_aload_n C.1 C.2.1 dl_27 rfl (lv_at hl 1 rfl) ?_
  refine lv_iload_n C.1 C.2.1 dl_28 rfl (lv_at hl 0 rfl) ?_
  refine rl_sld C hp (i := i) (k := 0) (by omega) (by omega) dl_29 ?_
  refine rl_bipush C dl_30 (by decide +kernel) ?_
  refine rl_iand C dl_32 ?_
  generalize g_and (xs (i + 0)).toInt 63 = z
  by_cases hv0 : gs z = 0
  · refine rl_tswIn (tgt := 240) (v := 0) C hv0 dl_33 rfl rfl (by decide) ?_
    exact l_case_0 C hcs h0 hi hn hr hp hl kk
  by_cases hv1 : gs z = 1
  · refine rl_tswIn (tgt := 283) (v := 1) C hv1 dl_33 rfl rfl (by decide) ?_
    exact l_case_1 C hcs h1 hi hn hr hp hl kk
  by_cases hv2 : gs z = 2
  · refine rl_tswIn (tgt := 316) (v := 2) C hv2 dl_33 rfl rfl (by decide) ?_
    exact l_case_2 C hcs h2 hi hn hr hp hl kk
  by_cases hv3 : gs z = 3
  · refine rl_tswIn (tgt := 349) (v := 3) C hv3 dl_33 rfl rfl (by decide) ?_
    exact l_case_3 C hcs h3 hi hn hr hp hl kk
  by_cases hv4 : gs z = 4
  · refine rl_tswIn (tgt := 412) (v := 4) C hv4 dl_33 rfl rfl (by decide) ?_
    exact l_case_4 C hcs h4 hi hn hr hp hl kk
  by_cases hv5 : gs z = 5
  · refine rl_tswIn (tgt := 435) (v := 5) C hv5 dl_33 rfl rfl (by decide) ?_
    exact l_case_5 C hcs h5 hi hn hr hp hl kk
  by_cases hv6 : gs z = 6
  · refine rl_tswIn (tgt := 448) (v := 6) C hv6 dl_33 rfl rfl (by decide) ?_
    exact l_case_6 C hcs h6 hi hn hr hp hl kk
  by_cases hv7 : gs z = 7
  · refine rl_tswIn (tgt := 471) (v := 7) C hv7 dl_33 rfl rfl (by decide) ?_
    exact l_case_7 C hcs h7 hi hn hr hp hl kk
  by_cases hv8 : gs z = 8
  · refine rl_tswIn (tgt := 494) (v := 8) C hv8 dl_33 rfl rfl (by decide) ?_
    exact l_case_8 C hcs h8 hi hn hr hp hl kk
  by_cases hv9 : gs z = 9
  · refine rl_tswIn (tgt := 527) (v := 9) C hv9 dl_33 rfl rfl (by decide) ?_
    exact l_case_9 C hcs h9 hi hn hr hp hl kk
  by_cases hv10 : gs z = 10
  · refine rl_tswIn (tgt := 560) (v := 10) C hv10 dl_33 rfl rfl (by decide) ?_
    exact l_case_10 C hcs h10 hi hn hr hp hl kk
  by_cases hv11 : gs z = 11
  · refine rl_tswIn (tgt := 583) (v := 11) C hv11 dl_33 rfl rfl (by decide) ?_
    exact l_case_11 C hcs h11 hi hn hr hp hl kk
  by_cases hv12 : gs z = 12
  · refine rl_tswIn (tgt := 606) (v := 12) C hv12 dl_33 rfl rfl (by decide) ?_
    exact l_case_12 C hcs h12 hi hn hr hp hl kk
  by_cases hv13 : gs z = 13
  · refine rl_tswIn (tgt := 629) (v := 13) C hv13 dl_33 rfl rfl (by decide) ?_
    exact l_case_13 C hcs h13 hi hn hr hp hl kk
  by_cases hv14 : gs z = 14
  · refine rl_tswIn (tgt := 662) (v := 14) C hv14 dl_33 rfl rfl (by decide) ?_
    exact l_case_14 C hcs h14 hi hn hr hp hl kk
  by_cases hv15 : gs z = 15
  · refine rl_tswIn (tgt := 675) (v := 15) C hv15 dl_33 rfl rfl (by decide) ?_
    exact l_case_15 C hcs h15 hi hn hr hp hl kk
  by_cases hv16 : gs z = 16
  · refine rl_tswIn (tgt := 708) (v := 16) C hv16 dl_33 rfl rfl (by decide) ?_
    exact l_case_16 C hcs h16 hi hn hr hp hl kk
  by_cases hv17 : gs z = 17
  · refine rl_tswIn (tgt := 741) (v := 17) C hv17 dl_33 rfl rfl (by decide) ?_
    exact l_case_17 C hcs h17 hi hn hr hp hl kk
  by_cases hv18 : gs z = 18
  · refine rl_tswIn (tgt := 764) (v := 18) C hv18 dl_33 rfl rfl (by decide) ?_
    exact l_case_18 C hcs h18 hi hn hr hp hl kk
  by_cases hv19 : gs z = 19
  · refine rl_tswIn (tgt := 797) (v := 19) C hv19 dl_33 rfl rfl (by decide) ?_
    exact l_case_19 C hcs h19 hi hn hr hp hl kk
  by_cases hv20 : gs z = 20
  · refine rl_tswIn (tgt := 830) (v := 20) C hv20 dl_33 rfl rfl (by decide) ?_
    exact l_case_20 C hcs h20 hi hn hr hp hl kk
  by_cases hv21 : gs z = 21
  · refine rl_tswIn (tgt := 853) (v := 21) C hv21 dl_33 rfl rfl (by decide) ?_
    exact l_case_21 C hcs h21 hi hn hr hp hl kk
  by_cases hv22 : gs z = 22
  · refine rl_tswIn (tgt := 886) (v := 22) C hv22 dl_33 rfl rfl (by decide) ?_
    exact l_case_22 C hcs h22 hi hn hr hp hl kk
  by_cases hv23 : gs z = 23
  · refine rl_tswIn (tgt := 929) (v := 23) C hv23 dl_33 rfl rfl (by decide) ?_
    exact l_case_23 C hcs h23 hi hn hr hp hl kk
  by_cases hv24 : gs z = 24
  · refine rl_tswIn (tgt := 978) (v := 24) C hv24 dl_33 rfl rfl (by decide) ?_
    exact l_case_24 C hcs h24 hi hn hr hp hl kk
  by_cases hv25 : gs z = 25
  · refine rl_tswIn (tgt := 1027) (v := 25) C hv25 dl_33 rfl rfl (by decide) ?_
    exact l_case_25 C hcs h25 hi hn hr hp hl kk
  by_cases hv26 : gs z = 26
  · refine rl_tswIn (tgt := 1087) (v := 26) C hv26 dl_33 rfl rfl (by decide) ?_
    exact l_case_26 C hcs h26 hi hn hr hp hl kk
  by_cases hv27 : gs z = 27
  · refine rl_tswIn (tgt := 1140) (v := 27) C hv27 dl_33 rfl rfl (by decide) ?_
    exact l_case_27 C hcs h27 hi hn hr hp hl kk
  by_cases hv28 : gs z = 28
  · refine rl_tswIn (tgt := 1163) (v := 28) C hv28 dl_33 rfl rfl (by decide) ?_
    exact l_case_28 C hcs h28 hi hn hr hp hl kk
  by_cases hv29 : gs z = 29
  · refine rl_tswIn (tgt := 1196) (v := 29) C hv29 dl_33 rfl rfl (by decide) ?_
    exact l_case_29 C hcs h29 hi hn hr hp hl kk
  by_cases hv30 : gs z = 30
  · refine rl_tswIn (tgt := 1219) (v := 30) C hv30 dl_33 rfl rfl (by decide) ?_
    exact l_case_30 C hcs h30 hi hn hr hp hl kk
  by_cases hv31 : gs z = 31
  · refine rl_tswIn (tgt := 1232) (v := 31) C hv31 dl_33 rfl rfl (by decide) ?_
    exact l_case_31 C hcs h31 hi hn hr hp hl kk
  by_cases hv32 : gs z = 32
  · refine rl_tswIn (tgt := 1245) (v := 32) C hv32 dl_33 rfl rfl (by decide) ?_
    exact l_case_32 C hcs h32 hi hn hr hp hl kk
  by_cases hv33 : gs z = 33
  · refine rl_tswIn (tgt := 1268) (v := 33) C hv33 dl_33 rfl rfl (by decide) ?_
    exact l_case_33 C hcs h33 hi hn hr hp hl kk
  by_cases hv34 : gs z = 34
  · refine rl_tswIn (tgt := 1281) (v := 34) C hv34 dl_33 rfl rfl (by decide) ?_
    exact l_case_34 C hcs h34 hi hn hr hp hl kk
  by_cases hv35 : gs z = 35
  · refine rl_tswIn (tgt := 1294) (v := 35) C hv35 dl_33 rfl rfl (by decide) ?_
    exact l_case_35 C hcs h35 hi hn hr hp hl kk
  by_cases hv36 : gs z = 36
  · refine rl_tswIn (tgt := 1328) (v := 36) C hv36 dl_33 rfl rfl (by decide) ?_
    exact l_case_36 C hcs h36 hi hn hr hp hl kk
  by_cases hv37 : gs z = 37
  · refine rl_tswIn (tgt := 1371) (v := 37) C hv37 dl_33 rfl rfl (by decide) ?_
    exact l_case_37 C hcs h37 hi hn hr hp hl kk
  by_cases hv38 : gs z = 38
  · refine rl_tswIn (tgt := 1404) (v := 38) C hv38 dl_33 rfl rfl (by decide) ?_
    exact l_case_38 C hcs h38 hi hn hr hp hl kk
  by_cases hv39 : gs z = 39
  · refine rl_tswIn (tgt := 1437) (v := 39) C hv39 dl_33 rfl rfl (by decide) ?_
    exact l_case_39 C hcs h39 hi hn hr hp hl kk
  by_cases hv40 : gs z = 40
  · refine rl_tswIn (tgt := 1450) (v := 40) C hv40 dl_33 rfl rfl (by decide) ?_
    exact l_case_40 C hcs h40 hi hn hr hp hl kk
  by_cases hv41 : gs z = 41
  · refine rl_tswIn (tgt := 1463) (v := 41) C hv41 dl_33 rfl rfl (by decide) ?_
    exact l_case_41 C hcs h41 hi hn hr hp hl kk
  by_cases hv42 : gs z = 42
  · refine rl_tswIn (tgt := 1476) (v := 42) C hv42 dl_33 rfl rfl (by decide) ?_
    exact l_case_42 C hcs h42 hi hn hr hp hl kk
  by_cases hv43 : gs z = 43
  · refine rl_tswIn (tgt := 1489) (v := 43) C hv43 dl_33 rfl rfl (by decide) ?_
    exact l_case_43 C hcs h43 hi hn hr hp hl kk
  by_cases hv44 : gs z = 44
  · refine rl_tswIn (tgt := 1502) (v := 44) C hv44 dl_33 rfl rfl (by decide) ?_
    exact l_case_44 C hcs h44 hi hn hr hp hl kk
  by_cases hv45 : gs z = 45
  · refine rl_tswIn (tgt := 1541) (v := 45) C hv45 dl_33 rfl rfl (by decide) ?_
    exact l_case_45 C hcs h45 hi hn hr hp hl kk
  by_cases hv46 : gs z = 46
  · refine rl_tswIn (tgt := 1554) (v := 46) C hv46 dl_33 rfl rfl (by decide) ?_
    exact l_case_46 C hcs h46 hi hn hr hp hl kk
  by_cases hv47 : gs z = 47
  · refine rl_tswIn (tgt := 1567) (v := 47) C hv47 dl_33 rfl rfl (by decide) ?_
    exact l_case_47 C hcs h47 hi hn hr hp hl kk
  refine rl_tswOut (tgt := 1590) C dl_33 (by omega) (by decide) ?_
  exact kk Mx Mm H locs hp (hmono _ _ _ hr)
set_option maxRecDepth 100000 in
set_option maxHeartbeats 4000000 in
/-- the law's loop -/
theorem l_loop (C : l_CX Vx Vm p s m meth c b L xs) (hcs : cells ≤ 600000 ∧ slots ≤ 7302250) {Rel : Nat → g_M → g_M → Prop} (hst : x_Steps Rel) (hfin : ∀ (Mx Mm : g_M) (ls : Array Slot) (H : Heap) (locs : List Loc), l_PT Vx Vm Mx Mm s H locs → W p l e room_1 s m #[Value.ref b] below meth c H locs cells slots Q (F0 m 1596 ls [])) : ∀ (f i n : Nat) (Mx Mm : g_M) (ls : Array Slot) (H : Heap) (locs : List Loc), L < i + 6 * f → 6 * n = i → i ≤ L + 6 → Rel n Mx Mm → l_PT Vx Vm Mx Mm s H locs → lv_has ls 4 [(3, .int (gI (i : Int))), (0, .ref b), (1, .ref (Vx.2.2 0)), (2, .ref (Vm.2.2 0))] → W p l e room_1 s m #[Value.ref b] below meth c H locs cells slots Q (F0 m 18 ls []) := by
  intro f
  induction f with
  | zero =>
    intro i n Mx Mm ls H locs hf hin hil hr hp hl
    have hL : L ≤ 3072 := C.2.2.2.2.2.2.2.1
    refine lv_iload_n C.1 C.2.1 dl_18 rfl (lv_at hl 0 rfl) ?_
    refine lv_aload_n C.1 C.2.1 dl_19 rfl (lv_at hl 1 rfl) ?_
    refine va_slen C.1 C.2.1 C.2.2.2.2.2.1 C.2.2.2.2.2.2.1 (Nat.not_le.mpr C.2.2.2.2.2.2.1) hp.2.2 dl_20 ?_
    rw [l_ofN (n := L) (by omega)]
    refine rl_bipush C dl_21 (by decide +kernel) ?_
    refine rl_isub C dl_23 ?_
    have e1 : gs (i : Int) = i := gs_id (by omega) (by omega)
    have e2 : gs ((L : Int) - 6) = (L : Int) - 6 := gs_id (by omega) (by omega)
    refine lv_icmp_gt (tgt := 1596) C.1 C.2.1 dl_24 (by decide) (fun _ => hfin Mx Mm ls H locs hp) (fun hc => absurd ?_ hc)
    rw [gI_lt, e1, e2]
    omega
  | succ f ih =>
    intro i n Mx Mm ls H locs hf hin hil hr hp hl
    have hL : L ≤ 3072 := C.2.2.2.2.2.2.2.1
    refine lv_iload_n C.1 C.2.1 dl_18 rfl (lv_at hl 0 rfl) ?_
    refine lv_aload_n C.1 C.2.1 dl_19 rfl (lv_at hl 1 rfl) ?_
    refine va_slen C.1 C.2.1 C.2.2.2.2.2.1 C.2.2.2.2.2.2.1 (Nat.not_le.mpr C.2.2.2.2.2.2.1) hp.2.2 dl_20 ?_
    rw [l_ofN (n := L) (by omega)]
    refine rl_bipush C dl_21 (by decide +kernel) ?_
    refine rl_isub C dl_23 ?_
    have e1 : gs (i : Int) = i := gs_id (by omega) (by omega)
    have e2 : gs ((L : Int) - 6) = (L : Int) - 6 := gs_id (by omega) (by omega)
    refine lv_icmp_gt (tgt := 1596) C.1 C.2.1 dl_24 (by decide) (fun _ => hfin Mx Mm ls H locs hp) (fun hc => ?_)
    rw [gI_lt, e1, e2] at hc
    refine l_body C hcs hst (i := i) (n := n) (by omega) (by omega) hr hp hl (fun Mx' Mm' H locs hp hr => ?_)
    refine lv_iinc (v := gI ((i + 6 : Nat) : Int)) (lv' := [(3, .int (gI ((i + 6 : Nat) : Int))), (0, .ref b), (1, .ref (Vx.2.2 0)), (2, .ref (Vm.2.2 0))]) C.1 C.2.1 dl_1590 hl (k := 0) rfl (by rw [show ((i + 6 : Nat) : Int) = (i : Int) + 6 by omega, ← gI_add]; rfl) (by decide) rfl (fun ls hl => ?_)
    refine rl_goto (tgt := 18) C dl_1593 (by decide) ?_
    exact ih (i + 6) (n + 1) Mx' Mm' ls H locs (by omega) (by omega) (by omega) hr hp hl
end
