theorem dX4_take_0 : decode cX4_take 0 = .ok (.bipush 24, 2) := by decide +kernel
theorem dX4_take_2 : decode cX4_take 2 = .ok (.istore_n 2, 1) := by decide +kernel
theorem dX4_take_3 : decode cX4_take 3 = .ok (.iload_n 2, 1) := by decide +kernel
theorem dX4_take_4 : decode cX4_take 4 = .ok (.ifCond .lt 45, 3) := by decide +kernel
theorem dX4_take_7 : decode cX4_take 7 = .ok (.aload_n 0, 1) := by decide +kernel
theorem dX4_take_8 : decode cX4_take 8 = .ok (.getfield 29, 3) := by decide +kernel
theorem dX4_take_11 : decode cX4_take 11 = .ok (.sipush 300, 3) := by decide +kernel
theorem dX4_take_14 : decode cX4_take 14 = .ok (.if_icmp .ge 35, 3) := by decide +kernel
theorem dX4_take_17 : decode cX4_take 17 = .ok (.aload_n 0, 1) := by decide +kernel
theorem dX4_take_18 : decode cX4_take 18 = .ok (.getfield 18, 3) := by decide +kernel
theorem dX4_take_21 : decode cX4_take 21 = .ok (.aload_n 0, 1) := by decide +kernel
theorem dX4_take_22 : decode cX4_take 22 = .ok (.getfield 29, 3) := by decide +kernel
theorem dX4_take_25 : decode cX4_take 25 = .ok (.iload_n 1, 1) := by decide +kernel
theorem dX4_take_26 : decode cX4_take 26 = .ok (.iload_n 2, 1) := by decide +kernel
theorem dX4_take_27 : decode cX4_take 27 = .ok (.ishr, 1) := by decide +kernel
theorem dX4_take_28 : decode cX4_take 28 = .ok (.sipush 255, 3) := by decide +kernel
theorem dX4_take_31 : decode cX4_take 31 = .ok (.iand, 1) := by decide +kernel
theorem dX4_take_32 : decode cX4_take 32 = .ok (.iastore, 1) := by decide +kernel
theorem dX4_take_33 : decode cX4_take 33 = .ok (.aload_n 0, 1) := by decide +kernel
theorem dX4_take_34 : decode cX4_take 34 = .ok (.dup, 1) := by decide +kernel
theorem dX4_take_35 : decode cX4_take 35 = .ok (.getfield 29, 3) := by decide +kernel
theorem dX4_take_38 : decode cX4_take 38 = .ok (.iconst 1, 1) := by decide +kernel
theorem dX4_take_39 : decode cX4_take 39 = .ok (.iadd, 1) := by decide +kernel
theorem dX4_take_40 : decode cX4_take 40 = .ok (.putfield 29, 3) := by decide +kernel
theorem dX4_take_43 : decode cX4_take 43 = .ok (.iinc 2 (-8), 3) := by decide +kernel
theorem dX4_take_46 : decode cX4_take 46 = .ok (.goto (-43), 3) := by decide +kernel
theorem dX4_take_49 : decode cX4_take 49 = .ok (.return_, 1) := by decide +kernel
theorem dX4_wrong_0 : decode cX4_wrong 0 = .ok (.aload_n 0, 1) := by decide +kernel
theorem dX4_wrong_1 : decode cX4_wrong 1 = .ok (.iload_n 1, 1) := by decide +kernel
theorem dX4_wrong_2 : decode cX4_wrong 2 = .ok (.putfield 22, 3) := by decide +kernel
theorem dX4_wrong_5 : decode cX4_wrong 5 = .ok (.aload_n 0, 1) := by decide +kernel
theorem dX4_wrong_6 : decode cX4_wrong 6 = .ok (.aload_n 0, 1) := by decide +kernel
theorem dX4_wrong_7 : decode cX4_wrong 7 = .ok (.getfield 48, 3) := by decide +kernel
theorem dX4_wrong_10 : decode cX4_wrong 10 = .ok (.putfield 26, 3) := by decide +kernel
theorem dX4_wrong_13 : decode cX4_wrong 13 = .ok (.iconst 0, 1) := by decide +kernel
theorem dX4_wrong_14 : decode cX4_wrong 14 = .ok (.ireturn, 1) := by decide +kernel
theorem dX4_isLetter_0 : decode cX4_isLetter 0 = .ok (.iload_n 0, 1) := by decide +kernel
theorem dX4_isLetter_1 : decode cX4_isLetter 1 = .ok (.bipush 97, 2) := by decide +kernel
theorem dX4_isLetter_3 : decode cX4_isLetter 3 = .ok (.if_icmp .lt 9, 3) := by decide +kernel
theorem dX4_isLetter_6 : decode cX4_isLetter 6 = .ok (.iload_n 0, 1) := by decide +kernel
theorem dX4_isLetter_7 : decode cX4_isLetter 7 = .ok (.bipush 122, 2) := by decide +kernel
theorem dX4_isLetter_9 : decode cX4_isLetter 9 = .ok (.if_icmp .le 15, 3) := by decide +kernel
theorem dX4_isLetter_12 : decode cX4_isLetter 12 = .ok (.iload_n 0, 1) := by decide +kernel
theorem dX4_isLetter_13 : decode cX4_isLetter 13 = .ok (.bipush 65, 2) := by decide +kernel
theorem dX4_isLetter_15 : decode cX4_isLetter 15 = .ok (.if_icmp .lt 13, 3) := by decide +kernel
theorem dX4_isLetter_18 : decode cX4_isLetter 18 = .ok (.iload_n 0, 1) := by decide +kernel
theorem dX4_isLetter_19 : decode cX4_isLetter 19 = .ok (.bipush 90, 2) := by decide +kernel
theorem dX4_isLetter_21 : decode cX4_isLetter 21 = .ok (.if_icmp .gt 7, 3) := by decide +kernel
theorem dX4_isLetter_24 : decode cX4_isLetter 24 = .ok (.iconst 1, 1) := by decide +kernel
theorem dX4_isLetter_25 : decode cX4_isLetter 25 = .ok (.goto 4, 3) := by decide +kernel
theorem dX4_isLetter_28 : decode cX4_isLetter 28 = .ok (.iconst 0, 1) := by decide +kernel
theorem dX4_isLetter_29 : decode cX4_isLetter 29 = .ok (.ireturn, 1) := by decide +kernel
theorem dX4_isNumeral_0 : decode cX4_isNumeral 0 = .ok (.iload_n 0, 1) := by decide +kernel
theorem dX4_isNumeral_1 : decode cX4_isNumeral 1 = .ok (.bipush 48, 2) := by decide +kernel
theorem dX4_isNumeral_3 : decode cX4_isNumeral 3 = .ok (.if_icmp .lt 13, 3) := by decide +kernel
theorem dX4_isNumeral_6 : decode cX4_isNumeral 6 = .ok (.iload_n 0, 1) := by decide +kernel
theorem dX4_isNumeral_7 : decode cX4_isNumeral 7 = .ok (.bipush 57, 2) := by decide +kernel
theorem dX4_isNumeral_9 : decode cX4_isNumeral 9 = .ok (.if_icmp .gt 7, 3) := by decide +kernel
theorem dX4_isNumeral_12 : decode cX4_isNumeral 12 = .ok (.iconst 1, 1) := by decide +kernel
theorem dX4_isNumeral_13 : decode cX4_isNumeral 13 = .ok (.goto 4, 3) := by decide +kernel
theorem dX4_isNumeral_16 : decode cX4_isNumeral 16 = .ok (.iconst 0, 1) := by decide +kernel
theorem dX4_isNumeral_17 : decode cX4_isNumeral 17 = .ok (.ireturn, 1) := by decide +kernel
theorem dX4_scanNumber_0 : decode cX4_scanNumber 0 = .ok (.aload_n 0, 1) := by decide +kernel
theorem dX4_scanNumber_1 : decode cX4_scanNumber 1 = .ok (.bipush 40, 2) := by decide +kernel
theorem dX4_scanNumber_3 : decode cX4_scanNumber 3 = .ok (.putfield 41, 3) := by decide +kernel
theorem dX4_scanNumber_6 : decode cX4_scanNumber 6 = .ok (.aload_n 0, 1) := by decide +kernel
theorem dX4_scanNumber_7 : decode cX4_scanNumber 7 = .ok (.iconst 0, 1) := by decide +kernel
theorem dX4_scanNumber_8 : decode cX4_scanNumber 8 = .ok (.putfield 78, 3) := by decide +kernel
theorem dX4_scanNumber_11 : decode cX4_scanNumber 11 = .ok (.aload_n 0, 1) := by decide +kernel
theorem dX4_scanNumber_12 : decode cX4_scanNumber 12 = .ok (.getfield 35, 3) := by decide +kernel
theorem dX4_scanNumber_15 : decode cX4_scanNumber 15 = .ok (.aload_n 0, 1) := by decide +kernel
theorem dX4_scanNumber_16 : decode cX4_scanNumber 16 = .ok (.getfield 29, 3) := by decide +kernel
theorem dX4_scanNumber_19 : decode cX4_scanNumber 19 = .ok (.if_icmp .ge 61, 3) := by decide +kernel
theorem dX4_scanNumber_22 : decode cX4_scanNumber 22 = .ok (.aload_n 0, 1) := by decide +kernel
theorem dX4_scanNumber_23 : decode cX4_scanNumber 23 = .ok (.getfield 18, 3) := by decide +kernel
theorem dX4_scanNumber_26 : decode cX4_scanNumber 26 = .ok (.aload_n 0, 1) := by decide +kernel
theorem dX4_scanNumber_27 : decode cX4_scanNumber 27 = .ok (.getfield 35, 3) := by decide +kernel
theorem dX4_scanNumber_30 : decode cX4_scanNumber 30 = .ok (.iaload, 1) := by decide +kernel
theorem dX4_scanNumber_31 : decode cX4_scanNumber 31 = .ok (.invokestatic 58, 3) := by decide +kernel
theorem dX4_scanNumber_34 : decode cX4_scanNumber 34 = .ok (.ifCond .eq 46, 3) := by decide +kernel
theorem dX4_scanNumber_37 : decode cX4_scanNumber 37 = .ok (.aload_n 0, 1) := by decide +kernel
theorem dX4_scanNumber_38 : decode cX4_scanNumber 38 = .ok (.sipush 10000, 3) := by decide +kernel
theorem dX4_scanNumber_41 : decode cX4_scanNumber 41 = .ok (.aload_n 0, 1) := by decide +kernel
theorem dX4_scanNumber_42 : decode cX4_scanNumber 42 = .ok (.getfield 78, 3) := by decide +kernel
theorem dX4_scanNumber_45 : decode cX4_scanNumber 45 = .ok (.bipush 10, 2) := by decide +kernel
theorem dX4_scanNumber_47 : decode cX4_scanNumber 47 = .ok (.imul, 1) := by decide +kernel
theorem dX4_scanNumber_48 : decode cX4_scanNumber 48 = .ok (.aload_n 0, 1) := by decide +kernel
theorem dX4_scanNumber_49 : decode cX4_scanNumber 49 = .ok (.getfield 18, 3) := by decide +kernel
theorem dX4_scanNumber_52 : decode cX4_scanNumber 52 = .ok (.aload_n 0, 1) := by decide +kernel
theorem dX4_scanNumber_53 : decode cX4_scanNumber 53 = .ok (.getfield 35, 3) := by decide +kernel
theorem dX4_scanNumber_56 : decode cX4_scanNumber 56 = .ok (.iaload, 1) := by decide +kernel
theorem dX4_scanNumber_57 : decode cX4_scanNumber 57 = .ok (.iadd, 1) := by decide +kernel
theorem dX4_scanNumber_58 : decode cX4_scanNumber 58 = .ok (.bipush 48, 2) := by decide +kernel
theorem dX4_scanNumber_60 : decode cX4_scanNumber 60 = .ok (.isub, 1) := by decide +kernel
theorem dX4_scanNumber_61 : decode cX4_scanNumber 61 = .ok (.invokestatic 81, 3) := by decide +kernel
theorem dX4_scanNumber_64 : decode cX4_scanNumber 64 = .ok (.putfield 78, 3) := by decide +kernel
theorem dX4_scanNumber_67 : decode cX4_scanNumber 67 = .ok (.aload_n 0, 1) := by decide +kernel
theorem dX4_scanNumber_68 : decode cX4_scanNumber 68 = .ok (.dup, 1) := by decide +kernel
theorem dX4_scanNumber_69 : decode cX4_scanNumber 69 = .ok (.getfield 35, 3) := by decide +kernel
theorem dX4_scanNumber_72 : decode cX4_scanNumber 72 = .ok (.iconst 1, 1) := by decide +kernel
theorem dX4_scanNumber_73 : decode cX4_scanNumber 73 = .ok (.iadd, 1) := by decide +kernel
theorem dX4_scanNumber_74 : decode cX4_scanNumber 74 = .ok (.putfield 35, 3) := by decide +kernel
theorem dX4_scanNumber_77 : decode cX4_scanNumber 77 = .ok (.goto (-66), 3) := by decide +kernel
theorem dX4_scanNumber_80 : decode cX4_scanNumber 80 = .ok (.return_, 1) := by decide +kernel
section
variable {p : Program} {l : Launch} {e : Env} {R : Room} {s : State} {m : MethodId} {args : Array Value} {below : List Frame} {meth : Method} {c : Code} {Q : State → Prop} {V : g_V}
def m_X4_take_L3 (x12 : Int) : Nat → Int → g_M → Option (g_M)
  | 0, _, _ => none
  | f + 1, x13, M14 => if gs x13 < 0 then (some M14) else (if gs 300 ≤ gs (M14 23 2) then (some M14) else (g_gd (g_ix (M14 23 2) 300) (g_nm (g_wr M14 24 (gs (M14 23 2)).toNat (g_and (g_shr x12 x13) 255)) (fun M15 => g_nm (g_wr M15 23 2 ((M15 23 2) + 1)) (fun M16 => g_nm (x13 + (-8)) (fun x17 => m_X4_take_L3 x12 f x17 M16))))))
def m_X4_take (a1 : Int) (M : g_M) : Option (g_M) := g_nm 24 (fun x11 => m_X4_take_L3 a1 g_fuel x11 M)
set_option maxRecDepth 100000 in
set_option maxHeartbeats 4000000 in
theorem w_X4_take_L3 (C : g_CX xG V p R s m args meth c cX4_take 3 none RX4 0 0) {res : g_M} (hR : g_RetV xG V p l e R s m args below meth c Q cX4_take res) (x12 : Int)   : ∀ (f : Nat) (x13 : Int) (M14 : g_M) (H : Heap) (locs : List Loc) (ls : Array Slot), m_X4_take_L3 x12  f x13 M14 = some res → g_PT xG V M14 s H locs → lv_has ls 3 [(0, .ref (V.2.2 23)), (1, .int (gI x12)), (2, .int (gI x13))] → W p l e R s m args below meth c H locs 0 0 Q (F0 m 3 ls []) := by
  intro f
  induction f with
  | zero => intro x13 M14 H locs ls h hp hl; cases h
  | succ f ih =>
    intro x13 M14 H locs ls h hp hl
    rw [m_X4_take_L3] at h
    refine lv_iload_n C.1 C.2.1 dX4_take_3 rfl (lv_at hl 2 rfl) ?_
    refine r_if_lt (tgt := 49) C h dX4_take_4 (by decide) (fun h => ?_) (fun h => ?_)
    · cases h
      exact hR _ _ _ _ dX4_take_49 hp
    · refine lv_aload_n C.1 C.2.1 dX4_take_7 rfl (lv_at hl 0 rfl) ?_
      refine r_geti (t := 0) C hp xk_23 xs_23 xc_4 xin_4 (j := 2) (by decide) rfl gw_283 rfl dX4_take_8 ?_
      refine r_sipush C dX4_take_11 (by decide +kernel) ?_
      refine r_icmp_ge (tgt := 49) C h dX4_take_14 (by decide) (fun h => ?_) (fun h => ?_)
      · cases h
        exact hR _ _ _ _ dX4_take_49 hp
      · refine lv_aload_n C.1 C.2.1 dX4_take_17 rfl (lv_at hl 0 rfl) ?_
        refine r_getr (t := 24) C hp xk_23 xs_23 xc_4 xin_4 (j := 1) (by decide) rfl gw_282 rfl dX4_take_18 ?_
        refine lv_aload_n C.1 C.2.1 dX4_take_21 rfl (lv_at hl 0 rfl) ?_
        refine r_geti (t := 0) C hp xk_23 xs_23 xc_4 xin_4 (j := 2) (by decide) rfl gw_283 rfl dX4_take_22 ?_
        refine lv_iload_n C.1 C.2.1 dX4_take_25 rfl (lv_at hl 1 rfl) ?_
        refine lv_iload_n C.1 C.2.1 dX4_take_26 rfl (lv_at hl 2 rfl) ?_
        refine r_ishr C dX4_take_27 ?_
        refine r_sipush C dX4_take_28 (by decide +kernel) ?_
        refine r_iand C dX4_take_31 ?_
        refine r_iast C hp h xk_24 xs_24 dX4_take_32 (fun M15 H locs h hp => ?_)
        refine lv_aload_n C.1 C.2.1 dX4_take_33 rfl (lv_at hl 0 rfl) ?_
        refine lv_dup C.1 C.2.1 dX4_take_34 rfl ?_
        refine r_geti (t := 0) C hp xk_23 xs_23 xc_4 xin_4 (j := 2) (by decide) rfl gw_283 rfl dX4_take_35 ?_
        refine r_iconst C dX4_take_38 ?_
        refine r_iadd C dX4_take_39 ?_
        refine r_puti C hp h xk_23 xs_23 xc_4 xin_4 tyX4 tyX4_ok nmX4 (j := 2) (by decide) rfl gw_283 rfl rfl rfl dX4_take_40 (fun M16 H locs h hp => ?_)
        refine r_iinc (lv' := fun x17 => [(2, .int (gI x17)), (0, .ref (V.2.2 23)), (1, .int (gI x12))]) C h dX4_take_43 hl (j := 2) rfl (by decide) (fun _ => rfl) (fun x17 ls h hl => ?_)
        refine r_goto (tgt := 3) C dX4_take_46 (by decide) ?_
        exact ih _ _ _ _ _ h hp (lv_sub hl [1, 2, 0] rfl)
set_option maxRecDepth 100000 in
set_option maxHeartbeats 4000000 in
theorem b_X4_take (C : g_CX xG V p R s m args meth c cX4_take 3 none RX4 0 0) {res : g_M} (hR : g_RetV xG V p l e R s m args below meth c Q cX4_take res) {a1 : Int} {M : g_M} {H : Heap} {locs : List Loc} {ls : Array Slot} (h : m_X4_take a1 M = some res) (hp : g_PT xG V M s H locs) (hl : lv_has ls 3 [(0, .ref (V.2.2 23)), (1, .int (gI a1))]) : W p l e R s m args below meth c H locs 0 0 Q (F0 m 0 ls []) := by
  unfold m_X4_take at h
  refine r_bipush C dX4_take_0 (by decide +kernel) ?_
  refine r_istore_n (lv' := fun x11 => [(2, .int (gI x11)), (0, .ref (V.2.2 23)), (1, .int (gI a1))]) C h dX4_take_2 rfl hl (by decide) (fun _ => rfl) (fun x11 ls h hl => ?_)
  refine w_X4_take_L3 C hR _ _ _ _ H locs ls h hp (lv_sub hl [1, 2, 0] rfl)
theorem c_X4_take (l : Launch) {V : g_V} (hok : g_ok xG V) {a1 : Int} {M : g_M} {res : g_M} (h : m_X4_take a1 M = some res) : MetV xG V l yX4_take cX4_take 3 none 0 0 [.ref (V.2.2 23), .int (gI a1)] M res :=
  g_metV hok cal_X4_take.2.2.2 rfl (Nat.le_of_ble_eq_true rfl) (@fun p e R s m args below meth c Q ls C hR hp hl => b_X4_take C hR h hp hl)
def m_X4_isLetter (a1 : Int) : Option (Int) := g_jn (some 1) (fun J12 => g_jn (g_jn (some 0) (fun J13 => if gs a1 < gs 65 then (J13) else (if gs 90 < gs a1 then (J13) else (J12)))) (fun J11 => if gs a1 < gs 97 then (J11) else (if gs a1 ≤ gs 122 then (J12) else (J11))))
set_option maxRecDepth 100000 in
set_option maxHeartbeats 4000000 in
theorem b_X4_isLetter (C : g_CX xG V p R s m args meth c cX4_isLetter 1 (some .boolean) RX4 0 0) {res : Int} {M : g_M} (hR : g_RetI xG V p l e R s m args below meth c Q cX4_isLetter .boolean res M) {a1 : Int} {H : Heap} {locs : List Loc} {ls : Array Slot} (h : m_X4_isLetter a1 = some res) (hp : g_PT xG V M s H locs) (hl : lv_has ls 1 [(0, .int (gI a1))]) : W p l e R s m args below meth c H locs 0 0 Q (F0 m 0 ls []) := by
  unfold m_X4_isLetter at h
  refine r_jn (P := fun J => ∀  (H : Heap) (locs : List Loc) (ls : Array Slot), J  = some res → g_PT xG V M s H locs → lv_has ls 1 [] → W p l e R s m args below meth c H locs 0 0 Q (F0 m 24 ls [])) h ?_ (fun J12 hJ12 h => ?_)
  · intro  H locs ls h hp hl
    refine r_iconst C dX4_isLetter_24 ?_
    refine r_goto (tgt := 29) C dX4_isLetter_25 (by decide) ?_
    cases h
    exact hR _ _ _ _ dX4_isLetter_29 g_nz1 hp
  refine r_jn (P := fun J => ∀  (H : Heap) (locs : List Loc) (ls : Array Slot), J  = some res → g_PT xG V M s H locs → lv_has ls 1 [(0, .int (gI a1))] → W p l e R s m args below meth c H locs 0 0 Q (F0 m 12 ls [])) h ?_ (fun J11 hJ11 h => ?_)
  · intro  H locs ls h hp hl
    refine r_jn (P := fun J => ∀  (H : Heap) (locs : List Loc) (ls : Array Slot), J  = some res → g_PT xG V M s H locs → lv_has ls 1 [] → W p l e R s m args below meth c H locs 0 0 Q (F0 m 28 ls [])) h ?_ (fun J13 hJ13 h => ?_)
    · intro  H locs ls h hp hl
      refine r_iconst C dX4_isLetter_28 ?_
      cases h
      exact hR _ _ _ _ dX4_isLetter_29 g_nz0 hp
    refine lv_iload_n C.1 C.2.1 dX4_isLetter_12 rfl (lv_at hl 0 rfl) ?_
    refine r_bipush C dX4_isLetter_13 (by decide +kernel) ?_
    refine r_icmp_lt (tgt := 28) C h dX4_isLetter_15 (by decide) (fun h => ?_) (fun h => ?_)
    · exact hJ13  _ _ _ h hp (lv_sub hl [] rfl)
    · refine lv_iload_n C.1 C.2.1 dX4_isLetter_18 rfl (lv_at hl 0 rfl) ?_
      refine r_bipush C dX4_isLetter_19 (by decide +kernel) ?_
      refine r_icmp_gt (tgt := 28) C h dX4_isLetter_21 (by decide) (fun h => ?_) (fun h => ?_)
      · exact hJ13  _ _ _ h hp (lv_sub hl [] rfl)
      · exact hJ12  _ _ _ h hp (lv_sub hl [] rfl)
  refine lv_iload_n C.1 C.2.1 dX4_isLetter_0 rfl (lv_at hl 0 rfl) ?_
  refine r_bipush C dX4_isLetter_1 (by decide +kernel) ?_
  refine r_icmp_lt (tgt := 12) C h dX4_isLetter_3 (by decide) (fun h => ?_) (fun h => ?_)
  · exact hJ11  _ _ _ h hp hl
  · refine lv_iload_n C.1 C.2.1 dX4_isLetter_6 rfl (lv_at hl 0 rfl) ?_
    refine r_bipush C dX4_isLetter_7 (by decide +kernel) ?_
    refine r_icmp_le (tgt := 24) C h dX4_isLetter_9 (by decide) (fun h => ?_) (fun h => ?_)
    · exact hJ12  _ _ _ h hp (lv_sub hl [] rfl)
    · exact hJ11  _ _ _ h hp hl
theorem c_X4_isLetter (l : Launch) {V : g_V} (hok : g_ok xG V) {a1 : Int} {M : g_M} {x : Int} (h : m_X4_isLetter a1 = some x) : MetI xG V l yX4_isLetter cX4_isLetter 1 (some .boolean) 0 0 [.int (gI a1)] M x M :=
  g_metI hok cal_X4_isLetter.2.2.2 rfl (Nat.le_of_ble_eq_true rfl) (@fun p e R s m args below meth c Q ls C hR hp hl => b_X4_isLetter C hR h hp hl)
def m_X4_isNumeral (a1 : Int) : Option (Int) := g_jn (some 0) (fun J11 => if gs a1 < gs 48 then (J11) else (if gs 57 < gs a1 then (J11) else (some 1)))
set_option maxRecDepth 100000 in
set_option maxHeartbeats 4000000 in
theorem b_X4_isNumeral (C : g_CX xG V p R s m args meth c cX4_isNumeral 1 (some .boolean) RX4 0 0) {res : Int} {M : g_M} (hR : g_RetI xG V p l e R s m args below meth c Q cX4_isNumeral .boolean res M) {a1 : Int} {H : Heap} {locs : List Loc} {ls : Array Slot} (h : m_X4_isNumeral a1 = some res) (hp : g_PT xG V M s H locs) (hl : lv_has ls 1 [(0, .int (gI a1))]) : W p l e R s m args below meth c H locs 0 0 Q (F0 m 0 ls []) := by
  unfold m_X4_isNumeral at h
  refine r_jn (P := fun J => ∀  (H : Heap) (locs : List Loc) (ls : Array Slot), J  = some res → g_PT xG V M s H locs → lv_has ls 1 [] → W p l e R s m args below meth c H locs 0 0 Q (F0 m 16 ls [])) h ?_ (fun J11 hJ11 h => ?_)
  · intro  H locs ls h hp hl
    refine r_iconst C dX4_isNumeral_16 ?_
    cases h
    exact hR _ _ _ _ dX4_isNumeral_17 g_nz0 hp
  refine lv_iload_n C.1 C.2.1 dX4_isNumeral_0 rfl (lv_at hl 0 rfl) ?_
  refine r_bipush C dX4_isNumeral_1 (by decide +kernel) ?_
  refine r_icmp_lt (tgt := 16) C h dX4_isNumeral_3 (by decide) (fun h => ?_) (fun h => ?_)
  · exact hJ11  _ _ _ h hp (lv_sub hl [] rfl)
  · refine lv_iload_n C.1 C.2.1 dX4_isNumeral_6 rfl (lv_at hl 0 rfl) ?_
    refine r_bipush C dX4_isNumeral_7 (by decide +kernel) ?_
    refine r_icmp_gt (tgt := 16) C h dX4_isNumeral_9 (by decide) (fun h => ?_) (fun h => ?_)
    · exact hJ11  _ _ _ h hp (lv_sub hl [] rfl)
    · refine r_iconst C dX4_isNumeral_12 ?_
      refine r_goto (tgt := 17) C dX4_isNumeral_13 (by decide) ?_
      cases h
      exact hR _ _ _ _ dX4_isNumeral_17 g_nz1 hp
theorem c_X4_isNumeral (l : Launch) {V : g_V} (hok : g_ok xG V) {a1 : Int} {M : g_M} {x : Int} (h : m_X4_isNumeral a1 = some x) : MetI xG V l yX4_isNumeral cX4_isNumeral 1 (some .boolean) 0 0 [.int (gI a1)] M x M :=
  g_metI hok cal_X4_isNumeral.2.2.2 rfl (Nat.le_of_ble_eq_true rfl) (@fun p e R s m args below meth c Q ls C hR hp hl => b_X4_isNumeral C hR h hp hl)
def m_X4_scanNumber_L11 : Nat → g_M → Option (g_M)
  | 0, _ => none
  | f + 1, M13 => if gs (M13 23 2) ≤ gs (M13 23 5) then (some M13) else (g_gd (g_ix (M13 23 5) 300) ((m_X4_isNumeral (M13 24 (gs (M13 23 5)).toNat)).bind (fun x14 => if gs x14 = 0 then (some M13) else (g_gd (g_ix (M13 23 5) 300) (g_nm (g_wr M13 23 8 (g_min 10000 ((((M13 23 8) * 10) + (M13 24 (gs (M13 23 5)).toNat)) - 48))) (fun M15 => g_nm (g_wr M15 23 5 ((M15 23 5) + 1)) (fun M16 => m_X4_scanNumber_L11 f M16)))))))
def m_X4_scanNumber (M : g_M) : Option (g_M) := g_nm (g_wr M 23 7 40) (fun M11 => g_nm (g_wr M11 23 8 0) (fun M12 => m_X4_scanNumber_L11 g_fuel M12))
set_option maxRecDepth 100000 in
set_option maxHeartbeats 4000000 in
theorem w_X4_scanNumber_L11 (C : g_CX xG V p R s m args meth c cX4_scanNumber 1 none RX4 1 20) {res : g_M} (hR : g_RetV xG V p l e R s m args below meth c Q cX4_scanNumber res)    : ∀ (f : Nat)  (M13 : g_M) (H : Heap) (locs : List Loc) (ls : Array Slot), m_X4_scanNumber_L11  f M13 = some res → g_PT xG V M13 s H locs → lv_has ls 1 [(0, .ref (V.2.2 23))] → W p l e R s m args below meth c H locs 0 0 Q (F0 m 11 ls []) := by
  intro f
  induction f with
  | zero => intro M13 H locs ls h hp hl; cases h
  | succ f ih =>
    intro M13 H locs ls h hp hl
    rw [m_X4_scanNumber_L11] at h
    refine lv_aload_n C.1 C.2.1 dX4_scanNumber_11 rfl (lv_at hl 0 rfl) ?_
    refine r_geti (t := 0) C hp xk_23 xs_23 xc_4 xin_4 (j := 5) (by decide) rfl gw_289 rfl dX4_scanNumber_12 ?_
    refine lv_aload_n C.1 C.2.1 dX4_scanNumber_15 rfl (lv_at hl 0 rfl) ?_
    refine r_geti (t := 0) C hp xk_23 xs_23 xc_4 xin_4 (j := 2) (by decide) rfl gw_283 rfl dX4_scanNumber_16 ?_
    refine r_icmp_ge (tgt := 80) C h dX4_scanNumber_19 (by decide) (fun h => ?_) (fun h => ?_)
    · cases h
      exact hR _ _ _ _ dX4_scanNumber_80 hp
    · refine lv_aload_n C.1 C.2.1 dX4_scanNumber_22 rfl (lv_at hl 0 rfl) ?_
      refine r_getr (t := 24) C hp xk_23 xs_23 xc_4 xin_4 (j := 1) (by decide) rfl gw_282 rfl dX4_scanNumber_23 ?_
      refine lv_aload_n C.1 C.2.1 dX4_scanNumber_26 rfl (lv_at hl 0 rfl) ?_
      refine r_geti (t := 0) C hp xk_23 xs_23 xc_4 xin_4 (j := 5) (by decide) rfl gw_289 rfl dX4_scanNumber_27 ?_
      refine r_iald C hp h xk_24 xs_24 dX4_scanNumber_30 (fun h => ?_)
      obtain ⟨x14, hr, h⟩ := bd_of h
      refine r_callSI (As := [.int (gI (M13 24 (gs (M13 23 5)).toNat))]) (rest := []) C hl.1 hp (c_X4_isNumeral l C.2.2.2.2.2.2.2.2.2.2.2 hr) gw_579 gw_580 cal_X4_isNumeral rfl rfl (Nat.le_of_ble_eq_true rfl) ⟨Nat.le_of_ble_eq_true rfl, Nat.le_of_ble_eq_true rfl⟩ dX4_scanNumber_31 (fun H locs hp => ?_)
      refine r_if_eq (tgt := 80) C h dX4_scanNumber_34 (by decide) (fun h => ?_) (fun h => ?_)
      · cases h
        exact hR _ _ _ _ dX4_scanNumber_80 hp
      · refine lv_aload_n C.1 C.2.1 dX4_scanNumber_37 rfl (lv_at hl 0 rfl) ?_
        refine r_sipush C dX4_scanNumber_38 (by decide +kernel) ?_
        refine lv_aload_n C.1 C.2.1 dX4_scanNumber_41 rfl (lv_at hl 0 rfl) ?_
        refine r_geti (t := 0) C hp xk_23 xs_23 xc_4 xin_4 (j := 8) (by decide) rfl gw_292 rfl dX4_scanNumber_42 ?_
        refine r_bipush C dX4_scanNumber_45 (by decide +kernel) ?_
        refine r_imul C dX4_scanNumber_47 ?_
        refine lv_aload_n C.1 C.2.1 dX4_scanNumber_48 rfl (lv_at hl 0 rfl) ?_
        refine r_getr (t := 24) C hp xk_23 xs_23 xc_4 xin_4 (j := 1) (by decide) rfl gw_282 rfl dX4_scanNumber_49 ?_
        refine lv_aload_n C.1 C.2.1 dX4_scanNumber_52 rfl (lv_at hl 0 rfl) ?_
        refine r_geti (t := 0) C hp xk_23 xs_23 xc_4 xin_4 (j := 5) (by decide) rfl gw_289 rfl dX4_scanNumber_53 ?_
        refine r_iald C hp h xk_24 xs_24 dX4_scanNumber_56 (fun h => ?_)
        refine r_iadd C dX4_scanNumber_57 ?_
        refine r_bipush C dX4_scanNumber_58 (by decide +kernel) ?_
        refine r_isub C dX4_scanNumber_60 ?_
        refine r_mmin C hl.1 gw_586 gw_587 gw_126 gw_588 (Nat.le_of_ble_eq_true rfl) (Nat.le_of_ble_eq_true rfl) dX4_scanNumber_61 ?_
        refine r_puti C hp h xk_23 xs_23 xc_4 xin_4 tyX4 tyX4_ok nmX4 (j := 8) (by decide) rfl gw_292 rfl rfl rfl dX4_scanNumber_64 (fun M15 H locs h hp => ?_)
        refine lv_aload_n C.1 C.2.1 dX4_scanNumber_67 rfl (lv_at hl 0 rfl) ?_
        refine lv_dup C.1 C.2.1 dX4_scanNumber_68 rfl ?_
        refine r_geti (t := 0) C hp xk_23 xs_23 xc_4 xin_4 (j := 5) (by decide) rfl gw_289 rfl dX4_scanNumber_69 ?_
        refine r_iconst C dX4_scanNumber_72 ?_
        refine r_iadd C dX4_scanNumber_73 ?_
        refine r_puti C hp h xk_23 xs_23 xc_4 xin_4 tyX4 tyX4_ok nmX4 (j := 5) (by decide) rfl gw_289 rfl rfl rfl dX4_scanNumber_74 (fun M16 H locs h hp => ?_)
        refine r_goto (tgt := 11) C dX4_scanNumber_77 (by decide) ?_
        exact ih _ _ _ _ h hp hl
set_option maxRecDepth 100000 in
set_option maxHeartbeats 4000000 in
theorem b_X4_scanNumber (C : g_CX xG V p R s m args meth c cX4_scanNumber 1 none RX4 1 20) {res : g_M} (hR : g_RetV xG V p l e R s m args below meth c Q cX4_scanNumber res)  {M : g_M} {H : Heap} {locs : List Loc} {ls : Array Slot} (h : m_X4_scanNumber M = some res) (hp : g_PT xG V M s H locs) (hl : lv_has ls 1 [(0, .ref (V.2.2 23))]) : W p l e R s m args below meth c H locs 0 0 Q (F0 m 0 ls []) := by
  unfold m_X4_scanNumber at h
  refine lv_aload_n C.1 C.2.1 dX4_scanNumber_0 rfl (lv_at hl 0 rfl) ?_
  refine r_bipush C dX4_scanNumber_1 (by decide +kernel) ?_
  refine r_puti C hp h xk_23 xs_23 xc_4 xin_4 tyX4 tyX4_ok nmX4 (j := 7) (by decide) rfl gw_291 rfl rfl rfl dX4_scanNumber_3 (fun M11 H locs h hp => ?_)
  refine lv_aload_n C.1 C.2.1 dX4_scanNumber_6 rfl (lv_at hl 0 rfl) ?_
  refine r_iconst C dX4_scanNumber_7 ?_
  refine r_puti C hp h xk_23 xs_23 xc_4 xin_4 tyX4 tyX4_ok nmX4 (j := 8) (by decide) rfl gw_292 rfl rfl rfl dX4_scanNumber_8 (fun M12 H locs h hp => ?_)
  refine w_X4_scanNumber_L11 C hR _ _ H locs ls h hp hl
theorem c_X4_scanNumber (l : Launch) {V : g_V} (hok : g_ok xG V)  {M : g_M} {res : g_M} (h : m_X4_scanNumber M = some res) : MetV xG V l yX4_scanNumber cX4_scanNumber 1 none 1 20 [.ref (V.2.2 23)] M res :=
  g_metV hok cal_X4_scanNumber.2.2.2 rfl (Nat.le_of_ble_eq_true rfl) (@fun p e R s m args below meth c Q ls C hR hp hl => b_X4_scanNumber C hR h hp hl)
def m_X4_wrong (a1 : Int) (M : g_M) : Option (Int × g_M) := g_nm (g_wr M 23 3 a1) (fun M11 => g_nm (g_wr M11 23 4 (M11 23 6)) (fun M12 => some (0, M12)))
set_option maxRecDepth 100000 in
set_option maxHeartbeats 4000000 in
theorem b_X4_wrong (C : g_CX xG V p R s m args meth c cX4_wrong 2 (some .boolean) RX4 0 0) {res : Int × g_M} (hR : g_RetI xG V p l e R s m args below meth c Q cX4_wrong .boolean res.1 res.2) {a1 : Int} {M : g_M} {H : Heap} {locs : List Loc} {ls : Array Slot} (h : m_X4_wrong a1 M = some res) (hp : g_PT xG V M s H locs) (hl : lv_has ls 2 [(0, .ref (V.2.2 23)), (1, .int (gI a1))]) : W p l e R s m args below meth c H locs 0 0 Q (F0 m 0 ls []) := by
  unfold m_X4_wrong at h
  refine lv_aload_n C.1 C.2.1 dX4_wrong_0 rfl (lv_at hl 0 rfl) ?_
  refine lv_iload_n C.1 C.2.1 dX4_wrong_1 rfl (lv_at hl 1 rfl) ?_
  refine r_puti C hp h xk_23 xs_23 xc_4 xin_4 tyX4 tyX4_ok nmX4 (j := 3) (by decide) rfl gw_285 rfl rfl rfl dX4_wrong_2 (fun M11 H locs h hp => ?_)
  refine lv_aload_n C.1 C.2.1 dX4_wrong_5 rfl (lv_at hl 0 rfl) ?_
  refine lv_aload_n C.1 C.2.1 dX4_wrong_6 rfl (lv_at hl 0 rfl) ?_
  refine r_geti (t := 0) C hp xk_23 xs_23 xc_4 xin_4 (j := 6) (by decide) rfl gw_290 rfl dX4_wrong_7 ?_
  refine r_puti C hp h xk_23 xs_23 xc_4 xin_4 tyX4 tyX4_ok nmX4 (j := 4) (by decide) rfl gw_287 rfl rfl rfl dX4_wrong_10 (fun M12 H locs h hp => ?_)
  refine r_iconst C dX4_wrong_13 ?_
  cases h
  exact hR _ _ _ _ dX4_wrong_14 g_nz0 hp
theorem c_X4_wrong (l : Launch) {V : g_V} (hok : g_ok xG V) {a1 : Int} {M : g_M} {x : Int} {M2 : g_M} (h : m_X4_wrong a1 M = some (x, M2)) : MetI xG V l yX4_wrong cX4_wrong 2 (some .boolean) 0 0 [.ref (V.2.2 23), .int (gI a1)] M x M2 :=
  g_metI hok cal_X4_wrong.2.2.2 rfl (Nat.le_of_ble_eq_true rfl) (@fun p e R s m args below meth c Q ls C hR hp hl => b_X4_wrong C hR h hp hl)
end
