/-! the law: both worlds side by side -/
def l_CX (Vx Vm : g_V) (p : Program) (s : State) (m : MethodId) (meth : Method) (c : Code) (b L : Nat) (xs : Nat → Int32) : Prop :=
  p.tables.exec = Jvm.exec ∧ c.code = code ∧ c.maxLocals = 4 ∧ s.vm.findClass "FilmLooksBackLaw" = some m.cls ∧ (∀ w ∈ GT, w.before #[Value.ref b] s = true) ∧ va_X b L xs s s.heap ∧ b < s.heap.size ∧ L ≤ 3072 ∧ va_K Vx.1 xG.1 (g_tys Vx) s ∧ va_K Vm.1 mG.1 (g_tys Vm) s ∧ x_Ex (g_A xG Vx) s s.heap ∧ g_ok xG Vx ∧ g_ok mG Vm ∧ (∀ i, i < 82 → s.heap.size ≤ Vx.2.2 i) ∧ (∀ i, i < 18 → s.heap.size ≤ Vm.2.2 i) ∧ ∀ i j, i < 82 → j < 18 → Vx.2.2 i ≠ Vm.2.2 j
def l_PT (Vx Vm : g_V) (Mx Mm : g_M) (s : State) (H : Heap) (locs : List Loc) : Prop := va_P Vx.1 xG.1 (g_W xG Vx Mx) H ∧ va_P Vm.1 mG.1 (g_W mG Vm Mm) H ∧ va_S (fun q : Nat => s.heap.size ≤ q) s.heap H locs
theorem g_keep {G : g_G} {V : g_V} {M : g_M} {H H1 : Heap} (h : va_P V.1 G.1 (g_W G V M) H) (hq : ∀ k, k < G.2.2.1 → H1[V.2.2 k]? = H[V.2.2 k]?) : va_P V.1 G.1 (g_W G V M) H1 := by
  refine h.kept (fun k q hk => ?_)
  have hl : k < G.2.2.1 := by
    have := (List.getElem?_eq_some_iff.mp hk).1
    simpa [g_W] using this
  rw [g_W_get hl rfl] at hk
  cases hk
  exact hq k hl
theorem g_lt {G : g_G} {V : g_V} {M : g_M} {H : Heap} (h : va_P V.1 G.1 (g_W G V M) H) {k : Nat} (hk : k < G.2.2.1) : V.2.2 k < H.size := (h k _ (g_W_get hk rfl)).lt
theorem g_rng (x : Int32) : -2147483648 ≤ x.toInt ∧ x.toInt < 2147483648 := ⟨Int32.le_toInt x, Int32.toInt_lt x⟩
section
variable {p : Program} {l : Launch} {e : Env} {s : State} {m : MethodId} {below : List Frame} {meth : Method} {c : Code} {Q : State → Prop} {Vx Vm : g_V} {b L : Nat} {xs : Nat → Int32} {cells slots : Nat}
variable {pc : Nat} {ls : Array Slot} {rest : List Value} {H : Heap} {locs : List Loc} {Mx Mm : g_M}
theorem rl_iadd (C : l_CX Vx Vm p s m meth c b L xs) {x y : Int} (hdg : decode code pc = .ok (.iadd, 1)) (k : W p l e room_1 s m #[Value.ref b] below meth c H locs cells slots Q (F0 m (pc + 1) ls (.int (gI (x + y)) :: rest))) : W p l e room_1 s m #[Value.ref b] below meth c H locs cells slots Q (F0 m pc ls (.int (gI y) :: .int (gI x) :: rest)) := lv_iadd C.1 C.2.1 hdg (by rw [gI_add]; exact k)
theorem rl_isub (C : l_CX Vx Vm p s m meth c b L xs) {x y : Int} (hdg : decode code pc = .ok (.isub, 1)) (k : W p l e room_1 s m #[Value.ref b] below meth c H locs cells slots Q (F0 m (pc + 1) ls (.int (gI (x - y)) :: rest))) : W p l e room_1 s m #[Value.ref b] below meth c H locs cells slots Q (F0 m pc ls (.int (gI y) :: .int (gI x) :: rest)) := lv_isub C.1 C.2.1 hdg (by rw [gI_sub]; exact k)
theorem rl_iand (C : l_CX Vx Vm p s m meth c b L xs) {x y : Int} (hdg : decode code pc = .ok (.iand, 1)) (k : W p l e room_1 s m #[Value.ref b] below meth c H locs cells slots Q (F0 m (pc + 1) ls (.int (gI (g_and x y)) :: rest))) : W p l e room_1 s m #[Value.ref b] below meth c H locs cells slots Q (F0 m pc ls (.int (gI y) :: .int (gI x) :: rest)) := lv_iand C.1 C.2.1 hdg (by unfold g_and at k; rw [gI_of] at k; exact k)
theorem rl_iconst (C : l_CX Vx Vm p s m meth c b L xs) {n : Int} (hdg : decode code pc = .ok (.iconst n, 1)) (k : W p l e room_1 s m #[Value.ref b] below meth c H locs cells slots Q (F0 m (pc + 1) ls (.int (gI n) :: rest))) : W p l e room_1 s m #[Value.ref b] below meth c H locs cells slots Q (F0 m pc ls rest) := lv_iconst C.1 C.2.1 hdg rfl k
theorem rl_bipush (C : l_CX Vx Vm p s m meth c b L xs) {n : Int} (hdg : decode code pc = .ok (.bipush n, 2)) (hv : (Int8.ofInt n).toInt32 = gI n) (k : W p l e room_1 s m #[Value.ref b] below meth c H locs cells slots Q (F0 m (pc + 2) ls (.int (gI n) :: rest))) : W p l e room_1 s m #[Value.ref b] below meth c H locs cells slots Q (F0 m pc ls rest) := lv_bipush C.1 C.2.1 hdg hv k
theorem rl_sld (C : l_CX Vx Vm p s m meth c b L xs) (hp : l_PT Vx Vm Mx Mm s H locs) {i k : Nat} {z : Int} (hz : z = (i : Int) + (k : Int)) (hik : i + k < L) (hdg : decode code pc = .ok (.iaload, 1)) (kk : W p l e room_1 s m #[Value.ref b] below meth c H locs cells slots Q (F0 m (pc + 1) ls (.int (gI (xs (i + k)).toInt) :: rest))) : W p l e room_1 s m #[Value.ref b] below meth c H locs cells slots Q (F0 m pc ls (.int (gI z) :: .ref b :: rest)) := by
  obtain ⟨hx, hb, hml, hown, hts, hX, hbl, hL, -⟩ := C
  have hz' : z = ((i + k : Nat) : Int) := by rw [hz]; omega
  have e : gs z = ((i + k : Nat) : Int) := by rw [hz']; exact gs_id (by omega) (by omega)
  refine va_sld hx hb hX hbl (Nat.not_le.mpr hbl) hp.2.2 (g_in ⟨by rw [e]; omega, by rw [e]; omega⟩) hdg ?_
  have e2 : (gI z).toNatClampNeg = i + k := by
    show (gs z).toNat = i + k
    rw [e]; omega
  rw [e2]
  rw [gI_of] at kk
  exact kk
theorem rl_icmp_eq (C : l_CX Vx Vm p s m meth c b L xs) {x y : Int} {off : Int} {tgt : Nat} (hxy : gs x = gs y) (hdg : decode code pc = .ok (.if_icmp .eq off, 3)) (ht : (pc : Int) + off = (tgt : Int)) (k : W p l e room_1 s m #[Value.ref b] below meth c H locs cells slots Q (F0 m tgt ls rest)) : W p l e room_1 s m #[Value.ref b] below meth c H locs cells slots Q (F0 m pc ls (.int (gI y) :: .int (gI x) :: rest)) := lv_icmp_eq C.1 C.2.1 hdg ht (fun _ => k) (fun hc => absurd ((gI_eq x y).mpr hxy) hc)
theorem rl_lcmp0 (C : l_CX Vx Vm p s m meth c b L xs) {x y : Int} {off : Int} {tgt : Nat} (hxy : gl x = gl y) (hd1 : decode code pc = .ok (.lcmp, 1)) (hdg : decode code (pc + 1) = .ok (.ifCond .eq off, 3)) (ht : ((pc + 1 : Nat) : Int) + off = (tgt : Int)) (k : W p l e room_1 s m #[Value.ref b] below meth c H locs cells slots Q (F0 m tgt ls rest)) : W p l e room_1 s m #[Value.ref b] below meth c H locs cells slots Q (F0 m pc ls (.long (gJ y) :: .long (gJ x) :: rest)) := by
  have e : gJ x = gJ y := (gJ_eq x y).mpr hxy
  refine W.lcmp C.1 C.2.1 hd1 ?_
  rw [e]
  have e0 : lg_cmp (gJ y) (gJ y) = 0 := by simp [lg_cmp]
  rw [e0]
  exact lv_if_eq C.1 C.2.1 hdg ht (fun _ => k) (fun hc => absurd rfl hc)
theorem rl_ifz (C : l_CX Vx Vm p s m meth c b L xs) {x : Int} {off : Int} {tgt : Nat} (h0 : gs x = 0) (hdg : decode code pc = .ok (.ifCond .eq off, 3)) (ht : (pc : Int) + off = (tgt : Int)) (k : W p l e room_1 s m #[Value.ref b] below meth c H locs cells slots Q (F0 m tgt ls rest)) : W p l e room_1 s m #[Value.ref b] below meth c H locs cells slots Q (F0 m pc ls (.int (gI x) :: rest)) := lv_if_eq C.1 C.2.1 hdg ht (fun _ => k) (fun hc => absurd (by rw [← gI_0, gI_eq, gs_0]; exact h0) hc)
theorem rl_ifnz (C : l_CX Vx Vm p s m meth c b L xs) {x : Int} {off : Int} {tgt : Nat} (h0 : ¬ gs x = 0) (hdg : decode code pc = .ok (.ifCond .eq off, 3)) (ht : (pc : Int) + off = (tgt : Int)) (k : W p l e room_1 s m #[Value.ref b] below meth c H locs cells slots Q (F0 m (pc + 3) ls rest)) : W p l e room_1 s m #[Value.ref b] below meth c H locs cells slots Q (F0 m pc ls (.int (gI x) :: rest)) := lv_if_eq C.1 C.2.1 hdg ht (fun hc => absurd (by rw [← gI_0, gI_eq, gs_0] at hc; exact hc) h0) (fun _ => k)
theorem rl_goto (C : l_CX Vx Vm p s m meth c b L xs) {off : Int} {tgt : Nat} (hdg : decode code pc = .ok (.goto off, 3)) (ht : (pc : Int) + off = (tgt : Int)) (k : W p l e room_1 s m #[Value.ref b] below meth c H locs cells slots Q (F0 m tgt ls rest)) : W p l e room_1 s m #[Value.ref b] below meth c H locs cells slots Q (F0 m pc ls rest) := lv_goto C.1 C.2.1 hdg ht k
theorem rl_tswOut (C : l_CX Vx Vm p s m meth c b L xs) {x : Int} {dflt lo hi : Int} {offs : Array Int} {len tgt : Nat} (hdg : decode code pc = .ok (.tableswitch dflt lo hi offs, len)) (h : gs x < lo ∨ hi < gs x) (ht : (pc : Int) + dflt = (tgt : Int)) (k : W p l e room_1 s m #[Value.ref b] below meth c H locs cells slots Q (F0 m tgt ls rest)) : W p l e room_1 s m #[Value.ref b] below meth c H locs cells slots Q (F0 m pc ls (.int (gI x) :: rest)) := lv_tableOut C.1 C.2.1 hdg h ht k
theorem rl_tswIn (C : l_CX Vx Vm p s m meth c b L xs) {x : Int} {dflt lo hi : Int} {offs : Array Int} {len tgt : Nat} {v off : Int} (hv : gs x = v) (hdg : decode code pc = .ok (.tableswitch dflt lo hi offs, len)) (h : (decide (lo ≤ v) && decide (v ≤ hi)) = true) (ho : offs[(v - lo).toNat]? = some off) (ht : (pc : Int) + off = (tgt : Int)) (k : W p l e room_1 s m #[Value.ref b] below meth c H locs cells slots Q (F0 m tgt ls rest)) : W p l e room_1 s m #[Value.ref b] below meth c H locs cells slots Q (F0 m pc ls (.int (gI x) :: rest)) := by
  have e : (gI x).toInt = v := hv
  simp only [Bool.and_eq_true, decide_eq_true_eq] at h
  exact lv_tableIn C.1 C.2.1 hdg (by rw [e]; omega) (by rw [e]; omega) (by rw [e]; exact ho) ht k
theorem rl_callxI (C : l_CX Vx Vm p s m meth c b L xs) (hsz : ls.size = 4) (hp : l_PT Vx Vm Mx Mm s H locs) {y : MethodName} {cc1 : ByteArray} {nL1 nf1 nl1 n idx N : Nat} {rt : Option FieldType} {As st : List Value} {M' : g_M} {x : Int} {T : u_T} {ci : Nat} {fs : List Nat} (hM : MetI xG Vx l y cc1 nL1 rt nf1 nl1 (.ref (Vx.2.2 0) :: As) Mx x M') (hw : Cond.methodLink "FilmLooksBackLaw" idx y ∈ GT) (h1 : Cond.instanceMethod y ∈ GT) (h5 : Cond.selects y.cls y y ∈ GT) (hsb : xG.2.1 0 = .inr (ci, fs)) (hcb : xG.1[ci]? = some (y.cls, T, N)) (hcal : g_cal y cc1 nL1 rt n) (hn : As.length = n) (hst : st = As.reverse ++ .ref (Vx.2.2 0) :: rest) (hcat : (rest.map fun v => v.category).sum ≤ 8) (hR : nf1 + 1 ≤ 2048 ∧ 8 + (nL1 + 11) + nl1 ≤ 84000) (hcs : cells ≤ 600000 ∧ slots ≤ 7302250) (hdg : decode code pc = .ok (.invokevirtual idx, 3)) (kk : ∀ (H1 : Heap) (locs1 : List Loc), l_PT Vx Vm M' Mm s H1 locs1 → W p l e room_1 s m #[Value.ref b] below meth c H1 locs1 cells slots Q (F0 m (pc + 3) ls (.int (gI x) :: rest))) : W p l e room_1 s m #[Value.ref b] below meth c H locs cells slots Q (F0 m pc ls st) := by
  obtain ⟨hx, hb, hml, hown, hts, hX, hbl, hL, hKx, hKm, hE, hox, hom, hnx, hnm, happ⟩ := C
  subst hst
  have hpo2 := hp.2.1
  refine va_calli (va_runV (ret := rt) (maxL := nL1) (bytes := cc1) (C := y.cls) ⟨hx, hb, hml, hown, hts⟩ hM ⟨callB_of n hts (g_good hcal.2.1) rfl rfl rfl (hts _ hcal.2.2.1) (hts _ hw) hcal.1 hR, hts _ h1, hts _ h5⟩ ⟨g_blind hox.2 _, va_recv hKx hp.1 hcb (g_W_get xk_0 hsb), fun U hU hW => ⟨rfl, by rw [hU]; exact hp.1, va_K.moved hW.alike hKx, by rw [hU]; exact (hox.2.2.2 _ U s.heap H (hox.2.1 _ s U _ hW hE) (fun a h1 _ => hp.2.2.2.1 a h1 (Nat.not_le.mpr h1)))⟩⟩ rfl hn hsz rfl (lv_room hcat) hdg hcs) hp.2.2 (fun q _ h => by obtain ⟨i, hi, rfl⟩ := h; exact hnx i hi) (fun q h => by obtain ⟨i, hi, rfl⟩ := h; exact hnx i hi) (fun r M2 t H1 locs1 ht hvm hpo hB hz1 hk1 hS => ?_)
  obtain ⟨rfl, rfl⟩ := hpo
  refine kk H1 locs1 ⟨?_, g_keep hpo2 (fun j hj => hk1 _ (g_lt hpo2 hj) (fun z => by obtain ⟨i, hi, z⟩ := z; exact happ i j hi hj z.symm)), hS⟩
  rw [← ht]
  exact hB
theorem rl_callxL (C : l_CX Vx Vm p s m meth c b L xs) (hsz : ls.size = 4) (hp : l_PT Vx Vm Mx Mm s H locs) {y : MethodName} {cc1 : ByteArray} {nL1 nf1 nl1 n idx N : Nat} {rt : Option FieldType} {As st : List Value} {M' : g_M} {x : Int} {T : u_T} {ci : Nat} {fs : List Nat} (hM : MetL xG Vx l y cc1 nL1 rt nf1 nl1 (.ref (Vx.2.2 0) :: As) Mx x M') (hw : Cond.methodLink "FilmLooksBackLaw" idx y ∈ GT) (h1 : Cond.instanceMethod y ∈ GT) (h5 : Cond.selects y.cls y y ∈ GT) (hsb : xG.2.1 0 = .inr (ci, fs)) (hcb : xG.1[ci]? = some (y.cls, T, N)) (hcal : g_cal y cc1 nL1 rt n) (hn : As.length = n) (hst : st = As.reverse ++ .ref (Vx.2.2 0) :: rest) (hcat : (rest.map fun v => v.category).sum ≤ 8) (hR : nf1 + 1 ≤ 2048 ∧ 8 + (nL1 + 11) + nl1 ≤ 84000) (hcs : cells ≤ 600000 ∧ slots ≤ 7302250) (hdg : decode code pc = .ok (.invokevirtual idx, 3)) (kk : ∀ (H1 : Heap) (locs1 : List Loc), l_PT Vx Vm M' Mm s H1 locs1 → W p l e room_1 s m #[Value.ref b] below meth c H1 locs1 cells slots Q (F0 m (pc + 3) ls (.long (gJ x) :: rest))) : W p l e room_1 s m #[Value.ref b] below meth c H locs cells slots Q (F0 m pc ls st) := by
  obtain ⟨hx, hb, hml, hown, hts, hX, hbl, hL, hKx, hKm, hE, hox, hom, hnx, hnm, happ⟩ := C
  subst hst
  have hpo2 := hp.2.1
  refine va_calll (va_runV (ret := rt) (maxL := nL1) (bytes := cc1) (C := y.cls) ⟨hx, hb, hml, hown, hts⟩ hM ⟨callB_of n hts (g_good hcal.2.1) rfl rfl rfl (hts _ hcal.2.2.1) (hts _ hw) hcal.1 hR, hts _ h1, hts _ h5⟩ ⟨g_blind hox.2 _, va_recv hKx hp.1 hcb (g_W_get xk_0 hsb), fun U hU hW => ⟨rfl, by rw [hU]; exact hp.1, va_K.moved hW.alike hKx, by rw [hU]; exact (hox.2.2.2 _ U s.heap H (hox.2.1 _ s U _ hW hE) (fun a h1 _ => hp.2.2.2.1 a h1 (Nat.not_le.mpr h1)))⟩⟩ rfl hn hsz rfl (lv_room hcat) hdg hcs) hp.2.2 (fun q _ h => by obtain ⟨i, hi, rfl⟩ := h; exact hnx i hi) (fun q h => by obtain ⟨i, hi, rfl⟩ := h; exact hnx i hi) (fun r M2 t H1 locs1 ht hvm hpo hB hz1 hk1 hS => ?_)
  obtain ⟨rfl, rfl⟩ := hpo
  refine kk H1 locs1 ⟨?_, g_keep hpo2 (fun j hj => hk1 _ (g_lt hpo2 hj) (fun z => by obtain ⟨i, hi, z⟩ := z; exact happ i j hi hj z.symm)), hS⟩
  rw [← ht]
  exact hB
theorem rl_callmI (C : l_CX Vx Vm p s m meth c b L xs) (hsz : ls.size = 4) (hp : l_PT Vx Vm Mx Mm s H locs) {y : MethodName} {cc1 : ByteArray} {nL1 nf1 nl1 n idx N : Nat} {rt : Option FieldType} {As st : List Value} {M' : g_M} {x : Int} {T : u_T} {ci : Nat} {fs : List Nat} (hM : MetI mG Vm l y cc1 nL1 rt nf1 nl1 (.ref (Vm.2.2 0) :: As) Mm x M') (hw : Cond.methodLink "FilmLooksBackLaw" idx y ∈ GT) (h1 : Cond.instanceMethod y ∈ GT) (h5 : Cond.selects y.cls y y ∈ GT) (hsb : mG.2.1 0 = .inr (ci, fs)) (hcb : mG.1[ci]? = some (y.cls, T, N)) (hcal : g_cal y cc1 nL1 rt n) (hn : As.length = n) (hst : st = As.reverse ++ .ref (Vm.2.2 0) :: rest) (hcat : (rest.map fun v => v.category).sum ≤ 8) (hR : nf1 + 1 ≤ 2048 ∧ 8 + (nL1 + 11) + nl1 ≤ 84000) (hcs : cells ≤ 600000 ∧ slots ≤ 7302250) (hdg : decode code pc = .ok (.invokevirtual idx, 3)) (kk : ∀ (H1 : Heap) (locs1 : List Loc), l_PT Vx Vm Mx M' s H1 locs1 → W p l e room_1 s m #[Value.ref b] below meth c H1 locs1 cells slots Q (F0 m (pc + 3) ls (.int (gI x) :: rest))) : W p l e room_1 s m #[Value.ref b] below meth c H locs cells slots Q (F0 m pc ls st) := by
  obtain ⟨hx, hb, hml, hown, hts, hX, hbl, hL, hKx, hKm, hE, hox, hom, hnx, hnm, happ⟩ := C
  subst hst
  have hpo2 := hp.1
  refine va_calli (va_runV (ret := rt) (maxL := nL1) (bytes := cc1) (C := y.cls) ⟨hx, hb, hml, hown, hts⟩ hM ⟨callB_of n hts (g_good hcal.2.1) rfl rfl rfl (hts _ hcal.2.2.1) (hts _ hw) hcal.1 hR, hts _ h1, hts _ h5⟩ ⟨g_blind hom.2 _, va_recv hKm hp.2.1 hcb (g_W_get mk_0 hsb), fun U hU hW => ⟨rfl, by rw [hU]; exact hp.2.1, va_K.moved hW.alike hKm, by rw [hU]; exact trivial⟩⟩ rfl hn hsz rfl (lv_room hcat) hdg hcs) hp.2.2 (fun q _ h => by obtain ⟨i, hi, rfl⟩ := h; exact hnm i hi) (fun q h => by obtain ⟨i, hi, rfl⟩ := h; exact hnm i hi) (fun r M2 t H1 locs1 ht hvm hpo hB hz1 hk1 hS => ?_)
  obtain ⟨rfl, rfl⟩ := hpo
  refine kk H1 locs1 ⟨g_keep hpo2 (fun j hj => hk1 _ (g_lt hpo2 hj) (fun z => by obtain ⟨i, hi, z⟩ := z; exact happ j i hj hi z)), ?_, hS⟩
  rw [← ht]
  exact hB
theorem rl_callmL (C : l_CX Vx Vm p s m meth c b L xs) (hsz : ls.size = 4) (hp : l_PT Vx Vm Mx Mm s H locs) {y : MethodName} {cc1 : ByteArray} {nL1 nf1 nl1 n idx N : Nat} {rt : Option FieldType} {As st : List Value} {M' : g_M} {x : Int} {T : u_T} {ci : Nat} {fs : List Nat} (hM : MetL mG Vm l y cc1 nL1 rt nf1 nl1 (.ref (Vm.2.2 0) :: As) Mm x M') (hw : Cond.methodLink "FilmLooksBackLaw" idx y ∈ GT) (h1 : Cond.instanceMethod y ∈ GT) (h5 : Cond.selects y.cls y y ∈ GT) (hsb : mG.2.1 0 = .inr (ci, fs)) (hcb : mG.1[ci]? = some (y.cls, T, N)) (hcal : g_cal y cc1 nL1 rt n) (hn : As.length = n) (hst : st = As.reverse ++ .ref (Vm.2.2 0) :: rest) (hcat : (rest.map fun v => v.category).sum ≤ 8) (hR : nf1 + 1 ≤ 2048 ∧ 8 + (nL1 + 11) + nl1 ≤ 84000) (hcs : cells ≤ 600000 ∧ slots ≤ 7302250) (hdg : decode code pc = .ok (.invokevirtual idx, 3)) (kk : ∀ (H1 : Heap) (locs1 : List Loc), l_PT Vx Vm Mx M' s H1 locs1 → W p l e room_1 s m #[Value.ref b] below meth c H1 locs1 cells slots Q (F0 m (pc + 3) ls (.long (gJ x) :: rest))) : W p l e room_1 s m #[Value.ref b] below meth c H locs cells slots Q (F0 m pc ls st) := by
  obtain ⟨hx, hb, hml, hown, hts, hX, hbl, hL, hKx, hKm, hE, hox, hom, hnx, hnm, happ⟩ := C
  subst hst
  have hpo2 := hp.1
  refine va_calll (va_runV (ret := rt) (maxL := nL1) (bytes := cc1) (C := y.cls) ⟨hx, hb, hml, hown, hts⟩ hM ⟨callB_of n hts (g_good hcal.2.1) rfl rfl rfl (hts _ hcal.2.2.1) (hts _ hw) hcal.1 hR, hts _ h1, hts _ h5⟩ ⟨g_blind hom.2 _, va_recv hKm hp.2.1 hcb (g_W_get mk_0 hsb), fun U hU hW => ⟨rfl, by rw [hU]; exact hp.2.1, va_K.moved hW.alike hKm, by rw [hU]; exact trivial⟩⟩ rfl hn hsz rfl (lv_room hcat) hdg hcs) hp.2.2 (fun q _ h => by obtain ⟨i, hi, rfl⟩ := h; exact hnm i hi) (fun q h => by obtain ⟨i, hi, rfl⟩ := h; exact hnm i hi) (fun r M2 t H1 locs1 ht hvm hpo hB hz1 hk1 hS => ?_)
  obtain ⟨rfl, rfl⟩ := hpo
  refine kk H1 locs1 ⟨g_keep hpo2 (fun j hj => hk1 _ (g_lt hpo2 hj) (fun z => by obtain ⟨i, hi, z⟩ := z; exact happ j i hj hi z)), ?_, hS⟩
  rw [← ht]
  exact hB
end
