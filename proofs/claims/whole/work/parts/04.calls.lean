/-! contracts, returns, calls -/
def g_rm (nf nl : Nat) : Room := { frames := nf, cells := 0, slots := 0, locals := nl }
def g_B (G : g_G) (V : g_V) (M : g_M) (t : State) : Prop := va_P V.1 G.1 (g_W G V M) t.heap
def MetI (G : g_G) (V : g_V) (l : Launch) (y : MethodName) (cc : ByteArray) (nL : Nat) (ret : Option FieldType) (nf nl : Nat) (As : List Value) (M : g_M) (x : Int) (M' : g_M) : Prop := Met l y (Cond.code y cc nL ret :: GT) (g_rm nf nl) (va_Pc As (fun U => g_ST G V M U)) (va_Qi (fun r (M2 : g_M) => r = gI x ∧ M2 = M') (g_B G V) (g_A G V)) 0 0 (g_A G V)
def MetL (G : g_G) (V : g_V) (l : Launch) (y : MethodName) (cc : ByteArray) (nL : Nat) (ret : Option FieldType) (nf nl : Nat) (As : List Value) (M : g_M) (x : Int) (M' : g_M) : Prop := Met l y (Cond.code y cc nL ret :: GT) (g_rm nf nl) (va_Pc As (fun U => g_ST G V M U)) (va_Ql (fun r (M2 : g_M) => r = gJ x ∧ M2 = M') (g_B G V) (g_A G V)) 0 0 (g_A G V)
def MetV (G : g_G) (V : g_V) (l : Launch) (y : MethodName) (cc : ByteArray) (nL : Nat) (ret : Option FieldType) (nf nl : Nat) (As : List Value) (M : g_M) (M' : g_M) : Prop := Met l y (Cond.code y cc nL ret :: GT) (g_rm nf nl) (va_Pc As (fun U => g_ST G V M U)) (va_Qv (fun (M2 : g_M) => M2 = M') (g_B G V) (g_A G V)) 0 0 (g_A G V)
def MetR (G : g_G) (V : g_V) (l : Launch) (y : MethodName) (cc : ByteArray) (nL : Nat) (ret : Option FieldType) (nf nl : Nat) (As : List Value) (M : g_M) (x : Nat) (M' : g_M) : Prop := Met l y (Cond.code y cc nL ret :: GT) (g_rm nf nl) (va_Pc As (fun U => g_ST G V M U)) (va_Qr (fun (M2 : g_M) => M2 = M') (fun M2 ra t => ra = V.2.2 x ∧ g_B G V M2 t) (g_A G V)) 0 0 (g_A G V)
theorem g_ST_calling {G : g_G} {V : g_V} {M : g_M} (hok : g_exOK G.2.2.2) (a : Array Value) (U : State) (g : JFrame) (mk : MethodId) (h : g_ST G V M U) : g_ST G V M (U.calling g mk a) :=
  ⟨h.1, va_K.moved (u := U) (U := U.calling g mk a) (Vm.Alike.refl U.vm) h.2.1, hok.2.1 _ U (U.calling g mk a) _ rfl h.2.2⟩
theorem g_blind {G : g_G} {V : g_V} {M : g_M} (hok : g_exOK G.2.2.2) (As : List Value) : FrameBlind (va_Pc As (fun U => g_ST G V M U)) := fun a U g mk h => ⟨h.1, g_ST_calling hok a U g mk h.2⟩
theorem g_good {y : MethodName} {cc : ByteArray} {nL : Nat} {ret : Option FieldType} (h : Cond.code y cc nL ret ∈ GT) : GoodIn GT (Cond.code y cc nL ret :: GT) := by
  intro w hw
  have hm : w ∈ GT := by
    rcases List.mem_cons.mp hw with rfl | hw
    · exact h
    · exact hw
  exact ⟨hm, good_of_word (List.mem_filter.mp hm).2⟩
abbrev g_cal (y : MethodName) (cc : ByteArray) (nL : Nat) (ret : Option FieldType) (n : Nat) : Prop := (y.cls ≠ "java/lang/invoke/MethodHandle" ∧ y.cls ≠ "java/lang/invoke/VarHandle" ∧ (parseMethodDescriptor y.desc).map (fun d => d.parameters.length) = some n) ∧ Cond.code y cc nL ret ∈ GT ∧ Cond.initialized y.cls ∈ GT ∧ plainName y.cls = true

section
variable {G : g_G} {V : g_V} {l : Launch} {y : MethodName} {cc : ByteArray} {nL : Nat} {ret : Option FieldType} {nf nl : Nat} {As : List Value} {M M' : g_M}
def g_RetI (G : g_G) (V : g_V) (p : Program) (l : Launch) (e : Env) (R : Room) (s : State) (m : MethodId) (args : Array Value) (below : List Frame) (meth : Method) (c : Code) (Q : State → Prop) (cc : ByteArray) (ty : FieldType) (x : Int) (M : g_M) : Prop := ∀ (pc : Nat) (ls : Array Slot) (H : Heap) (locs : List Loc), decode cc pc = .ok (.ireturn, 1) → narrow ty (.int (gI x)) = .int (gI x) → g_PT G V M s H locs → W p l e R s m args below meth c H locs 0 0 Q (F0 m pc ls [.int (gI x)])
def g_RetL (G : g_G) (V : g_V) (p : Program) (l : Launch) (e : Env) (R : Room) (s : State) (m : MethodId) (args : Array Value) (below : List Frame) (meth : Method) (c : Code) (Q : State → Prop) (cc : ByteArray) (x : Int) (M : g_M) : Prop := ∀ (pc : Nat) (ls : Array Slot) (H : Heap) (locs : List Loc), decode cc pc = .ok (.lreturn, 1) → g_PT G V M s H locs → W p l e R s m args below meth c H locs 0 0 Q (F0 m pc ls [.long (gJ x)])
def g_RetV (G : g_G) (V : g_V) (p : Program) (l : Launch) (e : Env) (R : Room) (s : State) (m : MethodId) (args : Array Value) (below : List Frame) (meth : Method) (c : Code) (Q : State → Prop) (cc : ByteArray) (M : g_M) : Prop := ∀ (pc : Nat) (ls : Array Slot) (H : Heap) (locs : List Loc), decode cc pc = .ok (.return_, 1) → g_PT G V M s H locs → W p l e R s m args below meth c H locs 0 0 Q (F0 m pc ls [])
def g_RetR (G : g_G) (V : g_V) (p : Program) (l : Launch) (e : Env) (R : Room) (s : State) (m : MethodId) (args : Array Value) (below : List Frame) (meth : Method) (c : Code) (Q : State → Prop) (cc : ByteArray) (x : Nat) (M : g_M) : Prop := ∀ (pc : Nat) (ls : Array Slot) (H : Heap) (locs : List Loc), decode cc pc = .ok (.areturn, 1) → g_PT G V M s H locs → W p l e R s m args below meth c H locs 0 0 Q (F0 m pc ls [.ref (V.2.2 x)])
theorem g_metI (hok : g_ok G V) {ty : FieldType} {x : Int} (hy : plainName y.cls = true) (hret : ret = some ty) (hlen : (lg_sl As).length ≤ nL)
    (body : ∀ {p : Program} {e : Env} {R : Room} {s : State} {m : MethodId} {args : Array Value} {below : List Frame} {meth : Method} {c : Code} {Q : State → Prop} {ls : Array Slot}, g_CX G V p R s m args meth c cc nL ret y.cls nf nl → g_RetI G V p l e R s m args below meth c Q cc ty x M' → g_PT G V M s s.heap [] → lv_has ls nL (lv_args 0 As) → W p l e R s m args below meth c s.heap [] 0 0 Q (F0 m 0 ls [])) : MetI G V l y cc nL ret nf nl As M x M' := by
  refine Met.ofW (cc := cc) (maxL := nL) (ret := ret) hy rfl ?_
  intro p e s m args below meth c s₁ B hml hv
  obtain ⟨rfl, hP, hK, hE⟩ := hv
  have hx := B.exec
  have hb := B.bytes
  have hr := B.returns
  have hts := atoms_spec (ws := Cond.code y cc nL ret :: GT) B.pre
  have hown : s.vm.findClass y.cls = some m.cls := findClass_of_methodNamed B.named
  have hlocks := B.notSynchronized
  have hl := lv_entry As (n := nL) hlen
  rw [lg_entry_eq]
  generalize (lg_sl As ++ List.replicate (nL - (lg_sl As).length) Slot.unset).toArray = ls at hl ⊢
  refine body ⟨hx, hb, hml, hown, fun w hw => hts w (List.mem_cons_of_mem _ hw), hr, hlocks, Nat.le_refl _, Nat.le_refl _, hK, hE, hok⟩ ?_ ⟨hP, va_S.rf⟩ hl
  subst hret
  intro pc ls H locs hd hn hp
  exact W.zret hx hb hr hn (fun t ht hW => ⟨⟨gI x, M', rfl, ⟨rfl, rfl⟩, by show va_P _ _ _ _; rw [ht]; exact hp.1⟩, hp.2.F ht⟩) hp.2.2.2 hd
theorem g_metL (hok : g_ok G V) {x : Int} (hy : plainName y.cls = true) (hret : ret = some .long) (hlen : (lg_sl As).length ≤ nL)
    (body : ∀ {p : Program} {e : Env} {R : Room} {s : State} {m : MethodId} {args : Array Value} {below : List Frame} {meth : Method} {c : Code} {Q : State → Prop} {ls : Array Slot}, g_CX G V p R s m args meth c cc nL ret y.cls nf nl → g_RetL G V p l e R s m args below meth c Q cc x M' → g_PT G V M s s.heap [] → lv_has ls nL (lv_args 0 As) → W p l e R s m args below meth c s.heap [] 0 0 Q (F0 m 0 ls [])) : MetL G V l y cc nL ret nf nl As M x M' := by
  refine Met.ofW (cc := cc) (maxL := nL) (ret := ret) hy rfl ?_
  intro p e s m args below meth c s₁ B hml hv
  obtain ⟨rfl, hP, hK, hE⟩ := hv
  have hx := B.exec
  have hb := B.bytes
  have hr := B.returns
  have hts := atoms_spec (ws := Cond.code y cc nL ret :: GT) B.pre
  have hown : s.vm.findClass y.cls = some m.cls := findClass_of_methodNamed B.named
  have hlocks := B.notSynchronized
  have hl := lv_entry As (n := nL) hlen
  rw [lg_entry_eq]
  generalize (lg_sl As ++ List.replicate (nL - (lg_sl As).length) Slot.unset).toArray = ls at hl ⊢
  refine body ⟨hx, hb, hml, hown, fun w hw => hts w (List.mem_cons_of_mem _ hw), hr, hlocks, Nat.le_refl _, Nat.le_refl _, hK, hE, hok⟩ ?_ ⟨hP, va_S.rf⟩ hl
  subst hret
  intro pc ls H locs hd hp
  exact W.lret hx hb hr (fun t ht hW => ⟨⟨gJ x, M', rfl, ⟨rfl, rfl⟩, by show va_P _ _ _ _; rw [ht]; exact hp.1⟩, hp.2.F ht⟩) hp.2.2.2 hd
theorem g_metV (hok : g_ok G V)  (hy : plainName y.cls = true) (hret : ret = none) (hlen : (lg_sl As).length ≤ nL)
    (body : ∀ {p : Program} {e : Env} {R : Room} {s : State} {m : MethodId} {args : Array Value} {below : List Frame} {meth : Method} {c : Code} {Q : State → Prop} {ls : Array Slot}, g_CX G V p R s m args meth c cc nL ret y.cls nf nl → g_RetV G V p l e R s m args below meth c Q cc M' → g_PT G V M s s.heap [] → lv_has ls nL (lv_args 0 As) → W p l e R s m args below meth c s.heap [] 0 0 Q (F0 m 0 ls [])) : MetV G V l y cc nL ret nf nl As M M' := by
  refine Met.ofW (cc := cc) (maxL := nL) (ret := ret) hy rfl ?_
  intro p e s m args below meth c s₁ B hml hv
  obtain ⟨rfl, hP, hK, hE⟩ := hv
  have hx := B.exec
  have hb := B.bytes
  have hr := B.returns
  have hts := atoms_spec (ws := Cond.code y cc nL ret :: GT) B.pre
  have hown : s.vm.findClass y.cls = some m.cls := findClass_of_methodNamed B.named
  have hlocks := B.notSynchronized
  have hl := lv_entry As (n := nL) hlen
  rw [lg_entry_eq]
  generalize (lg_sl As ++ List.replicate (nL - (lg_sl As).length) Slot.unset).toArray = ls at hl ⊢
  refine body ⟨hx, hb, hml, hown, fun w hw => hts w (List.mem_cons_of_mem _ hw), hr, hlocks, Nat.le_refl _, Nat.le_refl _, hK, hE, hok⟩ ?_ ⟨hP, va_S.rf⟩ hl
  subst hret
  intro pc ls H locs hd hp
  exact W.vret hx hb hr (fun t ht hW => ⟨⟨M', rfl, rfl, by show va_P _ _ _ _; rw [ht]; exact hp.1⟩, hp.2.F ht⟩) hp.2.2.2 hd
theorem g_metR (hok : g_ok G V) {x : Nat} (hy : plainName y.cls = true) {cn : String} (hret : ret = some (.object cn)) (hlen : (lg_sl As).length ≤ nL)
    (body : ∀ {p : Program} {e : Env} {R : Room} {s : State} {m : MethodId} {args : Array Value} {below : List Frame} {meth : Method} {c : Code} {Q : State → Prop} {ls : Array Slot}, g_CX G V p R s m args meth c cc nL ret y.cls nf nl → g_RetR G V p l e R s m args below meth c Q cc x M' → g_PT G V M s s.heap [] → lv_has ls nL (lv_args 0 As) → W p l e R s m args below meth c s.heap [] 0 0 Q (F0 m 0 ls [])) : MetR G V l y cc nL ret nf nl As M x M' := by
  refine Met.ofW (cc := cc) (maxL := nL) (ret := ret) hy rfl ?_
  intro p e s m args below meth c s₁ B hml hv
  obtain ⟨rfl, hP, hK, hE⟩ := hv
  have hx := B.exec
  have hb := B.bytes
  have hr := B.returns
  have hts := atoms_spec (ws := Cond.code y cc nL ret :: GT) B.pre
  have hown : s.vm.findClass y.cls = some m.cls := findClass_of_methodNamed B.named
  have hlocks := B.notSynchronized
  have hl := lv_entry As (n := nL) hlen
  rw [lg_entry_eq]
  generalize (lg_sl As ++ List.replicate (nL - (lg_sl As).length) Slot.unset).toArray = ls at hl ⊢
  refine body ⟨hx, hb, hml, hown, fun w hw => hts w (List.mem_cons_of_mem _ hw), hr, hlocks, Nat.le_refl _, Nat.le_refl _, hK, hE, hok⟩ ?_ ⟨hP, va_S.rf⟩ hl
  subst hret
  intro pc ls H locs hd hp
  exact W.aret hx hb hr (Or.inl ⟨cn, rfl⟩) (Or.inr ⟨_, rfl⟩) (fun t ht hW => ⟨⟨M', V.2.2 x, rfl, rfl, rfl, by show va_P _ _ _ _; rw [ht]; exact hp.1⟩, hp.2.F ht⟩) hp.2.2.2 hd
end
section
variable {p : Program} {l : Launch} {e : Env} {R : Room} {s : State} {m : MethodId} {args : Array Value} {below : List Frame} {meth : Method} {c : Code} {Q : State → Prop} {G : g_G} {V : g_V} {cc : ByteArray} {nL : Nat} {ret : Option FieldType} {own : String} {nf nl : Nat}
variable {pc : Nat} {ls : Array Slot} {rest : List Value} {H : Heap} {locs : List Loc} {M : g_M} {α β : Type} {res : α}

theorem g_exHere (C : g_CX G V p R s m args meth c cc nL ret own nf nl) (hp : g_PT G V M s H locs) (U : State) (hU : U.heap = H) (hW : s.WarmedH U.vm) : g_ST G V M U := by
  obtain ⟨-, -, -, -, -, -, -, -, -, hK, hE, hi, hex⟩ := C
  refine ⟨by rw [hU]; exact hp.1, va_K.moved hW.alike hK, ?_⟩
  rw [hU]
  exact hex.2.2 _ U s.heap H (hex.1 _ s U _ hW hE) (fun a h1 h2 => hp.2.2.1 a h1 h2)
theorem r_callSI (C : g_CX G V p R s m args meth c cc nL ret own nf nl) (hsz : ls.size = nL) (hp : g_PT G V M s H locs) {y : MethodName} {cc1 : ByteArray} {nL1 nf1 nl1 n idx : Nat} {rt : Option FieldType} {As st : List Value} {M' : g_M} {x : Int} (hM : MetI G V l y cc1 nL1 rt nf1 nl1 As M x M') (hw : Cond.methodLink own idx y ∈ GT) (h1 : Cond.static y ∈ GT) (hcal : g_cal y cc1 nL1 rt n) (hn : As.length = n) (hst : st = As.reverse ++ rest) (hcat : (rest.map fun v => v.category).sum ≤ 8) (hR : nf1 + 1 ≤ nf ∧ 8 + (nL1 + 11) + nl1 ≤ nl) (hdg : decode cc pc = .ok (.invokestatic idx, 3)) (kk : ∀ (H1 : Heap) (locs1 : List Loc), g_PT G V M' s H1 locs1 → W p l e R s m args below meth c H1 locs1 0 0 Q (F0 m (pc + 3) ls (.int (gI x) :: rest))) : W p l e R s m args below meth c H locs 0 0 Q (F0 m pc ls st) := by
  have C0 := C
  obtain ⟨hx, hb, hml, hown, hts, -, -, hfr, hlo, hK, hE, hok⟩ := C
  subst hst
  refine va_calli (va_runS (ret := rt) (maxL := nL1) (bytes := cc1) ⟨hx, hb, hml, hown, hts⟩ hM ⟨callB_of n hts (g_good hcal.2.1) rfl rfl rfl (hts _ hcal.2.2.1) (hts _ hw) hcal.1 ⟨Nat.le_trans hR.1 hfr, Nat.le_trans hR.2 hlo⟩, hts _ h1⟩ ⟨g_blind hok.2 _, fun U hU hW => ⟨rfl, g_exHere C0 hp U hU hW⟩⟩ rfl hn hsz rfl (lv_room hcat) hdg ⟨Nat.zero_le _, Nat.zero_le _⟩) hp.2 (fun q _ h => h) (fun q h => h) (fun r M2 t H1 locs1 ht hvm hpo hB hz1 hk1 hS => ?_)
  obtain ⟨rfl, rfl⟩ := hpo
  refine kk H1 locs1 ⟨?_, hS⟩
  rw [← ht]
  exact hB
theorem r_callVI (C : g_CX G V p R s m args meth c cc nL ret own nf nl) (hsz : ls.size = nL) (hp : g_PT G V M s H locs) {y : MethodName} {cc1 : ByteArray} {nL1 nf1 nl1 n idx kb : Nat} {rt : Option FieldType} {As st : List Value} {M' : g_M} {x : Int} (hM : MetI G V l y cc1 nL1 rt nf1 nl1 (.ref (V.2.2 kb) :: As) M x M') (hw : Cond.methodLink own idx y ∈ GT) (h1 : Cond.instanceMethod y ∈ GT) (h5 : Cond.selects y.cls y y ∈ GT) {ci N : Nat} {fs : List Nat} {T : u_T} (hkb : kb < G.2.2.1) (hsb : G.2.1 kb = .inr (ci, fs)) (hcb : G.1[ci]? = some (y.cls, T, N)) (hcal : g_cal y cc1 nL1 rt n) (hn : As.length = n) (hst : st = As.reverse ++ .ref (V.2.2 kb) :: rest) (hcat : (rest.map fun v => v.category).sum ≤ 8) (hR : nf1 + 1 ≤ nf ∧ 8 + (nL1 + 11) + nl1 ≤ nl) (hdg : decode cc pc = .ok (.invokevirtual idx, 3)) (kk : ∀ (H1 : Heap) (locs1 : List Loc), g_PT G V M' s H1 locs1 → W p l e R s m args below meth c H1 locs1 0 0 Q (F0 m (pc + 3) ls (.int (gI x) :: rest))) : W p l e R s m args below meth c H locs 0 0 Q (F0 m pc ls st) := by
  have C0 := C
  obtain ⟨hx, hb, hml, hown, hts, -, -, hfr, hlo, hK, hE, hok⟩ := C
  subst hst
  refine va_calli (va_runV (ret := rt) (maxL := nL1) (bytes := cc1) (C := y.cls) ⟨hx, hb, hml, hown, hts⟩ hM ⟨callB_of n hts (g_good hcal.2.1) rfl rfl rfl (hts _ hcal.2.2.1) (hts _ hw) hcal.1 ⟨Nat.le_trans hR.1 hfr, Nat.le_trans hR.2 hlo⟩, hts _ h1, hts _ h5⟩ ⟨g_blind hok.2 _, va_recv hK hp.1 hcb (g_W_get hkb hsb), fun U hU hW => ⟨rfl, g_exHere C0 hp U hU hW⟩⟩ rfl hn hsz rfl (lv_room hcat) hdg ⟨Nat.zero_le _, Nat.zero_le _⟩) hp.2 (fun q _ h => h) (fun q h => h) (fun r M2 t H1 locs1 ht hvm hpo hB hz1 hk1 hS => ?_)
  obtain ⟨rfl, rfl⟩ := hpo
  refine kk H1 locs1 ⟨?_, hS⟩
  rw [← ht]
  exact hB
theorem r_callNI (C : g_CX G V p R s m args meth c cc nL ret own nf nl) (hsz : ls.size = nL) (hp : g_PT G V M s H locs) {y : MethodName} {cc1 : ByteArray} {nL1 nf1 nl1 n idx : Nat} {rt : Option FieldType} {As st : List Value} {M' : g_M} {x : Int} (hM : MetI G V l y cc1 nL1 rt nf1 nl1 As M x M') {host : String} (hw : va_Nw (.methodLinkNest own idx y host) s) (h1 : Cond.static y ∈ GT) (hcal : g_cal y cc1 nL1 rt n) (hn : As.length = n) (hst : st = As.reverse ++ rest) (hcat : (rest.map fun v => v.category).sum ≤ 8) (hR : nf1 + 1 ≤ nf ∧ 8 + (nL1 + 11) + nl1 ≤ nl) (hdg : decode cc pc = .ok (.invokestatic idx, 3)) (kk : ∀ (H1 : Heap) (locs1 : List Loc), g_PT G V M' s H1 locs1 → W p l e R s m args below meth c H1 locs1 0 0 Q (F0 m (pc + 3) ls (.int (gI x) :: rest))) : W p l e R s m args below meth c H locs 0 0 Q (F0 m pc ls st) := by
  have C0 := C
  obtain ⟨hx, hb, hml, hown, hts, -, -, hfr, hlo, hK, hE, hok⟩ := C
  subst hst
  refine va_calli (va_runSN (ret := rt) (maxL := nL1) (bytes := cc1) ⟨hx, hb, hml, hown, hts⟩ hM ⟨va_cnB n hts (g_good hcal.2.1) rfl rfl rfl hw (hts _ hcal.2.2.1) hcal.1 ⟨Nat.le_trans hR.1 hfr, Nat.le_trans hR.2 hlo⟩, hts _ h1, trivial⟩ ⟨g_blind hok.2 _, fun U hU hW => ⟨rfl, g_exHere C0 hp U hU hW⟩⟩ rfl hn hsz rfl (lv_room hcat) hdg ⟨Nat.zero_le _, Nat.zero_le _⟩) hp.2 (fun q _ h => h) (fun q h => h) (fun r M2 t H1 locs1 ht hvm hpo hB hz1 hk1 hS => ?_)
  obtain ⟨rfl, rfl⟩ := hpo
  refine kk H1 locs1 ⟨?_, hS⟩
  rw [← ht]
  exact hB
theorem r_callSL (C : g_CX G V p R s m args meth c cc nL ret own nf nl) (hsz : ls.size = nL) (hp : g_PT G V M s H locs) {y : MethodName} {cc1 : ByteArray} {nL1 nf1 nl1 n idx : Nat} {rt : Option FieldType} {As st : List Value} {M' : g_M} {x : Int} (hM : MetL G V l y cc1 nL1 rt nf1 nl1 As M x M') (hw : Cond.methodLink own idx y ∈ GT) (h1 : Cond.static y ∈ GT) (hcal : g_cal y cc1 nL1 rt n) (hn : As.length = n) (hst : st = As.reverse ++ rest) (hcat : (rest.map fun v => v.category).sum ≤ 8) (hR : nf1 + 1 ≤ nf ∧ 8 + (nL1 + 11) + nl1 ≤ nl) (hdg : decode cc pc = .ok (.invokestatic idx, 3)) (kk : ∀ (H1 : Heap) (locs1 : List Loc), g_PT G V M' s H1 locs1 → W p l e R s m args below meth c H1 locs1 0 0 Q (F0 m (pc + 3) ls (.long (gJ x) :: rest))) : W p l e R s m args below meth c H locs 0 0 Q (F0 m pc ls st) := by
  have C0 := C
  obtain ⟨hx, hb, hml, hown, hts, -, -, hfr, hlo, hK, hE, hok⟩ := C
  subst hst
  refine va_calll (va_runS (ret := rt) (maxL := nL1) (bytes := cc1) ⟨hx, hb, hml, hown, hts⟩ hM ⟨callB_of n hts (g_good hcal.2.1) rfl rfl rfl (hts _ hcal.2.2.1) (hts _ hw) hcal.1 ⟨Nat.le_trans hR.1 hfr, Nat.le_trans hR.2 hlo⟩, hts _ h1⟩ ⟨g_blind hok.2 _, fun U hU hW => ⟨rfl, g_exHere C0 hp U hU hW⟩⟩ rfl hn hsz rfl (lv_room hcat) hdg ⟨Nat.zero_le _, Nat.zero_le _⟩) hp.2 (fun q _ h => h) (fun q h => h) (fun r M2 t H1 locs1 ht hvm hpo hB hz1 hk1 hS => ?_)
  obtain ⟨rfl, rfl⟩ := hpo
  refine kk H1 locs1 ⟨?_, hS⟩
  rw [← ht]
  exact hB
theorem r_callVL (C : g_CX G V p R s m args meth c cc nL ret own nf nl) (hsz : ls.size = nL) (hp : g_PT G V M s H locs) {y : MethodName} {cc1 : ByteArray} {nL1 nf1 nl1 n idx kb : Nat} {rt : Option FieldType} {As st : List Value} {M' : g_M} {x : Int} (hM : MetL G V l y cc1 nL1 rt nf1 nl1 (.ref (V.2.2 kb) :: As) M x M') (hw : Cond.methodLink own idx y ∈ GT) (h1 : Cond.instanceMethod y ∈ GT) (h5 : Cond.selects y.cls y y ∈ GT) {ci N : Nat} {fs : List Nat} {T : u_T} (hkb : kb < G.2.2.1) (hsb : G.2.1 kb = .inr (ci, fs)) (hcb : G.1[ci]? = some (y.cls, T, N)) (hcal : g_cal y cc1 nL1 rt n) (hn : As.length = n) (hst : st = As.reverse ++ .ref (V.2.2 kb) :: rest) (hcat : (rest.map fun v => v.category).sum ≤ 8) (hR : nf1 + 1 ≤ nf ∧ 8 + (nL1 + 11) + nl1 ≤ nl) (hdg : decode cc pc = .ok (.invokevirtual idx, 3)) (kk : ∀ (H1 : Heap) (locs1 : List Loc), g_PT G V M' s H1 locs1 → W p l e R s m args below meth c H1 locs1 0 0 Q (F0 m (pc + 3) ls (.long (gJ x) :: rest))) : W p l e R s m args below meth c H locs 0 0 Q (F0 m pc ls st) := by
  have C0 := C
  obtain ⟨hx, hb, hml, hown, hts, -, -, hfr, hlo, hK, hE, hok⟩ := C
  subst hst
  refine va_calll (va_runV (ret := rt) (maxL := nL1) (bytes := cc1) (C := y.cls) ⟨hx, hb, hml, hown, hts⟩ hM ⟨callB_of n hts (g_good hcal.2.1) rfl rfl rfl (hts _ hcal.2.2.1) (hts _ hw) hcal.1 ⟨Nat.le_trans hR.1 hfr, Nat.le_trans hR.2 hlo⟩, hts _ h1, hts _ h5⟩ ⟨g_blind hok.2 _, va_recv hK hp.1 hcb (g_W_get hkb hsb), fun U hU hW => ⟨rfl, g_exHere C0 hp U hU hW⟩⟩ rfl hn hsz rfl (lv_room hcat) hdg ⟨Nat.zero_le _, Nat.zero_le _⟩) hp.2 (fun q _ h => h) (fun q h => h) (fun r M2 t H1 locs1 ht hvm hpo hB hz1 hk1 hS => ?_)
  obtain ⟨rfl, rfl⟩ := hpo
  refine kk H1 locs1 ⟨?_, hS⟩
  rw [← ht]
  exact hB
theorem r_callNL (C : g_CX G V p R s m args meth c cc nL ret own nf nl) (hsz : ls.size = nL) (hp : g_PT G V M s H locs) {y : MethodName} {cc1 : ByteArray} {nL1 nf1 nl1 n idx : Nat} {rt : Option FieldType} {As st : List Value} {M' : g_M} {x : Int} (hM : MetL G V l y cc1 nL1 rt nf1 nl1 As M x M') {host : String} (hw : va_Nw (.methodLinkNest own idx y host) s) (h1 : Cond.static y ∈ GT) (hcal : g_cal y cc1 nL1 rt n) (hn : As.length = n) (hst : st = As.reverse ++ rest) (hcat : (rest.map fun v => v.category).sum ≤ 8) (hR : nf1 + 1 ≤ nf ∧ 8 + (nL1 + 11) + nl1 ≤ nl) (hdg : decode cc pc = .ok (.invokestatic idx, 3)) (kk : ∀ (H1 : Heap) (locs1 : List Loc), g_PT G V M' s H1 locs1 → W p l e R s m args below meth c H1 locs1 0 0 Q (F0 m (pc + 3) ls (.long (gJ x) :: rest))) : W p l e R s m args below meth c H locs 0 0 Q (F0 m pc ls st) := by
  have C0 := C
  obtain ⟨hx, hb, hml, hown, hts, -, -, hfr, hlo, hK, hE, hok⟩ := C
  subst hst
  refine va_calll (va_runSN (ret := rt) (maxL := nL1) (bytes := cc1) ⟨hx, hb, hml, hown, hts⟩ hM ⟨va_cnB n hts (g_good hcal.2.1) rfl rfl rfl hw (hts _ hcal.2.2.1) hcal.1 ⟨Nat.le_trans hR.1 hfr, Nat.le_trans hR.2 hlo⟩, hts _ h1, trivial⟩ ⟨g_blind hok.2 _, fun U hU hW => ⟨rfl, g_exHere C0 hp U hU hW⟩⟩ rfl hn hsz rfl (lv_room hcat) hdg ⟨Nat.zero_le _, Nat.zero_le _⟩) hp.2 (fun q _ h => h) (fun q h => h) (fun r M2 t H1 locs1 ht hvm hpo hB hz1 hk1 hS => ?_)
  obtain ⟨rfl, rfl⟩ := hpo
  refine kk H1 locs1 ⟨?_, hS⟩
  rw [← ht]
  exact hB
theorem r_callSV (C : g_CX G V p R s m args meth c cc nL ret own nf nl) (hsz : ls.size = nL) (hp : g_PT G V M s H locs) {y : MethodName} {cc1 : ByteArray} {nL1 nf1 nl1 n idx : Nat} {rt : Option FieldType} {As st : List Value} {M' : g_M}  (hM : MetV G V l y cc1 nL1 rt nf1 nl1 As M  M') (hw : Cond.methodLink own idx y ∈ GT) (h1 : Cond.static y ∈ GT) (hcal : g_cal y cc1 nL1 rt n) (hn : As.length = n) (hst : st = As.reverse ++ rest) (hcat : (rest.map fun v => v.category).sum ≤ 8) (hR : nf1 + 1 ≤ nf ∧ 8 + (nL1 + 11) + nl1 ≤ nl) (hdg : decode cc pc = .ok (.invokestatic idx, 3)) (kk : ∀ (H1 : Heap) (locs1 : List Loc), g_PT G V M' s H1 locs1 → W p l e R s m args below meth c H1 locs1 0 0 Q (F0 m (pc + 3) ls (rest))) : W p l e R s m args below meth c H locs 0 0 Q (F0 m pc ls st) := by
  have C0 := C
  obtain ⟨hx, hb, hml, hown, hts, -, -, hfr, hlo, hK, hE, hok⟩ := C
  subst hst
  refine va_callv (va_runS (ret := rt) (maxL := nL1) (bytes := cc1) ⟨hx, hb, hml, hown, hts⟩ hM ⟨callB_of n hts (g_good hcal.2.1) rfl rfl rfl (hts _ hcal.2.2.1) (hts _ hw) hcal.1 ⟨Nat.le_trans hR.1 hfr, Nat.le_trans hR.2 hlo⟩, hts _ h1⟩ ⟨g_blind hok.2 _, fun U hU hW => ⟨rfl, g_exHere C0 hp U hU hW⟩⟩ rfl hn hsz rfl (lv_room hcat) hdg ⟨Nat.zero_le _, Nat.zero_le _⟩) hp.2 (fun q _ h => h) (fun q h => h) (fun M2 t H1 locs1 ht hvm hpo hB hz1 hk1 hS => ?_)
  subst hpo
  refine kk H1 locs1 ⟨?_, hS⟩
  rw [← ht]
  exact hB
theorem r_callVV (C : g_CX G V p R s m args meth c cc nL ret own nf nl) (hsz : ls.size = nL) (hp : g_PT G V M s H locs) {y : MethodName} {cc1 : ByteArray} {nL1 nf1 nl1 n idx kb : Nat} {rt : Option FieldType} {As st : List Value} {M' : g_M}  (hM : MetV G V l y cc1 nL1 rt nf1 nl1 (.ref (V.2.2 kb) :: As) M  M') (hw : Cond.methodLink own idx y ∈ GT) (h1 : Cond.instanceMethod y ∈ GT) (h5 : Cond.selects y.cls y y ∈ GT) {ci N : Nat} {fs : List Nat} {T : u_T} (hkb : kb < G.2.2.1) (hsb : G.2.1 kb = .inr (ci, fs)) (hcb : G.1[ci]? = some (y.cls, T, N)) (hcal : g_cal y cc1 nL1 rt n) (hn : As.length = n) (hst : st = As.reverse ++ .ref (V.2.2 kb) :: rest) (hcat : (rest.map fun v => v.category).sum ≤ 8) (hR : nf1 + 1 ≤ nf ∧ 8 + (nL1 + 11) + nl1 ≤ nl) (hdg : decode cc pc = .ok (.invokevirtual idx, 3)) (kk : ∀ (H1 : Heap) (locs1 : List Loc), g_PT G V M' s H1 locs1 → W p l e R s m args below meth c H1 locs1 0 0 Q (F0 m (pc + 3) ls (rest))) : W p l e R s m args below meth c H locs 0 0 Q (F0 m pc ls st) := by
  have C0 := C
  obtain ⟨hx, hb, hml, hown, hts, -, -, hfr, hlo, hK, hE, hok⟩ := C
  subst hst
  refine va_callv (va_runV (ret := rt) (maxL := nL1) (bytes := cc1) (C := y.cls) ⟨hx, hb, hml, hown, hts⟩ hM ⟨callB_of n hts (g_good hcal.2.1) rfl rfl rfl (hts _ hcal.2.2.1) (hts _ hw) hcal.1 ⟨Nat.le_trans hR.1 hfr, Nat.le_trans hR.2 hlo⟩, hts _ h1, hts _ h5⟩ ⟨g_blind hok.2 _, va_recv hK hp.1 hcb (g_W_get hkb hsb), fun U hU hW => ⟨rfl, g_exHere C0 hp U hU hW⟩⟩ rfl hn hsz rfl (lv_room hcat) hdg ⟨Nat.zero_le _, Nat.zero_le _⟩) hp.2 (fun q _ h => h) (fun q h => h) (fun M2 t H1 locs1 ht hvm hpo hB hz1 hk1 hS => ?_)
  subst hpo
  refine kk H1 locs1 ⟨?_, hS⟩
  rw [← ht]
  exact hB
theorem r_callNV (C : g_CX G V p R s m args meth c cc nL ret own nf nl) (hsz : ls.size = nL) (hp : g_PT G V M s H locs) {y : MethodName} {cc1 : ByteArray} {nL1 nf1 nl1 n idx : Nat} {rt : Option FieldType} {As st : List Value} {M' : g_M}  (hM : MetV G V l y cc1 nL1 rt nf1 nl1 As M  M') {host : String} (hw : va_Nw (.methodLinkNest own idx y host) s) (h1 : Cond.static y ∈ GT) (hcal : g_cal y cc1 nL1 rt n) (hn : As.length = n) (hst : st = As.reverse ++ rest) (hcat : (rest.map fun v => v.category).sum ≤ 8) (hR : nf1 + 1 ≤ nf ∧ 8 + (nL1 + 11) + nl1 ≤ nl) (hdg : decode cc pc = .ok (.invokestatic idx, 3)) (kk : ∀ (H1 : Heap) (locs1 : List Loc), g_PT G V M' s H1 locs1 → W p l e R s m args below meth c H1 locs1 0 0 Q (F0 m (pc + 3) ls (rest))) : W p l e R s m args below meth c H locs 0 0 Q (F0 m pc ls st) := by
  have C0 := C
  obtain ⟨hx, hb, hml, hown, hts, -, -, hfr, hlo, hK, hE, hok⟩ := C
  subst hst
  refine va_callv (va_runSN (ret := rt) (maxL := nL1) (bytes := cc1) ⟨hx, hb, hml, hown, hts⟩ hM ⟨va_cnB n hts (g_good hcal.2.1) rfl rfl rfl hw (hts _ hcal.2.2.1) hcal.1 ⟨Nat.le_trans hR.1 hfr, Nat.le_trans hR.2 hlo⟩, hts _ h1, trivial⟩ ⟨g_blind hok.2 _, fun U hU hW => ⟨rfl, g_exHere C0 hp U hU hW⟩⟩ rfl hn hsz rfl (lv_room hcat) hdg ⟨Nat.zero_le _, Nat.zero_le _⟩) hp.2 (fun q _ h => h) (fun q h => h) (fun M2 t H1 locs1 ht hvm hpo hB hz1 hk1 hS => ?_)
  subst hpo
  refine kk H1 locs1 ⟨?_, hS⟩
  rw [← ht]
  exact hB
theorem r_callSR (C : g_CX G V p R s m args meth c cc nL ret own nf nl) (hsz : ls.size = nL) (hp : g_PT G V M s H locs) {y : MethodName} {cc1 : ByteArray} {nL1 nf1 nl1 n idx : Nat} {rt : Option FieldType} {As st : List Value} {M' : g_M} {x : Nat} (hM : MetR G V l y cc1 nL1 rt nf1 nl1 As M x M') (hw : Cond.methodLink own idx y ∈ GT) (h1 : Cond.static y ∈ GT) (hcal : g_cal y cc1 nL1 rt n) (hn : As.length = n) (hst : st = As.reverse ++ rest) (hcat : (rest.map fun v => v.category).sum ≤ 8) (hR : nf1 + 1 ≤ nf ∧ 8 + (nL1 + 11) + nl1 ≤ nl) (hdg : decode cc pc = .ok (.invokestatic idx, 3)) (kk : ∀ (H1 : Heap) (locs1 : List Loc), g_PT G V M' s H1 locs1 → W p l e R s m args below meth c H1 locs1 0 0 Q (F0 m (pc + 3) ls (.ref (V.2.2 x) :: rest))) : W p l e R s m args below meth c H locs 0 0 Q (F0 m pc ls st) := by
  have C0 := C
  obtain ⟨hx, hb, hml, hown, hts, -, -, hfr, hlo, hK, hE, hok⟩ := C
  subst hst
  refine va_callr (va_runS (ret := rt) (maxL := nL1) (bytes := cc1) ⟨hx, hb, hml, hown, hts⟩ hM ⟨callB_of n hts (g_good hcal.2.1) rfl rfl rfl (hts _ hcal.2.2.1) (hts _ hw) hcal.1 ⟨Nat.le_trans hR.1 hfr, Nat.le_trans hR.2 hlo⟩, hts _ h1⟩ ⟨g_blind hok.2 _, fun U hU hW => ⟨rfl, g_exHere C0 hp U hU hW⟩⟩ rfl hn hsz rfl (lv_room hcat) hdg ⟨Nat.zero_le _, Nat.zero_le _⟩) hp.2 (fun q _ h => h) (fun q h => h) (fun M2 ra t H1 locs1 ht hvm hpo hB0 hz1 hk1 hS => ?_)
  subst hpo
  obtain ⟨rfl, hB⟩ := hB0
  refine kk H1 locs1 ⟨?_, hS⟩
  rw [← ht]
  exact hB
theorem r_callVR (C : g_CX G V p R s m args meth c cc nL ret own nf nl) (hsz : ls.size = nL) (hp : g_PT G V M s H locs) {y : MethodName} {cc1 : ByteArray} {nL1 nf1 nl1 n idx kb : Nat} {rt : Option FieldType} {As st : List Value} {M' : g_M} {x : Nat} (hM : MetR G V l y cc1 nL1 rt nf1 nl1 (.ref (V.2.2 kb) :: As) M x M') (hw : Cond.methodLink own idx y ∈ GT) (h1 : Cond.instanceMethod y ∈ GT) (h5 : Cond.selects y.cls y y ∈ GT) {ci N : Nat} {fs : List Nat} {T : u_T} (hkb : kb < G.2.2.1) (hsb : G.2.1 kb = .inr (ci, fs)) (hcb : G.1[ci]? = some (y.cls, T, N)) (hcal : g_cal y cc1 nL1 rt n) (hn : As.length = n) (hst : st = As.reverse ++ .ref (V.2.2 kb) :: rest) (hcat : (rest.map fun v => v.category).sum ≤ 8) (hR : nf1 + 1 ≤ nf ∧ 8 + (nL1 + 11) + nl1 ≤ nl) (hdg : decode cc pc = .ok (.invokevirtual idx, 3)) (kk : ∀ (H1 : Heap) (locs1 : List Loc), g_PT G V M' s H1 locs1 → W p l e R s m args below meth c H1 locs1 0 0 Q (F0 m (pc + 3) ls (.ref (V.2.2 x) :: rest))) : W p l e R s m args below meth c H locs 0 0 Q (F0 m pc ls st) := by
  have C0 := C
  obtain ⟨hx, hb, hml, hown, hts, -, -, hfr, hlo, hK, hE, hok⟩ := C
  subst hst
  refine va_callr (va_runV (ret := rt) (maxL := nL1) (bytes := cc1) (C := y.cls) ⟨hx, hb, hml, hown, hts⟩ hM ⟨callB_of n hts (g_good hcal.2.1) rfl rfl rfl (hts _ hcal.2.2.1) (hts _ hw) hcal.1 ⟨Nat.le_trans hR.1 hfr, Nat.le_trans hR.2 hlo⟩, hts _ h1, hts _ h5⟩ ⟨g_blind hok.2 _, va_recv hK hp.1 hcb (g_W_get hkb hsb), fun U hU hW => ⟨rfl, g_exHere C0 hp U hU hW⟩⟩ rfl hn hsz rfl (lv_room hcat) hdg ⟨Nat.zero_le _, Nat.zero_le _⟩) hp.2 (fun q _ h => h) (fun q h => h) (fun M2 ra t H1 locs1 ht hvm hpo hB0 hz1 hk1 hS => ?_)
  subst hpo
  obtain ⟨rfl, hB⟩ := hB0
  refine kk H1 locs1 ⟨?_, hS⟩
  rw [← ht]
  exact hB
theorem r_callNR (C : g_CX G V p R s m args meth c cc nL ret own nf nl) (hsz : ls.size = nL) (hp : g_PT G V M s H locs) {y : MethodName} {cc1 : ByteArray} {nL1 nf1 nl1 n idx : Nat} {rt : Option FieldType} {As st : List Value} {M' : g_M} {x : Nat} (hM : MetR G V l y cc1 nL1 rt nf1 nl1 As M x M') {host : String} (hw : va_Nw (.methodLinkNest own idx y host) s) (h1 : Cond.static y ∈ GT) (hcal : g_cal y cc1 nL1 rt n) (hn : As.length = n) (hst : st = As.reverse ++ rest) (hcat : (rest.map fun v => v.category).sum ≤ 8) (hR : nf1 + 1 ≤ nf ∧ 8 + (nL1 + 11) + nl1 ≤ nl) (hdg : decode cc pc = .ok (.invokestatic idx, 3)) (kk : ∀ (H1 : Heap) (locs1 : List Loc), g_PT G V M' s H1 locs1 → W p l e R s m args below meth c H1 locs1 0 0 Q (F0 m (pc + 3) ls (.ref (V.2.2 x) :: rest))) : W p l e R s m args below meth c H locs 0 0 Q (F0 m pc ls st) := by
  have C0 := C
  obtain ⟨hx, hb, hml, hown, hts, -, -, hfr, hlo, hK, hE, hok⟩ := C
  subst hst
  refine va_callr (va_runSN (ret := rt) (maxL := nL1) (bytes := cc1) ⟨hx, hb, hml, hown, hts⟩ hM ⟨va_cnB n hts (g_good hcal.2.1) rfl rfl rfl hw (hts _ hcal.2.2.1) hcal.1 ⟨Nat.le_trans hR.1 hfr, Nat.le_trans hR.2 hlo⟩, hts _ h1, trivial⟩ ⟨g_blind hok.2 _, fun U hU hW => ⟨rfl, g_exHere C0 hp U hU hW⟩⟩ rfl hn hsz rfl (lv_room hcat) hdg ⟨Nat.zero_le _, Nat.zero_le _⟩) hp.2 (fun q _ h => h) (fun q h => h) (fun M2 ra t H1 locs1 ht hvm hpo hB0 hz1 hk1 hS => ?_)
  subst hpo
  obtain ⟨rfl, hB⟩ := hB0
  refine kk H1 locs1 ⟨?_, hS⟩
  rw [← ht]
  exact hB
end
