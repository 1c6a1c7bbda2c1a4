/-! more rows -/
theorem g_nz0 : narrow .boolean (.int (gI 0)) = .int (gI 0) := rfl
theorem g_nz1 : narrow .boolean (.int (gI 1)) = .int (gI 1) := rfl
theorem g_nzg {x : Int} (h : x = 0 ∨ x = 1) : narrow .boolean (.int (gI x)) = .int (gI x) := by rcases h with rfl | rfl <;> rfl
section
variable {p : Program} {l : Launch} {e : Env} {R : Room} {s : State} {m : MethodId} {args : Array Value} {below : List Frame} {meth : Method} {c : Code} {Q : State → Prop} {G : g_G} {V : g_V} {cc : ByteArray} {nL : Nat} {ret : Option FieldType} {own : String} {nf nl : Nat}
variable {pc : Nat} {ls : Array Slot} {rest : List Value} {H : Heap} {locs : List Loc} {M : g_M} {α β : Type} {res : α}

theorem g_cpuL {M : g_M} {k0 k1 s0 s1 n : Nat} : va_cpy (fun a => gJ (M k0 a)) (fun a => gJ (M k1 a)) s0 s1 n = fun a => gJ (g_cp M k0 s0 k1 s1 n k1 a) := by
  funext a
  unfold va_cpy g_cp
  by_cases h : s1 ≤ a ∧ a < s1 + n
  · rw [if_pos h, if_pos ⟨rfl, h⟩]
  · rw [if_neg h, if_neg (fun z => h z.2)]
theorem r_copyl (C : g_CX G V p R s m args meth c cc nL ret own nf nl) (hsz : ls.size = nL) (hp : g_PT G V M s H locs) {k0 k1 n0 n1 idx : Nat} {r0 r1 : Nat → Nat} {sp dp n : Int} {f : g_M → Option α} (h : g_gd (0 ≤ gs sp ∧ 0 ≤ gs dp ∧ 0 ≤ gs n ∧ gs sp + gs n ≤ n0 ∧ gs dp + gs n ≤ n1) (g_nm (g_cp M k0 (gs sp).toNat k1 (gs dp).toNat (gs n).toNat) f) = some res)
    (hk0 : k0 < G.2.2.1) (hs0 : G.2.1 k0 = .inl (1, n0, r0)) (hk1 : k1 < G.2.2.1) (hs1 : G.2.1 k1 = .inl (1, n1, r1))
    (hw : Cond.methodLink own idx arraycopyName ∈ GT) (h1 : Cond.native arraycopyName ∈ GT) (h2 : Cond.static arraycopyName ∈ GT) (h3 : Cond.initialized "java/lang/System" ∈ GT)
    (hf : 1 ≤ nf) (hl : (rest.map fun v => v.category).sum + (nativeFrameWords "java/lang/System" "arraycopy" 5 + 11) ≤ nl) (hdg : decode cc pc = .ok (.invokestatic idx, 3))
    (kk : ∀ (M1 : g_M) (H1 : Heap) (locs1 : List Loc), f M1 = some res → g_PT G V M1 s H1 locs1 → W p l e R s m args below meth c H1 locs1 0 0 Q (F0 m (pc + 3) ls rest)) : W p l e R s m args below meth c H locs 0 0 Q (F0 m pc ls (.int (gI n) :: .int (gI dp) :: .ref (V.2.2 k1) :: .int (gI sp) :: .ref (V.2.2 k0) :: rest)) := by
  obtain ⟨⟨g1, g2, g3, g4, g5⟩, h⟩ := gd_of h
  have hc : c.maxLocals = ls.size := by rw [hsz]; exact C.2.2.1
  have neg : ∀ z : Int, 0 ≤ gs z → ¬ gI z < 0 := fun z hz q => by
    rw [← gI_0, gI_lt, gs_0] at q
    omega
  have tn : ∀ z : Int, (gI z).toNatClampNeg = (gs z).toNat := fun z => rfl
  refine va_copyl C.1 C.2.1 hc C.2.2.2.1 (C.2.2.2.2.1 _ hw) (C.2.2.2.2.1 _ h1) (C.2.2.2.2.1 _ h2) (C.2.2.2.2.1 _ h3) C.2.2.2.2.2.2.2.2.2.1 hp.1 (g_D M C.2.2.2.2.2.2.2.2.2.2.2.1) hp.2 k0 k1 1 1 (g_W_get hk0 hs0) (g_W_get hk1 hs1) rfl rfl rfl (neg _ g1) (neg _ g2) (neg _ g3) (by rw [tn, tn]; omega) (by rw [tn, tn]; omega) (fun i hi => rfl) (Nat.le_trans hf C.2.2.2.2.2.2.2.1) (Nat.le_trans hl C.2.2.2.2.2.2.2.2.1) hdg (fun H1 locs1 hP hD hS => kk (g_cp M k0 (gs sp).toNat k1 (gs dp).toNat (gs n).toNat) H1 locs1 h ⟨?_, hS⟩)
  have e := g_W_set (V := V) (M := M) (M' := g_cp M k0 (gs sp).toNat k1 (gs dp).toNat (gs n).toNat) hs1 (fun a b hab => g_cp_neM hab) (congrArg (fun z => (Sum.inl (V.2.1 1, n1, Sum.inr (Sum.inl z)) : va_E)) (g_cpuL (M := M) (k0 := k0) (k1 := k1) (s0 := (gs sp).toNat) (s1 := (gs dp).toNat) (n := (gs n).toNat)))
  rw [← e]
  exact hP
theorem x_names (C : g_CX xG V p R s m args meth c cc nL ret RX4 nf nl) (hp : g_PT xG V M s H locs) (hdg : decode cc pc = .ok (.getstatic 157, 3)) : ∃ tS : Nat, va_T .int tS 12 (fun j => .int (gI (x_nl j))) (g_A xG V) s s.heap ∧ (W p l e R s m args below meth c H locs 0 0 Q (F0 m (pc + 3) ls (.ref tS :: rest)) → W p l e R s m args below meth c H locs 0 0 Q (F0 m pc ls rest)) := by
  obtain ⟨hx, hb, hml, hown, hts, -, -, hfr, hlo, hK, hE, hok⟩ := C
  obtain ⟨h1, h2, ⟨t3, h3, h3'⟩, -⟩ := hE
  exact ⟨t3, h3', fun k => va_getsN hx hb h3 hp.2 hown (va_Nw.use rfl h2) (fun x hx => hx) hdg k⟩
theorem x_later (C : g_CX xG V p R s m args meth c cc nL ret RX5 nf nl) (hp : g_PT xG V M s H locs) {idx : Nat} (hw : Cond.fieldLink RX5 idx "FilmLooksBack$Roster" "LATER" "[I" ∈ GT) (hdg : decode cc pc = .ok (.getstatic idx, 3)) : ∃ tS : Nat, va_T .int tS 8 (fun j => .int (gI (x_lt j))) (g_A xG V) s s.heap ∧ (W p l e R s m args below meth c H locs 0 0 Q (F0 m (pc + 3) ls (.ref tS :: rest)) → W p l e R s m args below meth c H locs 0 0 Q (F0 m pc ls rest)) := by
  obtain ⟨hx, hb, hml, hown, hts, -, -, hfr, hlo, hK, hE, hok⟩ := C
  obtain ⟨h1, h2, -, ⟨t3, h3, h3'⟩, -⟩ := hE
  exact ⟨t3, h3', fun k => va_gets hx hb h3 hp.2 hown (hts _ hw) (fun x hx => hx) hdg k⟩
theorem r_tld (C : g_CX G V p R s m args meth c cc nL ret own nf nl) (hp : g_PT G V M s H locs) {t N : Nat} {f : Nat → Int} (hT : va_T .int t N (fun j => .int (gI (f j))) (g_A G V) s s.heap) {i : Int} {a : Option α} (h : g_gd (g_ix i N) a = some res) (hdg : decode cc pc = .ok (.iaload, 1)) (kk : a = some res → W p l e R s m args below meth c H locs 0 0 Q (F0 m (pc + 1) ls (.int (gI (f (gs i).toNat)) :: rest))) : W p l e R s m args below meth c H locs 0 0 Q (F0 m pc ls (.int (gI i) :: .ref t :: rest)) := by
  obtain ⟨hg, h⟩ := gd_of h
  exact va_ti C.1 C.2.1 hT hp.2 (g_in hg) rfl hdg (kk h)
end
