/-! String constants: what the reader asks of them -/
def x_sl (i : Nat) : Nat := x_len.getD i 0
def x_sc (i k : Nat) : Int := ((x_byt.getD i []).getD k 0).toInt
def x_sif (c : Int) : List Int32 → Nat → Int
  | [], _ => -1
  | b :: l, k => if gs c = b.toInt then (k : Int) else x_sif c l (k + 1)
def x_si (i : Nat) (c : Int) : Int := x_sif c (x_byt.getD i []) 0
def x_isS (V : g_V) (i kS : Nat) (s : State) : Prop := ∃ adK adV, vk_S 2 x_len x_byt adK adV (g_A xG V) s s.heap ∧ adK i = kS
section
variable {p : Program} {l : Launch} {e : Env} {R : Room} {s : State} {m : MethodId} {args : Array Value} {below : List Frame} {meth : Method} {c : Code} {Q : State → Prop} {V : g_V} {cc : ByteArray} {nL : Nat} {ret : Option FieldType} {nf nl : Nat}
variable {pc : Nat} {ls : Array Slot} {rest : List Value} {H : Heap} {locs : List Loc} {M : g_M} {α : Type} {res : α}
theorem x_str0 (C : g_CX xG V p R s m args meth c cc nL ret RX4 nf nl) (hp : g_PT xG V M s H locs) (hdg : decode cc pc = .ok (.ldc 67, 2)) : ∃ kS : Nat, x_isS V 0 kS s ∧ (W p l e R s m args below meth c H locs 0 0 Q (F0 m (pc + 2) ls (.ref kS :: rest)) → W p l e R s m args below meth c H locs 0 0 Q (F0 m pc ls rest)) := by
  obtain ⟨hx, hb, hml, hown, hts, -, -, hfr, hlo, hK, hE, hok⟩ := C
  obtain ⟨-, -, -, -, ⟨k5, v5, h5, h6, h7⟩, -⟩ := hE
  exact ⟨k5 0, ⟨k5, v5, h5, rfl⟩, fun k => va_ldcS hx hb hown h6 hdg k⟩
theorem x_str1 (C : g_CX xG V p R s m args meth c cc nL ret RX4 nf nl) (hp : g_PT xG V M s H locs) (hdg : decode cc pc = .ok (.ldc 87, 2)) : ∃ kS : Nat, x_isS V 1 kS s ∧ (W p l e R s m args below meth c H locs 0 0 Q (F0 m (pc + 2) ls (.ref kS :: rest)) → W p l e R s m args below meth c H locs 0 0 Q (F0 m pc ls rest)) := by
  obtain ⟨hx, hb, hml, hown, hts, -, -, hfr, hlo, hK, hE, hok⟩ := C
  obtain ⟨-, -, -, -, ⟨k5, v5, h5, h6, h7⟩, -⟩ := hE
  exact ⟨k5 1, ⟨k5, v5, h5, rfl⟩, fun k => va_ldcS hx hb hown h7 hdg k⟩
theorem r_slength (C : g_CX xG V p R s m args meth c cc nL ret RX4 nf nl) (hsz : ls.size = nL) (hp : g_PT xG V M s H locs) {i kS idx : Nat} (hS : x_isS V i kS s) (hi : i < 2) (hw : Cond.methodLink RX4 idx ⟨"java/lang/String", "length", "()I"⟩ ∈ GT) (hcat : (rest.map fun v => v.category).sum ≤ 8) (hR : 8 ≤ nf ∧ 300 ≤ nl) (hdg : decode cc pc = .ok (.invokevirtual idx, 3)) (k : W p l e R s m args below meth c H locs 0 0 Q (F0 m (pc + 3) ls (.int (gI (x_sl i : Int)) :: rest))) : W p l e R s m args below meth c H locs 0 0 Q (F0 m pc ls (.ref kS :: rest)) := by
  sorry
theorem r_scharAt (C : g_CX xG V p R s m args meth c cc nL ret RX4 nf nl) (hsz : ls.size = nL) (hp : g_PT xG V M s H locs) {i kS idx : Nat} {x : Int} {a : Option α} (h : g_gd (g_ix x (x_sl i)) a = some res) (hS : x_isS V i kS s) (hi : i < 2) (hw : Cond.methodLink RX4 idx ⟨"java/lang/String", "charAt", "(I)C"⟩ ∈ GT) (hcat : (rest.map fun v => v.category).sum ≤ 8) (hR : 8 ≤ nf ∧ 300 ≤ nl) (hdg : decode cc pc = .ok (.invokevirtual idx, 3)) (k : a = some res → W p l e R s m args below meth c H locs 0 0 Q (F0 m (pc + 3) ls (.int (gI (x_sc i (gs x).toNat)) :: rest))) : W p l e R s m args below meth c H locs 0 0 Q (F0 m pc ls (.int (gI x) :: .ref kS :: rest)) := by
  sorry
theorem r_sindexOf (C : g_CX xG V p R s m args meth c cc nL ret RX4 nf nl) (hsz : ls.size = nL) (hp : g_PT xG V M s H locs) {i kS idx : Nat} {x : Int} (hS : x_isS V i kS s) (hi : i < 2) (hw : Cond.methodLink RX4 idx ⟨"java/lang/String", "indexOf", "(I)I"⟩ ∈ GT) (hcat : (rest.map fun v => v.category).sum ≤ 8) (hR : 8 ≤ nf ∧ 300 ≤ nl) (hdg : decode cc pc = .ok (.invokevirtual idx, 3)) (k : W p l e R s m args below meth c H locs 0 0 Q (F0 m (pc + 3) ls (.int (gI (x_si i x)) :: rest))) : W p l e R s m args below meth c H locs 0 0 Q (F0 m pc ls (.int (gI x) :: .ref kS :: rest)) := by
  sorry
end
