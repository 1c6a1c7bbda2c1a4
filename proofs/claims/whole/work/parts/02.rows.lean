/-! The generic layer. A method's model is a pure function over Int; its memory is g_M: cell -> place -> Int. Every row turns W at an instruction, with 'model = some res' at hand, into W at the next with what is left of the model. -/
def GT : List Cond := lw_tbl.filter goodWord
theorem gd_of {α : Type} {c : Prop} [Decidable c] {a : Option α} {r : α} (h : g_gd c a = some r) : c ∧ a = some r := by
  unfold g_gd at h
  split at h
  · exact ⟨by assumption, h⟩
  · cases h
theorem bd_of {α β : Type} {o : Option α} {f : α → Option β} {r : β} (h : o.bind f = some r) : ∃ a, o = some a ∧ f a = some r := by
  cases o with
  | none => cases h
  | some a => exact ⟨a, rfl, h⟩
theorem bW_of {β : Type} {o : Option (Int × g_M)} {f : Int → g_M → Option β} {r : β} (h : g_bW o f = some r) : ∃ x M, o = some (x, M) ∧ f x M = some r := by
  unfold g_bW at h
  obtain ⟨⟨x, M⟩, h1, h2⟩ := bd_of h
  exact ⟨x, M, h1, h2⟩
theorem gI_add (x y : Int) : gI x + gI y = gI (x + y) := (Int32.ofInt_add x y).symm
theorem gI_sub (x y : Int) : gI x - gI y = gI (x - y) := (Int32.ofInt_sub x y).symm
theorem gI_mul (x y : Int) : gI x * gI y = gI (x * y) := (Int32.ofInt_mul x y).symm
theorem gI_neg (x : Int) : -gI x = gI (-x) := (Int32.ofInt_neg x).symm
theorem gI_of (x : Int32) : gI x.toInt = x := Int32.ofInt_toInt x
theorem gI_gs (x : Int) : gI (gs x) = gI x := gI_of _
theorem gJ_add (x y : Int) : gJ x + gJ y = gJ (x + y) := (Int64.ofInt_add x y).symm
theorem gJ_sub (x y : Int) : gJ x - gJ y = gJ (x - y) := (Int64.ofInt_sub x y).symm
theorem gJ_mul (x y : Int) : gJ x * gJ y = gJ (x * y) := (Int64.ofInt_mul x y).symm
theorem gJ_neg (x : Int) : -gJ x = gJ (-x) := (Int64.ofInt_neg x).symm
theorem gJ_of (x : Int64) : gJ x.toInt = x := Int64.ofInt_toInt x
theorem gJ_gl (x : Int) : gJ (gl x) = gJ x := gJ_of _
theorem gI_lt (x y : Int) : gI x < gI y ↔ gs x < gs y := Int32.lt_iff_toInt_lt
theorem gI_le (x y : Int) : gI x ≤ gI y ↔ gs x ≤ gs y := Int32.le_iff_toInt_le
theorem gI_eq (x y : Int) : gI x = gI y ↔ gs x = gs y := Int32.toInt_inj.symm
theorem gJ_lt (x y : Int) : gJ x < gJ y ↔ gl x < gl y := Int64.lt_iff_toInt_lt
theorem gJ_eq (x y : Int) : gJ x = gJ y ↔ gl x = gl y := Int64.toInt_inj.symm
theorem gI_0 : gI 0 = 0 := rfl
theorem gJ_0 : gJ 0 = 0 := rfl
theorem gl_id {x : Int} (h1 : -9223372036854775808 ≤ x) (h2 : x < 9223372036854775808) : gl x = x := by
  unfold gl gJ
  rw [Int64.toInt_ofInt]
  exact Int.bmod_eq_of_le (by simpa using h1) (by simpa using h2)
theorem gs_0 : gs 0 = 0 := gs_id (by decide) (by decide)
theorem gI_div (x y : Int) : gI x / gI y = gI (g_div x y) := by
  apply Int32.toInt_inj.mp
  rw [Int32.toInt_div]
  exact Int32.toInt_ofInt.symm
theorem gI_rem (x y : Int) : gI x - gI x / gI y * gI y = gI (g_rem x y) := by
  rw [gI_div, gI_mul, gI_sub]
  have h : gI (x - g_div x y * y) = gI (gs x - g_div x y * gs y) := by
    rw [← gI_sub, ← gI_mul, ← gI_sub, ← gI_mul, gI_gs, gI_gs]
  rw [h]
  congr 1
  unfold g_div g_rem
  rw [Int.tmod_def, Int.mul_comm]
theorem gJ_div (x y : Int) : gJ x / gJ y = gJ (g_ldiv x y) := by
  apply Int64.toInt_inj.mp
  rw [Int64.toInt_div]
  exact Int64.toInt_ofInt.symm
theorem gJ_rem (x y : Int) : gJ x - gJ x / gJ y * gJ y = gJ (g_lrem x y) := by
  rw [gJ_div, gJ_mul, gJ_sub]
  have h : gJ (x - g_ldiv x y * y) = gJ (gl x - g_ldiv x y * gl y) := by
    rw [← gJ_sub, ← gJ_mul, ← gJ_sub, ← gJ_mul, gJ_gl, gJ_gl]
  rw [h]
  congr 1
  unfold g_ldiv g_lrem
  rw [Int.tmod_def, Int.mul_comm]
theorem gI_i2l (x : Int) : (gI x).toInt64 = gJ (gs x) := by
  apply Int64.toInt_inj.mp
  rw [Int32.toInt_toInt64]
  have h1 : -2147483648 ≤ gs x := Int32.le_toInt (gI x)
  have h2 : gs x < 2147483648 := Int32.toInt_lt (gI x)
  exact (gl_id (x := gs x) (by omega) (by omega)).symm
theorem gJ_l2i (x : Int) : (gJ x).toInt32 = gI x := by
  unfold gJ gI
  first | exact Int64.toInt32_ofInt x | simp
theorem g_in {x : Int} {n : Nat} (h : g_ix x n) : vp_in (gI x) n := vp_in_iff.mpr h

-- ===== the world: cells 0 .. n-1 of fixed shapes at the addresses ad k; an array: (kind, length, references) with kind 0 int, 1 long, 2 boolean, 3 references; an object: (class number, fields) with 0 int, 1 long, k + 2 the cell k
abbrev g_Sh : Type := (Nat × Nat × (Nat → Nat)) ⊕ (Nat × List Nat)
abbrev g_G : Type := List vw_C × (Nat → g_Sh) × Nat × ((Nat → Prop) → State → Heap → Prop)
abbrev g_V : Type := va_G × (Nat → ClassId) × (Nat → Nat)
def g_fv (ad : Nat → Nat) (M : g_M) (k j : Nat) : Nat → Value
  | 0 => .int (gI (M k j))
  | 1 => .long (gJ (M k j))
  | t + 2 => .ref (ad t)
def g_cell (V : g_V) (M : g_M) (k : Nat) : g_Sh → va_E
  | .inl (0, n, _) => .inl (V.2.1 0, n, .inl (fun j => gI (M k j)))
  | .inl (1, n, _) => .inl (V.2.1 1, n, .inr (.inl (fun j => gJ (M k j))))
  | .inl (2, n, _) => .inl (V.2.1 2, n, .inl (fun j => gI (M k j)))
  | .inl (_, n, r) => .inl (V.2.1 3, n, .inr (.inr (.inr (.inr (fun j => some (V.2.2 (r j)))))))
  | .inr (c, fs) => .inr (c, (List.range fs.length).map fun j => g_fv V.2.2 M k j (fs.getD j 0))
def g_W (G : g_G) (V : g_V) (M : g_M) : va_W := (List.range G.2.2.1).map fun k => (V.2.2 k, g_cell V M k (G.2.1 k))
def g_A (G : g_G) (V : g_V) : Nat → Prop := fun q => ∃ k, k < G.2.2.1 ∧ q = V.2.2 k
def g_tys (V : g_V) : List (ClassId × FieldType) := [(V.2.1 0, .int), (V.2.1 1, .long), (V.2.1 2, .boolean), (V.2.1 3, .object "FilmLooksBack$Text")]
def g_PT (G : g_G) (V : g_V) (M : g_M) (s : State) (H : Heap) (locs : List Loc) : Prop := va_P V.1 G.1 (g_W G V M) H ∧ va_S (g_A G V) s.heap H locs
def g_ST (G : g_G) (V : g_V) (M : g_M) (U : State) : Prop := va_P V.1 G.1 (g_W G V M) U.heap ∧ va_K V.1 G.1 (g_tys V) U ∧ G.2.2.2 (g_A G V) U U.heap
def g_inj (G : g_G) (V : g_V) : Prop := ∀ i j, i < G.2.2.1 → j < G.2.2.1 → V.2.2 i = V.2.2 j → i = j
def g_exOK (Ex : (Nat → Prop) → State → Heap → Prop) : Prop := (∀ (A : Nat → Prop) (u U : State) (H : Heap), u.WarmedH U.vm → Ex A u H → Ex A U H) ∧ (∀ (A : Nat → Prop) (u U : State) (H : Heap), u.vm = U.vm → Ex A u H → Ex A U H) ∧ (∀ A U H H1, Ex A U H → (∀ a : Nat, a < H.size → ¬ A a → H1[a]? = H[a]?) → Ex A U H1)
def g_ok (G : g_G) (V : g_V) : Prop := g_inj G V ∧ g_exOK G.2.2.2
def g_CX (G : g_G) (V : g_V) (p : Program) (R : Room) (s : State) (m : MethodId) (args : Array Value) (meth : Method) (c : Code) (cc : ByteArray) (nL : Nat) (ret : Option FieldType) (own : String) (nf nl : Nat) : Prop :=
  p.tables.exec = Jvm.exec ∧ c.code = cc ∧ c.maxLocals = nL ∧ s.vm.findClass own = some m.cls ∧ (∀ w ∈ GT, w.before args s = true) ∧ meth.sig.returnType = ret ∧ meth.locks = false ∧ nf ≤ R.frames ∧ nl ≤ R.locals ∧ va_K V.1 G.1 (g_tys V) s ∧ G.2.2.2 (g_A G V) s s.heap ∧ g_ok G V
theorem g_W_get {G : g_G} {V : g_V} {M : g_M} {k : Nat} {x : g_Sh} (hk : k < G.2.2.1) (hs : G.2.1 k = x) : (g_W G V M)[k]? = some (V.2.2 k, g_cell V M k x) := by
  subst hs
  unfold g_W
  rw [List.getElem?_map, List.getElem?_range hk]
  rfl
theorem g_cell_congr {V : g_V} {M M' : g_M} {k : Nat} (h : ∀ b, M k b = M' k b) (x : g_Sh) : g_cell V M k x = g_cell V M' k x := by
  have h' : M k = M' k := funext h
  have hf : ∀ j t, g_fv V.2.2 M k j t = g_fv V.2.2 M' k j t := by
    intro j t
    match t with
    | 0 => simp only [g_fv, h']
    | 1 => simp only [g_fv, h']
    | t + 2 => rfl
  match x with
  | .inl (0, n, r) => simp only [g_cell, h']
  | .inl (1, n, r) => simp only [g_cell, h']
  | .inl (2, n, r) => simp only [g_cell, h']
  | .inl (_ + 3, n, r) => rfl
  | .inr (c, fs) => simp only [g_cell, hf]
theorem g_W_set {G : g_G} {V : g_V} {M M' : g_M} {k : Nat} {x : g_Sh} {e : va_E} (hs : G.2.1 k = x) (ho : ∀ a b, a ≠ k → M a b = M' a b) (he : e = g_cell V M' k x) : (g_W G V M).set k (V.2.2 k, e) = g_W G V M' := by
  subst hs
  subst he
  apply List.ext_getElem?
  intro i
  by_cases hik : i = k
  · subst hik
    by_cases hl : i < G.2.2.1
    · rw [List.getElem?_set_self (by simpa [g_W] using hl), g_W_get hl rfl]
    · rw [List.getElem?_eq_none (by simpa [g_W] using hl), List.getElem?_eq_none (by simpa [g_W] using hl)]
  · rw [List.getElem?_set_ne (Ne.symm hik)]
    unfold g_W
    rw [List.getElem?_map, List.getElem?_map]
    by_cases hl : i < G.2.2.1
    · rw [List.getElem?_range hl]
      exact congrArg some (congrArg (Prod.mk _) (g_cell_congr (fun b => ho i b hik) _))
    · rw [List.getElem?_eq_none (by simpa using hl)]
      rfl
theorem g_cp_neM {M : g_M} {k0 s0 k1 s1 n a b : Nat} (h : a ≠ k1) : M a b = g_cp M k0 s0 k1 s1 n a b := by
  unfold g_cp
  rw [if_neg (fun z => h z.1)]
theorem g_D {G : g_G} {V : g_V} (M : g_M) (hi : g_inj G V) : va_D (g_A G V) (g_W G V M) := by
  have key : ∀ (i : Nat) (q : Nat × va_E), (g_W G V M)[i]? = some q → i < G.2.2.1 ∧ q.1 = V.2.2 i := by
    intro i q h
    have hl : i < G.2.2.1 := by
      have := (List.getElem?_eq_some_iff.mp h).1
      simpa [g_W] using this
    rw [g_W_get hl rfl] at h
    cases h
    exact ⟨hl, rfl⟩
  refine ⟨fun i j p q h1 h2 h3 => ?_, fun i q h => ?_⟩
  · obtain ⟨a1, a2⟩ := key i p h1
    obtain ⟨b1, b2⟩ := key j q h2
    exact hi i j a1 b1 (by rw [← a2, ← b2]; exact h3)
  · obtain ⟨a1, a2⟩ := key i q h
    exact ⟨i, a1, a2⟩
theorem g_fs_get {ad : Nat → Nat} {M : g_M} {k j t : Nat} {fs : List Nat} (h : fs[j]? = some t) : ((List.range fs.length).map fun j => g_fv ad M k j (fs.getD j 0))[j]? = some (g_fv ad M k j t) := by
  have hl := (List.getElem?_eq_some_iff.mp h).1
  rw [List.getElem?_map, List.getElem?_range hl]
  simp [List.getD_eq_getElem?_getD, h]
theorem g_fs_set {ad : Nat → Nat} {M : g_M} {k j t : Nat} {fs : List Nat} {v : Int} (h : fs[j]? = some t) {x : Value} (hx : x = g_fv ad (g_wr M k j v) k j t) : ((List.range fs.length).map fun i => g_fv ad M k i (fs.getD i 0)).set j x = (List.range fs.length).map fun i => g_fv ad (g_wr M k j v) k i (fs.getD i 0) := by
  subst hx
  have hl := (List.getElem?_eq_some_iff.mp h).1
  apply List.ext_getElem?
  intro i
  by_cases hij : i = j
  · subst hij
    rw [List.getElem?_set_self (by simpa using hl), g_fs_get h]
  · rw [List.getElem?_set_ne (Ne.symm hij), List.getElem?_map, List.getElem?_map]
    by_cases hi : i < fs.length
    · rw [List.getElem?_range hi]
      have e : M k i = g_wr M k j v k i := by
        unfold g_wr
        rw [if_neg (fun z => hij z.2)]
      refine congrArg some ?_
      show g_fv ad M k i _ = g_fv ad (g_wr M k j v) k i _
      generalize fs.getD i 0 = t
      match t with
      | 0 => simp only [g_fv, ← e]
      | 1 => simp only [g_fv, ← e]
      | t + 2 => rfl
    · rw [List.getElem?_eq_none (by simpa using hi)]
      rfl
theorem g_upd {M : g_M} {k j : Nat} {v : Int} : upd (fun a => gI (M k a)) j (gI v) = fun a => gI (g_wr M k j v k a) := by
  funext a
  unfold upd g_wr
  by_cases h : a = j
  · simp [h]
  · simp [h]
theorem g_updL {M : g_M} {k j : Nat} {v : Int} : vp_updL (fun a => gJ (M k a)) j (gJ v) = fun a => gJ (g_wr M k j v k a) := by
  funext a
  unfold vp_updL g_wr
  by_cases h : a = j
  · simp [h]
  · simp [h]
