/-! what the pure part needs: names of the machine layer that speak of no machine -/
abbrev g_M : Type := Nat → Nat → Int
def gI (x : Int) : Int32 := Int32.ofInt x
def gJ (x : Int) : Int64 := Int64.ofInt x
def gs (x : Int) : Int := (gI x).toInt
def gl (x : Int) : Int := (gJ x).toInt
def g_div (x y : Int) : Int := (gs x).tdiv (gs y)
def g_rem (x y : Int) : Int := (gs x).tmod (gs y)
def g_ldiv (x y : Int) : Int := (gl x).tdiv (gl y)
def g_lrem (x y : Int) : Int := (gl x).tmod (gl y)
def g_shl (x y : Int) : Int := (gI x <<< (gI y &&& 31)).toInt
def g_shr (x y : Int) : Int := (gI x >>> (gI y &&& 31)).toInt
def g_iushr (x y : Int) : Int := ((gI x).toUInt32 >>> ((gI y).toUInt32 &&& Int32.toUInt32 31)).toInt32.toInt
def g_bW {β : Type} (o : Option (Int × g_M)) (f : Int → g_M → Option β) : Option β := o.bind (fun q => f q.1 q.2)
def g_and (x y : Int) : Int := (gI x &&& gI y).toInt
def g_or (x y : Int) : Int := (gI x ||| gI y).toInt
def g_lor (x y : Int) : Int := (gJ x ||| gJ y).toInt
def g_lshl (x y : Int) : Int := (gJ x <<< ((gI y).toInt64 &&& 63)).toInt
def g_lshr (x y : Int) : Int := (gJ x >>> ((gI y).toInt64 &&& 63)).toInt
def g_i2c (x : Int) : Int := ((gI x).toUInt32 % 65536).toInt32.toInt
def g_cmp (x y : Int) : Int := if gl y < gl x then 1 else if gl x = gl y then 0 else -1
def g_min (x y : Int) : Int := if gs y < gs x then y else x
def g_max (x y : Int) : Int := if gs x < gs y then y else x
def g_wr (M : g_M) (k j : Nat) (v : Int) : g_M := fun a b => if a = k ∧ b = j then v else M a b
def g_cp (M : g_M) (k0 s0 k1 s1 n : Nat) : g_M := fun a b => if a = k1 ∧ s1 ≤ b ∧ b < s1 + n then M k0 (s0 + (b - s1)) else M a b
def g_nm {α β : Type} (v : α) (f : α → β) : β := f v
def g_jn {γ α : Type} (K : γ) (b : γ → α) : α := b K
def g_gd {α : Type} (c : Prop) [Decidable c] (a : Option α) : Option α := if c then a else none
abbrev g_ix (x : Int) (n : Nat) : Prop := 0 ≤ gs x ∧ gs x < n
theorem gs_id {x : Int} (h1 : -2147483648 ≤ x) (h2 : x < 2147483648) : gs x = x := by
  unfold gs gI
  rw [Int32.toInt_ofInt]
  exact Int.bmod_eq_of_le (by simpa using h1) (by simpa using h2)
theorem g_wr_ne {M : g_M} {k j : Nat} {v : Int} {a b : Nat} (h : a ≠ k) : M a b = g_wr M k j v a b := by
  unfold g_wr
  rw [if_neg (fun z => h z.1)]
theorem g_wr_at (M : g_M) (k j : Nat) (v : Int) : g_wr M k j v k j = v := by
  unfold g_wr
  rw [if_pos ⟨rfl, rfl⟩]
def x_txt (j : Nat) : Nat := 41 + 6 * j
abbrev xT (t : Nat) : Prop := t = 25 ∨ t = 35 ∨ t = 41 ∨ t = 47 ∨ t = 53 ∨ t = 59
def x_len : List Nat := [160, 12]
def x_byt : List (List Int32) := [[99, 117, 101, 115, 32, 115, 116, 97, 121, 115, 32, 103, 108, 97, 100, 100, 101, 110, 115, 32, 107, 105, 110, 100, 32, 112, 101, 114, 115, 111, 110, 32, 115, 101, 97, 116, 32, 99, 97, 108, 108, 32, 109, 101, 110, 100, 32, 101, 118, 101, 110, 105, 110, 103, 32, 98, 121, 32, 116, 111, 32, 111, 102, 32, 105, 110, 32, 107, 105, 110, 100, 115, 32, 105, 102, 32, 116, 104, 101, 110, 32, 101, 108, 115, 101, 32, 101, 110, 100, 32, 110, 111, 116, 32, 97, 110, 100, 32, 111, 114, 32, 100, 97, 121, 32, 115, 101, 101, 110, 32, 112, 108, 97, 105, 110, 32, 115, 99, 101, 110, 101, 32, 115, 104, 111, 119, 110, 32, 100, 114, 97, 119, 32, 99, 117, 101, 32, 110, 101, 120, 116, 32, 119, 104, 111, 32, 103, 108, 97, 100, 32, 114, 111, 119, 32, 108, 111, 110, 103, 32], [60, 62, 61, 35, 43, 45, 42, 47, 37, 40, 41, 59]]
def x_nl (j : Nat) : Int := [7, 7, 7, 3, 1, 1, 2, 2, 4, 4, 4, 4].getD j 0
def x_lt (j : Nat) : Int := [78125, 15625, 3125, 625, 125, 25, 5, 1].getD j 0
def g_fuel : Nat := 1000000
def g_depth : Nat := 100
def x_sl (i : Nat) : Nat := x_len.getD i 0
def x_sc (i k : Nat) : Int := ((x_byt.getD i []).getD k 0).toInt
def x_sif (c : Int) : List Int32 → Nat → Int
  | [], _ => -1
  | b :: l, k => if gs c = b.toInt then (k : Int) else x_sif c l (k + 1)
def x_si (i : Nat) (c : Int) : Int := x_sif c (x_byt.getD i []) 0
