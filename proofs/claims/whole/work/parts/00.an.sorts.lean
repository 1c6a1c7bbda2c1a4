/-! which CLAUSE begins: the reference's way -/
theorem cz {P K : Int} (h : P = K) : gs (g_cmp P K) = 0 := by
  rw [h]
  unfold g_cmp
  rw [if_neg (by omega), if_pos rfl]
  exact gs0_eq
theorem cnz {P K : Int} (hP : -9000000000000000000 ≤ P ∧ P ≤ 9000000000000000000) (hK : -9000000000000000000 ≤ K ∧ K ≤ 9000000000000000000) (h : P ≠ K) : gs (g_cmp P K) ≠ 0 := by
  rw [cmp_le hP hK]
  by_cases z : K < P
  · rw [if_pos z]; omega
  · rw [if_neg z, if_neg h]; omega
theorem w3_pack {x y z : Int} (hx : 0 ≤ x ∧ x ≤ 255) (hy : 0 ≤ y ∧ y ≤ 255) (hz : 0 ≤ z ∧ z ≤ 255) : m_X9_w3 x y z = some ((x * 256 + y) * 256 + z) := by
  unfold m_X9_w3 m_X9_w2
  rw [bd_some, gs_id (by omega) (by omega), gs_id (by omega) (by omega), gs_id (by omega) (by omega), l_app (x := x) (c := y) (by omega) (by omega), l_app (by omega) (by omega)]
theorem w4_pack {x y z w : Int} (hx : 0 ≤ x ∧ x ≤ 255) (hy : 0 ≤ y ∧ y ≤ 255) (hz : 0 ≤ z ∧ z ≤ 255) (hw : 0 ≤ w ∧ w ≤ 255) : m_X9_w4 x y z w = some (((x * 256 + y) * 256 + z) * 256 + w) := by
  unfold m_X9_w4
  rw [w3_pack hx hy hz, bd_some, gs_id (by omega) (by omega), l_app (by omega) (by omega)]
theorem glad_4 : m_X9_w4 103 108 97 100 = some 1735156068 := by decide +kernel
theorem dens_4 : m_X9_w4 100 101 110 115 = some 1684369011 := by decide +kernel
theorem even_4 : m_X9_w4 101 118 101 110 = some 1702258030 := by decide +kernel
theorem ing_3 : m_X9_w3 105 110 103 = some 6909543 := by decide +kernel
theorem chW_2 : chW 2 0 = 103 ∧ chW 2 1 = 108 ∧ chW 2 2 = 97 ∧ chW 2 3 = 100 ∧ chW 2 4 = 100 ∧ chW 2 5 = 101 ∧ chW 2 6 = 110 ∧ chW 2 7 = 115 := by decide +kernel
theorem chW_8 : chW 8 0 = 101 ∧ chW 8 1 = 118 ∧ chW 8 2 = 101 ∧ chW 8 3 = 110 ∧ chW 8 4 = 105 ∧ chW 8 5 = 110 ∧ chW 8 6 = 103 := by decide +kernel
theorem long_T {b : Nat → Int} {s q T k : Nat} {N : Int} {W : g_M} (h : TW b s q T N W) (h2 : W 0 9 = 2) (hk : k < 33) : T = k ↔ WD (fun i => b (s + i)) (q - s) k := by
  obtain ⟨ls, ht⟩ : (∀ i, s ≤ i → i < q → isL (b i)) ∧ ((T < 33 ∧ WD (fun i => b (s + i)) (q - s) T) ∨ (T = 42 ∧ ∀ j, j < 33 → ¬ WD (fun i => b (s + i)) (q - s) j)) := by
    rcases h with ⟨a, c⟩ | ⟨a, c, -⟩ | ⟨c, x, y, z⟩ | ⟨a, c⟩ | ⟨a, a', c⟩
    · omega
    · omega
    · exact ⟨x, z⟩
    · omega
    · have := (sgn_k ⟨a, a'⟩).1; omega
  refine ⟨fun e => ?_, fun w => ?_⟩
  · rcases ht with ⟨x, y⟩ | ⟨x, y⟩
    · rw [← e]; exact y
    · omega
  · rcases ht with ⟨x, y⟩ | ⟨x, y⟩
    · exact WD_one x hk y w
    · exact absurd w (y k hk)
theorem bytes_at {L s q T : Nat} {N : Int} {b : Nat → Int} {M W : g_M} (hs : SC L b) (h : PS L b s q T N M W) {i : Nat} (hi : s + i < q) : m_X9_byteAt ((s : Int) + (i : Int)) W = some (b (s + i)) ∧ 0 ≤ b (s + i) ∧ b (s + i) ≤ 255 := by
  have a := q_byte (b := b) (V := W) (i := s + i) hs.1 h.2.1.2.1 (fun i hi => (h.2.1.2.2 i hi).2) (by have := h.1.2.1; omega)
  rw [Int.natCast_add] at a
  exact ⟨a, hs.2 _ (by have := h.1.2.1; omega)⟩
theorem q_long8 {L s q T : Nat} {N : Int} {b : Nat → Int} {M W : g_M} (hs : SC L b) (h : PS L b s q T N M W) : m_X9_isLong 1735156068 1684369011 8 W = some (pb (T = 2)) := by
  have tw := h.2.2.2
  have n := TW_9 tw
  have s300 := PS_300 hs h
  have ql := h.1.2.1
  have hL := hs.1
  have w7 : W 0 7 = q := h.2.2.1.2.1
  have w8 : W 0 8 = s := h.2.2.1.2.2.2.1
  have sq := h.1.1
  unfold m_X9_isLong
  by_cases c : W 0 9 = 2
  · have lt := long_T tw c (k := 2) (by omega)
    by_cases c8 : q = s + 8
    · obtain ⟨e0, d0⟩ := bytes_at hs h (i := 0) (by omega)
      obtain ⟨e1, d1⟩ := bytes_at hs h (i := 1) (by omega)
      obtain ⟨e2, d2⟩ := bytes_at hs h (i := 2) (by omega)
      obtain ⟨e3, d3⟩ := bytes_at hs h (i := 3) (by omega)
      obtain ⟨e4, d4⟩ := bytes_at hs h (i := 4) (by omega)
      obtain ⟨e5, d5⟩ := bytes_at hs h (i := 5) (by omega)
      obtain ⟨e6, d6⟩ := bytes_at hs h (i := 6) (by omega)
      obtain ⟨e7, d7⟩ := bytes_at hs h (i := 7) (by omega)
      have e0 : m_X9_byteAt (s : Int) W = some (b (s + 0)) := by rw [← e0]; rw [show (s : Int) + ((0 : Nat) : Int) = s by omega]
      have e1 : m_X9_byteAt ((s : Int) + 1) W = some (b (s + 1)) := e1
      have e2 : m_X9_byteAt ((s : Int) + 2) W = some (b (s + 2)) := e2
      have e3 : m_X9_byteAt ((s : Int) + 3) W = some (b (s + 3)) := e3
      have e4 : m_X9_byteAt ((s : Int) + 4) W = some (b (s + 4)) := e4
      have e5 : m_X9_byteAt ((s : Int) + 5) W = some (b (s + 5)) := e5
      have e6 : m_X9_byteAt ((s : Int) + 6) W = some (b (s + 6)) := e6
      have e7 : m_X9_byteAt ((s : Int) + 7) W = some (b (s + 7)) := e7
      have p1 := w4_pack d0 d1 d2 d3
      have p2 := w4_pack d4 d5 d6 d7
      have wd : WD (fun i => b (s + i)) (q - s) 2 ↔ (b (s + 0) = 103 ∧ b (s + 1) = 108 ∧ b (s + 2) = 97 ∧ b (s + 3) = 100 ∧ b (s + 4) = 100 ∧ b (s + 5) = 101 ∧ b (s + 6) = 110 ∧ b (s + 7) = 115) := by
        obtain ⟨c0, c1, c2, c3, c4, c5, c6, c7⟩ := chW_2
        refine ⟨fun ⟨_, w⟩ => ⟨by rw [← c0]; exact w 0 (by omega), by rw [← c1]; exact w 1 (by omega), by rw [← c2]; exact w 2 (by omega), by rw [← c3]; exact w 3 (by omega), by rw [← c4]; exact w 4 (by omega), by rw [← c5]; exact w 5 (by omega), by rw [← c6]; exact w 6 (by omega), by rw [← c7]; exact w 7 (by omega)⟩, fun ⟨w0, w1, w2, w3, w4, w5, w6, w7⟩ => ⟨by rw [c8]; show s + 8 - s = 8; omega, fun i hi => ?_⟩⟩
        have a : i = 0 ∨ i = 1 ∨ i = 2 ∨ i = 3 ∨ i = 4 ∨ i = 5 ∨ i = 6 ∨ i = 7 := by omega
        rcases a with a | a | a | a | a | a | a | a
        · subst a; exact w0.trans c0.symm
        · subst a; exact w1.trans c1.symm
        · subst a; exact w2.trans c2.symm
        · subst a; exact w3.trans c3.symm
        · subst a; exact w4.trans c4.symm
        · subst a; exact w5.trans c5.symm
        · subst a; exact w6.trans c6.symm
        · subst a; exact w7.trans c7.symm
      generalize b (s + 0) = b0 at *
      generalize b (s + 1) = b1 at *
      generalize b (s + 2) = b2 at *
      generalize b (s + 3) = b3 at *
      generalize b (s + 4) = b4 at *
      generalize b (s + 5) = b5 at *
      generalize b (s + 6) = b6 at *
      generalize b (s + 7) = b7 at *
      rw [if_neg (fun z => z (by rw [c])), if_pos (by rw [w7, w8, c8, gs_id (by omega) (by omega), gs_id (by omega) (by omega)]; omega), jn_eq, if_pos (by rw [gs_id (by omega) (by omega), gs_id (by omega) (by omega)]; omega), w8, bd_eq e4, bd_eq e5, bd_eq e6, bd_eq e7, bd_eq p2]
      show (g_jn (some 0) _ : Option Int) = _
      rw [jn_eq, nm_eq, bd_eq e0, bd_eq e1, bd_eq e2, bd_eq e3, bd_eq p1]
      by_cases x1 : ((b0 * 256 + b1) * 256 + b2) * 256 + b3 = 1735156068
      · rw [if_neg (fun z => z (cz x1))]
        by_cases x2 : ((b4 * 256 + b5) * 256 + b6) * 256 + b7 = 1684369011
        · rw [if_neg (fun z => z (cz x2)), pb_t]
          refine lt.2 (wd.2 ?_)
          clear lt wd n tw h hs
          omega
        · rw [if_pos (cnz (by omega) (by omega) x2), pb_f]
          intro z
          have := wd.1 (lt.1 z)
          clear lt wd n tw h hs
          omega
      · rw [if_pos (cnz (by omega) (by omega) x1), pb_f]
        intro z
        have := wd.1 (lt.1 z)
        clear lt wd n tw h hs
        omega
    · rw [if_neg (fun z => z (by rw [c])), if_neg (by rw [w7, w8, gs_id (by omega) (by omega), gs_id (by omega) (by omega)]; omega), pb_f]
      intro z
      have w := (lt.1 z).1
      have w : q - s = 8 := w
      omega
  · rw [if_pos (gs_ne (by omega) (by omega) c), pb_f (fun z => c (n.2.2.2.2.2.1 (by omega)))]
theorem q_long7 {L s q T : Nat} {N : Int} {b : Nat → Int} {M W : g_M} (hs : SC L b) (h : PS L b s q T N M W) : m_X9_isLong 1702258030 6909543 7 W = some (pb (T = 8)) := by
  have tw := h.2.2.2
  have n := TW_9 tw
  have s300 := PS_300 hs h
  have ql := h.1.2.1
  have hL := hs.1
  have w7 : W 0 7 = q := h.2.2.1.2.1
  have w8 : W 0 8 = s := h.2.2.1.2.2.2.1
  have sq := h.1.1
  unfold m_X9_isLong
  by_cases c : W 0 9 = 2
  · have lt := long_T tw c (k := 8) (by omega)
    by_cases c8 : q = s + 7
    · obtain ⟨e0, d0⟩ := bytes_at hs h (i := 0) (by omega)
      obtain ⟨e1, d1⟩ := bytes_at hs h (i := 1) (by omega)
      obtain ⟨e2, d2⟩ := bytes_at hs h (i := 2) (by omega)
      obtain ⟨e3, d3⟩ := bytes_at hs h (i := 3) (by omega)
      obtain ⟨e4, d4⟩ := bytes_at hs h (i := 4) (by omega)
      obtain ⟨e5, d5⟩ := bytes_at hs h (i := 5) (by omega)
      obtain ⟨e6, d6⟩ := bytes_at hs h (i := 6) (by omega)
      have e0 : m_X9_byteAt (s : Int) W = some (b (s + 0)) := by rw [← e0]; rw [show (s : Int) + ((0 : Nat) : Int) = s by omega]
      have e1 : m_X9_byteAt ((s : Int) + 1) W = some (b (s + 1)) := e1
      have e2 : m_X9_byteAt ((s : Int) + 2) W = some (b (s + 2)) := e2
      have e3 : m_X9_byteAt ((s : Int) + 3) W = some (b (s + 3)) := e3
      have e4 : m_X9_byteAt ((s : Int) + 4) W = some (b (s + 4)) := e4
      have e5 : m_X9_byteAt ((s : Int) + 5) W = some (b (s + 5)) := e5
      have e6 : m_X9_byteAt ((s : Int) + 6) W = some (b (s + 6)) := e6
      have p1 := w4_pack d0 d1 d2 d3
      have p2 := w3_pack d4 d5 d6
      have wd : WD (fun i => b (s + i)) (q - s) 8 ↔ (b (s + 0) = 101 ∧ b (s + 1) = 118 ∧ b (s + 2) = 101 ∧ b (s + 3) = 110 ∧ b (s + 4) = 105 ∧ b (s + 5) = 110 ∧ b (s + 6) = 103) := by
        obtain ⟨c0, c1, c2, c3, c4, c5, c6⟩ := chW_8
        refine ⟨fun ⟨_, w⟩ => ⟨by rw [← c0]; exact w 0 (by omega), by rw [← c1]; exact w 1 (by omega), by rw [← c2]; exact w 2 (by omega), by rw [← c3]; exact w 3 (by omega), by rw [← c4]; exact w 4 (by omega), by rw [← c5]; exact w 5 (by omega), by rw [← c6]; exact w 6 (by omega)⟩, fun ⟨w0, w1, w2, w3, w4, w5, w6⟩ => ⟨by rw [c8]; show s + 7 - s = 7; omega, fun i hi => ?_⟩⟩
        have a : i = 0 ∨ i = 1 ∨ i = 2 ∨ i = 3 ∨ i = 4 ∨ i = 5 ∨ i = 6 := by omega
        rcases a with a | a | a | a | a | a | a
        · subst a; exact w0.trans c0.symm
        · subst a; exact w1.trans c1.symm
        · subst a; exact w2.trans c2.symm
        · subst a; exact w3.trans c3.symm
        · subst a; exact w4.trans c4.symm
        · subst a; exact w5.trans c5.symm
        · subst a; exact w6.trans c6.symm
      generalize b (s + 0) = b0 at *
      generalize b (s + 1) = b1 at *
      generalize b (s + 2) = b2 at *
      generalize b (s + 3) = b3 at *
      generalize b (s + 4) = b4 at *
      generalize b (s + 5) = b5 at *
      generalize b (s + 6) = b6 at *
      rw [if_neg (fun z => z (by rw [c])), if_pos (by rw [w7, w8, c8, gs_id (by omega) (by omega), gs_id (by omega) (by omega)]; omega), jn_eq, if_neg (fun z => z rfl), w8, bd_eq e4, bd_eq e5, bd_eq e6, bd_eq p2]
      show (g_jn (some 0) _ : Option Int) = _
      rw [jn_eq, nm_eq, bd_eq e0, bd_eq e1, bd_eq e2, bd_eq e3, bd_eq p1]
      by_cases x1 : ((b0 * 256 + b1) * 256 + b2) * 256 + b3 = 1702258030
      · rw [if_neg (fun z => z (cz x1))]
        by_cases x2 : (b4 * 256 + b5) * 256 + b6 = 6909543
        · rw [if_neg (fun z => z (cz x2)), pb_t]
          refine lt.2 (wd.2 ?_)
          clear lt wd n tw h hs
          omega
        · rw [if_pos (cnz (by omega) (by omega) x2), pb_f]
          intro z
          have := wd.1 (lt.1 z)
          clear lt wd n tw h hs
          omega
      · rw [if_pos (cnz (by omega) (by omega) x1), pb_f]
        intro z
        have := wd.1 (lt.1 z)
        clear lt wd n tw h hs
        omega
    · rw [if_neg (fun z => z (by rw [c])), if_neg (by rw [w7, w8, gs_id (by omega) (by omega), gs_id (by omega) (by omega)]; omega), pb_f]
      intro z
      have w := (lt.1 z).1
      have w : q - s = 7 := w
      omega
  · rw [if_pos (gs_ne (by omega) (by omega) c), pb_f (fun z => c (n.2.2.2.2.2.1 (by omega)))]
def sortI (T : Nat) : Int := if T = 0 then 0 else if T = 1 then 1 else if T = 2 then 2 else if T = 24 then 3 else if T = 3 then 4 else if T = 4 then 5 else if T = 5 then 6 else if T = 6 then 7 else if T = 7 then 8 else if T = 8 then 9 else -1
theorem pb_ite {α : Type} {p : Prop} [Decidable p] {A B : α} : (if gs (pb p) = 0 then A else B) = if p then B else A := by
  by_cases c : p
  · rw [if_neg (fun z => pb_eq0.1 z c), if_pos c]
  · rw [if_pos (pb_eq0.2 c), if_neg c]
theorem st_w {b : Nat → Int} {s q T : Nat} {N : Int} {W : g_M} (h : TW b s q T N W) {k : Nat} {o : Option Int} {A B : Option Int} (ho : o = some (cw k)) (hk : k < 33) (k2 : k ≠ 2) (k8 : k ≠ 8) : (o.bind fun x => (m_X9_isWord x W).bind fun y => if gs y = 0 then A else B) = if T = k then B else A := by
  rw [bd_eq ho, bd_eq (t_word h hk k2 k8), pb_ite]
theorem q_sortOf {L s q T : Nat} {N : Int} {b : Nat → Int} {M W : g_M} (hs : SC L b) (h : PS L b s q T N M W) : m_X9_sortOf W = some (sortI T) := by
  have tw := h.2.2.2
  have e8 := q_long8 hs h
  have e7 := q_long7 hs h
  unfold m_X9_sortOf
  rw [st_w tw cwe_0 (by omega) (by omega) (by omega), st_w tw cwe_1 (by omega) (by omega) (by omega), bd_eq glad_4, bd_eq dens_4, bd_eq e8, pb_ite, st_w tw cwe_24 (by omega) (by omega) (by omega), st_w tw cwe_3 (by omega) (by omega) (by omega), st_w tw cwe_4 (by omega) (by omega) (by omega), st_w tw cwe_5 (by omega) (by omega) (by omega), st_w tw cwe_6 (by omega) (by omega) (by omega), st_w tw cwe_7 (by omega) (by omega) (by omega), bd_eq even_4, bd_eq ing_3, bd_eq e7, pb_ite]
  clear e7 e8 tw h hs
  have a : T = 0 ∨ T = 1 ∨ T = 2 ∨ T = 24 ∨ T = 3 ∨ T = 4 ∨ T = 5 ∨ T = 6 ∨ T = 7 ∨ T = 8 ∨ (8 < T ∧ T ≠ 24) := by omega
  rcases a with a | a | a | a | a | a | a | a | a | a | a
  all_goals first
    | (subst a; rfl)
    | (unfold sortI; rw [if_neg (by omega), if_neg (by omega), if_neg (by omega), if_neg (by omega), if_neg (by omega), if_neg (by omega), if_neg (by omega), if_neg (by omega), if_neg (by omega), if_neg (by omega), if_neg (by omega), if_neg (by omega), if_neg (by omega), if_neg (by omega), if_neg (by omega), if_neg (by omega), if_neg (by omega), if_neg (by omega), if_neg (by omega), if_neg (by omega)])
