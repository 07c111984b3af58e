/-! walks one behind another: the model -/
def bo (I : Nat → Nat → Int32) : Option (Nat × Nat × Nat × Nat) → Nat → Nat → Int32
  | none => I
  | some x => fun y => if y = 216 then (fun k => if k = 0 then nI x.2.1 else if k = 1 then nI x.2.2.1 else if k = 2 then nI x.2.2.2 else I 216 k) else I y
theorem bo_n {I : Nat → Nat → Int32} {s : Option (Nat × Nat × Nat × Nat)} {y : Nat} (h : y ≠ 216) : bo I s y = I y := by
  cases s with
  | none => rfl
  | some x => exact if_neg h
theorem bo_k {I : Nat → Nat → Int32} {s : Option (Nat × Nat × Nat × Nat)} {k : Nat} (h : 2 < k) : bo I s 216 k = I 216 k := by
  cases s with
  | none => rfl
  | some x =>
    show (if k = 0 then nI x.2.1 else if k = 1 then nI x.2.2.1 else if k = 2 then nI x.2.2.2 else I 216 k) = _
    rw [if_neg (by omega), if_neg (by omega), if_neg (by omega)]
theorem bo_up (I : Nat → Nat → Int32) (s : Option (Nat × Nat × Nat × Nat)) (v a b c : Nat) : up (up (up (bo I s) 216 0 (nI a)) 216 1 (nI b)) 216 2 (nI c) = bo I (some (v, a, b, c)) := by
  funext y k
  by_cases h : y = 216
  · subst h
    rw [up_same, upd_at, up_same, upd_at, up_same, upd_at]
    show _ = (if k = 0 then nI a else if k = 1 then nI b else if k = 2 then nI c else I 216 k)
    by_cases k0 : k = 0
    · subst k0; rfl
    · by_cases k1 : k = 1
      · subst k1; rfl
      · by_cases k2 : k = 2
        · subst k2; rfl
        · rw [if_neg k2, if_neg k1, if_neg k0, if_neg k0, if_neg k1, if_neg k2, bo_k (by omega)]
  · rw [up_ne h, up_ne h, up_ne h, bo_n h, bo_n h]
theorem bo_e {I : Nat → Nat → Int32} {x : Nat × Nat × Nat × Nat} {i : Nat} (h : i < 3) : bo I (some x) 216 i = nI (elt i x.2) := by
  have : i = 0 ∨ i = 1 ∨ i = 2 := by omega
  rcases this with rfl | rfl | rfl <;> rfl
def wg (f : Nat → Nat) (m a b c : Nat) : Option (Nat × Nat × Nat × Nat) := some (f a + (if 1 < m then f b else 0) + (if 2 < m then f c else 0), a, b, c)
def okb (s : Option (Nat × Nat × Nat × Nat)) : Prop := ∀ y, s = some y → y.1 ≤ 4000000000000
theorem okb_cmb {s x : Option (Nat × Nat × Nat × Nat)} (hs : okb s) (hx : okb x) : okb (cmb s x) := by
  intro y hy
  cases x with
  | none => exact hs y hy
  | some x =>
    cases s with
    | none => exact hx y hy
    | some s =>
      rw [cmb_s] at hy
      split at hy
      · exact hx y hy
      · exact hs y hy
theorem okb_co {g : Nat → Option (Nat × Nat × Nat × Nat)} (h : ∀ j, okb (g j)) : ∀ d i, okb (co g d i)
  | 0, _ => fun y hy => by cases hy
  | d + 1, i => okb_cmb (h i) (okb_co h d (i + 1))
theorem okb_wg {f : Nat → Nat} (hf : ∀ j, f j ≤ 900000000000) (m a b c : Nat) : okb (wg f m a b c) := by
  intro y hy
  cases hy
  have h1 := hf a
  have h2 := hf b
  have h3 := hf c
  show f a + (if 1 < m then f b else 0) + (if 2 < m then f c else 0) ≤ _
  split <;> split <;> omega
theorem l_wc (I : Nat → Nat → Int32) (J : Nat → Nat → Int64) (q : Bool × Bool) (X : Nat × (Nat → Int32)) {f : Nat → Nat} {n m L a b : Nat} (hf : ∀ j, f j ≤ 900000000000) (hm : m = 1 ∨ m = 2 ∨ m = 3) (hL : L < 16) (ha : a ≤ L) (hb : b ≤ L) (hJ : ∀ p, p ≤ L → J 219 p = lN (f p)) (v3 v4 v5 : Int32) : ∀ d c st (z12 z13 : Value), d = (if 2 < m then L else 0) + 1 - c → c ≤ 100 → okb st → ∃ y11 y12 y13, gb_ex 160 bk_RM_walks_93 [.ref (190 : Nat), .int (nI n), .int (nI m), .int v3, .int v4, .int v5, .long (vl st), .null, .int (nI L), .int (nI a), .int (nI b), .int (nI c), z12, z13] [] gb_pG (gS (bo I st) J q X) = gb_ex 160 bk_RM_walks_149 [.ref (190 : Nat), .int (nI n), .int (nI m), .int v3, .int v4, .int v5, .long (vl (cmb st (co (wg f m a b) d c))), .null, .int (nI L), .int (nI a), .int (nI b), y11, y12, y13] [] gb_pG (gS (bo I (cmb st (co (wg f m a b) d c))) J q X)
  | 0, c, st, z12, z13, e, hc, hst => by
    refine ⟨.int (nI c), z12, z13, ?_⟩
    rw [co, cmb_n, bk_RM_walks_93]
    rcases hm with rfl | rfl | rfl
    · rw [if_neg (by omega)] at e
      simp (disch := first | omega | decide | assumption | simp only [List.length_cons, List.length_nil, Nat.reduceAdd, Nat.reduceLeDiff]) only [x_iload_1, x_i2l, x_l_1, x_aload_0, x_get_643, x_c_0, x_iald, xc_RM_in, x_if_eq, x_iload_2, x_l_3, x_iload_3, xc_RM_isHour, x_iload_4, xc_RM_areEyes, x_iload_5, x_c_m1, x_ic_ge, x_l_m1, x_lret, x_istore_6, x_iload_6, x_iadd, x_ic_gt, x_get_675, x_c_1, x_isub, xc_RM_hopeOf, x_last, x_iinc_6_1, x_goto, x_lstore_6, x_istore_8, x_istore_9, x_iload_9, x_iload_8, x_ic_le, x_istore_10, x_iload_10, x_c_2, x_istore_11, x_iload_11, x_lald, x_l_0, x_ladd, x_lstore_12, x_lload_12, x_lload_6, x_lc_le, x_get_669, x_iast, x_iinc_11_1, x_iinc_10_1, x_iinc_9_1, x_lc_lt, x_ic_lt, x_l_m4, x_if_ge, tg_RM_walks_25, tg_RM_walks_27, tg_RM_walks_29, tg_RM_walks_53, tg_RM_walks_64, tg_RM_walks_74, tg_RM_walks_75, tg_RM_walks_76, tg_RM_walks_82, tg_RM_walks_83, tg_RM_walks_91, tg_RM_walks_92, tg_RM_walks_93, tg_RM_walks_99, tg_RM_walks_100, tg_RM_walks_113, tg_RM_walks_114, tg_RM_walks_123, tg_RM_walks_124, tg_RM_walks_147, tg_RM_walks_149, tg_RM_walks_151, tg_RM_walks_153, tg_RM_walks_160, tg_RM_walks_162, tg_RM_walks_166, tg_RM_walks_171, bk_RM_walks_0, bk_RM_walks_25, bk_RM_walks_27, bk_RM_walks_29, bk_RM_walks_53, bk_RM_walks_64, bk_RM_walks_74, bk_RM_walks_75, bk_RM_walks_76, bk_RM_walks_82, bk_RM_walks_83, bk_RM_walks_91, bk_RM_walks_92, bk_RM_walks_99, bk_RM_walks_100, bk_RM_walks_113, bk_RM_walks_114, bk_RM_walks_123, bk_RM_walks_124, bk_RM_walks_147, bk_RM_walks_151, bk_RM_walks_153, bk_RM_walks_160, bk_RM_walks_162, bk_RM_walks_166, bk_RM_walks_171, kil_int, kil_ref, kil_null, kil_long, kil_rA, psh_int, psh_long, psh_null, gI_gS, gL_gS, gR_gS, sI_gS, sL_gS, orf_some, Option.bind_some, List.length_cons, List.length_nil, Nat.reduceAdd, Nat.reduceLeDiff, if_true, if_false, Nat.zero_le, nI_ltI, nI_leI, nI_eq, nI_ltL, nI_leL, L_ltI, L_leI, nI_eqL, L_eqI, oob_nI, ix_nI, oob_L, ix_L, nI_1, nI_add, nI_z, z_nI, nI_lt0, nI_ge0, nI_gt0, nI_le0, ne_eq, Nat.le_zero_eq, Nat.not_lt_zero, Nat.lt_irrefl, Nat.le_refl, i10, true_or, ne_eq, not_true_eq_false, not_false_eq_true, Bool.false_eq_true, true_and, and_true, and_self, if_true, if_false, or_true, false_or, or_false, or_self, false_and, and_false, Nat.one_ne_zero, n01, Nat.reduceEqDiff, Nat.reduceLeDiff, if_pos (show 0 < c by omega)]
    · rw [if_neg (by omega)] at e
      simp (disch := first | omega | decide | assumption | simp only [List.length_cons, List.length_nil, Nat.reduceAdd, Nat.reduceLeDiff]) only [x_iload_1, x_i2l, x_l_1, x_aload_0, x_get_643, x_c_0, x_iald, xc_RM_in, x_if_eq, x_iload_2, x_l_3, x_iload_3, xc_RM_isHour, x_iload_4, xc_RM_areEyes, x_iload_5, x_c_m1, x_ic_ge, x_l_m1, x_lret, x_istore_6, x_iload_6, x_iadd, x_ic_gt, x_get_675, x_c_1, x_isub, xc_RM_hopeOf, x_last, x_iinc_6_1, x_goto, x_lstore_6, x_istore_8, x_istore_9, x_iload_9, x_iload_8, x_ic_le, x_istore_10, x_iload_10, x_c_2, x_istore_11, x_iload_11, x_lald, x_l_0, x_ladd, x_lstore_12, x_lload_12, x_lload_6, x_lc_le, x_get_669, x_iast, x_iinc_11_1, x_iinc_10_1, x_iinc_9_1, x_lc_lt, x_ic_lt, x_l_m4, x_if_ge, tg_RM_walks_25, tg_RM_walks_27, tg_RM_walks_29, tg_RM_walks_53, tg_RM_walks_64, tg_RM_walks_74, tg_RM_walks_75, tg_RM_walks_76, tg_RM_walks_82, tg_RM_walks_83, tg_RM_walks_91, tg_RM_walks_92, tg_RM_walks_93, tg_RM_walks_99, tg_RM_walks_100, tg_RM_walks_113, tg_RM_walks_114, tg_RM_walks_123, tg_RM_walks_124, tg_RM_walks_147, tg_RM_walks_149, tg_RM_walks_151, tg_RM_walks_153, tg_RM_walks_160, tg_RM_walks_162, tg_RM_walks_166, tg_RM_walks_171, bk_RM_walks_0, bk_RM_walks_25, bk_RM_walks_27, bk_RM_walks_29, bk_RM_walks_53, bk_RM_walks_64, bk_RM_walks_74, bk_RM_walks_75, bk_RM_walks_76, bk_RM_walks_82, bk_RM_walks_83, bk_RM_walks_91, bk_RM_walks_92, bk_RM_walks_99, bk_RM_walks_100, bk_RM_walks_113, bk_RM_walks_114, bk_RM_walks_123, bk_RM_walks_124, bk_RM_walks_147, bk_RM_walks_151, bk_RM_walks_153, bk_RM_walks_160, bk_RM_walks_162, bk_RM_walks_166, bk_RM_walks_171, kil_int, kil_ref, kil_null, kil_long, kil_rA, psh_int, psh_long, psh_null, gI_gS, gL_gS, gR_gS, sI_gS, sL_gS, orf_some, Option.bind_some, List.length_cons, List.length_nil, Nat.reduceAdd, Nat.reduceLeDiff, if_true, if_false, Nat.zero_le, nI_ltI, nI_leI, nI_eq, nI_ltL, nI_leL, L_ltI, L_leI, nI_eqL, L_eqI, oob_nI, ix_nI, oob_L, ix_L, nI_1, nI_add, nI_z, z_nI, nI_lt0, nI_ge0, nI_gt0, nI_le0, ne_eq, Nat.le_zero_eq, Nat.not_lt_zero, Nat.lt_irrefl, Nat.le_refl, i10, true_or, ne_eq, not_true_eq_false, not_false_eq_true, Bool.false_eq_true, true_and, and_true, and_self, if_true, if_false, or_true, false_or, or_false, or_self, false_and, and_false, Nat.one_ne_zero, n01, Nat.reduceEqDiff, Nat.reduceLeDiff, if_pos (show 0 < c by omega)]
    · rw [if_pos (by omega)] at e
      simp (disch := first | omega | decide | assumption | simp only [List.length_cons, List.length_nil, Nat.reduceAdd, Nat.reduceLeDiff]) only [x_iload_1, x_i2l, x_l_1, x_aload_0, x_get_643, x_c_0, x_iald, xc_RM_in, x_if_eq, x_iload_2, x_l_3, x_iload_3, xc_RM_isHour, x_iload_4, xc_RM_areEyes, x_iload_5, x_c_m1, x_ic_ge, x_l_m1, x_lret, x_istore_6, x_iload_6, x_iadd, x_ic_gt, x_get_675, x_c_1, x_isub, xc_RM_hopeOf, x_last, x_iinc_6_1, x_goto, x_lstore_6, x_istore_8, x_istore_9, x_iload_9, x_iload_8, x_ic_le, x_istore_10, x_iload_10, x_c_2, x_istore_11, x_iload_11, x_lald, x_l_0, x_ladd, x_lstore_12, x_lload_12, x_lload_6, x_lc_le, x_get_669, x_iast, x_iinc_11_1, x_iinc_10_1, x_iinc_9_1, x_lc_lt, x_ic_lt, x_l_m4, x_if_ge, tg_RM_walks_25, tg_RM_walks_27, tg_RM_walks_29, tg_RM_walks_53, tg_RM_walks_64, tg_RM_walks_74, tg_RM_walks_75, tg_RM_walks_76, tg_RM_walks_82, tg_RM_walks_83, tg_RM_walks_91, tg_RM_walks_92, tg_RM_walks_93, tg_RM_walks_99, tg_RM_walks_100, tg_RM_walks_113, tg_RM_walks_114, tg_RM_walks_123, tg_RM_walks_124, tg_RM_walks_147, tg_RM_walks_149, tg_RM_walks_151, tg_RM_walks_153, tg_RM_walks_160, tg_RM_walks_162, tg_RM_walks_166, tg_RM_walks_171, bk_RM_walks_0, bk_RM_walks_25, bk_RM_walks_27, bk_RM_walks_29, bk_RM_walks_53, bk_RM_walks_64, bk_RM_walks_74, bk_RM_walks_75, bk_RM_walks_76, bk_RM_walks_82, bk_RM_walks_83, bk_RM_walks_91, bk_RM_walks_92, bk_RM_walks_99, bk_RM_walks_100, bk_RM_walks_113, bk_RM_walks_114, bk_RM_walks_123, bk_RM_walks_124, bk_RM_walks_147, bk_RM_walks_151, bk_RM_walks_153, bk_RM_walks_160, bk_RM_walks_162, bk_RM_walks_166, bk_RM_walks_171, kil_int, kil_ref, kil_null, kil_long, kil_rA, psh_int, psh_long, psh_null, gI_gS, gL_gS, gR_gS, sI_gS, sL_gS, orf_some, Option.bind_some, List.length_cons, List.length_nil, Nat.reduceAdd, Nat.reduceLeDiff, if_true, if_false, Nat.zero_le, nI_ltI, nI_leI, nI_eq, nI_ltL, nI_leL, L_ltI, L_leI, nI_eqL, L_eqI, oob_nI, ix_nI, oob_L, ix_L, nI_1, nI_add, nI_z, z_nI, nI_lt0, nI_ge0, nI_gt0, nI_le0, ne_eq, Nat.le_zero_eq, Nat.not_lt_zero, Nat.lt_irrefl, Nat.le_refl, i10, true_or, ne_eq, not_true_eq_false, not_false_eq_true, Bool.false_eq_true, true_and, and_true, and_self, if_true, if_false, or_true, false_or, or_false, or_self, false_and, and_false, Nat.one_ne_zero, n01, Nat.reduceEqDiff, Nat.reduceLeDiff, if_pos (show L < c by omega)]
  | d + 1, c, st, z12, z13, e, hc, hst => by
    have hwg := okb_wg hf m a b c
    obtain ⟨v, hv⟩ : ∃ v, v = f a + (if 1 < m then f b else 0) + (if 2 < m then f c else 0) := ⟨_, rfl⟩
    have hwe : wg f m a b c = some (v, a, b, c) := by rw [hv]; rfl
    have hvl := vl_lt hst hwg
    obtain ⟨y11, y12, y13, ih⟩ := l_wc I J q X (n := n) hf hm hL ha hb hJ v3 v4 v5 d (c + 1) (cmb st (wg f m a b c)) (.long (lN v)) .null (by omega) (by split at e <;> omega) (okb_cmb hst hwg)
    refine ⟨y11, y12, y13, ?_⟩
    rw [co, ← cmb_a, ← ih]
    have ga := hJ a ha
    have gb := hJ b hb
    have fa := hf a
    have fb' := hf b
    have fc := hf c
    have l0 : (0 : Int64) = lN 0 := rfl
    rw [hwe]
    have hvl' : lN v ≤ vl st ↔ ¬ ov st < (v : Int) := by
      rw [hwe] at hvl
      have hvl : vl st < lN v ↔ ov st < (v : Int) := hvl
      rw [← hvl, Int64.not_lt]
    have ecm : cmb st (some (v, a, b, c)) = if ov st < (v : Int) then some (v, a, b, c) else st := by
      cases st with
      | none => rw [cmb_0]; exact (if_pos (show (-1 : Int) < (v : Int) by omega)).symm
      | some s =>
        rw [cmb_s]
        by_cases cc : s.1 < v
        · rw [if_pos cc]; exact (if_pos (show (s.1 : Int) < (v : Int) by omega)).symm
        · rw [if_neg cc]; exact (if_neg (show ¬ (s.1 : Int) < (v : Int) by omega)).symm
    have bup := bo_up I st v a b c
    have run : gb_ex 160 bk_RM_walks_93 [.ref (190 : Nat), .int (nI n), .int (nI m), .int v3, .int v4, .int v5, .long (vl st), .null, .int (nI L), .int (nI a), .int (nI b), .int (nI c), z12, z13] [] gb_pG (gS (bo I st) J q X) = if ov st < (v : Int) then gb_ex 160 bk_RM_walks_93 [.ref (190 : Nat), .int (nI n), .int (nI m), .int v3, .int v4, .int v5, .long (lN v), .null, .int (nI L), .int (nI a), .int (nI b), .int (nI (c + 1)), .long (lN v), .null] [] gb_pG (gS (bo I (some (v, a, b, c))) J q X) else gb_ex 160 bk_RM_walks_93 [.ref (190 : Nat), .int (nI n), .int (nI m), .int v3, .int v4, .int v5, .long (vl st), .null, .int (nI L), .int (nI a), .int (nI b), .int (nI (c + 1)), .long (lN v), .null] [] gb_pG (gS (bo I st) J q X) := by
      conv => lhs; rw [bk_RM_walks_93]
      clear ih hvl hwg
      rcases hm with rfl | rfl | rfl
      · rw [if_neg (by omega)] at e
        have ev : v = f a := by rw [hv]; simp
        have e1 : (lN (f a) + 0 + 0 : Int64) = lN v := by rw [ev, Int64.add_zero, Int64.add_zero]
        simp (disch := first | omega | decide | assumption | simp only [List.length_cons, List.length_nil, Nat.reduceAdd, Nat.reduceLeDiff]) only [x_iload_1, x_i2l, x_l_1, x_aload_0, x_get_643, x_c_0, x_iald, xc_RM_in, x_if_eq, x_iload_2, x_l_3, x_iload_3, xc_RM_isHour, x_iload_4, xc_RM_areEyes, x_iload_5, x_c_m1, x_ic_ge, x_l_m1, x_lret, x_istore_6, x_iload_6, x_iadd, x_ic_gt, x_get_675, x_c_1, x_isub, xc_RM_hopeOf, x_last, x_iinc_6_1, x_goto, x_lstore_6, x_istore_8, x_istore_9, x_iload_9, x_iload_8, x_ic_le, x_istore_10, x_iload_10, x_c_2, x_istore_11, x_iload_11, x_lald, x_l_0, x_ladd, x_lstore_12, x_lload_12, x_lload_6, x_lc_le, x_get_669, x_iast, x_iinc_11_1, x_iinc_10_1, x_iinc_9_1, x_lc_lt, x_ic_lt, x_l_m4, x_if_ge, tg_RM_walks_25, tg_RM_walks_27, tg_RM_walks_29, tg_RM_walks_53, tg_RM_walks_64, tg_RM_walks_74, tg_RM_walks_75, tg_RM_walks_76, tg_RM_walks_82, tg_RM_walks_83, tg_RM_walks_91, tg_RM_walks_92, tg_RM_walks_93, tg_RM_walks_99, tg_RM_walks_100, tg_RM_walks_113, tg_RM_walks_114, tg_RM_walks_123, tg_RM_walks_124, tg_RM_walks_147, tg_RM_walks_149, tg_RM_walks_151, tg_RM_walks_153, tg_RM_walks_160, tg_RM_walks_162, tg_RM_walks_166, tg_RM_walks_171, bk_RM_walks_0, bk_RM_walks_25, bk_RM_walks_27, bk_RM_walks_29, bk_RM_walks_53, bk_RM_walks_64, bk_RM_walks_74, bk_RM_walks_75, bk_RM_walks_76, bk_RM_walks_82, bk_RM_walks_83, bk_RM_walks_91, bk_RM_walks_92, bk_RM_walks_99, bk_RM_walks_100, bk_RM_walks_113, bk_RM_walks_114, bk_RM_walks_123, bk_RM_walks_124, bk_RM_walks_147, bk_RM_walks_151, bk_RM_walks_153, bk_RM_walks_160, bk_RM_walks_162, bk_RM_walks_166, bk_RM_walks_171, kil_int, kil_ref, kil_null, kil_long, kil_rA, psh_int, psh_long, psh_null, gI_gS, gL_gS, gR_gS, sI_gS, sL_gS, orf_some, Option.bind_some, List.length_cons, List.length_nil, Nat.reduceAdd, Nat.reduceLeDiff, if_true, if_false, Nat.zero_le, at_190, at_216, at_219, al_216, al_219, rw_190_29, rw_190_35, oob_nI, ix_nI, oob_L, ix_L, nI_1, nI_leL, nI_ltL, L_ltI, nI_gt0, i10, true_or, ne_eq, not_true_eq_false, not_false_eq_true, Bool.false_eq_true, true_and, and_true, and_self, if_true, if_false, or_true, false_or, or_false, or_self, false_and, and_false, Nat.one_ne_zero, n01, Nat.reduceEqDiff, Nat.reduceLeDiff, if_neg (show ¬ 0 < c by omega), ga, e1, hvl', bup]
        by_cases cc : ov st < (v : Int)
        · simp only [cc, i10, true_or, ne_eq, not_true_eq_false, not_false_eq_true, Bool.false_eq_true, true_and, and_true, and_self, if_true, if_false, or_true, false_or, or_false, or_self, false_and, and_false, Nat.one_ne_zero, n01, Nat.reduceEqDiff, if_true]
        · simp only [cc, i10, true_or, ne_eq, not_true_eq_false, not_false_eq_true, Bool.false_eq_true, true_and, and_true, and_self, if_true, if_false, or_true, false_or, or_false, or_self, false_and, and_false, Nat.one_ne_zero, n01, Nat.reduceEqDiff, if_false]
      · rw [if_neg (by omega)] at e
        have ev : v = f a + f b := by rw [hv]; simp
        have e1 : (lN (f a) + lN (f b) + 0 : Int64) = lN v := by rw [ev, Int64.add_zero, lN_add]
        simp (disch := first | omega | decide | assumption | simp only [List.length_cons, List.length_nil, Nat.reduceAdd, Nat.reduceLeDiff]) only [x_iload_1, x_i2l, x_l_1, x_aload_0, x_get_643, x_c_0, x_iald, xc_RM_in, x_if_eq, x_iload_2, x_l_3, x_iload_3, xc_RM_isHour, x_iload_4, xc_RM_areEyes, x_iload_5, x_c_m1, x_ic_ge, x_l_m1, x_lret, x_istore_6, x_iload_6, x_iadd, x_ic_gt, x_get_675, x_c_1, x_isub, xc_RM_hopeOf, x_last, x_iinc_6_1, x_goto, x_lstore_6, x_istore_8, x_istore_9, x_iload_9, x_iload_8, x_ic_le, x_istore_10, x_iload_10, x_c_2, x_istore_11, x_iload_11, x_lald, x_l_0, x_ladd, x_lstore_12, x_lload_12, x_lload_6, x_lc_le, x_get_669, x_iast, x_iinc_11_1, x_iinc_10_1, x_iinc_9_1, x_lc_lt, x_ic_lt, x_l_m4, x_if_ge, tg_RM_walks_25, tg_RM_walks_27, tg_RM_walks_29, tg_RM_walks_53, tg_RM_walks_64, tg_RM_walks_74, tg_RM_walks_75, tg_RM_walks_76, tg_RM_walks_82, tg_RM_walks_83, tg_RM_walks_91, tg_RM_walks_92, tg_RM_walks_93, tg_RM_walks_99, tg_RM_walks_100, tg_RM_walks_113, tg_RM_walks_114, tg_RM_walks_123, tg_RM_walks_124, tg_RM_walks_147, tg_RM_walks_149, tg_RM_walks_151, tg_RM_walks_153, tg_RM_walks_160, tg_RM_walks_162, tg_RM_walks_166, tg_RM_walks_171, bk_RM_walks_0, bk_RM_walks_25, bk_RM_walks_27, bk_RM_walks_29, bk_RM_walks_53, bk_RM_walks_64, bk_RM_walks_74, bk_RM_walks_75, bk_RM_walks_76, bk_RM_walks_82, bk_RM_walks_83, bk_RM_walks_91, bk_RM_walks_92, bk_RM_walks_99, bk_RM_walks_100, bk_RM_walks_113, bk_RM_walks_114, bk_RM_walks_123, bk_RM_walks_124, bk_RM_walks_147, bk_RM_walks_151, bk_RM_walks_153, bk_RM_walks_160, bk_RM_walks_162, bk_RM_walks_166, bk_RM_walks_171, kil_int, kil_ref, kil_null, kil_long, kil_rA, psh_int, psh_long, psh_null, gI_gS, gL_gS, gR_gS, sI_gS, sL_gS, orf_some, Option.bind_some, List.length_cons, List.length_nil, Nat.reduceAdd, Nat.reduceLeDiff, if_true, if_false, Nat.zero_le, at_190, at_216, at_219, al_216, al_219, rw_190_29, rw_190_35, oob_nI, ix_nI, oob_L, ix_L, nI_1, nI_leL, nI_ltL, L_ltI, nI_gt0, i10, true_or, ne_eq, not_true_eq_false, not_false_eq_true, Bool.false_eq_true, true_and, and_true, and_self, if_true, if_false, or_true, false_or, or_false, or_self, false_and, and_false, Nat.one_ne_zero, n01, Nat.reduceEqDiff, Nat.reduceLeDiff, if_neg (show ¬ 0 < c by omega), ga, gb, e1, hvl', bup]
        by_cases cc : ov st < (v : Int)
        · simp only [cc, i10, true_or, ne_eq, not_true_eq_false, not_false_eq_true, Bool.false_eq_true, true_and, and_true, and_self, if_true, if_false, or_true, false_or, or_false, or_self, false_and, and_false, Nat.one_ne_zero, n01, Nat.reduceEqDiff, if_true]
        · simp only [cc, i10, true_or, ne_eq, not_true_eq_false, not_false_eq_true, Bool.false_eq_true, true_and, and_true, and_self, if_true, if_false, or_true, false_or, or_false, or_self, false_and, and_false, Nat.one_ne_zero, n01, Nat.reduceEqDiff, if_false]
      · rw [if_pos (by omega)] at e
        have gc := hJ c (by omega)
        have ev : v = f a + f b + f c := by rw [hv]; simp
        have e1 : (lN (f a) + lN (f b) + lN (f c) : Int64) = lN v := by rw [ev, lN_add, lN_add]
        simp (disch := first | omega | decide | assumption | simp only [List.length_cons, List.length_nil, Nat.reduceAdd, Nat.reduceLeDiff]) only [x_iload_1, x_i2l, x_l_1, x_aload_0, x_get_643, x_c_0, x_iald, xc_RM_in, x_if_eq, x_iload_2, x_l_3, x_iload_3, xc_RM_isHour, x_iload_4, xc_RM_areEyes, x_iload_5, x_c_m1, x_ic_ge, x_l_m1, x_lret, x_istore_6, x_iload_6, x_iadd, x_ic_gt, x_get_675, x_c_1, x_isub, xc_RM_hopeOf, x_last, x_iinc_6_1, x_goto, x_lstore_6, x_istore_8, x_istore_9, x_iload_9, x_iload_8, x_ic_le, x_istore_10, x_iload_10, x_c_2, x_istore_11, x_iload_11, x_lald, x_l_0, x_ladd, x_lstore_12, x_lload_12, x_lload_6, x_lc_le, x_get_669, x_iast, x_iinc_11_1, x_iinc_10_1, x_iinc_9_1, x_lc_lt, x_ic_lt, x_l_m4, x_if_ge, tg_RM_walks_25, tg_RM_walks_27, tg_RM_walks_29, tg_RM_walks_53, tg_RM_walks_64, tg_RM_walks_74, tg_RM_walks_75, tg_RM_walks_76, tg_RM_walks_82, tg_RM_walks_83, tg_RM_walks_91, tg_RM_walks_92, tg_RM_walks_93, tg_RM_walks_99, tg_RM_walks_100, tg_RM_walks_113, tg_RM_walks_114, tg_RM_walks_123, tg_RM_walks_124, tg_RM_walks_147, tg_RM_walks_149, tg_RM_walks_151, tg_RM_walks_153, tg_RM_walks_160, tg_RM_walks_162, tg_RM_walks_166, tg_RM_walks_171, bk_RM_walks_0, bk_RM_walks_25, bk_RM_walks_27, bk_RM_walks_29, bk_RM_walks_53, bk_RM_walks_64, bk_RM_walks_74, bk_RM_walks_75, bk_RM_walks_76, bk_RM_walks_82, bk_RM_walks_83, bk_RM_walks_91, bk_RM_walks_92, bk_RM_walks_99, bk_RM_walks_100, bk_RM_walks_113, bk_RM_walks_114, bk_RM_walks_123, bk_RM_walks_124, bk_RM_walks_147, bk_RM_walks_151, bk_RM_walks_153, bk_RM_walks_160, bk_RM_walks_162, bk_RM_walks_166, bk_RM_walks_171, kil_int, kil_ref, kil_null, kil_long, kil_rA, psh_int, psh_long, psh_null, gI_gS, gL_gS, gR_gS, sI_gS, sL_gS, orf_some, Option.bind_some, List.length_cons, List.length_nil, Nat.reduceAdd, Nat.reduceLeDiff, if_true, if_false, Nat.zero_le, at_190, at_216, at_219, al_216, al_219, rw_190_29, rw_190_35, oob_nI, ix_nI, oob_L, ix_L, nI_1, nI_leL, nI_ltI, i10, true_or, ne_eq, not_true_eq_false, not_false_eq_true, Bool.false_eq_true, true_and, and_true, and_self, if_true, if_false, or_true, false_or, or_false, or_self, false_and, and_false, Nat.one_ne_zero, n01, Nat.reduceEqDiff, Nat.reduceLeDiff, if_neg (show ¬ L < c by omega), ga, gb, gc, e1, hvl', bup]
        by_cases cc : ov st < (v : Int)
        · simp only [cc, i10, true_or, ne_eq, not_true_eq_false, not_false_eq_true, Bool.false_eq_true, true_and, and_true, and_self, if_true, if_false, or_true, false_or, or_false, or_self, false_and, and_false, Nat.one_ne_zero, n01, Nat.reduceEqDiff, if_true]
        · simp only [cc, i10, true_or, ne_eq, not_true_eq_false, not_false_eq_true, Bool.false_eq_true, true_and, and_true, and_self, if_true, if_false, or_true, false_or, or_false, or_self, false_and, and_false, Nat.one_ne_zero, n01, Nat.reduceEqDiff, if_false]
    rw [run, ecm]
    by_cases cc : ov st < (v : Int)
    · rw [if_pos cc, if_pos cc]; rfl
    · rw [if_neg cc, if_neg cc]
