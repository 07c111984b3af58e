/-! two reckonings -/
def wh (u v : Int) : Nat := if u < v then 1 else if v < u then 2 else 3
def wc (w : Nat) (u b : Int) : Nat → Nat → Nat := sm (fun j => if wh u (b + (j : Int)) = w then 1 else 0)
theorem tw_add (a b : Nat) : nI a + nI b = zI ((a : Int) + b) := by rw [zI_nI, zI_nI, zI_add]
theorem tw_sub (a b : Nat) : nI a - nI b = zI ((a : Int) - b) := by rw [zI_nI, zI_nI, zI_sub]
theorem s_GB_isHour (v : Int32) (p : gb_Pi) (g : gb_Sg) : gb_call 108 [.int v] p g = some (.int (if 0 ≤ v ∧ v ≤ 999 then 1 else 0), p, g) := by
  rw [cl_GB_isHour]
  simp only [x_iload_0, x_c_0, x_c_999, xc_GB_within, x_zret, bk_GB_isHour_0, kil_int, kil_ref, kil_null, kil_long, kil_rA, psh_int, psh_long, psh_null, gI_gS, gL_gS, gR_gS, sI_gS, sL_gS, orf_some, Option.bind_some, List.length_cons, List.length_nil, Nat.reduceAdd, Nat.reduceLeDiff, if_true, if_false, Nat.zero_le, s_GB_within, ite_b3]
theorem s_RM_isHour (v : Int32) (p : gb_Pi) (g : gb_Sg) : gb_call 133 [.int v] p g = some (.int (if 0 ≤ v ∧ v ≤ 999 then 1 else 0), p, g) := by
  rw [cl_RM_isHour]
  simp only [x_iload_0, x_i2l, x_l_0, x_l_999, xc_RM_in, x_zret, bk_RM_isHour_0, kil_int, kil_ref, kil_null, kil_long, kil_rA, psh_int, psh_long, psh_null, gI_gS, gL_gS, gR_gS, sI_gS, sL_gS, orf_some, Option.bind_some, List.length_cons, List.length_nil, Nat.reduceAdd, Nat.reduceLeDiff, if_true, if_false, Nat.zero_le, s_RM_in, ite_b3]
  simp (disch := first | omega | decide) only [w_Lle, w_leL]
theorem l_GB_two2 (g : gb_Sg) {a s b t w : Nat} {u : Int} (ha : a ≤ 999) (hs : s ≤ 9) (hb : b ≤ 999) (ht : t ≤ 9) (hw : w ≤ 3) (hu : -9 ≤ u ∧ u ≤ 1008) (R : Option (Value × gb_Pi × gb_Sg)) : ∀ (d i c : Nat) (z : Value), d + i = 2 * t + 1 →
    (∀ z8 z9, gb_ex 99 bk_GB_two_83 [.ref (0 : Nat), .int (nI a), .int (nI s), .int (nI b), .int (nI t), .int (nI w), .int (nI (c + wc w u ((b : Int) - t) d i)), .int (zI u), z8, z9] [] gb_pG g = R) →
    gb_ex 99 bk_GB_two_60 [.ref (0 : Nat), .int (nI a), .int (nI s), .int (nI b), .int (nI t), .int (nI w), .int (nI c), .int (zI u), .int (zI ((b : Int) - t + i)), z] [] gb_pG g = R
  | 0, i, c, z, e, h => by
    rw [bk_GB_two_60]
    simp only [x_iload_1, xc_GB_isHour, x_if_eq, x_iload_2, x_c_0, x_c_9, xc_GB_within, x_iload_3, x_iload_4, x_iload_5, x_c_3, x_if_ne, x_c_m1, x_iret, x_iadd, x_isub, x_ic_ge, x_c_1, x_goto, x_c_2, x_istore_6, x_istore_7, x_iload_7, x_ic_gt, x_istore_8, x_iload_8, x_istore_9, x_iload_9, x_ic_ne, x_iinc_6_1, x_iinc_8_1, x_iinc_7_1, x_iload_6, tg_GB_two_21, tg_GB_two_23, tg_GB_two_34, tg_GB_two_43, tg_GB_two_44, tg_GB_two_45, tg_GB_two_51, tg_GB_two_60, tg_GB_two_70, tg_GB_two_75, tg_GB_two_76, tg_GB_two_81, tg_GB_two_83, tg_GB_two_85, bk_GB_two_0, bk_GB_two_21, bk_GB_two_23, bk_GB_two_34, bk_GB_two_43, bk_GB_two_44, bk_GB_two_45, bk_GB_two_51, bk_GB_two_70, bk_GB_two_75, bk_GB_two_76, bk_GB_two_81, bk_GB_two_85, kil_int, kil_ref, kil_null, kil_long, kil_rA, psh_int, psh_long, psh_null, gI_gS, gL_gS, gR_gS, sI_gS, sL_gS, orf_some, Option.bind_some, List.length_cons, List.length_nil, Nat.reduceAdd, Nat.reduceLeDiff, if_true, if_false, Nat.zero_le, tw_add]
    simp (disch := first | omega | decide) only [zI_ltI, if_pos (show (b : Int) + t < (b : Int) - t + i by omega)]
    exact h _ _
  | d + 1, i, c, z, e, h => by
    have ih := l_GB_two2 g ha hs hb ht hw hu R d (i + 1) (c + (if wh u ((b : Int) - t + (i : Int)) = w then 1 else 0))
    have e1 : (b : Int) - t + ((i + 1 : Nat) : Int) = (b : Int) - t + i + 1 := by omega
    rw [e1] at ih
    rw [bk_GB_two_60]
    simp only [x_iload_1, xc_GB_isHour, x_if_eq, x_iload_2, x_c_0, x_c_9, xc_GB_within, x_iload_3, x_iload_4, x_iload_5, x_c_3, x_if_ne, x_c_m1, x_iret, x_iadd, x_isub, x_ic_ge, x_c_1, x_goto, x_c_2, x_istore_6, x_istore_7, x_iload_7, x_ic_gt, x_istore_8, x_iload_8, x_istore_9, x_iload_9, x_ic_ne, x_iinc_6_1, x_iinc_8_1, x_iinc_7_1, x_iload_6, tg_GB_two_21, tg_GB_two_23, tg_GB_two_34, tg_GB_two_43, tg_GB_two_44, tg_GB_two_45, tg_GB_two_51, tg_GB_two_60, tg_GB_two_70, tg_GB_two_75, tg_GB_two_76, tg_GB_two_81, tg_GB_two_83, tg_GB_two_85, bk_GB_two_0, bk_GB_two_21, bk_GB_two_23, bk_GB_two_34, bk_GB_two_43, bk_GB_two_44, bk_GB_two_45, bk_GB_two_51, bk_GB_two_70, bk_GB_two_75, bk_GB_two_76, bk_GB_two_81, bk_GB_two_85, kil_int, kil_ref, kil_null, kil_long, kil_rA, psh_int, psh_long, psh_null, gI_gS, gL_gS, gR_gS, sI_gS, sL_gS, orf_some, Option.bind_some, List.length_cons, List.length_nil, Nat.reduceAdd, Nat.reduceLeDiff, if_true, if_false, Nat.zero_le, tw_add, zI_1]
    simp (disch := first | omega | decide) only [zI_ltI, zI_leI, if_neg (show ¬ (b : Int) + t < (b : Int) - t + i by omega)]
    have h' : ∀ z8 z9, gb_ex 99 bk_GB_two_83 [.ref (0 : Nat), .int (nI a), .int (nI s), .int (nI b), .int (nI t), .int (nI w), .int (nI (c + (if wh u ((b : Int) - t + (i : Int)) = w then 1 else 0) + wc w u ((b : Int) - t) d (i + 1))), .int (zI u), z8, z9] [] gb_pG g = R := by
      intro z8 z9
      have := h z8 z9
      unfold wc at this
      rw [sm] at this
      rw [Nat.add_assoc]
      exact this
    have k1 : ¬ (b : Int) - t + i ≤ u ↔ u < (b : Int) - t + i := by omega
    by_cases c1 : u < (b : Int) - t + i
    · have e2 : wh u ((b : Int) - t + (i : Int)) = 1 := if_pos c1
      rw [e2] at ih h'
      simp only [if_neg (show ¬ (b : Int) - t + i ≤ u by omega)]
      simp (disch := first | omega | decide) only [nI_ltI, nI_leI, nI_eq, nI_ltL, nI_leL, L_ltI, L_leI, nI_eqL, L_eqI, oob_nI, ix_nI, oob_L, ix_L, nI_1, nI_add, nI_z, z_nI, nI_lt0, nI_ge0, nI_gt0, nI_le0, ne_eq, Nat.le_zero_eq, Nat.not_lt_zero, Nat.lt_irrefl, Nat.le_refl]
      by_cases c2 : 1 = w
      · subst c2
        simp only [if_true, ne_eq, not_true_eq_false, if_false] at ih h' ⊢
        exact ih _ (by omega) h'
      · simp only [c2, if_false, ne_eq, not_false_eq_true, if_true, Nat.add_zero] at ih h' ⊢
        exact ih _ (by omega) h'
    · simp only [if_pos (show (b : Int) - t + i ≤ u by omega)]
      by_cases c3 : (b : Int) - t + i < u
      · have e2 : wh u ((b : Int) - t + (i : Int)) = 2 := by unfold wh; rw [if_neg c1, if_pos c3]
        rw [e2] at ih h'
        simp only [if_neg (show ¬ u ≤ (b : Int) - t + i by omega)]
        simp (disch := first | omega | decide) only [nI_ltI, nI_leI, nI_eq, nI_ltL, nI_leL, L_ltI, L_leI, nI_eqL, L_eqI, oob_nI, ix_nI, oob_L, ix_L, nI_1, nI_add, nI_z, z_nI, nI_lt0, nI_ge0, nI_gt0, nI_le0, ne_eq, Nat.le_zero_eq, Nat.not_lt_zero, Nat.lt_irrefl, Nat.le_refl]
        by_cases c2 : 2 = w
        · subst c2
          simp only [if_true, ne_eq, not_true_eq_false, if_false] at ih h' ⊢
          exact ih _ (by omega) h'
        · simp only [c2, if_false, ne_eq, not_false_eq_true, if_true, Nat.add_zero] at ih h' ⊢
          exact ih _ (by omega) h'
      · have e2 : wh u ((b : Int) - t + (i : Int)) = 3 := by unfold wh; rw [if_neg c1, if_neg c3]
        rw [e2] at ih h'
        simp only [if_pos (show u ≤ (b : Int) - t + i by omega)]
        simp (disch := first | omega | decide) only [nI_ltI, nI_leI, nI_eq, nI_ltL, nI_leL, L_ltI, L_leI, nI_eqL, L_eqI, oob_nI, ix_nI, oob_L, ix_L, nI_1, nI_add, nI_z, z_nI, nI_lt0, nI_ge0, nI_gt0, nI_le0, ne_eq, Nat.le_zero_eq, Nat.not_lt_zero, Nat.lt_irrefl, Nat.le_refl]
        by_cases c2 : 3 = w
        · subst c2
          simp only [if_true, ne_eq, not_true_eq_false, if_false] at ih h' ⊢
          exact ih _ (by omega) h'
        · simp only [c2, if_false, ne_eq, not_false_eq_true, if_true, Nat.add_zero] at ih h' ⊢
          exact ih _ (by omega) h'
def ws (w a s b t : Nat) : Nat → Nat → Nat := sm (fun i => wc w ((a : Int) - s + (i : Int)) ((b : Int) - t) (2 * t + 1) 0)
theorem l_GB_two1 (g : gb_Sg) {a s b t w : Nat} (ha : a ≤ 999) (hs : s ≤ 9) (hb : b ≤ 999) (ht : t ≤ 9) (hw : w ≤ 3) : ∀ (d i c : Nat) (z8 z9 : Value), d + i = 2 * s + 1 →
    gb_ex 99 bk_GB_two_51 [.ref (0 : Nat), .int (nI a), .int (nI s), .int (nI b), .int (nI t), .int (nI w), .int (nI c), .int (zI ((a : Int) - s + i)), z8, z9] [] gb_pG g = some (.int (nI (c + ws w a s b t d i)), gb_pG, g)
  | 0, i, c, z8, z9, e => by
    rw [bk_GB_two_51]
    simp only [x_iload_1, xc_GB_isHour, x_if_eq, x_iload_2, x_c_0, x_c_9, xc_GB_within, x_iload_3, x_iload_4, x_iload_5, x_c_3, x_if_ne, x_c_m1, x_iret, x_iadd, x_isub, x_ic_ge, x_c_1, x_goto, x_c_2, x_istore_6, x_istore_7, x_iload_7, x_ic_gt, x_istore_8, x_iload_8, x_istore_9, x_iload_9, x_ic_ne, x_iinc_6_1, x_iinc_8_1, x_iinc_7_1, x_iload_6, tg_GB_two_21, tg_GB_two_23, tg_GB_two_34, tg_GB_two_43, tg_GB_two_44, tg_GB_two_45, tg_GB_two_51, tg_GB_two_60, tg_GB_two_70, tg_GB_two_75, tg_GB_two_76, tg_GB_two_81, tg_GB_two_83, tg_GB_two_85, bk_GB_two_0, bk_GB_two_21, bk_GB_two_23, bk_GB_two_34, bk_GB_two_43, bk_GB_two_44, bk_GB_two_45, bk_GB_two_51, bk_GB_two_70, bk_GB_two_75, bk_GB_two_76, bk_GB_two_81, bk_GB_two_85, kil_int, kil_ref, kil_null, kil_long, kil_rA, psh_int, psh_long, psh_null, gI_gS, gL_gS, gR_gS, sI_gS, sL_gS, orf_some, Option.bind_some, List.length_cons, List.length_nil, Nat.reduceAdd, Nat.reduceLeDiff, if_true, if_false, Nat.zero_le, tw_add]
    simp (disch := first | omega | decide) only [zI_ltI, if_pos (show (a : Int) + s < (a : Int) - s + i by omega)]
    rfl
  | d + 1, i, c, z8, z9, e => by
    have e1 : (a : Int) - s + ((i + 1 : Nat) : Int) = (a : Int) - s + i + 1 := by omega
    rw [bk_GB_two_51]
    simp only [x_iload_1, xc_GB_isHour, x_if_eq, x_iload_2, x_c_0, x_c_9, xc_GB_within, x_iload_3, x_iload_4, x_iload_5, x_c_3, x_if_ne, x_c_m1, x_iret, x_iadd, x_isub, x_ic_ge, x_c_1, x_goto, x_c_2, x_istore_6, x_istore_7, x_iload_7, x_ic_gt, x_istore_8, x_iload_8, x_istore_9, x_iload_9, x_ic_ne, x_iinc_6_1, x_iinc_8_1, x_iinc_7_1, x_iload_6, tg_GB_two_21, tg_GB_two_23, tg_GB_two_34, tg_GB_two_43, tg_GB_two_44, tg_GB_two_45, tg_GB_two_51, tg_GB_two_60, tg_GB_two_70, tg_GB_two_75, tg_GB_two_76, tg_GB_two_81, tg_GB_two_83, tg_GB_two_85, bk_GB_two_0, bk_GB_two_21, bk_GB_two_23, bk_GB_two_34, bk_GB_two_43, bk_GB_two_44, bk_GB_two_45, bk_GB_two_70, bk_GB_two_75, bk_GB_two_76, bk_GB_two_81, bk_GB_two_85, kil_int, kil_ref, kil_null, kil_long, kil_rA, psh_int, psh_long, psh_null, gI_gS, gL_gS, gR_gS, sI_gS, sL_gS, orf_some, Option.bind_some, List.length_cons, List.length_nil, Nat.reduceAdd, Nat.reduceLeDiff, if_true, if_false, Nat.zero_le, tw_add, tw_sub]
    simp (disch := first | omega | decide) only [zI_ltI, if_neg (show ¬ (a : Int) + s < (a : Int) - s + i by omega)]
    have h2 := fun R => l_GB_two2 g ha hs hb ht hw (u := (a : Int) - s + i) (by omega) R (2 * t + 1) 0 c z9 (by omega)
    simp only [Int.ofNat_zero, Int.natCast_zero, Int.add_zero] at h2
    refine h2 _ ?_
    intro y8 y9
    rw [bk_GB_two_83]
    simp only [x_iload_1, xc_GB_isHour, x_if_eq, x_iload_2, x_c_0, x_c_9, xc_GB_within, x_iload_3, x_iload_4, x_iload_5, x_c_3, x_if_ne, x_c_m1, x_iret, x_iadd, x_isub, x_ic_ge, x_c_1, x_goto, x_c_2, x_istore_6, x_istore_7, x_iload_7, x_ic_gt, x_istore_8, x_iload_8, x_istore_9, x_iload_9, x_ic_ne, x_iinc_6_1, x_iinc_8_1, x_iinc_7_1, x_iload_6, tg_GB_two_21, tg_GB_two_23, tg_GB_two_34, tg_GB_two_43, tg_GB_two_44, tg_GB_two_45, tg_GB_two_51, tg_GB_two_60, tg_GB_two_70, tg_GB_two_75, tg_GB_two_76, tg_GB_two_81, tg_GB_two_83, tg_GB_two_85, bk_GB_two_0, bk_GB_two_21, bk_GB_two_23, bk_GB_two_34, bk_GB_two_43, bk_GB_two_44, bk_GB_two_45, bk_GB_two_70, bk_GB_two_75, bk_GB_two_76, bk_GB_two_81, bk_GB_two_85, kil_int, kil_ref, kil_null, kil_long, kil_rA, psh_int, psh_long, psh_null, gI_gS, gL_gS, gR_gS, sI_gS, sL_gS, orf_some, Option.bind_some, List.length_cons, List.length_nil, Nat.reduceAdd, Nat.reduceLeDiff, if_true, if_false, Nat.zero_le, zI_1]
    rw [← e1, l_GB_two1 g ha hs hb ht hw d (i + 1) _ _ _ (by omega)]
    show some (Value.int (nI (_ + ws w a s b t d (i + 1))), _, _) = some (Value.int (nI (c + ws w a s b t (d + 1) i)), _, _)
    rw [show ws w a s b t (d + 1) i = wc w ((a : Int) - s + (i : Int)) ((b : Int) - t) (2 * t + 1) 0 + ws w a s b t d (i + 1) from rfl, Nat.add_assoc]
/-! the other's three counters -/
theorem l_RM_two2 (g : gb_Sg) {a s b t w : Nat} {u : Int} (ha : a ≤ 999) (hs : s ≤ 9) (hb : b ≤ 999) (ht : t ≤ 9) (hw : w ≤ 3) (hu : -9 ≤ u ∧ u ≤ 1008) (R : Option (Value × gb_Pi × gb_Sg)) : ∀ (d i x y z : Nat), d + i = 2 * t + 1 →
    (∀ z8, gb_ex 173 bk_RM_two_79 [.ref (190 : Nat), .int (nI a), .int (nI s), .int (nI b), .int (nI t), .int (nI w), .int (nI (x + wc 1 u ((b : Int) - t) d i)), .int (nI (y + wc 2 u ((b : Int) - t) d i)), .int (nI (z + wc 3 u ((b : Int) - t) d i)), .int (zI u), z8] [] gb_pG g = R) →
    gb_ex 173 bk_RM_two_45 [.ref (190 : Nat), .int (nI a), .int (nI s), .int (nI b), .int (nI t), .int (nI w), .int (nI x), .int (nI y), .int (nI z), .int (zI u), .int (zI ((b : Int) - t + i))] [] gb_pG g = R
  | 0, i, x, y, z, e, h => by
    rw [bk_RM_two_45]
    simp only [x_iload_1, xc_RM_isHour, x_if_eq, x_iload_2, x_i2l, x_l_0, x_l_9, xc_RM_in, x_iload_3, x_iload_4, x_iload_5, x_l_3, x_if_ne, x_c_m1, x_iret, x_c_0, x_istore_6, x_istore_7, x_istore_8, x_isub, x_istore_9, x_iload_9, x_iadd, x_ic_gt, x_istore_10, x_iload_10, x_iload_6, x_ic_ge, x_c_1, x_goto, x_iload_7, x_iload_8, x_ic_ne, x_iinc_10_1, x_iinc_9_1, x_c_2, tg_RM_two_24, tg_RM_two_26, tg_RM_two_36, tg_RM_two_45, tg_RM_two_56, tg_RM_two_57, tg_RM_two_65, tg_RM_two_66, tg_RM_two_74, tg_RM_two_75, tg_RM_two_79, tg_RM_two_81, tg_RM_two_87, tg_RM_two_93, tg_RM_two_94, tg_RM_two_99, tg_RM_two_104, tg_RM_two_109, tg_RM_two_110, bk_RM_two_0, bk_RM_two_24, bk_RM_two_26, bk_RM_two_36, bk_RM_two_56, bk_RM_two_57, bk_RM_two_65, bk_RM_two_66, bk_RM_two_74, bk_RM_two_75, bk_RM_two_81, bk_RM_two_87, bk_RM_two_93, bk_RM_two_94, bk_RM_two_99, bk_RM_two_104, bk_RM_two_109, bk_RM_two_110, kil_int, kil_ref, kil_null, kil_long, kil_rA, psh_int, psh_long, psh_null, gI_gS, gL_gS, gR_gS, sI_gS, sL_gS, orf_some, Option.bind_some, List.length_cons, List.length_nil, Nat.reduceAdd, Nat.reduceLeDiff, if_true, if_false, Nat.zero_le, tw_add]
    simp (disch := first | omega | decide) only [zI_ltI, if_pos (show (b : Int) + t < (b : Int) - t + i by omega)]
    exact h _
  | d + 1, i, x, y, z, e, h => by
    have hh : ∀ v, wh u ((b : Int) - t + (i : Int)) = v → gb_ex 173 bk_RM_two_45 [.ref (190 : Nat), .int (nI a), .int (nI s), .int (nI b), .int (nI t), .int (nI w), .int (nI (x + if v = 1 then 1 else 0)), .int (nI (y + if v = 2 then 1 else 0)), .int (nI (z + if v = 3 then 1 else 0)), .int (zI u), .int (zI ((b : Int) - t + i + 1))] [] gb_pG g = R := by
      intro v hv
      have e1 : (b : Int) - t + ((i + 1 : Nat) : Int) = (b : Int) - t + i + 1 := by omega
      rw [← e1]
      refine l_RM_two2 g ha hs hb ht hw hu R d (i + 1) _ _ _ (by omega) ?_
      intro z8
      have := h z8
      unfold wc at this
      rw [sm, sm, sm, hv, ← Nat.add_assoc, ← Nat.add_assoc, ← Nat.add_assoc] at this
      exact this
    rw [bk_RM_two_45]
    simp only [x_iload_1, xc_RM_isHour, x_if_eq, x_iload_2, x_i2l, x_l_0, x_l_9, xc_RM_in, x_iload_3, x_iload_4, x_iload_5, x_l_3, x_if_ne, x_c_m1, x_iret, x_c_0, x_istore_6, x_istore_7, x_istore_8, x_isub, x_istore_9, x_iload_9, x_iadd, x_ic_gt, x_istore_10, x_iload_10, x_iload_6, x_ic_ge, x_c_1, x_goto, x_iload_7, x_iload_8, x_ic_ne, x_iinc_10_1, x_iinc_9_1, x_c_2, tg_RM_two_24, tg_RM_two_26, tg_RM_two_36, tg_RM_two_45, tg_RM_two_56, tg_RM_two_57, tg_RM_two_65, tg_RM_two_66, tg_RM_two_74, tg_RM_two_75, tg_RM_two_79, tg_RM_two_81, tg_RM_two_87, tg_RM_two_93, tg_RM_two_94, tg_RM_two_99, tg_RM_two_104, tg_RM_two_109, tg_RM_two_110, bk_RM_two_0, bk_RM_two_24, bk_RM_two_26, bk_RM_two_36, bk_RM_two_56, bk_RM_two_57, bk_RM_two_65, bk_RM_two_66, bk_RM_two_74, bk_RM_two_75, bk_RM_two_81, bk_RM_two_87, bk_RM_two_93, bk_RM_two_94, bk_RM_two_99, bk_RM_two_104, bk_RM_two_109, bk_RM_two_110, kil_int, kil_ref, kil_null, kil_long, kil_rA, psh_int, psh_long, psh_null, gI_gS, gL_gS, gR_gS, sI_gS, sL_gS, orf_some, Option.bind_some, List.length_cons, List.length_nil, Nat.reduceAdd, Nat.reduceLeDiff, if_true, if_false, Nat.zero_le, tw_add, zI_1]
    simp (disch := first | omega | decide) only [zI_ltI, zI_leI, zI_eqI, ne_eq, if_neg (show ¬ (b : Int) + t < (b : Int) - t + i by omega)]
    by_cases c1 : u < (b : Int) - t + i
    · have e2 : wh u ((b : Int) - t + (i : Int)) = 1 := if_pos c1
      have := hh 1 e2
      simp only [if_neg (show ¬ (b : Int) - t + i ≤ u by omega), if_pos (show u ≤ (b : Int) - t + i by omega), if_pos (show ¬ u = (b : Int) - t + i by omega)]
      simpa [← nI_1] using this
    · by_cases c3 : (b : Int) - t + i < u
      · have e2 : wh u ((b : Int) - t + (i : Int)) = 2 := by unfold wh; rw [if_neg c1, if_pos c3]
        have := hh 2 e2
        simp only [if_pos (show (b : Int) - t + i ≤ u by omega), if_neg (show ¬ u ≤ (b : Int) - t + i by omega), if_pos (show ¬ u = (b : Int) - t + i by omega)]
        simpa [← nI_1] using this
      · have e2 : wh u ((b : Int) - t + (i : Int)) = 3 := by unfold wh; rw [if_neg c1, if_neg c3]
        have := hh 3 e2
        simp only [if_pos (show (b : Int) - t + i ≤ u by omega), if_pos (show u ≤ (b : Int) - t + i by omega), if_neg (show ¬ ¬ u = (b : Int) - t + i by omega)]
        simpa [← nI_1] using this
theorem l_RM_two1 (g : gb_Sg) {a s b t w : Nat} (ha : a ≤ 999) (hs : s ≤ 9) (hb : b ≤ 999) (ht : t ≤ 9) (hw : w ≤ 3) (R : Option (Value × gb_Pi × gb_Sg)) : ∀ (d i x y z : Nat) (z8 : Value), d + i = 2 * s + 1 →
    (∀ z8 z9, gb_ex 173 bk_RM_two_81 [.ref (190 : Nat), .int (nI a), .int (nI s), .int (nI b), .int (nI t), .int (nI w), .int (nI (x + ws 1 a s b t d i)), .int (nI (y + ws 2 a s b t d i)), .int (nI (z + ws 3 a s b t d i)), z8, z9] [] gb_pG g = R) →
    gb_ex 173 bk_RM_two_36 [.ref (190 : Nat), .int (nI a), .int (nI s), .int (nI b), .int (nI t), .int (nI w), .int (nI x), .int (nI y), .int (nI z), .int (zI ((a : Int) - s + i)), z8] [] gb_pG g = R
  | 0, i, x, y, z, z8, e, h => by
    rw [bk_RM_two_36]
    simp only [x_iload_1, xc_RM_isHour, x_if_eq, x_iload_2, x_i2l, x_l_0, x_l_9, xc_RM_in, x_iload_3, x_iload_4, x_iload_5, x_l_3, x_if_ne, x_c_m1, x_iret, x_c_0, x_istore_6, x_istore_7, x_istore_8, x_isub, x_istore_9, x_iload_9, x_iadd, x_ic_gt, x_istore_10, x_iload_10, x_iload_6, x_ic_ge, x_c_1, x_goto, x_iload_7, x_iload_8, x_ic_ne, x_iinc_10_1, x_iinc_9_1, x_c_2, tg_RM_two_24, tg_RM_two_26, tg_RM_two_36, tg_RM_two_45, tg_RM_two_56, tg_RM_two_57, tg_RM_two_65, tg_RM_two_66, tg_RM_two_74, tg_RM_two_75, tg_RM_two_79, tg_RM_two_81, tg_RM_two_87, tg_RM_two_93, tg_RM_two_94, tg_RM_two_99, tg_RM_two_104, tg_RM_two_109, tg_RM_two_110, bk_RM_two_0, bk_RM_two_24, bk_RM_two_26, bk_RM_two_56, bk_RM_two_57, bk_RM_two_65, bk_RM_two_66, bk_RM_two_74, bk_RM_two_75, bk_RM_two_87, bk_RM_two_93, bk_RM_two_94, bk_RM_two_99, bk_RM_two_104, bk_RM_two_109, bk_RM_two_110, kil_int, kil_ref, kil_null, kil_long, kil_rA, psh_int, psh_long, psh_null, gI_gS, gL_gS, gR_gS, sI_gS, sL_gS, orf_some, Option.bind_some, List.length_cons, List.length_nil, Nat.reduceAdd, Nat.reduceLeDiff, if_true, if_false, Nat.zero_le, tw_add]
    simp (disch := first | omega | decide) only [zI_ltI, if_pos (show (a : Int) + s < (a : Int) - s + i by omega)]
    exact h _ _
  | d + 1, i, x, y, z, z8, e, h => by
    have e1 : (a : Int) - s + ((i + 1 : Nat) : Int) = (a : Int) - s + i + 1 := by omega
    rw [bk_RM_two_36]
    simp only [x_iload_1, xc_RM_isHour, x_if_eq, x_iload_2, x_i2l, x_l_0, x_l_9, xc_RM_in, x_iload_3, x_iload_4, x_iload_5, x_l_3, x_if_ne, x_c_m1, x_iret, x_c_0, x_istore_6, x_istore_7, x_istore_8, x_isub, x_istore_9, x_iload_9, x_iadd, x_ic_gt, x_istore_10, x_iload_10, x_iload_6, x_ic_ge, x_c_1, x_goto, x_iload_7, x_iload_8, x_ic_ne, x_iinc_10_1, x_iinc_9_1, x_c_2, tg_RM_two_24, tg_RM_two_26, tg_RM_two_36, tg_RM_two_45, tg_RM_two_56, tg_RM_two_57, tg_RM_two_65, tg_RM_two_66, tg_RM_two_74, tg_RM_two_75, tg_RM_two_79, tg_RM_two_81, tg_RM_two_87, tg_RM_two_93, tg_RM_two_94, tg_RM_two_99, tg_RM_two_104, tg_RM_two_109, tg_RM_two_110, bk_RM_two_0, bk_RM_two_24, bk_RM_two_26, bk_RM_two_56, bk_RM_two_57, bk_RM_two_65, bk_RM_two_66, bk_RM_two_74, bk_RM_two_75, bk_RM_two_87, bk_RM_two_93, bk_RM_two_94, bk_RM_two_99, bk_RM_two_104, bk_RM_two_109, bk_RM_two_110, kil_int, kil_ref, kil_null, kil_long, kil_rA, psh_int, psh_long, psh_null, gI_gS, gL_gS, gR_gS, sI_gS, sL_gS, orf_some, Option.bind_some, List.length_cons, List.length_nil, Nat.reduceAdd, Nat.reduceLeDiff, if_true, if_false, Nat.zero_le, tw_add, tw_sub]
    simp (disch := first | omega | decide) only [zI_ltI, if_neg (show ¬ (a : Int) + s < (a : Int) - s + i by omega)]
    have h2 := l_RM_two2 g ha hs hb ht hw (u := (a : Int) - s + i) (by omega) R (2 * t + 1) 0 x y z (by omega)
    simp only [Int.ofNat_zero, Int.natCast_zero, Int.add_zero] at h2
    refine h2 ?_
    intro y8
    rw [bk_RM_two_79]
    simp only [x_iload_1, xc_RM_isHour, x_if_eq, x_iload_2, x_i2l, x_l_0, x_l_9, xc_RM_in, x_iload_3, x_iload_4, x_iload_5, x_l_3, x_if_ne, x_c_m1, x_iret, x_c_0, x_istore_6, x_istore_7, x_istore_8, x_isub, x_istore_9, x_iload_9, x_iadd, x_ic_gt, x_istore_10, x_iload_10, x_iload_6, x_ic_ge, x_c_1, x_goto, x_iload_7, x_iload_8, x_ic_ne, x_iinc_10_1, x_iinc_9_1, x_c_2, tg_RM_two_24, tg_RM_two_26, tg_RM_two_36, tg_RM_two_45, tg_RM_two_56, tg_RM_two_57, tg_RM_two_65, tg_RM_two_66, tg_RM_two_74, tg_RM_two_75, tg_RM_two_79, tg_RM_two_81, tg_RM_two_87, tg_RM_two_93, tg_RM_two_94, tg_RM_two_99, tg_RM_two_104, tg_RM_two_109, tg_RM_two_110, bk_RM_two_0, bk_RM_two_24, bk_RM_two_26, bk_RM_two_56, bk_RM_two_57, bk_RM_two_65, bk_RM_two_66, bk_RM_two_74, bk_RM_two_75, bk_RM_two_87, bk_RM_two_93, bk_RM_two_94, bk_RM_two_99, bk_RM_two_104, bk_RM_two_109, bk_RM_two_110, kil_int, kil_ref, kil_null, kil_long, kil_rA, psh_int, psh_long, psh_null, gI_gS, gL_gS, gR_gS, sI_gS, sL_gS, orf_some, Option.bind_some, List.length_cons, List.length_nil, Nat.reduceAdd, Nat.reduceLeDiff, if_true, if_false, Nat.zero_le, zI_1]
    rw [← e1]
    refine l_RM_two1 g ha hs hb ht hw R d (i + 1) _ _ _ _ (by omega) ?_
    intro q8 q9
    have := h q8 q9
    unfold ws at this
    rw [sm, sm, sm, ← Nat.add_assoc, ← Nat.add_assoc, ← Nat.add_assoc] at this
    exact this
theorem ws_zero {a s b t : Nat} (P : Nat → Prop) (w w' : Nat) (hp : ∀ v, P v ↔ v ≠ w ∧ v ≠ w') : (ws w a s b t (2 * s + 1) 0 + ws w' a s b t (2 * s + 1) 0 = 0) ↔ ∀ i j : Nat, i < 2 * s + 1 → j < 2 * t + 1 → P (wh ((a : Int) - s + i) ((b : Int) - t + j)) := by
  rw [Nat.add_eq_zero_iff]
  unfold ws
  rw [sm_zero, sm_zero]
  constructor
  · rintro ⟨h1, h2⟩ i j hi hj
    have k1 := sm_zero.mp (h1 i (by omega) (by omega)) j (by omega) (by omega)
    have k2 := sm_zero.mp (h2 i (by omega) (by omega)) j (by omega) (by omega)
    rw [hp]
    constructor
    · intro e; rw [if_pos e] at k1; omega
    · intro e; rw [if_pos e] at k2; omega
  · intro h
    refine ⟨fun i _ hi => sm_zero.mpr fun j _ hj => ?_, fun i _ hi => sm_zero.mpr fun j _ hj => ?_⟩
    · have := (hp _).mp (h i j (by omega) (by omega))
      rw [if_neg this.1]
    · have := (hp _).mp (h i j (by omega) (by omega))
      rw [if_neg this.2]
theorem wh_1 {u v : Int} : (wh u v ≠ 2 ∧ wh u v ≠ 3) ↔ u < v := by unfold wh; by_cases h : u < v <;> by_cases h2 : v < u <;> simp [h, h2]
theorem wh_2 {u v : Int} : (wh u v ≠ 1 ∧ wh u v ≠ 3) ↔ v < u := by unfold wh; by_cases h : u < v <;> by_cases h2 : v < u <;> simp [h, h2] <;> omega
theorem ws_le (w a s b t : Nat) : ws w a s b t (2 * s + 1) 0 ≤ (2 * s + 1) * (2 * t + 1) := by
  refine sm_le fun i _ _ => ?_
  have := sm_le (f := fun j : Nat => if wh ((a : Int) - s + (i : Int)) ((b : Int) - t + (j : Int)) = w then 1 else 0) (c := 1) (d := 2 * t + 1) (i := 0) (fun j _ _ => by split <;> omega)
  rw [Nat.mul_one] at this
  exact this
theorem d_two (g : gb_Sg) (a s b t w : Int32) : ∃ v, gb_call 99 [.ref (0 : Nat), .int a, .int s, .int b, .int t, .int w] gb_pG g = some (v, gb_pG, g) ∧ gb_call 173 [.ref (190 : Nat), .int a, .int s, .int b, .int t, .int w] gb_pG g = some (v, gb_pG, g) := by
  rw [cl_GB_two, cl_RM_two]
  simp only [x_iload_1, xc_GB_isHour, x_if_eq, x_iload_2, x_c_0, x_c_9, xc_GB_within, x_iload_3, x_iload_4, x_iload_5, x_c_3, x_if_ne, x_c_m1, x_iret, x_iadd, x_isub, x_ic_ge, x_c_1, x_goto, x_c_2, x_istore_6, x_istore_7, x_iload_7, x_ic_gt, x_istore_8, x_iload_8, x_istore_9, x_iload_9, x_ic_ne, x_iinc_6_1, x_iinc_8_1, x_iinc_7_1, x_iload_6, tg_GB_two_21, tg_GB_two_23, tg_GB_two_34, tg_GB_two_43, tg_GB_two_44, tg_GB_two_45, tg_GB_two_51, tg_GB_two_60, tg_GB_two_70, tg_GB_two_75, tg_GB_two_76, tg_GB_two_81, tg_GB_two_83, tg_GB_two_85, bk_GB_two_0, bk_GB_two_21, bk_GB_two_23, bk_GB_two_34, bk_GB_two_43, bk_GB_two_44, bk_GB_two_45, bk_GB_two_60, bk_GB_two_70, bk_GB_two_75, bk_GB_two_76, bk_GB_two_83, bk_GB_two_85, kil_int, kil_ref, kil_null, kil_long, kil_rA, psh_int, psh_long, psh_null, gI_gS, gL_gS, gR_gS, sI_gS, sL_gS, orf_some, Option.bind_some, List.length_cons, List.length_nil, Nat.reduceAdd, Nat.reduceLeDiff, if_true, if_false, Nat.zero_le, x_iload_1, xc_RM_isHour, x_if_eq, x_iload_2, x_i2l, x_l_0, x_l_9, xc_RM_in, x_iload_3, x_iload_4, x_iload_5, x_l_3, x_if_ne, x_c_m1, x_iret, x_c_0, x_istore_6, x_istore_7, x_istore_8, x_isub, x_istore_9, x_iload_9, x_iadd, x_ic_gt, x_istore_10, x_iload_10, x_iload_6, x_ic_ge, x_c_1, x_goto, x_iload_7, x_iload_8, x_ic_ne, x_iinc_10_1, x_iinc_9_1, x_c_2, tg_RM_two_24, tg_RM_two_26, tg_RM_two_36, tg_RM_two_45, tg_RM_two_56, tg_RM_two_57, tg_RM_two_65, tg_RM_two_66, tg_RM_two_74, tg_RM_two_75, tg_RM_two_79, tg_RM_two_81, tg_RM_two_87, tg_RM_two_93, tg_RM_two_94, tg_RM_two_99, tg_RM_two_104, tg_RM_two_109, tg_RM_two_110, bk_RM_two_0, bk_RM_two_24, bk_RM_two_26, bk_RM_two_45, bk_RM_two_56, bk_RM_two_57, bk_RM_two_65, bk_RM_two_66, bk_RM_two_74, bk_RM_two_75, bk_RM_two_79, bk_RM_two_87, bk_RM_two_93, bk_RM_two_94, bk_RM_two_99, bk_RM_two_104, bk_RM_two_109, bk_RM_two_110, kil_int, kil_ref, kil_null, kil_long, kil_rA, psh_int, psh_long, psh_null, gI_gS, gL_gS, gR_gS, sI_gS, sL_gS, orf_some, Option.bind_some, List.length_cons, List.length_nil, Nat.reduceAdd, Nat.reduceLeDiff, if_true, if_false, Nat.zero_le, s_GB_isHour, s_RM_isHour, s_GB_within, s_RM_in, ite_b1, ite_b2]
  simp (disch := first | omega | decide) only [w_Lle, w_leL]
  by_cases h1 : ¬ (0 ≤ a ∧ a ≤ 999)
  · simp only [if_pos h1]
    exact ⟨_, rfl, rfl⟩
  replace h1 := Decidable.not_not.mp h1
  by_cases h2 : ¬ (0 ≤ s ∧ s ≤ 9)
  · simp only [if_neg (not_not_intro h1), if_pos h2]
    exact ⟨_, rfl, rfl⟩
  replace h2 := Decidable.not_not.mp h2
  by_cases h3 : ¬ (0 ≤ b ∧ b ≤ 999)
  · simp only [if_neg (not_not_intro h1), if_neg (not_not_intro h2), if_pos h3]
    exact ⟨_, rfl, rfl⟩
  replace h3 := Decidable.not_not.mp h3
  by_cases h4 : ¬ (0 ≤ t ∧ t ≤ 9)
  · simp only [if_neg (not_not_intro h1), if_neg (not_not_intro h2), if_neg (not_not_intro h3), if_pos h4]
    exact ⟨_, rfl, rfl⟩
  replace h4 := Decidable.not_not.mp h4
  by_cases h5 : ¬ (0 ≤ w ∧ w ≤ 3)
  · simp only [if_neg (not_not_intro h1), if_neg (not_not_intro h2), if_neg (not_not_intro h3), if_neg (not_not_intro h4), if_neg h5]
    exact ⟨_, rfl, rfl⟩
  replace h5 := Decidable.not_not.mp h5
  simp only [if_neg (not_not_intro h1), if_neg (not_not_intro h2), if_neg (not_not_intro h3), if_neg (not_not_intro h4), if_pos h5]
  obtain ⟨a', -, a2, rfl⟩ := nI_rng (by decide) (by decide) h1
  obtain ⟨s', -, s2, rfl⟩ := nI_rng (by decide) (by decide) h2
  obtain ⟨b', -, b2, rfl⟩ := nI_rng (by decide) (by decide) h3
  obtain ⟨t', -, t2, rfl⟩ := nI_rng (by decide) (by decide) h4
  obtain ⟨w', -, w2, rfl⟩ := nI_rng (by decide) (by decide) h5
  replace a2 : a' ≤ 999 := a2
  replace s2 : s' ≤ 9 := s2
  replace b2 : b' ≤ 999 := b2
  replace t2 : t' ≤ 9 := t2
  replace w2 : w' ≤ 3 := w2
  have k1 := l_GB_two1 g a2 s2 b2 t2 w2 (2 * s' + 1) 0 0 .null .null (by omega)
  have k2 := fun R => l_RM_two1 g a2 s2 b2 t2 w2 R (2 * s' + 1) 0 0 0 0 .null (by omega)
  simp only [Int.ofNat_zero, Int.natCast_zero, Int.add_zero, nI_0, Nat.zero_add] at k1 k2
  simp only [tw_add, tw_sub, k1]
  have y1 : (ws 2 a' s' b' t' (2 * s' + 1) 0 + ws 3 a' s' b' t' (2 * s' + 1) 0 = 0) ↔ (a' : Int) + s' < (b' : Int) - t' := by
    rw [ws_zero (fun v => v ≠ 2 ∧ v ≠ 3) 2 3 (fun v => Iff.rfl)]
    simp only [wh_1]
    constructor
    · intro h
      have := h (2 * s') 0 (by omega) (by omega)
      omega
    · intro h i j hi hj
      omega
  have y2 : (ws 1 a' s' b' t' (2 * s' + 1) 0 + ws 3 a' s' b' t' (2 * s' + 1) 0 = 0) ↔ (b' : Int) + t' < (a' : Int) - s' := by
    rw [ws_zero (fun v => v ≠ 1 ∧ v ≠ 3) 1 3 (fun v => Iff.rfl)]
    simp only [wh_2]
    constructor
    · intro h
      have := h 0 (2 * t') (by omega) (by omega)
      omega
    · intro h i j hi hj
      omega
  have z1 := ws_le 1 a' s' b' t'
  have z2 := ws_le 2 a' s' b' t'
  have z3 := ws_le 3 a' s' b' t'
  have zz : (2 * s' + 1) * (2 * t' + 1) ≤ 19 * 19 := Nat.mul_le_mul (by omega) (by omega)
  have cw : w' = 0 ∨ w' = 1 ∨ w' = 2 ∨ w' = 3 := by omega
  have k3 : ws w' a' s' b' t' (2 * s' + 1) 0 = if w' = 0 then ws 0 a' s' b' t' (2 * s' + 1) 0 else if w' = 1 then ws 1 a' s' b' t' (2 * s' + 1) 0 else if w' = 2 then ws 2 a' s' b' t' (2 * s' + 1) 0 else ws 3 a' s' b' t' (2 * s' + 1) 0 := by
    rcases cw with rfl | rfl | rfl | rfl <;> rfl
  rw [k3]
  clear k1 k3
  generalize ws 1 a' s' b' t' (2 * s' + 1) 0 = S1 at *
  generalize ws 2 a' s' b' t' (2 * s' + 1) 0 = S2 at *
  generalize ws 3 a' s' b' t' (2 * s' + 1) 0 = S3 at *
  have y3 : (if zI (↑b' - ↑t') ≤ zI (↑a' + ↑s') then
            if zI (↑a' - ↑s') ≤ zI (↑b' + ↑t') then some (Value.int 0, gb_pG, g) else some (Value.int 2, gb_pG, g)
          else some (Value.int 1, gb_pG, g)) = some (Value.int (if S2 + S3 = 0 then 1 else if S1 + S3 = 0 then 2 else 0), gb_pG, g) := by
    simp (disch := first | omega | decide) only [zI_leI, y1, y2]
    by_cases c1 : (a' : Int) + s' < (b' : Int) - t'
    · rw [if_pos c1, if_neg (by omega)]
    · rw [if_neg c1, if_pos (by omega)]
      by_cases c2 : (b' : Int) + t' < (a' : Int) - s'
      · rw [if_pos c2, if_neg (by omega)]
      · rw [if_neg c2, if_pos (by omega)]
  rw [y3]
  have y4 : ∀ z8 z9, gb_ex 173 bk_RM_two_81 [.ref (190 : Nat), .int (nI a'), .int (nI s'), .int (nI b'), .int (nI t'), .int (nI w'), .int (nI S1), .int (nI S2), .int (nI S3), z8, z9] [] gb_pG g = some (.int (if w' = 0 then (if S2 + S3 = 0 then 1 else if S1 + S3 = 0 then 2 else 0) else if w' = 1 then nI S1 else if w' = 2 then nI S2 else nI S3), gb_pG, g) := by
    intro z8 z9
    rw [bk_RM_two_81]
    simp only [x_iload_1, xc_RM_isHour, x_if_eq, x_iload_2, x_i2l, x_l_0, x_l_9, xc_RM_in, x_iload_3, x_iload_4, x_iload_5, x_l_3, x_if_ne, x_c_m1, x_iret, x_c_0, x_istore_6, x_istore_7, x_istore_8, x_isub, x_istore_9, x_iload_9, x_iadd, x_ic_gt, x_istore_10, x_iload_10, x_iload_6, x_ic_ge, x_c_1, x_goto, x_iload_7, x_iload_8, x_ic_ne, x_iinc_10_1, x_iinc_9_1, x_c_2, tg_RM_two_24, tg_RM_two_26, tg_RM_two_36, tg_RM_two_45, tg_RM_two_56, tg_RM_two_57, tg_RM_two_65, tg_RM_two_66, tg_RM_two_74, tg_RM_two_75, tg_RM_two_79, tg_RM_two_81, tg_RM_two_87, tg_RM_two_93, tg_RM_two_94, tg_RM_two_99, tg_RM_two_104, tg_RM_two_109, tg_RM_two_110, bk_RM_two_0, bk_RM_two_24, bk_RM_two_26, bk_RM_two_56, bk_RM_two_57, bk_RM_two_65, bk_RM_two_66, bk_RM_two_74, bk_RM_two_75, bk_RM_two_87, bk_RM_two_93, bk_RM_two_94, bk_RM_two_99, bk_RM_two_104, bk_RM_two_109, bk_RM_two_110, kil_int, kil_ref, kil_null, kil_long, kil_rA, psh_int, psh_long, psh_null, gI_gS, gL_gS, gR_gS, sI_gS, sL_gS, orf_some, Option.bind_some, List.length_cons, List.length_nil, Nat.reduceAdd, Nat.reduceLeDiff, if_true, if_false, Nat.zero_le]
    simp (disch := first | omega | decide) only [nI_ltI, nI_leI, nI_eq, nI_ltL, nI_leL, L_ltI, L_leI, nI_eqL, L_eqI, oob_nI, ix_nI, oob_L, ix_L, nI_1, nI_add, nI_z, z_nI, nI_lt0, nI_ge0, nI_gt0, nI_le0, ne_eq, Nat.le_zero_eq, Nat.not_lt_zero, Nat.lt_irrefl, Nat.le_refl]
    generalize S2 + S3 = A
    generalize S1 + S3 = B
    by_cases c1 : A = 0 <;> by_cases c2 : B = 0 <;> by_cases c3 : w' = 0 <;> by_cases c4 : w' = 1 <;> by_cases c5 : w' = 2 <;> simp [c1, c2, c3, c4, c5]
  simp (disch := first | omega | decide) only [nI_ltI, nI_leI, nI_eq, nI_ltL, nI_leL, L_ltI, L_leI, nI_eqL, L_eqI, oob_nI, ix_nI, oob_L, ix_L, nI_1, nI_add, nI_z, z_nI, nI_lt0, nI_ge0, nI_gt0, nI_le0, ne_eq, Nat.le_zero_eq, Nat.not_lt_zero, Nat.lt_irrefl, Nat.le_refl]
  refine ⟨_, ?_, k2 _ y4⟩
  rcases cw with rfl | rfl | rfl | rfl <;> simp
/-! how many fell in -/
def nums (I : Nat → Nat → Int32) (N : Nat) (w : Nat → Nat) : Prop := N ≤ 20 ∧ I 23 10 = nI N ∧ I 210 0 = nI N ∧ (∀ j, j < N → I 32 j = nI (w j) ∧ I 211 j = nI (w j) ∧ 1 ≤ w j ∧ w j ≤ 9999) ∧ ∀ i j, i < j → j < N → w i ≠ w j
theorem holes : ∀ (N m : Nat) (w : Nat → Nat), (∀ j, j < N → 1 ≤ w j ∧ w j ≤ m) → (∀ i j, i < j → j < N → w i ≠ w j) → N ≤ m
  | 0, m, w, _, _ => Nat.zero_le m
  | N + 1, m, w, h, hd => by
    have hN := h N (by omega)
    obtain ⟨m', rfl⟩ : ∃ m', m = m' + 1 := ⟨m - 1, by omega⟩
    have := holes N m' (fun j => if w j = m' + 1 then w N else w j) (fun j hj => by
      have a := h j (by omega)
      have b := hd j N (by omega) (by omega)
      by_cases e : w j = m' + 1
      · simp only [e, if_true]
        omega
      · simp only [e, if_false]
        omega) (fun i j hij hj => by
      have b1 := hd i N (by omega) (by omega)
      have b2 := hd j N (by omega) (by omega)
      have b3 := hd i j hij (by omega)
      by_cases e1 : w i = m' + 1 <;> by_cases e2 : w j = m' + 1
      · omega
      · simp only [e1, e2, if_true, if_false]
        omega
      · simp only [e1, e2, if_true, if_false]
        omega
      · simp only [e1, e2, if_false]
        exact b3)
    omega
theorem nums_mx {I : Nat → Nat → Int32} {N : Nat} {w : Nat → Nat} (h : nums I N w) : N ≤ mx w N ∧ mx w N ≤ 9999 := by
  obtain ⟨h1, h2, h3, h4, h5⟩ := h
  have k := mx_ge (w := w) N 0 0
  refine ⟨holes N (mx w N) w (fun j hj => ⟨(h4 j hj).2.2.1, k.2 j (by omega) (by omega)⟩) h5, mx_le N 0 0 (by omega) (fun j a b => (h4 j (by omega)).2.2.2)⟩
theorem nums_J {I : Nat → Nat → Int32} {N : Nat} {w : Nat → Nat} (h : nums I N w) : (∀ j, j < N → I 32 j = nI (w j) ∧ w j ≤ 9999) ∧ (∀ j, j < N → I 211 j = nI (w j) ∧ w j ≤ 9999) := by
  obtain ⟨h1, h2, h3, h4, h5⟩ := h
  exact ⟨fun j hj => ⟨(h4 j hj).1, (h4 j hj).2.2.2⟩, fun j hj => ⟨(h4 j hj).2.1, (h4 j hj).2.2.2⟩⟩
theorem lN_32 (n : Nat) : (lN n).toInt32 = nI n := Int64.toInt32_ofNat' 
theorem d_fell (I : Nat → Nat → Int32) (J : Nat → Nat → Int64) (q : Bool × Bool) (X : Nat × (Nat → Int32)) {N : Nat} {w : Nat → Nat} (h : nums I N w) (k : Int32) : ∃ v J', gb_call 89 [.ref (0 : Nat), .int k] gb_pG (gS I J q X) = some (v, gb_pG, gS I J q X) ∧ gb_call 164 [.ref (190 : Nat), .int k] gb_pG (gS I J q X) = some (v, gb_pG, gS I J' q X) := by
  have hm := nums_mx h
  have hj := nums_J h
  obtain ⟨h1, h2, h3, h4, h5⟩ := h
  have a1 := s_SH_greatest I J q X h1 h2 hj.1
  have a2 := s_RM_greatest I J q X h1 h3 hj.2
  generalize mx w N = M at hm a1 a2
  have hT : M * N ≤ 9999 * 20 := Nat.mul_le_mul hm.2 h1
  obtain ⟨T, eT⟩ : ∃ T, T = M * N + M - N := ⟨_, rfl⟩
  have e1 : nI M * nI N + nI M - nI N = nI T := by rw [pk_mul, nI_add, pk_sub (by omega), eT]
  have e2 : lN M * lN N + lN M - lN N = lN T := by rw [lN_mul, lN_add, lN_sub (by omega), eT]
  have e3 : (nI N).toInt64 = lN N := nI_l (by omega)
  have e4 : (nI M).toInt64 = lN M := nI_l (by omega)
  rw [cl_GB_fell, cl_RM_fell]
  by_cases c2 : N = 0
  · simp only [x_iload_1, x_c_0, x_c_2, xc_GB_within, x_if_ne, x_c_m1, x_iret, x_aload_0, x_get_578, x_get_394, x_istore_2, x_iload_2, x_c_1, x_ic_ge, x_c_m2, xc_SH_greatestNumber, x_istore_3, x_iload_3, x_imul, x_iadd, x_isub, x_istore_4, x_ic_ne, x_iload_4, xc_GB_shortened, x_goto, tg_GB_fell_7, tg_GB_fell_16, tg_GB_fell_24, tg_GB_fell_40, tg_GB_fell_44, bk_GB_fell_0, bk_GB_fell_7, bk_GB_fell_16, bk_GB_fell_24, bk_GB_fell_40, bk_GB_fell_44, kil_int, kil_ref, kil_null, kil_long, kil_rA, psh_int, psh_long, psh_null, gI_gS, gL_gS, gR_gS, sI_gS, sL_gS, orf_some, Option.bind_some, List.length_cons, List.length_nil, Nat.reduceAdd, Nat.reduceLeDiff, if_true, if_false, Nat.zero_le, x_iload_1, x_i2l, x_l_0, x_l_2, xc_RM_in, x_if_ne, x_c_m1, x_iret, x_aload_0, x_get_663, x_c_0, x_iald, x_istore_2, x_iload_2, x_c_m2, xc_RM_greatest, x_istore_3, x_iload_3, x_lmul, x_ladd, x_lsub, xc_RM_lowest, x_goto, x_c_1, x_ic_ne, x_get_672, x_get_673, x_l2i, tg_RM_fell_8, tg_RM_fell_17, tg_RM_fell_40, tg_RM_fell_46, tg_RM_fell_48, bk_RM_fell_0, bk_RM_fell_8, bk_RM_fell_17, bk_RM_fell_40, bk_RM_fell_46, bk_RM_fell_48, kil_int, kil_ref, kil_null, kil_long, kil_rA, psh_int, psh_long, psh_null, gI_gS, gL_gS, gR_gS, sI_gS, sL_gS, orf_some, Option.bind_some, List.length_cons, List.length_nil, Nat.reduceAdd, Nat.reduceLeDiff, if_true, if_false, Nat.zero_le, s_GB_within, s_RM_in, ite_b2, at_0, at_23, at_190, at_210, al_210, rw_0_2, rw_190_23, h2, a1, a2]
    simp (disch := first | omega | decide) only [w_Lle, w_leL, nI_ltI, nI_leI, nI_eq, nI_ltL, nI_leL, L_ltI, L_leI, nI_eqL, L_eqI, oob_nI, ix_nI, oob_L, ix_L, nI_1, nI_add, nI_z, z_nI, nI_lt0, nI_ge0, nI_gt0, nI_le0, ne_eq, Nat.le_zero_eq, Nat.not_lt_zero, Nat.lt_irrefl, Nat.le_refl, h3, c2]
    by_cases c1 : 0 ≤ k ∧ k ≤ 2
    · rw [if_pos c1, if_pos c1]
      exact ⟨_, J, rfl, rfl⟩
    · rw [if_neg c1, if_neg c1]
      exact ⟨_, J, rfl, rfl⟩
  · have b1 := s_GB_shortened (gS I J q X) (p := T) (a := T) (b := N) (by omega) (by omega) (by omega) (by omega)
    have b2 := s_GB_shortened (gS I J q X) (p := N) (a := T) (b := N) (by omega) (by omega) (by omega) (by omega)
    have b3 := s_RM_lowest I J q X (a := T) (b := N) (by omega) (by omega) (by omega)
    simp (disch := first | omega | decide) only [x_iload_1, x_c_0, x_c_2, xc_GB_within, x_if_ne, x_c_m1, x_iret, x_aload_0, x_get_578, x_get_394, x_istore_2, x_iload_2, x_c_1, x_ic_ge, x_c_m2, xc_SH_greatestNumber, x_istore_3, x_iload_3, x_imul, x_iadd, x_isub, x_istore_4, x_ic_ne, x_iload_4, xc_GB_shortened, x_goto, tg_GB_fell_7, tg_GB_fell_16, tg_GB_fell_24, tg_GB_fell_40, tg_GB_fell_44, bk_GB_fell_0, bk_GB_fell_7, bk_GB_fell_16, bk_GB_fell_24, bk_GB_fell_40, bk_GB_fell_44, kil_int, kil_ref, kil_null, kil_long, kil_rA, psh_int, psh_long, psh_null, gI_gS, gL_gS, gR_gS, sI_gS, sL_gS, orf_some, Option.bind_some, List.length_cons, List.length_nil, Nat.reduceAdd, Nat.reduceLeDiff, if_true, if_false, Nat.zero_le, x_iload_1, x_i2l, x_l_0, x_l_2, xc_RM_in, x_if_ne, x_c_m1, x_iret, x_aload_0, x_get_663, x_c_0, x_iald, x_istore_2, x_iload_2, x_c_m2, xc_RM_greatest, x_istore_3, x_iload_3, x_lmul, x_ladd, x_lsub, xc_RM_lowest, x_goto, x_c_1, x_ic_ne, x_get_672, x_get_673, x_l2i, tg_RM_fell_8, tg_RM_fell_17, tg_RM_fell_40, tg_RM_fell_46, tg_RM_fell_48, bk_RM_fell_0, bk_RM_fell_8, bk_RM_fell_17, bk_RM_fell_40, bk_RM_fell_46, bk_RM_fell_48, kil_int, kil_ref, kil_null, kil_long, kil_rA, psh_int, psh_long, psh_null, gI_gS, gL_gS, gR_gS, sI_gS, sL_gS, orf_some, Option.bind_some, List.length_cons, List.length_nil, Nat.reduceAdd, Nat.reduceLeDiff, if_true, if_false, Nat.zero_le, s_GB_within, s_RM_in, ite_b2, at_0, at_23, at_190, at_210, al_210, rw_0_2, rw_190_23, h2, a1, a2, e1, b1, b2, w_Lle, w_leL, nI_ltI, nI_leI, nI_eq, nI_ltL, nI_leL, L_ltI, L_leI, nI_eqL, L_eqI, oob_nI, ix_nI, oob_L, ix_L, nI_1, nI_add, nI_z, z_nI, nI_lt0, nI_ge0, nI_gt0, nI_le0, ne_eq, Nat.le_zero_eq, Nat.not_lt_zero, Nat.lt_irrefl, Nat.le_refl, h3, if_neg c2, if_pos c2, e2, e3, e4, b3, lN_32, c2, not_false_eq_true, Bool.false_eq_true]
    by_cases c1 : 0 ≤ k ∧ k ≤ 2
    · rw [if_pos c1, if_pos c1]
      by_cases k0 : k = 0
      · subst k0
        simp only [ne_eq, not_true_eq_false, not_false_eq_true, if_true, if_false, show ((1 : Int32) = 0) = False from by decide, if_pos (show 1 ≤ N by omega)]
        exact ⟨_, _, rfl, rfl⟩
      · by_cases k1 : k = 1
        · subst k1
          simp (disch := first | omega | decide) only [up_at, upd_at, upJ_at, updL_at, Nat.reduceEqDiff, if_true, if_false, ne_eq, not_true_eq_false, not_false_eq_true, if_true, if_false, show ((1 : Int32) = 0) = False from by decide, lN_32, if_pos (show 1 ≤ N by omega)]
          exact ⟨_, _, rfl, rfl⟩
        · simp (disch := first | omega | decide) only [up_at, upd_at, upJ_at, updL_at, Nat.reduceEqDiff, if_true, if_false, ne_eq, not_true_eq_false, not_false_eq_true, if_true, if_false, show ((1 : Int32) = 0) = False from by decide, k0, k1, lN_32, if_pos (show 1 ≤ N by omega)]
          exact ⟨_, _, rfl, rfl⟩
    · rw [if_neg c1, if_neg c1]
      exact ⟨_, J, rfl, rfl⟩
theorem d_most (I : Nat → Nat → Int32) (J : Nat → Nat → Int64) (q : Bool × Bool) (X : Nat × (Nat → Int32)) {N : Nat} {w : Nat → Nat} (h : nums I N w) (a b : Int32) : ∃ v, gb_call 90 [.ref (0 : Nat), .int a, .int b] gb_pG (gS I J q X) = some (v, gb_pG, gS I J q X) ∧ gb_call 165 [.ref (190 : Nat), .int a, .int b] gb_pG (gS I J q X) = some (v, gb_pG, gS I J q X) := by
  have hm := nums_mx h
  have hj := nums_J h
  obtain ⟨h1, h2, h3, h4, h5⟩ := h
  have a1 := s_SH_greatest I J q X h1 h2 hj.1
  have a2 := s_RM_greatest I J q X h1 h3 hj.2
  generalize mx w N = M at hm a1 a2
  rw [cl_GB_most, cl_RM_most]
  simp (disch := first | omega | decide) only [x_iload_1, x_c_1, x_c_1000, xc_GB_within, x_if_eq, x_iload_2, x_ic_le, x_c_m1, x_iret, x_aload_0, x_get_578, x_get_394, x_ic_ge, x_c_m2, xc_SH_greatestNumber, x_l_1000000000, x_i2l, x_lmul, x_ldiv, xc_GB_greatestLikely, tg_GB_most_13, tg_GB_most_15, tg_GB_most_22, bk_GB_most_0, bk_GB_most_13, bk_GB_most_15, bk_GB_most_22, kil_int, kil_ref, kil_null, kil_long, kil_rA, psh_int, psh_long, psh_null, gI_gS, gL_gS, gR_gS, sI_gS, sL_gS, orf_some, Option.bind_some, List.length_cons, List.length_nil, Nat.reduceAdd, Nat.reduceLeDiff, if_true, if_false, Nat.zero_le, x_iload_1, x_i2l, x_l_1, x_l_1000, xc_RM_in, x_if_eq, x_iload_2, x_if_ne, x_c_m1, x_iret, x_aload_0, x_get_663, x_c_0, x_iald, x_c_m2, xc_RM_greatest, x_istore_3, x_l_1000000000, x_lmul, x_ldiv, x_lstore_4, x_c_99999, x_istore_6, x_iload_3, x_iload_6, xc_RM_odds, x_lload_4, x_lc_ge, x_iinc_6_m1, x_goto, tg_RM_most_13, tg_RM_most_15, tg_RM_most_22, tg_RM_most_35, tg_RM_most_44, bk_RM_most_0, bk_RM_most_13, bk_RM_most_15, bk_RM_most_22, bk_RM_most_44, kil_int, kil_ref, kil_null, kil_long, kil_rA, psh_int, psh_long, psh_null, gI_gS, gL_gS, gR_gS, sI_gS, sL_gS, orf_some, Option.bind_some, List.length_cons, List.length_nil, Nat.reduceAdd, Nat.reduceLeDiff, if_true, if_false, Nat.zero_le, s_GB_within, s_RM_in, ite_b1, ite_b2, at_0, at_23, at_190, at_210, al_210, rw_0_2, rw_190_23, h2, a1, a2, w_Lle, w_leL, w_le, nI_ltI, nI_leI, nI_eq, nI_ltL, nI_leL, L_ltI, L_leI, nI_eqL, L_eqI, oob_nI, ix_nI, oob_L, ix_L, nI_1, nI_add, nI_z, z_nI, nI_lt0, nI_ge0, nI_gt0, nI_le0, ne_eq, Nat.le_zero_eq, Nat.not_lt_zero, Nat.lt_irrefl, Nat.le_refl, h3, Bool.false_eq_true]
  by_cases c1 : ¬ (1 ≤ a ∧ a ≤ 1000)
  · simp only [if_pos c1]
    exact ⟨_, rfl, rfl⟩
  replace c1 := Decidable.not_not.mp c1
  simp only [if_neg (not_not_intro c1)]
  obtain ⟨a', x1, x2, rfl⟩ := nI_rng (by decide) (by decide) c1
  replace x1 : 1 ≤ a' := x1
  replace x2 : a' ≤ 1000 := x2
  by_cases c2 : ¬ (1 ≤ b ∧ b ≤ 1000)
  · have c3 : ¬ (nI a' ≤ b ∧ b ≤ 1000) := fun e => c2 ⟨Int32.le_trans c1.1 e.1, e.2⟩
    simp only [if_pos c2, if_neg (not_not_intro c3)]
    exact ⟨_, rfl, rfl⟩
  replace c2 := Decidable.not_not.mp c2
  obtain ⟨b', y1, y2, rfl⟩ := nI_rng (by decide) (by decide) c2
  replace y1 : 1 ≤ b' := y1
  replace y2 : b' ≤ 1000 := y2
  simp only [if_neg (not_not_intro c2), c2.2, and_true]
  simp (disch := first | omega | decide) only [nI_ltI, nI_leI, nI_eq, nI_ltL, nI_leL, L_ltI, L_leI, nI_eqL, L_eqI, oob_nI, ix_nI, oob_L, ix_L, nI_1, nI_add, nI_z, z_nI, nI_lt0, nI_ge0, nI_gt0, nI_le0, ne_eq, Nat.le_zero_eq, Nat.not_lt_zero, Nat.lt_irrefl, Nat.le_refl, nI_l]
  by_cases c3 : a' ≤ b'
  · have c4 : ¬ lN b' = 0 := by rw [show (0 : Int64) = lN 0 from rfl, pk_lEQ (by omega) (by decide)]; omega
    have c5 : (1000000000 : Int64) * lN a' / lN b' = lN (1000000000 * a' / b') := by
      rw [show (1000000000 : Int64) = lN 1000000000 from rfl, lN_mul]
      exact pk_lDiv (by omega) (by omega) (by omega)
    have c6 : 1000000000 * a' / b' ≤ 1000000000 := Nat.div_le_of_le_mul (by rw [Nat.mul_comm b']; exact Nat.mul_le_mul_left _ c3)
    by_cases c7 : N = 0
    · simp [c3, c7]
      omega
    · have c8 : 1 ≤ N := by omega
      obtain ⟨r1, p1, p2⟩ := s_GB_greatestLikely (gS I J q X) hm.1 h1 (show M ≤ 99999 by omega) c6
      obtain ⟨r2, p3, p4⟩ := l_RM_most I J q X (a := nI a') (b := nI b') h3 hm.1 h1 (show M ≤ 99999 by omega) c6 (99999 - M) 99999 (by omega) (by omega) (fun n' _ _ => by omega)
      have := isR_one p2 p4
      subst this
      simp only [c3, c5, if_neg c4, c7, c8, y1, p1, Option.bind_some, psh_int, x_iret, not_true_eq_false, not_false_eq_true, if_true, if_false]
      exact ⟨_, rfl, p3⟩
  · simp [c3]
