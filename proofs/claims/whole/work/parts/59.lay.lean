/-! laying a beach -/
theorem sw_b (I : Nat → Nat → Int32) (J : Nat → Nat → Int64) (q : Bool × Bool) (X : Nat × (Nat → Int32)) : sR (sR (gS I J q X) 0 6 (some (gb_bs q))) 0 7 (some (gb_bb q)) = gS I J (!q.1, q.2) X := by
  unfold sR gS
  dsimp only
  congr 2
  congr 1
  funext x y
  obtain ⟨a, b⟩ := q
  by_cases h7 : x = 0 ∧ y = 7
  · obtain ⟨rfl, rfl⟩ := h7
    cases a <;> rfl
  · rw [if_neg h7]
    by_cases h6 : x = 0 ∧ y = 6
    · obtain ⟨rfl, rfl⟩ := h6
      cases a <;> rfl
    · rw [if_neg h6]
      unfold gb_Rw
      rw [if_neg h6, if_neg h7, if_neg h6, if_neg h7]
      rfl
theorem sw_l (I : Nat → Nat → Int32) (J : Nat → Nat → Int64) (q : Bool × Bool) (X : Nat × (Nat → Int32)) : sR (sR (gS I J q X) 0 8 (some (gb_lq q))) 0 9 (some (gb_lb q)) = gS I J (q.1, !q.2) X := by
  unfold sR gS
  dsimp only
  congr 2
  congr 1
  funext x y
  obtain ⟨a, b⟩ := q
  by_cases h9 : x = 0 ∧ y = 9
  · obtain ⟨rfl, rfl⟩ := h9
    cases b <;> rfl
  · rw [if_neg h9]
    by_cases h8 : x = 0 ∧ y = 8
    · obtain ⟨rfl, rfl⟩ := h8
      cases b <;> rfl
    · rw [if_neg h8]
      unfold gb_Rw
      by_cases h6 : x = 0 ∧ y = 6
      · rw [if_pos h6, if_pos h6]; rfl
      · rw [if_neg h6, if_neg h6]
        by_cases h7 : x = 0 ∧ y = 7
        · rw [if_pos h7, if_pos h7]; rfl
        · rw [if_neg h7, if_neg h7, if_neg h8, if_neg h9, if_neg h8, if_neg h9]
theorem sw_bb (q : Bool × Bool) : gb_bb (!q.1, q.2) = gb_bs q := by obtain ⟨a, b⟩ := q; cases a <;> rfl
theorem sw_lb (q : Bool × Bool) : gb_lb (q.1, !q.2) = gb_lq q := by obtain ⟨a, b⟩ := q; cases b <;> rfl
theorem l_forget (J : Nat → Nat → Int64) (q : Bool × Bool) (X : Nat × (Nat → Int32)) : ∀ d i I, d + i = 8 → ∃ I', gb_ex 12 bk_LA_forget_2 [.ref (3 : Nat), .int (nI i)] [] gb_pG (gS I J q X) = some (.null, gb_pG, gS I' J q X) ∧ (∀ j, I' 4 j = if i ≤ j ∧ j < 8 then 0 else I 4 j) ∧ ∀ a, a ≠ 4 → I' a = I a
  | 0, i, I, e => by
    refine ⟨I, ?_, fun j => by rw [if_neg (by omega)], fun _ _ => rfl⟩
    rw [bk_LA_forget_2]
    simp (disch := first | omega | decide | assumption | simp only [List.length_cons, List.length_nil, Nat.reduceAdd, Nat.reduceLeDiff]) only [x_c_0, x_istore_1, x_iload_1, x_c_8, x_ic_ge, x_aload_0, x_get_66, x_bast, x_zast, x_iinc_1_1, x_goto, x_vret, tg_LA_forget_2, tg_LA_forget_12, bk_LA_forget_0, bk_LA_forget_12, kil_int, kil_ref, kil_null, kil_long, kil_rA, psh_int, psh_long, psh_null, gI_gS, gL_gS, gR_gS, sI_gS, sL_gS, orf_some, Option.bind_some, List.length_cons, List.length_nil, Nat.reduceAdd, Nat.reduceLeDiff, if_true, if_false, Nat.zero_le, nI_ltI, nI_leI, nI_eq, nI_ltL, nI_leL, L_ltI, L_leI, nI_eqL, L_eqI, oob_nI, ix_nI, oob_L, ix_L, nI_1, nI_add, nI_z, z_nI, nI_lt0, nI_ge0, nI_gt0, nI_le0, ne_eq, Nat.le_zero_eq, Nat.not_lt_zero, Nat.lt_irrefl, Nat.le_refl, i10, true_or, ne_eq, not_true_eq_false, not_false_eq_true, Bool.false_eq_true, true_and, and_true, and_self, if_true, if_false, or_true, false_or, or_false, or_self, false_and, and_false, Nat.one_ne_zero, n01, Nat.reduceEqDiff, if_pos (show 8 ≤ i by omega)]
  | d + 1, i, I, e => by
    obtain ⟨I', p1, p2, p3⟩ := l_forget J q X d (i + 1) (up I 4 i 0) (by omega)
    refine ⟨I', ?_, fun j => ?_, fun a ha => by rw [p3 a ha, up_ne ha]⟩
    · have e0 : (0 : Int32) &&& 1 = 0 := by decide
      rw [bk_LA_forget_2, ← p1]
      simp (disch := first | omega | decide | assumption | simp only [List.length_cons, List.length_nil, Nat.reduceAdd, Nat.reduceLeDiff]) only [x_c_0, x_istore_1, x_iload_1, x_c_8, x_ic_ge, x_aload_0, x_get_66, x_bast, x_zast, x_iinc_1_1, x_goto, x_vret, tg_LA_forget_2, tg_LA_forget_12, bk_LA_forget_0, bk_LA_forget_12, kil_int, kil_ref, kil_null, kil_long, kil_rA, psh_int, psh_long, psh_null, gI_gS, gL_gS, gR_gS, sI_gS, sL_gS, orf_some, Option.bind_some, List.length_cons, List.length_nil, Nat.reduceAdd, Nat.reduceLeDiff, if_true, if_false, Nat.zero_le, at_3, at_4, al_4, rw_3_2, nI_ltI, nI_leI, nI_eq, nI_ltL, nI_leL, L_ltI, L_leI, nI_eqL, L_eqI, oob_nI, ix_nI, oob_L, ix_L, nI_1, nI_add, nI_z, z_nI, nI_lt0, nI_ge0, nI_gt0, nI_le0, ne_eq, Nat.le_zero_eq, Nat.not_lt_zero, Nat.lt_irrefl, Nat.le_refl, i10, true_or, ne_eq, not_true_eq_false, not_false_eq_true, Bool.false_eq_true, true_and, and_true, and_self, if_true, if_false, or_true, false_or, or_false, or_self, false_and, and_false, Nat.one_ne_zero, n01, Nat.reduceEqDiff, if_neg (show ¬ 8 ≤ i by omega), e0]
    · rw [p2 j, up_same, upd_at]
      by_cases c : i + 1 ≤ j ∧ j < 8
      · rw [if_pos c, if_pos (by omega)]
      · rw [if_neg c]
        by_cases ej : j = i
        · rw [if_pos ej, if_pos (by omega)]
        · rw [if_neg ej, if_neg (by omega)]
theorem s_forget (I : Nat → Nat → Int32) (J : Nat → Nat → Int64) (q : Bool × Bool) (X : Nat × (Nat → Int32)) : ∃ I', gb_call 12 [.ref (3 : Nat)] gb_pG (gS I J q X) = some (.null, gb_pG, gS I' J q X) ∧ (∀ j, j < 8 → I' 4 j = 0) ∧ ∀ a, a ≠ 4 → I' a = I a := by
  obtain ⟨I', p1, p2, p3⟩ := l_forget J q X 8 0 I (by omega)
  refine ⟨I', ?_, fun j hj => by rw [p2, if_pos (by omega)], p3⟩
  rw [cl_LA_forget, ← p1]
  simp only [x_c_0, x_istore_1, x_iload_1, x_c_8, x_ic_ge, x_aload_0, x_get_66, x_bast, x_zast, x_iinc_1_1, x_goto, x_vret, tg_LA_forget_2, tg_LA_forget_12, bk_LA_forget_0, bk_LA_forget_12, kil_int, kil_ref, kil_null, kil_long, kil_rA, psh_int, psh_long, psh_null, gI_gS, gL_gS, gR_gS, sI_gS, sL_gS, orf_some, Option.bind_some, List.length_cons, List.length_nil, Nat.reduceAdd, Nat.reduceLeDiff, if_true, if_false, Nat.zero_le]
  rfl
theorem s_clear (I : Nat → Nat → Int32) (J : Nat → Nat → Int64) (q : Bool × Bool) (X : Nat × (Nat → Int32)) : gb_call 44 [.ref (23 : Nat)] gb_pG (gS I J q X) = some (.null, gb_pG, gS (up (up (up (up I 23 0 0) 23 4 0) 23 10 0) 23 12 0) J q X) := by
  rw [cl_SH_clear]
  simp (disch := first | omega | decide | assumption | simp only [List.length_cons, List.length_nil, Nat.reduceAdd, Nat.reduceLeDiff]) only [x_aload_0, x_c_0, x_put_384, x_put_388, x_put_394, x_put_396, x_vret, bk_SH_clear_0, kil_int, kil_ref, kil_null, kil_long, kil_rA, psh_int, psh_long, psh_null, gI_gS, gL_gS, gR_gS, sI_gS, sL_gS, orf_some, Option.bind_some, List.length_cons, List.length_nil, Nat.reduceAdd, Nat.reduceLeDiff, if_true, if_false, Nat.zero_le, at_23]
theorem l_laycopy (J : Nat → Nat → Int64) (q : Bool × Bool) (X : Nat × (Nat → Int32)) : ∀ d i I, d + i = 40 → ∃ I', gb_ex 129 bk_RM_lay_81 [.ref (190 : Nat), .int 0, .int (nI i)] [] gb_pG (gS I J q X) = gb_ex 129 bk_RM_lay_132 [.ref (190 : Nat), .int 0, .int (nI 40)] [] gb_pG (gS I' J q X) ∧
    (∀ x, I' 200 x = if i ≤ x ∧ x < 40 then I 200 (40 + x) else I 200 x) ∧ (∀ x, I' 194 x = if i ≤ x ∧ x < 24 then I 194 (24 + x) else I 194 x) ∧ (∀ x, I' 198 x = if i ≤ x ∧ x < 24 then I 198 (24 + x) else I 198 x) ∧ (∀ x, I' 196 x = if i ≤ x ∧ x < 36 then I 196 (36 + x) else I 196 x) ∧ ∀ y, y ≠ 194 → y ≠ 196 → y ≠ 198 → y ≠ 200 → I' y = I y
  | 0, i, I, e => by
    have ei : i = 40 := by omega
    subst ei
    refine ⟨I, ?_, fun x => by rw [if_neg (by omega)], fun x => by rw [if_neg (by omega)], fun x => by rw [if_neg (by omega)], fun x => by rw [if_neg (by omega)], fun _ _ _ _ _ => rfl⟩
    rw [bk_RM_lay_81]
    simp (disch := first | omega | decide | assumption | simp only [List.length_cons, List.length_nil, Nat.reduceAdd, Nat.reduceLeDiff]) only [x_aload_0, x_iload_1, xc_RM_fault, x_c_m4, x_ic_eq, x_c_m2, x_iret, x_if_eq, x_get_652, x_c_0, x_c_1, x_iald, x_iast, x_istore_2, x_iload_2, x_c_130, x_ic_ge, x_get_653, x_iadd, x_iinc_2_1, x_goto, x_get_643, x_get_644, x_get_646, x_get_648, x_get_650, x_c_40, x_get_651, x_c_24, x_get_645, x_get_649, x_c_36, x_get_647, x_get_659, x_get_661, x_get_663, x_put_658, xc_RM_laysWorlds, tg_RM_lay_7, tg_RM_lay_19, tg_RM_lay_34, tg_RM_lay_39, tg_RM_lay_81, tg_RM_lay_117, tg_RM_lay_130, tg_RM_lay_132, tg_RM_lay_152, tg_RM_lay_163, bk_RM_lay_0, bk_RM_lay_7, bk_RM_lay_19, bk_RM_lay_34, bk_RM_lay_39, bk_RM_lay_117, bk_RM_lay_130, bk_RM_lay_152, bk_RM_lay_163, kil_int, kil_ref, kil_null, kil_long, kil_rA, psh_int, psh_long, psh_null, gI_gS, gL_gS, gR_gS, sI_gS, sL_gS, orf_some, Option.bind_some, List.length_cons, List.length_nil, Nat.reduceAdd, Nat.reduceLeDiff, if_true, if_false, Nat.zero_le, nI_ltI, nI_leI, nI_eq, nI_ltL, nI_leL, L_ltI, L_leI, nI_eqL, L_eqI, oob_nI, ix_nI, oob_L, ix_L, nI_1, nI_add, nI_z, z_nI, nI_lt0, nI_ge0, nI_gt0, nI_le0, ne_eq, Nat.le_zero_eq, Nat.not_lt_zero, Nat.lt_irrefl, Nat.le_refl, i10, true_or, ne_eq, not_true_eq_false, not_false_eq_true, Bool.false_eq_true, true_and, and_true, and_self, if_true, if_false, or_true, false_or, or_false, or_self, false_and, and_false, Nat.one_ne_zero, n01, Nat.reduceEqDiff]
  | d + 1, i, I, e => by
    obtain ⟨I1, f1⟩ : ∃ I1, I1 = up I 200 i (I 200 (40 + i)) := ⟨_, rfl⟩
    obtain ⟨I2, f2⟩ : ∃ I2, I2 = if 24 ≤ i then I1 else up (up I1 194 i (I 194 (24 + i))) 198 i (I 198 (24 + i)) := ⟨_, rfl⟩
    obtain ⟨I3, f3⟩ : ∃ I3, I3 = if 36 ≤ i then I2 else up I2 196 i (I 196 (36 + i)) := ⟨_, rfl⟩
    have g200 : ∀ x, I3 200 x = if x = i then I 200 (40 + i) else I 200 x := fun x => by
      have : I3 200 = I1 200 := by
        rw [f3, f2]
        by_cases c1 : 24 ≤ i <;> by_cases c2 : 36 ≤ i <;> simp only [c1, c2, if_true, if_false] <;> simp (disch := first | omega | decide | assumption | simp only [List.length_cons, List.length_nil, Nat.reduceAdd, Nat.reduceLeDiff]) only [up_ne]
      rw [this, f1, up_same]
      rfl
    have g194 : ∀ x, I3 194 x = if i < 24 ∧ x = i then I 194 (24 + i) else I 194 x := fun x => by
      have : I3 194 = I2 194 := by
        rw [f3]
        by_cases c2 : 36 ≤ i <;> simp only [c2, if_true, if_false]
        simp (disch := first | omega | decide | assumption | simp only [List.length_cons, List.length_nil, Nat.reduceAdd, Nat.reduceLeDiff]) only [up_ne]
      rw [this, f2]
      by_cases c2 : 24 ≤ i
      · rw [if_pos c2, if_neg (by omega), f1, up_ne (by omega)]
      · rw [if_neg c2, up_ne (by omega), up_same, f1, up_ne (by omega)]
        simp only [show i < 24 by omega, true_and]
        rfl
    have g198 : ∀ x, I3 198 x = if i < 24 ∧ x = i then I 198 (24 + i) else I 198 x := fun x => by
      have : I3 198 = I2 198 := by
        rw [f3]
        by_cases c2 : 36 ≤ i <;> simp only [c2, if_true, if_false]
        simp (disch := first | omega | decide | assumption | simp only [List.length_cons, List.length_nil, Nat.reduceAdd, Nat.reduceLeDiff]) only [up_ne]
      rw [this, f2]
      by_cases c2 : 24 ≤ i
      · rw [if_pos c2, if_neg (by omega), f1, up_ne (by omega)]
      · rw [if_neg c2, up_same, up_ne (by omega), f1, up_ne (by omega)]
        simp only [show i < 24 by omega, true_and]
        rfl
    have g196 : ∀ x, I3 196 x = if i < 36 ∧ x = i then I 196 (36 + i) else I 196 x := fun x => by
      have h2 : I2 196 = I 196 := by
        rw [f2, f1]
        by_cases c2 : 24 ≤ i <;> simp only [c2, if_true, if_false] <;> simp (disch := first | omega | decide | assumption | simp only [List.length_cons, List.length_nil, Nat.reduceAdd, Nat.reduceLeDiff]) only [up_ne]
      rw [f3]
      by_cases c2 : 36 ≤ i
      · rw [if_pos c2, if_neg (by omega), h2]
      · rw [if_neg c2, up_same, h2]
        simp only [show i < 36 by omega, true_and]
        rfl
    have gf : ∀ y, y ≠ 194 → y ≠ 196 → y ≠ 198 → y ≠ 200 → I3 y = I y := fun y y1 y2 y3 y4 => by
      rw [f3, f2, f1]
      by_cases c1 : 24 ≤ i <;> by_cases c2 : 36 ≤ i <;> simp only [c1, c2, if_true, if_false] <;> simp (disch := first | omega | decide | assumption | simp only [List.length_cons, List.length_nil, Nat.reduceAdd, Nat.reduceLeDiff]) only [up_ne]
    obtain ⟨I', p1, p2, p3, p4, p5, p6⟩ := l_laycopy J q X d (i + 1) I3 (by omega)
    refine ⟨I', ?_, fun x => ?_, fun x => ?_, fun x => ?_, fun x => ?_, fun y y1 y2 y3 y4 => by rw [p6 y y1 y2 y3 y4, gf y y1 y2 y3 y4]⟩
    · rw [bk_RM_lay_81, ← p1]
      simp (disch := first | omega | decide | assumption | simp only [List.length_cons, List.length_nil, Nat.reduceAdd, Nat.reduceLeDiff]) only [x_aload_0, x_iload_1, xc_RM_fault, x_c_m4, x_ic_eq, x_c_m2, x_iret, x_if_eq, x_get_652, x_c_0, x_c_1, x_iald, x_iast, x_istore_2, x_iload_2, x_c_130, x_ic_ge, x_get_653, x_iadd, x_iinc_2_1, x_goto, x_get_643, x_get_644, x_get_646, x_get_648, x_get_650, x_c_40, x_get_651, x_c_24, x_get_645, x_get_649, x_c_36, x_get_647, x_get_659, x_get_661, x_get_663, x_put_658, xc_RM_laysWorlds, tg_RM_lay_7, tg_RM_lay_19, tg_RM_lay_34, tg_RM_lay_39, tg_RM_lay_81, tg_RM_lay_117, tg_RM_lay_130, tg_RM_lay_132, tg_RM_lay_152, tg_RM_lay_163, bk_RM_lay_0, bk_RM_lay_7, bk_RM_lay_19, bk_RM_lay_34, bk_RM_lay_39, bk_RM_lay_117, bk_RM_lay_130, bk_RM_lay_152, bk_RM_lay_163, kil_int, kil_ref, kil_null, kil_long, kil_rA, psh_int, psh_long, psh_null, gI_gS, gL_gS, gR_gS, sI_gS, sL_gS, orf_some, Option.bind_some, List.length_cons, List.length_nil, Nat.reduceAdd, Nat.reduceLeDiff, if_true, if_false, Nat.zero_le, nI_ltI, nI_leI, nI_eq, nI_ltL, nI_leL, L_ltI, L_leI, nI_eqL, L_eqI, oob_nI, ix_nI, oob_L, ix_L, nI_1, nI_add, nI_z, z_nI, nI_lt0, nI_ge0, nI_gt0, nI_le0, ne_eq, Nat.le_zero_eq, Nat.not_lt_zero, Nat.lt_irrefl, Nat.le_refl, L_aI, if_neg (show ¬ 40 ≤ i by omega), at_190, at_194, at_196, at_198, at_200, al_194, al_196, al_198, al_200, rw_190_5, rw_190_7, rw_190_9, rw_190_11, i10, true_or, ne_eq, not_true_eq_false, not_false_eq_true, Bool.false_eq_true, true_and, and_true, and_self, if_true, if_false, or_true, false_or, or_false, or_self, false_and, and_false, Nat.one_ne_zero, n01, Nat.reduceEqDiff, up_ne]
      rw [f3, f2, f1]
      by_cases c1 : 24 ≤ i <;> by_cases c2 : 36 ≤ i <;> simp only [c1, c2, if_true, if_false] <;> simp (disch := first | omega | decide | assumption | simp only [List.length_cons, List.length_nil, Nat.reduceAdd, Nat.reduceLeDiff]) only [nI_ltI, nI_leI, nI_eq, nI_ltL, nI_leL, L_ltI, L_leI, nI_eqL, L_eqI, oob_nI, ix_nI, oob_L, ix_L, nI_1, nI_add, nI_z, z_nI, nI_lt0, nI_ge0, nI_gt0, nI_le0, ne_eq, Nat.le_zero_eq, Nat.not_lt_zero, Nat.lt_irrefl, Nat.le_refl, L_aI, at_194, at_196, at_198, al_194, al_196, al_198, i10, true_or, ne_eq, not_true_eq_false, not_false_eq_true, Bool.false_eq_true, true_and, and_true, and_self, if_true, if_false, or_true, false_or, or_false, or_self, false_and, and_false, Nat.one_ne_zero, n01, Nat.reduceEqDiff, up_ne]
    · rw [p2 x]
      by_cases c : i + 1 ≤ x ∧ x < 40
      · rw [if_pos c, g200, if_neg (by omega), if_pos (by omega)]
      · rw [if_neg c, g200]
        by_cases c2 : x = i
        · rw [if_pos c2, if_pos (by omega), c2]
        · rw [if_neg c2, if_neg (by omega)]
    · rw [p3 x]
      by_cases c : i + 1 ≤ x ∧ x < 24
      · rw [if_pos c, g194, if_neg (by omega), if_pos (by omega)]
      · rw [if_neg c, g194]
        by_cases c2 : i < 24 ∧ x = i
        · rw [if_pos c2, if_pos (by omega), c2.2]
        · rw [if_neg c2, if_neg (by omega)]
    · rw [p4 x]
      by_cases c : i + 1 ≤ x ∧ x < 24
      · rw [if_pos c, g198, if_neg (by omega), if_pos (by omega)]
      · rw [if_neg c, g198]
        by_cases c2 : i < 24 ∧ x = i
        · rw [if_pos c2, if_pos (by omega), c2.2]
        · rw [if_neg c2, if_neg (by omega)]
    · rw [p5 x]
      by_cases c : i + 1 ≤ x ∧ x < 36
      · rw [if_pos c, g196, if_neg (by omega), if_pos (by omega)]
      · rw [if_neg c, g196]
        by_cases c2 : i < 36 ∧ x = i
        · rw [if_pos c2, if_pos (by omega), c2.2]
        · rw [if_neg c2, if_neg (by omega)]
theorem l_lay152 (J : Nat → Nat → Int64) (q : Bool × Bool) (X : Nat × (Nat → Int32)) {N : Nat → Nat} {D : Nat → Nat → Int} (ho : oB N D) : ∀ d l I, d + l = N 4 → mR I 0 N D → (∀ l', l' < l → mW I N D l') → ∃ I', gb_ex 129 bk_RM_lay_152 [.ref (190 : Nat), .int 0, .int (nI l)] [] gb_pG (gS I J q X) = some (.int (nI (N 0)), gb_pG, gS I' J q X) ∧ (∀ l', l' < N 4 → mW I' N D l') ∧ (∀ a, a ≠ 190 → ¬ (203 ≤ a ∧ a ≤ 205) → I' a = I a) ∧ ∀ k, k ≠ 17 → I' 190 k = I 190 k
  | 0, l, I, e, hM, hw => by
    have e2 : l = N 4 := by omega
    subst e2
    obtain ⟨⟨o1, o2, o3, o4, o5, o6⟩, -⟩ := ho
    refine ⟨I, ?_, hw, fun _ _ _ => rfl, fun _ _ => rfl⟩
    have h4 := hM.1.2.2.2.2
    have h0 := hM.1.1
    rw [bk_RM_lay_152]
    simp (disch := first | omega | decide | assumption | simp only [List.length_cons, List.length_nil, Nat.reduceAdd, Nat.reduceLeDiff]) only [x_aload_0, x_iload_1, xc_RM_fault, x_c_m4, x_ic_eq, x_c_m2, x_iret, x_if_eq, x_get_652, x_c_0, x_c_1, x_iald, x_iast, x_istore_2, x_iload_2, x_c_130, x_ic_ge, x_get_653, x_iadd, x_iinc_2_1, x_goto, x_get_643, x_get_644, x_get_646, x_get_648, x_get_650, x_c_40, x_get_651, x_c_24, x_get_645, x_get_649, x_c_36, x_get_647, x_get_659, x_get_661, x_get_663, x_put_658, xc_RM_laysWorlds, tg_RM_lay_7, tg_RM_lay_19, tg_RM_lay_34, tg_RM_lay_39, tg_RM_lay_81, tg_RM_lay_117, tg_RM_lay_130, tg_RM_lay_132, tg_RM_lay_152, tg_RM_lay_163, bk_RM_lay_0, bk_RM_lay_7, bk_RM_lay_19, bk_RM_lay_34, bk_RM_lay_39, bk_RM_lay_81, bk_RM_lay_117, bk_RM_lay_130, bk_RM_lay_132, bk_RM_lay_163, kil_int, kil_ref, kil_null, kil_long, kil_rA, psh_int, psh_long, psh_null, gI_gS, gL_gS, gR_gS, sI_gS, sL_gS, orf_some, Option.bind_some, List.length_cons, List.length_nil, Nat.reduceAdd, Nat.reduceLeDiff, if_true, if_false, Nat.zero_le, at_190, at_192, at_199, al_192, al_199, rw_190_3, rw_190_10, nI_ltI, nI_leI, nI_eq, nI_ltL, nI_leL, L_ltI, L_leI, nI_eqL, L_eqI, oob_nI, ix_nI, oob_L, ix_L, nI_1, nI_add, nI_z, z_nI, nI_lt0, nI_ge0, nI_gt0, nI_le0, ne_eq, Nat.le_zero_eq, Nat.not_lt_zero, Nat.lt_irrefl, Nat.le_refl, i10, true_or, ne_eq, not_true_eq_false, not_false_eq_true, Bool.false_eq_true, true_and, and_true, and_self, if_true, if_false, or_true, false_or, or_false, or_self, false_and, and_false, Nat.one_ne_zero, n01, Nat.reduceEqDiff, h4, h0]
  | d + 1, l, I, e, hM, hw => by
    have hl : l < N 4 := by omega
    obtain ⟨I1, p1, p2, p3, p4, p5⟩ := s_lays I J q X ho hM hl
    have hM1 : mR I1 0 N D := mR_fr hM (fun a a1 a2 => p4 a (by omega) (by omega))
    obtain ⟨I', r1, r2, r3, r4⟩ := l_lay152 J q X ho d (l + 1) I1 (by omega) hM1 (fun l' hl' => by
      by_cases e : l' = l
      · subst e; exact p2
      · exact p3 l' (by omega) e (hw l' (by omega)))
    refine ⟨I', ?_, r2, fun a a1 a2 => by rw [r3 a a1 a2, p4 a a1 a2], fun k hk => by rw [r4 k hk, p5 k hk]⟩
    obtain ⟨⟨o1, o2, o3, o4, o5, o6⟩, -⟩ := ho
    have h4 := hM.1.2.2.2.2
    rw [bk_RM_lay_152, ← r1]
    simp (disch := first | omega | decide | assumption | simp only [List.length_cons, List.length_nil, Nat.reduceAdd, Nat.reduceLeDiff]) only [x_aload_0, x_iload_1, xc_RM_fault, x_c_m4, x_ic_eq, x_c_m2, x_iret, x_if_eq, x_get_652, x_c_0, x_c_1, x_iald, x_iast, x_istore_2, x_iload_2, x_c_130, x_ic_ge, x_get_653, x_iadd, x_iinc_2_1, x_goto, x_get_643, x_get_644, x_get_646, x_get_648, x_get_650, x_c_40, x_get_651, x_c_24, x_get_645, x_get_649, x_c_36, x_get_647, x_get_659, x_get_661, x_get_663, x_put_658, xc_RM_laysWorlds, tg_RM_lay_7, tg_RM_lay_19, tg_RM_lay_34, tg_RM_lay_39, tg_RM_lay_81, tg_RM_lay_117, tg_RM_lay_130, tg_RM_lay_132, tg_RM_lay_152, tg_RM_lay_163, bk_RM_lay_0, bk_RM_lay_7, bk_RM_lay_19, bk_RM_lay_34, bk_RM_lay_39, bk_RM_lay_81, bk_RM_lay_117, bk_RM_lay_130, bk_RM_lay_132, bk_RM_lay_163, kil_int, kil_ref, kil_null, kil_long, kil_rA, psh_int, psh_long, psh_null, gI_gS, gL_gS, gR_gS, sI_gS, sL_gS, orf_some, Option.bind_some, List.length_cons, List.length_nil, Nat.reduceAdd, Nat.reduceLeDiff, if_true, if_false, Nat.zero_le, at_190, at_199, al_199, rw_190_10, nI_ltI, nI_leI, nI_eq, nI_ltL, nI_leL, L_ltI, L_leI, nI_eqL, L_eqI, oob_nI, ix_nI, oob_L, ix_L, nI_1, nI_add, nI_z, z_nI, nI_lt0, nI_ge0, nI_gt0, nI_le0, ne_eq, Nat.le_zero_eq, Nat.not_lt_zero, Nat.lt_irrefl, Nat.le_refl, i10, true_or, ne_eq, not_true_eq_false, not_false_eq_true, Bool.false_eq_true, true_and, and_true, and_self, if_true, if_false, or_true, false_or, or_false, or_self, false_and, and_false, Nat.one_ne_zero, n01, Nat.reduceEqDiff, h4, if_neg (show ¬ N 4 ≤ l by omega), p1]
