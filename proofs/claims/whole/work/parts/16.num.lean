/-! numbers found: how many fell in -/
theorem l_RM_number (I : Nat → Nat → Int32) (J : Nat → Nat → Int64) (q : Bool × Bool) (X : Nat × (Nat → Int32)) (v : Int32) {N : Nat} (hN : N ≤ 20) (h : I 210 0 = nI N) : ∀ d i, d + i = N → gb_ex 161 bk_RM_number_10 [.ref (190 : Nat), .int v, .int (nI i)] [] gb_pG (gS I J q X) = if la (fun j => decide (I 211 j = v)) d i = true then some (.int (-2), gb_pG, gS I J q X) else gb_ex 161 bk_RM_number_26 [.ref (190 : Nat), .int v, .int (nI N)] [] gb_pG (gS I J q X)
  | 0, i, e => by
    have e2 : i = N := by omega
    subst e2
    rw [bk_RM_number_10]
    simp only [x_iload_1, x_i2l, x_l_1, x_l_9999, xc_RM_in, x_if_ne, x_c_m1, x_iret, x_c_0, x_istore_2, x_iload_2, x_aload_0, x_get_663, x_iald, x_ic_ge, x_get_664, x_ic_ne, x_c_m2, x_iinc_2_1, x_goto, x_c_20, x_c_m3, x_iast, x_dup2, x_c_1, x_iadd, tg_RM_number_8, tg_RM_number_10, tg_RM_number_24, tg_RM_number_26, tg_RM_number_34, bk_RM_number_0, bk_RM_number_8, bk_RM_number_24, bk_RM_number_34, kil_int, kil_ref, kil_null, kil_long, kil_rA, psh_int, psh_long, psh_null, gI_gS, gL_gS, gR_gS, sI_gS, sL_gS, orf_some, Option.bind_some, List.length_cons, List.length_nil, Nat.reduceAdd, Nat.reduceLeDiff, if_true, if_false, Nat.zero_le, at_190, at_210, at_211, al_210, al_211, rw_190_23, rw_190_24]
    simp (disch := first | omega | decide) only [nI_ltI, nI_leI, nI_eq, nI_ltL, nI_leL, L_ltI, L_leI, nI_eqL, L_eqI, oob_nI, ix_nI, oob_L, ix_L, nI_1, nI_add, nI_z, z_nI, nI_lt0, nI_ge0, nI_gt0, nI_le0, ne_eq, Nat.le_zero_eq, Nat.not_lt_zero, Nat.lt_irrefl, Nat.le_refl, h, la]
    simp
  | d + 1, i, e => by
    have ih := l_RM_number I J q X v hN h d (i + 1) (by omega)
    rw [bk_RM_number_10]
    simp only [x_iload_1, x_i2l, x_l_1, x_l_9999, xc_RM_in, x_if_ne, x_c_m1, x_iret, x_c_0, x_istore_2, x_iload_2, x_aload_0, x_get_663, x_iald, x_ic_ge, x_get_664, x_ic_ne, x_c_m2, x_iinc_2_1, x_goto, x_c_20, x_c_m3, x_iast, x_dup2, x_c_1, x_iadd, tg_RM_number_8, tg_RM_number_10, tg_RM_number_24, tg_RM_number_26, tg_RM_number_34, bk_RM_number_0, bk_RM_number_8, bk_RM_number_24, bk_RM_number_34, kil_int, kil_ref, kil_null, kil_long, kil_rA, psh_int, psh_long, psh_null, gI_gS, gL_gS, gR_gS, sI_gS, sL_gS, orf_some, Option.bind_some, List.length_cons, List.length_nil, Nat.reduceAdd, Nat.reduceLeDiff, if_true, if_false, Nat.zero_le, at_190, at_210, at_211, al_210, al_211, rw_190_23, rw_190_24]
    simp (disch := first | omega | decide) only [nI_ltI, nI_leI, nI_eq, nI_ltL, nI_leL, L_ltI, L_leI, nI_eqL, L_eqI, oob_nI, ix_nI, oob_L, ix_L, nI_1, nI_add, nI_z, z_nI, nI_lt0, nI_ge0, nI_gt0, nI_le0, ne_eq, Nat.le_zero_eq, Nat.not_lt_zero, Nat.lt_irrefl, Nat.le_refl, h, ih, la]
    rw [if_neg (show ¬ N ≤ i by omega)]
    by_cases hv : I 211 i = v <;> simp [hv]
theorem s_RM_number (I : Nat → Nat → Int32) (J : Nat → Nat → Int64) (q : Bool × Bool) (X : Nat × (Nat → Int32)) (v : Int32) {N : Nat} (hN : N ≤ 20) (h : I 210 0 = nI N) : gb_call 161 [.ref (190 : Nat), .int v] gb_pG (gS I J q X) =
    if ¬ (1 ≤ v ∧ v ≤ 9999) then some (.int (-1), gb_pG, gS I J q X) else if la (fun j => decide (I 211 j = v)) N 0 = true then some (.int (-2), gb_pG, gS I J q X) else if N = 20 then some (.int (-3), gb_pG, gS I J q X) else some (.int (nI (N + 1)), gb_pG, gS (up (up I 211 N v) 210 0 (nI (N + 1))) J q X) := by
  rw [cl_RM_number]
  have hl := l_RM_number I J q X v hN h N 0 (by omega)
  rw [nI_0] at hl
  simp only [x_iload_1, x_i2l, x_l_1, x_l_9999, xc_RM_in, x_if_ne, x_c_m1, x_iret, x_c_0, x_istore_2, x_iload_2, x_aload_0, x_get_663, x_iald, x_ic_ge, x_get_664, x_ic_ne, x_c_m2, x_iinc_2_1, x_goto, x_c_20, x_c_m3, x_iast, x_dup2, x_c_1, x_iadd, tg_RM_number_8, tg_RM_number_10, tg_RM_number_24, tg_RM_number_26, tg_RM_number_34, bk_RM_number_0, bk_RM_number_8, bk_RM_number_24, bk_RM_number_34, kil_int, kil_ref, kil_null, kil_long, kil_rA, psh_int, psh_long, psh_null, gI_gS, gL_gS, gR_gS, sI_gS, sL_gS, orf_some, Option.bind_some, List.length_cons, List.length_nil, Nat.reduceAdd, Nat.reduceLeDiff, if_true, if_false, Nat.zero_le, s_RM_in, hl, ite_b2]
  simp (disch := first | omega | decide) only [w_Lle, w_leL]
  by_cases h1 : 1 ≤ v ∧ v ≤ 9999
  · rw [if_pos h1, if_neg (not_not_intro h1)]
    by_cases h2 : la (fun j => decide (I 211 j = v)) N 0 = true
    · rw [if_pos h2, if_pos h2]
    · rw [if_neg h2, if_neg h2, bk_RM_number_26]
      simp only [x_iload_1, x_i2l, x_l_1, x_l_9999, xc_RM_in, x_if_ne, x_c_m1, x_iret, x_c_0, x_istore_2, x_iload_2, x_aload_0, x_get_663, x_iald, x_ic_ge, x_get_664, x_ic_ne, x_c_m2, x_iinc_2_1, x_goto, x_c_20, x_c_m3, x_iast, x_dup2, x_c_1, x_iadd, tg_RM_number_8, tg_RM_number_10, tg_RM_number_24, tg_RM_number_26, tg_RM_number_34, bk_RM_number_0, bk_RM_number_8, bk_RM_number_24, bk_RM_number_34, kil_int, kil_ref, kil_null, kil_long, kil_rA, psh_int, psh_long, psh_null, gI_gS, gL_gS, gR_gS, sI_gS, sL_gS, orf_some, Option.bind_some, List.length_cons, List.length_nil, Nat.reduceAdd, Nat.reduceLeDiff, if_true, if_false, Nat.zero_le, at_190, at_210, at_211, al_210, al_211, rw_190_23, rw_190_24]
      by_cases h3 : N = 20
      · subst h3
        simp (disch := first | omega | decide) [nI_ltI, nI_leI, nI_eq, nI_ltL, nI_leL, L_ltI, L_leI, nI_eqL, L_eqI, oob_nI, ix_nI, oob_L, ix_L, nI_1, nI_add, nI_z, z_nI, nI_lt0, nI_ge0, nI_gt0, nI_le0, ne_eq, Nat.le_zero_eq, Nat.not_lt_zero, Nat.lt_irrefl, Nat.le_refl, h]
      · simp (disch := first | omega | decide) only [nI_ltI, nI_leI, nI_eq, nI_ltL, nI_leL, L_ltI, L_leI, nI_eqL, L_eqI, oob_nI, ix_nI, oob_L, ix_L, nI_1, nI_add, nI_z, z_nI, nI_lt0, nI_ge0, nI_gt0, nI_le0, ne_eq, Nat.le_zero_eq, Nat.not_lt_zero, Nat.lt_irrefl, Nat.le_refl, up_at, upd_at, upJ_at, updL_at, h]
        simp (disch := first | omega | decide) [nI_ltI, nI_leI, nI_eq, nI_ltL, nI_leL, L_ltI, L_leI, nI_eqL, L_eqI, oob_nI, ix_nI, oob_L, ix_L, nI_1, nI_add, nI_z, z_nI, nI_lt0, nI_ge0, nI_gt0, nI_le0, ne_eq, Nat.le_zero_eq, Nat.not_lt_zero, Nat.lt_irrefl, Nat.le_refl, up_at, upd_at, upJ_at, updL_at, h, h3]
  · rw [if_neg h1, if_pos h1]
/-- the greatest -/
def mx (w : Nat → Nat) (N : Nat) : Nat := lp (fun i a => if a < w i then w i else a) N 0 0
theorem l_SH_greatest (I : Nat → Nat → Int32) (J : Nat → Nat → Int64) (q : Bool × Bool) (X : Nat × (Nat → Int32)) {w : Nat → Nat} {N : Nat} (hN : N ≤ 20) (h : I 23 10 = nI N) (hw : ∀ j, j < N → I 32 j = nI (w j) ∧ w j ≤ 9999) : ∀ d i a, d + i = N → a ≤ 9999 → gb_ex 53 bk_SH_greatestNumber_4 [.ref (23 : Nat), .int (nI a), .int (nI i)] [] gb_pG (gS I J q X) = some (.int (nI (lp (fun i a => if a < w i then w i else a) d i a)), gb_pG, gS I J q X)
  | 0, i, a, e, ha => by
    rw [bk_SH_greatestNumber_4]
    simp only [x_c_0, x_istore_1, x_istore_2, x_iload_2, x_aload_0, x_get_394, x_ic_ge, x_iload_1, x_get_395, x_iald, x_max, x_iinc_2_1, x_goto, x_iret, tg_SH_greatestNumber_4, tg_SH_greatestNumber_17, bk_SH_greatestNumber_0, bk_SH_greatestNumber_17, kil_int, kil_ref, kil_null, kil_long, kil_rA, psh_int, psh_long, psh_null, gI_gS, gL_gS, gR_gS, sI_gS, sL_gS, orf_some, Option.bind_some, List.length_cons, List.length_nil, Nat.reduceAdd, Nat.reduceLeDiff, if_true, if_false, Nat.zero_le, at_23, at_32, al_32, rw_23_11, h]
    simp (disch := first | omega | decide) only [nI_ltI, nI_leI, nI_eq, nI_ltL, nI_leL, L_ltI, L_leI, nI_eqL, L_eqI, oob_nI, ix_nI, oob_L, ix_L, nI_1, nI_add, nI_z, z_nI, nI_lt0, nI_ge0, nI_gt0, nI_le0, ne_eq, Nat.le_zero_eq, Nat.not_lt_zero, Nat.lt_irrefl, Nat.le_refl, lp, if_pos (show N ≤ i by omega)]
  | d + 1, i, a, e, ha => by
    obtain ⟨w1, w2⟩ := hw i (by omega)
    have ih := l_SH_greatest I J q X hN h hw d (i + 1) (if a < w i then w i else a) (by omega) (by split <;> omega)
    rw [bk_SH_greatestNumber_4]
    simp only [x_c_0, x_istore_1, x_istore_2, x_iload_2, x_aload_0, x_get_394, x_ic_ge, x_iload_1, x_get_395, x_iald, x_max, x_iinc_2_1, x_goto, x_iret, tg_SH_greatestNumber_4, tg_SH_greatestNumber_17, bk_SH_greatestNumber_0, bk_SH_greatestNumber_17, kil_int, kil_ref, kil_null, kil_long, kil_rA, psh_int, psh_long, psh_null, gI_gS, gL_gS, gR_gS, sI_gS, sL_gS, orf_some, Option.bind_some, List.length_cons, List.length_nil, Nat.reduceAdd, Nat.reduceLeDiff, if_true, if_false, Nat.zero_le, at_23, at_32, al_32, rw_23_11, h]
    simp (disch := first | omega | decide) only [nI_ltI, nI_leI, nI_eq, nI_ltL, nI_leL, L_ltI, L_leI, nI_eqL, L_eqI, oob_nI, ix_nI, oob_L, ix_L, nI_1, nI_add, nI_z, z_nI, nI_lt0, nI_ge0, nI_gt0, nI_le0, ne_eq, Nat.le_zero_eq, Nat.not_lt_zero, Nat.lt_irrefl, Nat.le_refl, w1, lp, if_neg (show ¬ N ≤ i by omega)]
    rw [← ih]
    by_cases hc : a < w i <;> simp [hc]
theorem s_SH_greatest (I : Nat → Nat → Int32) (J : Nat → Nat → Int64) (q : Bool × Bool) (X : Nat × (Nat → Int32)) {w : Nat → Nat} {N : Nat} (hN : N ≤ 20) (h : I 23 10 = nI N) (hw : ∀ j, j < N → I 32 j = nI (w j) ∧ w j ≤ 9999) : gb_call 53 [.ref (23 : Nat)] gb_pG (gS I J q X) = some (.int (nI (mx w N)), gb_pG, gS I J q X) := by
  rw [cl_SH_greatestNumber]
  simp only [x_c_0, x_istore_1, x_istore_2, x_iload_2, x_aload_0, x_get_394, x_ic_ge, x_iload_1, x_get_395, x_iald, x_max, x_iinc_2_1, x_goto, x_iret, tg_SH_greatestNumber_4, tg_SH_greatestNumber_17, bk_SH_greatestNumber_0, bk_SH_greatestNumber_17, kil_int, kil_ref, kil_null, kil_long, kil_rA, psh_int, psh_long, psh_null, gI_gS, gL_gS, gR_gS, sI_gS, sL_gS, orf_some, Option.bind_some, List.length_cons, List.length_nil, Nat.reduceAdd, Nat.reduceLeDiff, if_true, if_false, Nat.zero_le]
  exact l_SH_greatest I J q X hN h hw N 0 0 (by omega) (by omega)
theorem l_RM_greatest (I : Nat → Nat → Int32) (J : Nat → Nat → Int64) (q : Bool × Bool) (X : Nat × (Nat → Int32)) {w : Nat → Nat} {N : Nat} (hN : N ≤ 20) (h : I 210 0 = nI N) (hw : ∀ j, j < N → I 211 j = nI (w j) ∧ w j ≤ 9999) : ∀ d i a, d + i = N → a ≤ 9999 → gb_ex 162 bk_RM_greatest_4 [.ref (190 : Nat), .int (nI a), .int (nI i)] [] gb_pG (gS I J q X) = some (.int (nI (lp (fun i a => if a < w i then w i else a) d i a)), gb_pG, gS I J q X)
  | 0, i, a, e, ha => by
    rw [bk_RM_greatest_4]
    simp only [x_c_0, x_istore_1, x_istore_2, x_iload_2, x_aload_0, x_get_663, x_iald, x_ic_ge, x_get_664, x_iload_1, x_ic_le, x_goto, x_iinc_2_1, x_iret, tg_RM_greatest_4, tg_RM_greatest_21, tg_RM_greatest_22, tg_RM_greatest_25, bk_RM_greatest_0, bk_RM_greatest_21, bk_RM_greatest_22, bk_RM_greatest_25, kil_int, kil_ref, kil_null, kil_long, kil_rA, psh_int, psh_long, psh_null, gI_gS, gL_gS, gR_gS, sI_gS, sL_gS, orf_some, Option.bind_some, List.length_cons, List.length_nil, Nat.reduceAdd, Nat.reduceLeDiff, if_true, if_false, Nat.zero_le, at_190, at_210, at_211, al_210, al_211, rw_190_23, rw_190_24]
    simp (disch := first | omega | decide) only [nI_ltI, nI_leI, nI_eq, nI_ltL, nI_leL, L_ltI, L_leI, nI_eqL, L_eqI, oob_nI, ix_nI, oob_L, ix_L, nI_1, nI_add, nI_z, z_nI, nI_lt0, nI_ge0, nI_gt0, nI_le0, ne_eq, Nat.le_zero_eq, Nat.not_lt_zero, Nat.lt_irrefl, Nat.le_refl, h, lp, if_pos (show N ≤ i by omega)]
    simp
  | d + 1, i, a, e, ha => by
    obtain ⟨w1, w2⟩ := hw i (by omega)
    have ih := l_RM_greatest I J q X hN h hw d (i + 1) (if a < w i then w i else a) (by omega) (by split <;> omega)
    rw [bk_RM_greatest_4]
    simp only [x_c_0, x_istore_1, x_istore_2, x_iload_2, x_aload_0, x_get_663, x_iald, x_ic_ge, x_get_664, x_iload_1, x_ic_le, x_goto, x_iinc_2_1, x_iret, tg_RM_greatest_4, tg_RM_greatest_21, tg_RM_greatest_22, tg_RM_greatest_25, bk_RM_greatest_0, bk_RM_greatest_21, bk_RM_greatest_22, bk_RM_greatest_25, kil_int, kil_ref, kil_null, kil_long, kil_rA, psh_int, psh_long, psh_null, gI_gS, gL_gS, gR_gS, sI_gS, sL_gS, orf_some, Option.bind_some, List.length_cons, List.length_nil, Nat.reduceAdd, Nat.reduceLeDiff, if_true, if_false, Nat.zero_le, at_190, at_210, at_211, al_210, al_211, rw_190_23, rw_190_24]
    simp (disch := first | omega | decide) only [nI_ltI, nI_leI, nI_eq, nI_ltL, nI_leL, L_ltI, L_leI, nI_eqL, L_eqI, oob_nI, ix_nI, oob_L, ix_L, nI_1, nI_add, nI_z, z_nI, nI_lt0, nI_ge0, nI_gt0, nI_le0, ne_eq, Nat.le_zero_eq, Nat.not_lt_zero, Nat.lt_irrefl, Nat.le_refl, h, w1, lp, if_neg (show ¬ N ≤ i by omega)]
    rw [← ih]
    by_cases hc : a < w i
    · simp [hc, if_neg (show ¬ w i ≤ a by omega)]
    · simp [hc, if_pos (show w i ≤ a by omega)]
theorem s_RM_greatest (I : Nat → Nat → Int32) (J : Nat → Nat → Int64) (q : Bool × Bool) (X : Nat × (Nat → Int32)) {w : Nat → Nat} {N : Nat} (hN : N ≤ 20) (h : I 210 0 = nI N) (hw : ∀ j, j < N → I 211 j = nI (w j) ∧ w j ≤ 9999) : gb_call 162 [.ref (190 : Nat)] gb_pG (gS I J q X) = some (.int (nI (mx w N)), gb_pG, gS I J q X) := by
  rw [cl_RM_greatest]
  simp only [x_c_0, x_istore_1, x_istore_2, x_iload_2, x_aload_0, x_get_663, x_iald, x_ic_ge, x_get_664, x_iload_1, x_ic_le, x_goto, x_iinc_2_1, x_iret, tg_RM_greatest_4, tg_RM_greatest_21, tg_RM_greatest_22, tg_RM_greatest_25, bk_RM_greatest_0, bk_RM_greatest_21, bk_RM_greatest_22, bk_RM_greatest_25, kil_int, kil_ref, kil_null, kil_long, kil_rA, psh_int, psh_long, psh_null, gI_gS, gL_gS, gR_gS, sI_gS, sL_gS, orf_some, Option.bind_some, List.length_cons, List.length_nil, Nat.reduceAdd, Nat.reduceLeDiff, if_true, if_false, Nat.zero_le]
  exact l_RM_greatest I J q X hN h hw N 0 0 (by omega) (by omega)
theorem mx_ge {w : Nat → Nat} : ∀ d i a, a ≤ lp (fun i a => if a < w i then w i else a) d i a ∧ ∀ j, i ≤ j → j < i + d → w j ≤ lp (fun i a => if a < w i then w i else a) d i a
  | 0, i, a => ⟨Nat.le_refl _, fun j h1 h2 => by omega⟩
  | d + 1, i, a => by
    obtain ⟨h1, h2⟩ := mx_ge (w := w) d (i + 1) (if a < w i then w i else a)
    rw [lp]
    have k1 : a ≤ (if a < w i then w i else a) := by split <;> omega
    have k2 : w i ≤ (if a < w i then w i else a) := by split <;> omega
    refine ⟨Nat.le_trans k1 h1, fun j h3 h4 => ?_⟩
    by_cases e : j = i
    · subst e
      exact Nat.le_trans k2 h1
    · exact h2 j (by omega) (by omega)
theorem mx_le {w : Nat → Nat} {M : Nat} : ∀ d i a, a ≤ M → (∀ j, i ≤ j → j < i + d → w j ≤ M) → lp (fun i a => if a < w i then w i else a) d i a ≤ M
  | 0, i, a, h, _ => h
  | d + 1, i, a, h, hw => by
    rw [lp]
    refine mx_le d (i + 1) _ ?_ (fun j h1 h2 => hw j (by omega) (by omega))
    have := hw i (by omega) (by omega)
    split <;> omega
/-! a fraction in lowest terms -/
theorem l_GB_shortened (g : gb_Sg) {p a b : Nat} (hp : p < 2147483648) (ha : a < 2147483648) (hb : b < 2147483648) (hb0 : 0 < b) : ∀ d, Nat.gcd a b ≤ d → d ≤ b → gb_ex 93 bk_GB_shortened_2 [.int (nI p), .int (nI a), .int (nI b), .int (nI d)] [] gb_pG g = some (.int (nI (p / Nat.gcd a b)), gb_pG, g)
  | 0, h, _ => by
    have := Nat.gcd_pos_of_pos_right a hb0
    omega
  | d + 1, h, hd => by
    have hg := Nat.gcd_pos_of_pos_right a hb0
    rw [bk_GB_shortened_2]
    simp only [x_iload_2, x_istore_3, x_iload_3, x_c_1, x_ic_le, x_iload_1, x_irem, x_if_ne, x_iload_0, x_idiv, x_iret, x_iinc_3_m1, x_goto, tg_GB_shortened_2, tg_GB_shortened_17, tg_GB_shortened_19, bk_GB_shortened_0, bk_GB_shortened_17, bk_GB_shortened_19, kil_int, kil_ref, kil_null, kil_long, kil_rA, psh_int, psh_long, psh_null, gI_gS, gL_gS, gR_gS, sI_gS, sL_gS, orf_some, Option.bind_some, List.length_cons, List.length_nil, Nat.reduceAdd, Nat.reduceLeDiff, if_true, if_false, Nat.zero_le]
    by_cases h1 : d = 0
    · subst h1
      simp (disch := first | omega | decide) only [nI_ltI, nI_leI, nI_eq, nI_ltL, nI_leL, L_ltI, L_leI, nI_eqL, L_eqI, oob_nI, ix_nI, oob_L, ix_L, nI_1, nI_add, nI_z, z_nI, nI_lt0, nI_ge0, nI_gt0, nI_le0, ne_eq, Nat.le_zero_eq, Nat.not_lt_zero, Nat.lt_irrefl, Nat.le_refl]
      have : Nat.gcd a b = 1 := by omega
      simp [this]
    · have r1 : nI a - nI a / nI (d + 1) * nI (d + 1) = nI (a % (d + 1)) := pk_rem ha (by omega) (by omega)
      have r2 : nI b - nI b / nI (d + 1) * nI (d + 1) = nI (b % (d + 1)) := pk_rem hb (by omega) (by omega)
      simp only [r1, r2]
      simp (disch := first | omega | decide) only [nI_ltI, nI_leI, nI_eq, nI_ltL, nI_leL, L_ltI, L_leI, nI_eqL, L_eqI, oob_nI, ix_nI, oob_L, ix_L, nI_1, nI_add, nI_z, z_nI, nI_lt0, nI_ge0, nI_gt0, nI_le0, ne_eq, Nat.le_zero_eq, Nat.not_lt_zero, Nat.lt_irrefl, Nat.le_refl, pk_div, if_neg (show ¬ d + 1 ≤ 1 by omega), if_neg (show ¬ d + 1 = 0 by omega), nI_pred]
      by_cases h2 : a % (d + 1) = 0 ∧ b % (d + 1) = 0
      · have h3 : d + 1 ∣ Nat.gcd a b := Nat.dvd_gcd (Nat.dvd_of_mod_eq_zero h2.1) (Nat.dvd_of_mod_eq_zero h2.2)
        have h4 := Nat.le_of_dvd hg h3
        have h5 : Nat.gcd a b = d + 1 := by omega
        have b1 : a % (d + 1) < d + 1 := Nat.mod_lt _ (by omega)
        have b2 : b % (d + 1) < d + 1 := Nat.mod_lt _ (by omega)
        simp (disch := first | omega | decide) only [nI_ltI, nI_leI, nI_eq, nI_ltL, nI_leL, L_ltI, L_leI, nI_eqL, L_eqI, oob_nI, ix_nI, oob_L, ix_L, nI_1, nI_add, nI_z, z_nI, nI_lt0, nI_ge0, nI_gt0, nI_le0, ne_eq, Nat.le_zero_eq, Nat.not_lt_zero, Nat.lt_irrefl, Nat.le_refl, h2.1, h2.2, h5, ne_eq, not_true_eq_false, if_false]
      · have ih := l_GB_shortened g hp ha hb hb0 d (by
          rcases Nat.lt_or_ge d (Nat.gcd a b) with q | q
          · exfalso
            have h5 : Nat.gcd a b = d + 1 := by omega
            exact h2 ⟨Nat.mod_eq_zero_of_dvd (h5 ▸ Nat.gcd_dvd_left a b), Nat.mod_eq_zero_of_dvd (h5 ▸ Nat.gcd_dvd_right a b)⟩
          · exact q) (by omega)
        have b1 : a % (d + 1) < d + 1 := Nat.mod_lt _ (by omega)
        have b2 : b % (d + 1) < d + 1 := Nat.mod_lt _ (by omega)
        have e1 : nI (d + 1) + -1 = nI d := pk_m1 d
        generalize a % (d + 1) = A at h2 b1 ⊢
        generalize b % (d + 1) = B at h2 b2 ⊢
        simp (disch := first | omega | decide) only [nI_ltI, nI_leI, nI_eq, nI_ltL, nI_leL, L_ltI, L_leI, nI_eqL, L_eqI, oob_nI, ix_nI, oob_L, ix_L, nI_1, nI_add, nI_z, z_nI, nI_lt0, nI_ge0, nI_gt0, nI_le0, ne_eq, Nat.le_zero_eq, Nat.not_lt_zero, Nat.lt_irrefl, Nat.le_refl, e1, ih]
        by_cases h3 : A = 0
        · have h4 : ¬ B = 0 := fun q => h2 ⟨h3, q⟩
          simp [h3, h4]
        · simp [h3]
theorem s_GB_shortened (g : gb_Sg) {p a b : Nat} (hp : p < 2147483648) (ha : a < 2147483648) (hb : b < 2147483648) (hb0 : 0 < b) : gb_call 93 [.int (nI p), .int (nI a), .int (nI b)] gb_pG g = some (.int (nI (p / Nat.gcd a b)), gb_pG, g) := by
  rw [cl_GB_shortened]
  simp only [x_iload_2, x_istore_3, x_iload_3, x_c_1, x_ic_le, x_iload_1, x_irem, x_if_ne, x_iload_0, x_idiv, x_iret, x_iinc_3_m1, x_goto, tg_GB_shortened_2, tg_GB_shortened_17, tg_GB_shortened_19, bk_GB_shortened_0, bk_GB_shortened_17, bk_GB_shortened_19, kil_int, kil_ref, kil_null, kil_long, kil_rA, psh_int, psh_long, psh_null, gI_gS, gL_gS, gR_gS, sI_gS, sL_gS, orf_some, Option.bind_some, List.length_cons, List.length_nil, Nat.reduceAdd, Nat.reduceLeDiff, if_true, if_false, Nat.zero_le]
  exact l_GB_shortened g hp ha hb hb0 b (Nat.gcd_le_right a hb0) (Nat.le_refl b)
theorem l_RM_lowest (I : Nat → Nat → Int32) (J : Nat → Nat → Int64) (q : Bool × Bool) (X : Nat × (Nat → Int32)) {a b : Nat} (ha : a < 9223372036854775808) (hb : b < 9223372036854775808) (hb0 : 0 < b) : ∀ (n x y : Nat) (z1 z2 : Value), y < n → x < 9223372036854775808 → y < 9223372036854775808 → Nat.gcd x y = Nat.gcd a b → gb_ex 163 bk_RM_lowest_4 [.ref (190 : Nat), .long (lN a), .null, .long (lN b), .null, .long (lN x), .null, .long (lN y), .null, z1, z2] [] gb_pG (gS I J q X) = some (.null, gb_pG, gS I (upJ (upJ J 190 32 (lN (a / Nat.gcd a b))) 190 33 (lN (b / Nat.gcd a b))) q X)
  | 0, x, y, z1, z2, h, _, _, _ => by omega
  | n + 1, x, y, z1, z2, h, hx, hy, hg => by
    have hgp := Nat.gcd_pos_of_pos_right a hb0
    rw [bk_RM_lowest_4]
    simp only [x_lload_1, x_lstore_5, x_lload_3, x_lstore_7, x_lload_7, x_l_0, x_lc_eq, x_lload_5, x_lrem, x_lstore_9, x_lload_9, x_goto, x_aload_0, x_ldiv, x_put_672, x_put_673, x_vret, tg_RM_lowest_4, tg_RM_lowest_17, bk_RM_lowest_0, bk_RM_lowest_17, kil_int, kil_ref, kil_null, kil_long, kil_rA, psh_int, psh_long, psh_null, gI_gS, gL_gS, gR_gS, sI_gS, sL_gS, orf_some, Option.bind_some, List.length_cons, List.length_nil, Nat.reduceAdd, Nat.reduceLeDiff, if_true, if_false, Nat.zero_le, at_190]
    by_cases h0 : y = 0
    · subst h0
      rw [Nat.gcd_zero_right] at hg
      subst hg
      have e0 : lN 0 = 0 := rfl
      have e1 : ¬ lN (Nat.gcd a b) = 0 := by rw [← e0, pk_lEQ hx (by decide)]; omega
      simp only [e0, if_true, if_neg e1]
      rw [pk_lDiv ha hgp hx, pk_lDiv hb hgp hx]
    · have e0 : lN 0 = 0 := rfl
      have e1 : ¬ lN y = 0 := by rw [← e0, pk_lEQ hy (by decide)]; exact h0
      have hm : x % y < y := Nat.mod_lt _ (by omega)
      simp only [if_neg e1]
      rw [pk_lRem hx (by omega) hy]
      exact l_RM_lowest I J q X ha hb hb0 n y (x % y) _ _ (by omega) hy (by omega) (by rw [← hg, Nat.gcd_comm x y, Nat.gcd_rec y x, Nat.gcd_comm])
theorem s_RM_lowest (I : Nat → Nat → Int32) (J : Nat → Nat → Int64) (q : Bool × Bool) (X : Nat × (Nat → Int32)) {a b : Nat} (ha : a < 9223372036854775808) (hb : b < 9223372036854775808) (hb0 : 0 < b) : gb_call 163 [.ref (190 : Nat), .long (lN a), .long (lN b)] gb_pG (gS I J q X) = some (.null, gb_pG, gS I (upJ (upJ J 190 32 (lN (a / Nat.gcd a b))) 190 33 (lN (b / Nat.gcd a b))) q X) := by
  rw [cl_RM_lowest]
  simp only [x_lload_1, x_lstore_5, x_lload_3, x_lstore_7, x_lload_7, x_l_0, x_lc_eq, x_lload_5, x_lrem, x_lstore_9, x_lload_9, x_goto, x_aload_0, x_ldiv, x_put_672, x_put_673, x_vret, tg_RM_lowest_4, tg_RM_lowest_17, bk_RM_lowest_0, bk_RM_lowest_17, kil_int, kil_ref, kil_null, kil_long, kil_rA, psh_int, psh_long, psh_null, gI_gS, gL_gS, gR_gS, sI_gS, sL_gS, orf_some, Option.bind_some, List.length_cons, List.length_nil, Nat.reduceAdd, Nat.reduceLeDiff, if_true, if_false, Nat.zero_le]
  exact l_RM_lowest I J q X ha hb hb0 (b + 1) a b _ _ (by omega) ha hb rfl
/-! how many at the most -/
def od (m n : Nat) (k : Nat) : Nat := lp (fun i v => v * (m - i) / (n - i)) k 0 1000000000
theorem od_step_le {m n i v : Nat} (h : m ≤ n) (hi : i < n) (hv : v ≤ 1000000000) : v * (m - i) / (n - i) ≤ 1000000000 := by
  have h1 : v * (m - i) ≤ 1000000000 * (n - i) := Nat.mul_le_mul hv (by omega)
  exact Nat.div_le_of_le_mul (by rw [Nat.mul_comm (n - i)]; exact h1)
theorem od_val {m n i v : Nat} (h : m ≤ n) (hm : m ≤ 99999) (hn : n ≤ 99999) (hi : i < m) (hv : v ≤ 1000000000) : lN v * (nI m - nI i).toInt64 / (nI n - nI i).toInt64 = lN (v * (m - i) / (n - i)) ∧ ¬ (nI n - nI i).toInt64 = 0 := by
  have e0 : lN 0 = 0 := rfl
  have hb : v * (m - i) ≤ 1000000000 * 99999 := Nat.mul_le_mul hv (by omega)
  rw [pk_sub (by omega : i ≤ m), pk_sub (by omega : i ≤ n), nI_l (by omega), nI_l (by omega), lN_mul]
  refine ⟨pk_lDiv (by omega) (by omega) (by omega), ?_⟩
  rw [← e0, pk_lEQ (by omega) (by decide)]
  omega
theorem l_GB_oddsOf (g : gb_Sg) {m n k : Nat} (hk : k ≤ m) (hk2 : k ≤ 20) (h : m ≤ n) (hm : m ≤ 99999) (hn : n ≤ 99999) : ∀ d i v, d + i = k → v ≤ 1000000000 → gb_ex 92 bk_GB_oddsOf_4 [.int (nI m), .int (nI k), .int (nI n), .long (lN v), .null, .int (nI i)] [] gb_pG g = some (.long (lN (lp (fun i v => v * (m - i) / (n - i)) d i v)), gb_pG, g)
  | 0, i, v, e, hv => by
    rw [bk_GB_oddsOf_4]
    simp only [x_l_1000000000, x_lstore_3, x_c_0, x_istore_5, x_iload_5, x_iload_1, x_ic_ge, x_iload_2, x_lload_3, x_iload_0, x_isub, x_i2l, x_lmul, x_ldiv, x_iinc_5_1, x_goto, x_lret, tg_GB_oddsOf_4, tg_GB_oddsOf_24, bk_GB_oddsOf_0, bk_GB_oddsOf_24, kil_int, kil_ref, kil_null, kil_long, kil_rA, psh_int, psh_long, psh_null, gI_gS, gL_gS, gR_gS, sI_gS, sL_gS, orf_some, Option.bind_some, List.length_cons, List.length_nil, Nat.reduceAdd, Nat.reduceLeDiff, if_true, if_false, Nat.zero_le]
    simp (disch := first | omega | decide) only [nI_ltI, nI_leI, nI_eq, nI_ltL, nI_leL, L_ltI, L_leI, nI_eqL, L_eqI, oob_nI, ix_nI, oob_L, ix_L, nI_1, nI_add, nI_z, z_nI, nI_lt0, nI_ge0, nI_gt0, nI_le0, ne_eq, Nat.le_zero_eq, Nat.not_lt_zero, Nat.lt_irrefl, Nat.le_refl, lp, if_pos (show k ≤ i by omega)]
  | d + 1, i, v, e, hv => by
    obtain ⟨e1, e2⟩ := od_val h hm hn (show i < m by omega) hv
    rw [bk_GB_oddsOf_4]
    simp only [x_l_1000000000, x_lstore_3, x_c_0, x_istore_5, x_iload_5, x_iload_1, x_ic_ge, x_iload_2, x_lload_3, x_iload_0, x_isub, x_i2l, x_lmul, x_ldiv, x_iinc_5_1, x_goto, x_lret, tg_GB_oddsOf_4, tg_GB_oddsOf_24, bk_GB_oddsOf_0, bk_GB_oddsOf_24, kil_int, kil_ref, kil_null, kil_long, kil_rA, psh_int, psh_long, psh_null, gI_gS, gL_gS, gR_gS, sI_gS, sL_gS, orf_some, Option.bind_some, List.length_cons, List.length_nil, Nat.reduceAdd, Nat.reduceLeDiff, if_true, if_false, Nat.zero_le, e1, if_neg e2]
    simp (disch := first | omega | decide) only [nI_ltI, nI_leI, nI_eq, nI_ltL, nI_leL, L_ltI, L_leI, nI_eqL, L_eqI, oob_nI, ix_nI, oob_L, ix_L, nI_1, nI_add, nI_z, z_nI, nI_lt0, nI_ge0, nI_gt0, nI_le0, ne_eq, Nat.le_zero_eq, Nat.not_lt_zero, Nat.lt_irrefl, Nat.le_refl, lp, if_neg (show ¬ k ≤ i by omega), if_neg (show ¬ n ≤ i by omega)]
    exact l_GB_oddsOf g hk hk2 h hm hn d (i + 1) _ (by omega) (od_step_le h (by omega) hv)
theorem s_GB_oddsOf (g : gb_Sg) {m n k : Nat} (hk : k ≤ m) (hk2 : k ≤ 20) (h : m ≤ n) (hm : m ≤ 99999) (hn : n ≤ 99999) : gb_call 92 [.int (nI m), .int (nI k), .int (nI n)] gb_pG g = some (.long (lN (od m n k)), gb_pG, g) := by
  rw [cl_GB_oddsOf]
  simp only [x_l_1000000000, x_lstore_3, x_c_0, x_istore_5, x_iload_5, x_iload_1, x_ic_ge, x_iload_2, x_lload_3, x_iload_0, x_isub, x_i2l, x_lmul, x_ldiv, x_iinc_5_1, x_goto, x_lret, tg_GB_oddsOf_4, tg_GB_oddsOf_24, bk_GB_oddsOf_0, bk_GB_oddsOf_24, kil_int, kil_ref, kil_null, kil_long, kil_rA, psh_int, psh_long, psh_null, gI_gS, gL_gS, gR_gS, sI_gS, sL_gS, orf_some, Option.bind_some, List.length_cons, List.length_nil, Nat.reduceAdd, Nat.reduceLeDiff, if_true, if_false, Nat.zero_le]
  exact l_GB_oddsOf g hk hk2 h hm hn k 0 1000000000 (by omega) (by omega)
theorem l_RM_odds (I : Nat → Nat → Int32) (J : Nat → Nat → Int64) (q : Bool × Bool) (X : Nat × (Nat → Int32)) {m n k : Nat} (hI : I 210 0 = nI k) (hk : k ≤ m) (hk2 : k ≤ 20) (h : m ≤ n) (hm : m ≤ 99999) (hn : n ≤ 99999) : ∀ d i v, d + i = k → v ≤ 1000000000 → gb_ex 166 bk_RM_odds_4 [.ref (190 : Nat), .int (nI m), .int (nI n), .long (lN v), .null, .int (nI i)] [] gb_pG (gS I J q X) = some (.long (lN (lp (fun i v => v * (m - i) / (n - i)) d i v)), gb_pG, gS I J q X)
  | 0, i, v, e, hv => by
    rw [bk_RM_odds_4]
    simp only [x_l_1000000000, x_lstore_3, x_c_0, x_istore_5, x_iload_5, x_aload_0, x_get_663, x_iald, x_ic_ge, x_lload_3, x_iload_1, x_isub, x_i2l, x_lmul, x_iload_2, x_ldiv, x_iinc_5_1, x_goto, x_lret, tg_RM_odds_4, tg_RM_odds_24, bk_RM_odds_0, bk_RM_odds_24, kil_int, kil_ref, kil_null, kil_long, kil_rA, psh_int, psh_long, psh_null, gI_gS, gL_gS, gR_gS, sI_gS, sL_gS, orf_some, Option.bind_some, List.length_cons, List.length_nil, Nat.reduceAdd, Nat.reduceLeDiff, if_true, if_false, Nat.zero_le, at_190, at_210, al_210, rw_190_23]
    simp (disch := first | omega | decide) only [nI_ltI, nI_leI, nI_eq, nI_ltL, nI_leL, L_ltI, L_leI, nI_eqL, L_eqI, oob_nI, ix_nI, oob_L, ix_L, nI_1, nI_add, nI_z, z_nI, nI_lt0, nI_ge0, nI_gt0, nI_le0, ne_eq, Nat.le_zero_eq, Nat.not_lt_zero, Nat.lt_irrefl, Nat.le_refl, hI, lp, if_pos (show k ≤ i by omega)]
    simp
  | d + 1, i, v, e, hv => by
    obtain ⟨e1, e2⟩ := od_val h hm hn (show i < m by omega) hv
    rw [bk_RM_odds_4]
    simp only [x_l_1000000000, x_lstore_3, x_c_0, x_istore_5, x_iload_5, x_aload_0, x_get_663, x_iald, x_ic_ge, x_lload_3, x_iload_1, x_isub, x_i2l, x_lmul, x_iload_2, x_ldiv, x_iinc_5_1, x_goto, x_lret, tg_RM_odds_4, tg_RM_odds_24, bk_RM_odds_0, bk_RM_odds_24, kil_int, kil_ref, kil_null, kil_long, kil_rA, psh_int, psh_long, psh_null, gI_gS, gL_gS, gR_gS, sI_gS, sL_gS, orf_some, Option.bind_some, List.length_cons, List.length_nil, Nat.reduceAdd, Nat.reduceLeDiff, if_true, if_false, Nat.zero_le, at_190, at_210, al_210, rw_190_23, e1, if_neg e2]
    simp (disch := first | omega | decide) only [nI_ltI, nI_leI, nI_eq, nI_ltL, nI_leL, L_ltI, L_leI, nI_eqL, L_eqI, oob_nI, ix_nI, oob_L, ix_L, nI_1, nI_add, nI_z, z_nI, nI_lt0, nI_ge0, nI_gt0, nI_le0, ne_eq, Nat.le_zero_eq, Nat.not_lt_zero, Nat.lt_irrefl, Nat.le_refl, hI, lp, if_neg (show ¬ k ≤ i by omega)]
    rw [l_RM_odds I J q X hI hk hk2 h hm hn d (i + 1) _ (by omega) (od_step_le h (by omega) hv)]
    simp
theorem s_RM_odds (I : Nat → Nat → Int32) (J : Nat → Nat → Int64) (q : Bool × Bool) (X : Nat × (Nat → Int32)) {m n k : Nat} (hI : I 210 0 = nI k) (hk : k ≤ m) (hk2 : k ≤ 20) (h : m ≤ n) (hm : m ≤ 99999) (hn : n ≤ 99999) : gb_call 166 [.ref (190 : Nat), .int (nI m), .int (nI n)] gb_pG (gS I J q X) = some (.long (lN (od m n k)), gb_pG, gS I J q X) := by
  rw [cl_RM_odds]
  simp only [x_l_1000000000, x_lstore_3, x_c_0, x_istore_5, x_iload_5, x_aload_0, x_get_663, x_iald, x_ic_ge, x_lload_3, x_iload_1, x_isub, x_i2l, x_lmul, x_iload_2, x_ldiv, x_iinc_5_1, x_goto, x_lret, tg_RM_odds_4, tg_RM_odds_24, bk_RM_odds_0, bk_RM_odds_24, kil_int, kil_ref, kil_null, kil_long, kil_rA, psh_int, psh_long, psh_null, gI_gS, gL_gS, gR_gS, sI_gS, sL_gS, orf_some, Option.bind_some, List.length_cons, List.length_nil, Nat.reduceAdd, Nat.reduceLeDiff, if_true, if_false, Nat.zero_le]
  exact l_RM_odds I J q X hI hk hk2 h hm hn k 0 1000000000 (by omega) (by omega)
theorem od_le {m n k : Nat} (hk : k ≤ m) (h : m ≤ n) : ∀ d i v, d + i = k → v ≤ 1000000000 → lp (fun i v => v * (m - i) / (n - i)) d i v ≤ 1000000000
  | 0, i, v, _, hv => hv
  | d + 1, i, v, e, hv => od_le hk h d (i + 1) _ (by omega) (od_step_le h (by omega) hv)
theorem od_top {m k : Nat} (hk : k ≤ m) : ∀ d i v, d + i = k → lp (fun i v => v * (m - i) / (m - i)) d i v = v
  | 0, i, v, _ => rfl
  | d + 1, i, v, e => by
    rw [lp, Nat.mul_div_cancel _ (by omega)]
    exact od_top hk d (i + 1) v (by omega)
theorem od_mono {m n n' k : Nat} (hk : k ≤ m) (h : m ≤ n) (h' : n ≤ n') : ∀ d i v v', d + i = k → v' ≤ v → lp (fun i v => v * (m - i) / (n' - i)) d i v' ≤ lp (fun i v => v * (m - i) / (n - i)) d i v
  | 0, i, v, v', _, hv => hv
  | d + 1, i, v, v', e, hv => by
    rw [lp, lp]
    refine od_mono hk h h' d (i + 1) _ _ (by omega) ?_
    refine Nat.le_trans (Nat.div_le_div_right (Nat.mul_le_mul_right (m - i) hv)) ?_
    exact Nat.div_le_div_left (by omega) (by omega)
/-- the greatest that is likely enough -/
def isR (m k E r : Nat) : Prop := m ≤ r ∧ r ≤ 99999 ∧ E ≤ od m r k ∧ ∀ n, r < n → n ≤ 99999 → od m n k < E
theorem isR_one {m k E r r' : Nat} (h : isR m k E r) (h' : isR m k E r') : r = r' := by
  obtain ⟨a1, a2, a3, a4⟩ := h
  obtain ⟨b1, b2, b3, b4⟩ := h'
  rcases Nat.lt_trichotomy r r' with q | q | q
  · have := a4 r' q b2; omega
  · exact q
  · have := b4 r q a2; omega
theorem lN_lt63 {a b : Nat} (ha : a < 9223372036854775808) (hb : b < 9223372036854775808) : lN a < lN b ↔ a < b := pk_lLT ha hb
theorem l_GB_greatestLikely (g : gb_Sg) {m k E : Nat} (hk : k ≤ m) (hk2 : k ≤ 20) (hm : m ≤ 99999) (hE : E ≤ 1000000000) : ∀ (f lo hi hv : Nat) (z : Value), f + hv = 32 → m ≤ lo → lo ≤ hi → hi ≤ 99999 → hi - lo < 2 ^ f → E ≤ od m lo k → (∀ n, hi < n → n ≤ 99999 → od m n k < E) →
    ∃ r, gb_ex 91 bk_GB_greatestLikely_6 [.int (nI m), .int (nI k), .long (lN E), .null, .int (nI lo), .int (nI hi), .int (nI hv), z] [] gb_pG g = some (.int (nI r), gb_pG, g) ∧ isR m k E r
  | 0, lo, hi, hv, z, e, h1, h2, h3, h4, h5, h6 => by
    have : lo = hi := by simp at h4; omega
    subst this
    refine ⟨lo, ?_, h1, h3, h5, h6⟩
    rw [bk_GB_greatestLikely_6]
    simp only [x_iload_0, x_istore_4, x_c_99999, x_istore_5, x_c_0, x_istore_6, x_iload_6, x_c_32, x_ic_ge, x_iload_4, x_iload_5, x_isub, x_c_2, x_idiv, x_istore_7, x_iload_1, x_iload_7, xc_GB_oddsOf, x_lload_2, x_lc_lt, x_goto, x_c_1, x_iinc_6_1, x_iret, tg_GB_greatestLikely_6, tg_GB_greatestLikely_30, tg_GB_greatestLikely_34, tg_GB_greatestLikely_36, bk_GB_greatestLikely_0, bk_GB_greatestLikely_30, bk_GB_greatestLikely_34, bk_GB_greatestLikely_36, kil_int, kil_ref, kil_null, kil_long, kil_rA, psh_int, psh_long, psh_null, gI_gS, gL_gS, gR_gS, sI_gS, sL_gS, orf_some, Option.bind_some, List.length_cons, List.length_nil, Nat.reduceAdd, Nat.reduceLeDiff, if_true, if_false, Nat.zero_le]
    simp (disch := first | omega | decide) only [nI_ltI, nI_leI, nI_eq, nI_ltL, nI_leL, L_ltI, L_leI, nI_eqL, L_eqI, oob_nI, ix_nI, oob_L, ix_L, nI_1, nI_add, nI_z, z_nI, nI_lt0, nI_ge0, nI_gt0, nI_le0, ne_eq, Nat.le_zero_eq, Nat.not_lt_zero, Nat.lt_irrefl, Nat.le_refl, if_pos (show 32 ≤ hv by omega)]
  | f + 1, lo, hi, hv, z, e, h1, h2, h3, h4, h5, h6 => by
    by_cases hlh : hi ≤ lo
    · have : lo = hi := by omega
      subst this
      refine ⟨lo, ?_, h1, h3, h5, h6⟩
      rw [bk_GB_greatestLikely_6]
      simp only [x_iload_0, x_istore_4, x_c_99999, x_istore_5, x_c_0, x_istore_6, x_iload_6, x_c_32, x_ic_ge, x_iload_4, x_iload_5, x_isub, x_c_2, x_idiv, x_istore_7, x_iload_1, x_iload_7, xc_GB_oddsOf, x_lload_2, x_lc_lt, x_goto, x_c_1, x_iinc_6_1, x_iret, tg_GB_greatestLikely_6, tg_GB_greatestLikely_30, tg_GB_greatestLikely_34, tg_GB_greatestLikely_36, bk_GB_greatestLikely_0, bk_GB_greatestLikely_30, bk_GB_greatestLikely_34, bk_GB_greatestLikely_36, kil_int, kil_ref, kil_null, kil_long, kil_rA, psh_int, psh_long, psh_null, gI_gS, gL_gS, gR_gS, sI_gS, sL_gS, orf_some, Option.bind_some, List.length_cons, List.length_nil, Nat.reduceAdd, Nat.reduceLeDiff, if_true, if_false, Nat.zero_le]
      simp (disch := first | omega | decide) only [nI_ltI, nI_leI, nI_eq, nI_ltL, nI_leL, L_ltI, L_leI, nI_eqL, L_eqI, oob_nI, ix_nI, oob_L, ix_L, nI_1, nI_add, nI_z, z_nI, nI_lt0, nI_ge0, nI_gt0, nI_le0, ne_eq, Nat.le_zero_eq, Nat.not_lt_zero, Nat.lt_irrefl, Nat.le_refl, if_neg (show ¬ 32 ≤ hv by omega), if_true]
    · obtain ⟨mid, hmid⟩ : ∃ mid, mid = hi - (hi - lo) / 2 := ⟨_, rfl⟩
      have hmid1 : lo < mid := by omega
      have hmid2 : mid ≤ hi := by omega
      have e2 : (2 : Int32) = nI 2 := rfl
      have e1 : nI hi - (nI hi - nI lo) / 2 = nI mid := by
        rw [pk_sub (by omega : lo ≤ hi), e2, pk_div (by omega) (by omega) (by omega), pk_sub (by omega), hmid]
      have e3 : ¬ (2 : Int32) = 0 := by decide
      have ho := s_GB_oddsOf g hk hk2 (show m ≤ mid by omega) hm (show mid ≤ 99999 by omega)
      have hle := od_le hk (show m ≤ mid by omega) k 0 1000000000 (by omega) (by omega)
      have hle2 : od m mid k ≤ 1000000000 := hle
      rw [bk_GB_greatestLikely_6]
      simp only [x_iload_0, x_istore_4, x_c_99999, x_istore_5, x_c_0, x_istore_6, x_iload_6, x_c_32, x_ic_ge, x_iload_4, x_iload_5, x_isub, x_c_2, x_idiv, x_istore_7, x_iload_1, x_iload_7, xc_GB_oddsOf, x_lload_2, x_lc_lt, x_goto, x_c_1, x_iinc_6_1, x_iret, tg_GB_greatestLikely_6, tg_GB_greatestLikely_30, tg_GB_greatestLikely_34, tg_GB_greatestLikely_36, bk_GB_greatestLikely_0, bk_GB_greatestLikely_30, bk_GB_greatestLikely_34, bk_GB_greatestLikely_36, kil_int, kil_ref, kil_null, kil_long, kil_rA, psh_int, psh_long, psh_null, gI_gS, gL_gS, gR_gS, sI_gS, sL_gS, orf_some, Option.bind_some, List.length_cons, List.length_nil, Nat.reduceAdd, Nat.reduceLeDiff, if_true, if_false, Nat.zero_le, if_neg e3, e1, ho]
      simp (disch := first | omega | decide) only [nI_ltI, nI_leI, nI_eq, nI_ltL, nI_leL, L_ltI, L_leI, nI_eqL, L_eqI, oob_nI, ix_nI, oob_L, ix_L, nI_1, nI_add, nI_z, z_nI, nI_lt0, nI_ge0, nI_gt0, nI_le0, ne_eq, Nat.le_zero_eq, Nat.not_lt_zero, Nat.lt_irrefl, Nat.le_refl, lN_lt63, if_neg (show ¬ 32 ≤ hv by omega), if_neg hlh]
      have hpow : 2 ^ (f + 1) = 2 * 2 ^ f := by rw [Nat.pow_succ]; omega
      by_cases hc : od m mid k < E
      · rw [if_pos hc, nI_pred' (by omega : 1 ≤ mid)]
        exact l_GB_greatestLikely g hk hk2 hm hE f lo (mid - 1) (hv + 1) _ (by omega) h1 (by omega) (by omega) (by omega) h5 (fun n q1 q2 => by
          by_cases q3 : hi < n
          · exact h6 n q3 q2
          · exact Nat.lt_of_le_of_lt (od_mono hk (show m ≤ mid by omega) (show mid ≤ n by omega) k 0 _ _ (by omega) (Nat.le_refl _)) hc)
      · rw [if_neg hc]
        exact l_GB_greatestLikely g hk hk2 hm hE f mid hi (hv + 1) _ (by omega) (by omega) hmid2 h3 (by omega) (by omega) h6
theorem s_GB_greatestLikely (g : gb_Sg) {m k E : Nat} (hk : k ≤ m) (hk2 : k ≤ 20) (hm : m ≤ 99999) (hE : E ≤ 1000000000) : ∃ r, gb_call 91 [.int (nI m), .int (nI k), .long (lN E)] gb_pG g = some (.int (nI r), gb_pG, g) ∧ isR m k E r := by
  rw [cl_GB_greatestLikely]
  simp only [x_iload_0, x_istore_4, x_c_99999, x_istore_5, x_c_0, x_istore_6, x_iload_6, x_c_32, x_ic_ge, x_iload_4, x_iload_5, x_isub, x_c_2, x_idiv, x_istore_7, x_iload_1, x_iload_7, xc_GB_oddsOf, x_lload_2, x_lc_lt, x_goto, x_c_1, x_iinc_6_1, x_iret, tg_GB_greatestLikely_6, tg_GB_greatestLikely_30, tg_GB_greatestLikely_34, tg_GB_greatestLikely_36, bk_GB_greatestLikely_0, bk_GB_greatestLikely_30, bk_GB_greatestLikely_34, bk_GB_greatestLikely_36, kil_int, kil_ref, kil_null, kil_long, kil_rA, psh_int, psh_long, psh_null, gI_gS, gL_gS, gR_gS, sI_gS, sL_gS, orf_some, Option.bind_some, List.length_cons, List.length_nil, Nat.reduceAdd, Nat.reduceLeDiff, if_true, if_false, Nat.zero_le]
  have h := l_GB_greatestLikely g hk hk2 hm hE 32 m 99999 0 .null (by omega) (Nat.le_refl m) hm (by omega) (by
    have : (2 : Nat) ^ 32 = 4294967296 := by decide
    omega) (by
    have : od m m k = 1000000000 := od_top hk k 0 1000000000 (by omega)
    omega) (fun n q1 q2 => by omega)
  exact h
theorem l_RM_most (I : Nat → Nat → Int32) (J : Nat → Nat → Int64) (q : Bool × Bool) (X : Nat × (Nat → Int32)) {m k E : Nat} {a b : Int32} (hI : I 210 0 = nI k) (hk : k ≤ m) (hk2 : k ≤ 20) (hm : m ≤ 99999) (hE : E ≤ 1000000000) : ∀ (d n : Nat), d + m = n → n ≤ 99999 → (∀ n', n < n' → n' ≤ 99999 → od m n' k < E) →
    ∃ r, gb_ex 165 bk_RM_most_35 [.ref (190 : Nat), .int a, .int b, .int (nI m), .long (lN E), .null, .int (nI n)] [] gb_pG (gS I J q X) = some (.int (nI r), gb_pG, gS I J q X) ∧ isR m k E r
  | 0, n, e, hn, h6 => by
    have : n = m := by omega
    subst this
    have ht : od n n k = 1000000000 := od_top hk k 0 1000000000 (by omega)
    have ho := s_RM_odds I J q X hI hk hk2 (Nat.le_refl n) hm hm
    refine ⟨n, ?_, Nat.le_refl n, hm, by omega, h6⟩
    rw [bk_RM_most_35]
    simp only [x_iload_1, x_i2l, x_l_1, x_l_1000, xc_RM_in, x_if_eq, x_iload_2, x_if_ne, x_c_m1, x_iret, x_aload_0, x_get_663, x_c_0, x_iald, x_c_m2, xc_RM_greatest, x_istore_3, x_l_1000000000, x_lmul, x_ldiv, x_lstore_4, x_c_99999, x_istore_6, x_iload_3, x_iload_6, xc_RM_odds, x_lload_4, x_lc_ge, x_iinc_6_m1, x_goto, tg_RM_most_13, tg_RM_most_15, tg_RM_most_22, tg_RM_most_35, tg_RM_most_44, bk_RM_most_0, bk_RM_most_13, bk_RM_most_15, bk_RM_most_22, bk_RM_most_44, kil_int, kil_ref, kil_null, kil_long, kil_rA, psh_int, psh_long, psh_null, gI_gS, gL_gS, gR_gS, sI_gS, sL_gS, orf_some, Option.bind_some, List.length_cons, List.length_nil, Nat.reduceAdd, Nat.reduceLeDiff, if_true, if_false, Nat.zero_le, at_190, ho]
    simp (disch := first | omega | decide) only [pk_lLE]
    rw [if_pos (by omega)]
  | d + 1, n, e, hn, h6 => by
    have ho := s_RM_odds I J q X hI hk hk2 (show m ≤ n by omega) hm hn
    have hle := od_le hk (show m ≤ n by omega) k 0 1000000000 (by omega) (by omega)
    have hle2 : od m n k ≤ 1000000000 := hle
    by_cases hc : E ≤ od m n k
    · refine ⟨n, ?_, by omega, hn, hc, h6⟩
      rw [bk_RM_most_35]
      simp only [x_iload_1, x_i2l, x_l_1, x_l_1000, xc_RM_in, x_if_eq, x_iload_2, x_if_ne, x_c_m1, x_iret, x_aload_0, x_get_663, x_c_0, x_iald, x_c_m2, xc_RM_greatest, x_istore_3, x_l_1000000000, x_lmul, x_ldiv, x_lstore_4, x_c_99999, x_istore_6, x_iload_3, x_iload_6, xc_RM_odds, x_lload_4, x_lc_ge, x_iinc_6_m1, x_goto, tg_RM_most_13, tg_RM_most_15, tg_RM_most_22, tg_RM_most_35, tg_RM_most_44, bk_RM_most_0, bk_RM_most_13, bk_RM_most_15, bk_RM_most_22, bk_RM_most_44, kil_int, kil_ref, kil_null, kil_long, kil_rA, psh_int, psh_long, psh_null, gI_gS, gL_gS, gR_gS, sI_gS, sL_gS, orf_some, Option.bind_some, List.length_cons, List.length_nil, Nat.reduceAdd, Nat.reduceLeDiff, if_true, if_false, Nat.zero_le, at_190, ho]
      simp (disch := first | omega | decide) only [pk_lLE]
      rw [if_pos hc]
    · obtain ⟨r, h1, h2⟩ := l_RM_most I J q X (a := a) (b := b) hI hk hk2 hm hE d (n - 1) (by omega) (by omega) (fun n' q1 q2 => by
        by_cases q3 : n' = n
        · subst q3; omega
        · exact h6 n' (by omega) q2)
      refine ⟨r, ?_, h2⟩
      rw [bk_RM_most_35]
      simp only [x_iload_1, x_i2l, x_l_1, x_l_1000, xc_RM_in, x_if_eq, x_iload_2, x_if_ne, x_c_m1, x_iret, x_aload_0, x_get_663, x_c_0, x_iald, x_c_m2, xc_RM_greatest, x_istore_3, x_l_1000000000, x_lmul, x_ldiv, x_lstore_4, x_c_99999, x_istore_6, x_iload_3, x_iload_6, xc_RM_odds, x_lload_4, x_lc_ge, x_iinc_6_m1, x_goto, tg_RM_most_13, tg_RM_most_15, tg_RM_most_22, tg_RM_most_35, tg_RM_most_44, bk_RM_most_0, bk_RM_most_13, bk_RM_most_15, bk_RM_most_22, bk_RM_most_44, kil_int, kil_ref, kil_null, kil_long, kil_rA, psh_int, psh_long, psh_null, gI_gS, gL_gS, gR_gS, sI_gS, sL_gS, orf_some, Option.bind_some, List.length_cons, List.length_nil, Nat.reduceAdd, Nat.reduceLeDiff, if_true, if_false, Nat.zero_le, at_190, ho]
      simp (disch := first | omega | decide) only [pk_lLE]
      rw [if_neg hc]
      have e1 : nI n + -1 = nI (n - 1) := by
        have := pk_m1 (n - 1)
        rw [show n - 1 + 1 = n by omega] at this
        exact this
      rw [e1]
      exact h1
