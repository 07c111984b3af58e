theorem mW_fr {I I' : Nat → Nat → Int32} {N : Nat → Nat} {D : Nat → Nat → Int} {l : Nat} (h : mW I N D l) (hI : ∀ a, 203 ≤ a → a ≤ 205 → I' a = I a) : mW I' N D l := by
  unfold mW at h ⊢
  rw [hI 203 (by omega) (by omega), hI 204 (by omega) (by omega), hI 205 (by omega) (by omega)]
  exact h
theorem rp0_fr {I I' : Nat → Nat → Int32} {n : Nat} (h : rp0 I n) (hI : ∀ a, (23 ≤ a ∧ a ≤ 31) ∨ a = 208 ∨ a = 209 → I' a = I a) : rp0 I' n := by
  unfold rp0 at h ⊢
  rw [hI 23 (by omega), hI 27 (by omega), hI 28 (by omega), hI 29 (by omega), hI 30 (by omega), hI 31 (by omega), hI 208 (by omega), hI 209 (by omega)]
  exact h
theorem sm_cb (P : Nat → Bool) : ∀ d i, sm (fun w => cb (P w)) d i + sm (fun w => cb (!P w)) d i = d
  | 0, _ => rfl
  | d + 1, i => by
    have ih := sm_cb P d (i + 1)
    rw [sm, sm]
    have h : cb (P i) + cb (!P i) = 1 := by cases P i <;> rfl
    omega
theorem cn_le (N : Nat → Nat) (D : Nat → Nat → Int) (l : Nat) (P : Option (Nat × Nat) → Nat → Bool) : cn N D l P ≤ Wn D l := by
  have := sm_cb (fun w => P (wo N D l w) w) (Wn D l) 0
  unfold cn
  omega
theorem cn_not {N : Nat → Nat} {D : Nat → Nat → Int} {l : Nat} {P Q : Option (Nat × Nat) → Nat → Bool} (h : ∀ w, w < Wn D l → Q (wo N D l w) w = !P (wo N D l w) w) : cn N D l Q = Wn D l - cn N D l P := by
  have h1 := sm_cb (fun w => P (wo N D l w) w) (Wn D l) 0
  have h2 : cn N D l Q = sm (fun w => cb (!P (wo N D l w) w)) (Wn D l) 0 := sm_congr fun w _ hw => by rw [h w (by omega)]
  have h3 : cn N D l P = sm (fun w => cb (P (wo N D l w) w)) (Wn D l) 0 := rfl
  omega
theorem d_worlds (I : Nat → Nat → Int32) (J : Nat → Nat → Int64) (q : Bool × Bool) (X : Nat × (Nat → Int32)) {N : Nat → Nat} {D : Nat → Nat → Int} {nr : Nat} (hL : lay I q N D) (hr : rp0 I nr) (hk : kn I N D) (hW : ∀ l, l < N 4 → mW I N D l) (l w : Int32) : ∃ r I1, gb_call 74 [.ref (0 : Nat), .int l, .int w] gb_pG (gS I J q X) = some (r, gb_pG, gS I1 J q X) ∧ gb_call 139 [.ref (190 : Nat), .int l, .int w] gb_pG (gS I1 J q X) = some (r, gb_pG, gS I1 J q X) ∧ kn I1 N D ∧ ∀ a, ¬ (3 ≤ a ∧ a ≤ 22) → I1 a = I a := by
  have hz := bsz_of hL
  have s1 := s_GB_isLoss I J q X hz l
  have u1 := s_RM_isLoss I J q X hz l
  by_cases hb : (0 ≤ l ∧ l ≤ dn (N 4)) ∧ (0 ≤ w ∧ w ≤ 2)
  · obtain ⟨c1, c2⟩ := hb
    obtain ⟨l', l1, rfl⟩ := (dn_le (by have := hz.2.2.2.2.2.2.2.2; omega)).mp c1
    obtain ⟨w', w1, w2, rfl⟩ := nI_rng (by decide) (by decide) c2
    replace w2 : w' ≤ 2 := w2
    have hl8 : l' < 8 := by have := hL.2.2.1.2.2.2.2.2; omega
    obtain ⟨I1, p1, p2, p3, p4⟩ := s_settle I J q X hL hk l1
    have hL1 : lay I1 q N D := lay_fr hL (fun a ha => p4 a (by omega))
    have hwb := Wn_b hL.2.2 l1
    have hwo := s_worldsOf I1 J q X hL1 l1
    have hhm := s_howMany I1 J q X (l := l') (n := Wn D l') hl8 (by omega) (-1) (-1) 999
    rw [how_gone hL.2.2 l1 p3] at hhm
    have hW1 := mW_fr (hW l' l1) (I' := I1) (fun a a1 a2 => p4 a (by omega))
    have hr1 := rp0_fr hr (I' := I1) (fun a ha => p4 a (by omega))
    have hc := s_counts I1 J q X hL1 hr1 (a := 0) (b := 15) (f := 0) (t := 999) (o := 0) l1 hW1 (by omega) (by omega) (by omega) (by omega) (by omega)
    have hg : cn N D l' (fun o _ => o.isNone) = Wn D l' - cn N D l' (fun u _ => ash 0 15 0 999 u && (decide (0 = 0) || !gs I1 q nr (kl D l') u)) := by
      refine cn_not fun v hv => ?_
      cases e : wo N D l' v with
      | none => rfl
      | some p =>
        have hp := wo_b hL.2.2 l1 e
        have o2 := hL.2.2.1.2.1
        have e3 : ash 0 15 0 999 (some p) = true := by
          show decide ((0 ≤ p.1 ∧ p.1 ≤ 15) ∧ (0 ≤ p.2 ∧ p.2 ≤ 999)) = true
          rw [decide_eq_true_eq]
          omega
        rw [e3]
        rfl
    have hle := cn_le N D l' (fun u _ => ash 0 15 0 999 u && (decide (0 = 0) || !gs I1 q nr (kl D l') u))
    generalize cn N D l' (fun u _ => ash 0 15 0 999 u && (decide (0 = 0) || !gs I1 q nr (kl D l') u)) = m at hc hg hle
    rw [hg] at hhm
    have u1' := s_RM_isLoss I1 J q X (bsz_of hL1) (nI l')
    have hm := hW1.1
    have hc : gb_call 138 [.ref (190 : Nat), .int (nI l'), .int 0, .int 15, .int 0, .int 999, .int 0] gb_pG (gS I1 J q X) = some (.int (nI m), gb_pG, gS I1 J q X) := hc
    have e5 : Wn D l' - (Wn D l' - m) = m := by omega
    refine ⟨.int (nI (if w' = 0 then Wn D l' else if w' = 1 then m else Wn D l' - m)), I1, ?_, ?_, p2, p4⟩
    · rw [cl_GB_worlds]
      have : w' = 0 ∨ w' = 1 ∨ w' = 2 := by omega
      rcases this with rfl | rfl | rfl
      · simp (disch := first | omega | decide | assumption | simp only [List.length_cons, List.length_nil, Nat.reduceAdd, Nat.reduceLeDiff, bb_at, bb_t1, bb_t2, bb_t3, bb_t4, bb_t5, bb_t6, bb_t7, bb_t8, bb_t9, bb_t10, bb_t11, bb_t12, bb_t13, bb_t14, bb_t15, bb_t16, bs_at, bs_t1, bs_t2, bs_t3, bs_t4, bs_t5, bs_t6, bs_t7, bs_t8, bs_t9, bs_t10, bs_t11, bs_t12, bs_t13, bs_t14, bs_t15, bs_t16, lb_at, lb_t1, lb_t2, lb_t13, lb_t24, lb_t35, lb_t36, lb_t37, lq_at, lq_t1, lq_t2, lq_t13, lq_t24, lq_t35, lq_t36, lq_t37]) only [x_aload_0, x_iload_1, xc_GB_isLoss, x_if_eq, x_iload_2, x_c_0, x_c_2, xc_GB_within, x_if_ne, x_c_m1, x_iret, x_get_577, x_get_582, xc_LA_settle, xc_BE_worldsOf, x_istore_3, x_iload_3, x_c_999, xc_LA_howMany, x_istore_4, x_c_1, x_ic_ne, x_iload_4, x_isub, x_goto, tg_GB_worlds_9, tg_GB_worlds_11, tg_GB_worlds_26, tg_GB_worlds_42, tg_GB_worlds_43, bk_GB_worlds_0, bk_GB_worlds_9, bk_GB_worlds_11, bk_GB_worlds_26, bk_GB_worlds_42, bk_GB_worlds_43, kil_int, kil_ref, kil_null, kil_long, kil_rA, psh_int, psh_long, psh_null, gI_gS, gL_gS, gR_gS, sI_gS, sL_gS, orf_some, Option.bind_some, List.length_cons, List.length_nil, Nat.reduceAdd, Nat.reduceLeDiff, if_true, if_false, Nat.zero_le, at_0, at_3, rw_0_1, rw_0_6, s1, s_GB_within, ite_b1, ite_b2, c1, c2, i10, true_or, ne_eq, not_true_eq_false, not_false_eq_true, Bool.false_eq_true, true_and, and_true, and_self, if_true, if_false, or_true, false_or, or_false, or_self, false_and, and_false, Nat.one_ne_zero, n01, Nat.reduceEqDiff, p1, hwo, hhm, nI_ltI, nI_leI, nI_eq, nI_ltL, nI_leL, L_ltI, L_leI, nI_eqL, L_eqI, oob_nI, ix_nI, oob_L, ix_L, nI_1, nI_add, nI_z, z_nI, nI_lt0, nI_ge0, nI_gt0, nI_le0, ne_eq, Nat.le_zero_eq, Nat.not_lt_zero, Nat.lt_irrefl, Nat.le_refl]
      · simp (disch := first | omega | decide | assumption | simp only [List.length_cons, List.length_nil, Nat.reduceAdd, Nat.reduceLeDiff, bb_at, bb_t1, bb_t2, bb_t3, bb_t4, bb_t5, bb_t6, bb_t7, bb_t8, bb_t9, bb_t10, bb_t11, bb_t12, bb_t13, bb_t14, bb_t15, bb_t16, bs_at, bs_t1, bs_t2, bs_t3, bs_t4, bs_t5, bs_t6, bs_t7, bs_t8, bs_t9, bs_t10, bs_t11, bs_t12, bs_t13, bs_t14, bs_t15, bs_t16, lb_at, lb_t1, lb_t2, lb_t13, lb_t24, lb_t35, lb_t36, lb_t37, lq_at, lq_t1, lq_t2, lq_t13, lq_t24, lq_t35, lq_t36, lq_t37]) only [x_aload_0, x_iload_1, xc_GB_isLoss, x_if_eq, x_iload_2, x_c_0, x_c_2, xc_GB_within, x_if_ne, x_c_m1, x_iret, x_get_577, x_get_582, xc_LA_settle, xc_BE_worldsOf, x_istore_3, x_iload_3, x_c_999, xc_LA_howMany, x_istore_4, x_c_1, x_ic_ne, x_iload_4, x_isub, x_goto, tg_GB_worlds_9, tg_GB_worlds_11, tg_GB_worlds_26, tg_GB_worlds_42, tg_GB_worlds_43, bk_GB_worlds_0, bk_GB_worlds_9, bk_GB_worlds_11, bk_GB_worlds_26, bk_GB_worlds_42, bk_GB_worlds_43, kil_int, kil_ref, kil_null, kil_long, kil_rA, psh_int, psh_long, psh_null, gI_gS, gL_gS, gR_gS, sI_gS, sL_gS, orf_some, Option.bind_some, List.length_cons, List.length_nil, Nat.reduceAdd, Nat.reduceLeDiff, if_true, if_false, Nat.zero_le, at_0, at_3, rw_0_1, rw_0_6, s1, s_GB_within, ite_b1, ite_b2, c1, c2, i10, true_or, ne_eq, not_true_eq_false, not_false_eq_true, Bool.false_eq_true, true_and, and_true, and_self, if_true, if_false, or_true, false_or, or_false, or_self, false_and, and_false, Nat.one_ne_zero, n01, Nat.reduceEqDiff, p1, hwo, hhm, nI_ltI, nI_leI, nI_eq, nI_ltL, nI_leL, L_ltI, L_leI, nI_eqL, L_eqI, oob_nI, ix_nI, oob_L, ix_L, nI_1, nI_add, nI_z, z_nI, nI_lt0, nI_ge0, nI_gt0, nI_le0, ne_eq, Nat.le_zero_eq, Nat.not_lt_zero, Nat.lt_irrefl, Nat.le_refl, pk_sub, e5]
      · simp (disch := first | omega | decide | assumption | simp only [List.length_cons, List.length_nil, Nat.reduceAdd, Nat.reduceLeDiff, bb_at, bb_t1, bb_t2, bb_t3, bb_t4, bb_t5, bb_t6, bb_t7, bb_t8, bb_t9, bb_t10, bb_t11, bb_t12, bb_t13, bb_t14, bb_t15, bb_t16, bs_at, bs_t1, bs_t2, bs_t3, bs_t4, bs_t5, bs_t6, bs_t7, bs_t8, bs_t9, bs_t10, bs_t11, bs_t12, bs_t13, bs_t14, bs_t15, bs_t16, lb_at, lb_t1, lb_t2, lb_t13, lb_t24, lb_t35, lb_t36, lb_t37, lq_at, lq_t1, lq_t2, lq_t13, lq_t24, lq_t35, lq_t36, lq_t37]) only [x_aload_0, x_iload_1, xc_GB_isLoss, x_if_eq, x_iload_2, x_c_0, x_c_2, xc_GB_within, x_if_ne, x_c_m1, x_iret, x_get_577, x_get_582, xc_LA_settle, xc_BE_worldsOf, x_istore_3, x_iload_3, x_c_999, xc_LA_howMany, x_istore_4, x_c_1, x_ic_ne, x_iload_4, x_isub, x_goto, tg_GB_worlds_9, tg_GB_worlds_11, tg_GB_worlds_26, tg_GB_worlds_42, tg_GB_worlds_43, bk_GB_worlds_0, bk_GB_worlds_9, bk_GB_worlds_11, bk_GB_worlds_26, bk_GB_worlds_42, bk_GB_worlds_43, kil_int, kil_ref, kil_null, kil_long, kil_rA, psh_int, psh_long, psh_null, gI_gS, gL_gS, gR_gS, sI_gS, sL_gS, orf_some, Option.bind_some, List.length_cons, List.length_nil, Nat.reduceAdd, Nat.reduceLeDiff, if_true, if_false, Nat.zero_le, at_0, at_3, rw_0_1, rw_0_6, s1, s_GB_within, ite_b1, ite_b2, c1, c2, i10, true_or, ne_eq, not_true_eq_false, not_false_eq_true, Bool.false_eq_true, true_and, and_true, and_self, if_true, if_false, or_true, false_or, or_false, or_self, false_and, and_false, Nat.one_ne_zero, n01, Nat.reduceEqDiff, p1, hwo, hhm, nI_ltI, nI_leI, nI_eq, nI_ltL, nI_leL, L_ltI, L_leI, nI_eqL, L_eqI, oob_nI, ix_nI, oob_L, ix_L, nI_1, nI_add, nI_z, z_nI, nI_lt0, nI_ge0, nI_gt0, nI_le0, ne_eq, Nat.le_zero_eq, Nat.not_lt_zero, Nat.lt_irrefl, Nat.le_refl]
    · rw [cl_RM_worlds]
      have : w' = 0 ∨ w' = 1 ∨ w' = 2 := by omega
      rcases this with rfl | rfl | rfl
      · simp (disch := first | omega | decide | assumption | simp only [List.length_cons, List.length_nil, Nat.reduceAdd, Nat.reduceLeDiff, bb_at, bb_t1, bb_t2, bb_t3, bb_t4, bb_t5, bb_t6, bb_t7, bb_t8, bb_t9, bb_t10, bb_t11, bb_t12, bb_t13, bb_t14, bb_t15, bb_t16, bs_at, bs_t1, bs_t2, bs_t3, bs_t4, bs_t5, bs_t6, bs_t7, bs_t8, bs_t9, bs_t10, bs_t11, bs_t12, bs_t13, bs_t14, bs_t15, bs_t16, lb_at, lb_t1, lb_t2, lb_t13, lb_t24, lb_t35, lb_t36, lb_t37, lq_at, lq_t1, lq_t2, lq_t13, lq_t24, lq_t35, lq_t36, lq_t37]) only [x_aload_0, x_iload_1, xc_RM_isLoss, x_if_eq, x_iload_2, x_i2l, x_l_0, x_l_2, xc_RM_in, x_if_ne, x_c_m1, x_iret, x_c_0, x_c_15, x_c_999, xc_RM_counts, x_istore_3, x_get_654, x_iald, x_goto, x_c_1, x_ic_ne, x_iload_3, x_isub, tg_RM_worlds_10, tg_RM_worlds_12, tg_RM_worlds_28, tg_RM_worlds_33, tg_RM_worlds_39, bk_RM_worlds_0, bk_RM_worlds_10, bk_RM_worlds_12, bk_RM_worlds_28, bk_RM_worlds_33, bk_RM_worlds_39, kil_int, kil_ref, kil_null, kil_long, kil_rA, psh_int, psh_long, psh_null, gI_gS, gL_gS, gR_gS, sI_gS, sL_gS, orf_some, Option.bind_some, List.length_cons, List.length_nil, Nat.reduceAdd, Nat.reduceLeDiff, if_true, if_false, Nat.zero_le, at_190, at_203, al_203, rw_190_14, u1', s_RM_in, w_Lle, w_leL, ite_b1, ite_b2, c1, c2, i10, true_or, ne_eq, not_true_eq_false, not_false_eq_true, Bool.false_eq_true, true_and, and_true, and_self, if_true, if_false, or_true, false_or, or_false, or_self, false_and, and_false, Nat.one_ne_zero, n01, Nat.reduceEqDiff, hc, nI_ltI, nI_leI, nI_eq, nI_ltL, nI_leL, L_ltI, L_leI, nI_eqL, L_eqI, oob_nI, ix_nI, oob_L, ix_L, nI_1, nI_add, nI_z, z_nI, nI_lt0, nI_ge0, nI_gt0, nI_le0, ne_eq, Nat.le_zero_eq, Nat.not_lt_zero, Nat.lt_irrefl, Nat.le_refl, hm]
      · simp (disch := first | omega | decide | assumption | simp only [List.length_cons, List.length_nil, Nat.reduceAdd, Nat.reduceLeDiff, bb_at, bb_t1, bb_t2, bb_t3, bb_t4, bb_t5, bb_t6, bb_t7, bb_t8, bb_t9, bb_t10, bb_t11, bb_t12, bb_t13, bb_t14, bb_t15, bb_t16, bs_at, bs_t1, bs_t2, bs_t3, bs_t4, bs_t5, bs_t6, bs_t7, bs_t8, bs_t9, bs_t10, bs_t11, bs_t12, bs_t13, bs_t14, bs_t15, bs_t16, lb_at, lb_t1, lb_t2, lb_t13, lb_t24, lb_t35, lb_t36, lb_t37, lq_at, lq_t1, lq_t2, lq_t13, lq_t24, lq_t35, lq_t36, lq_t37]) only [x_aload_0, x_iload_1, xc_RM_isLoss, x_if_eq, x_iload_2, x_i2l, x_l_0, x_l_2, xc_RM_in, x_if_ne, x_c_m1, x_iret, x_c_0, x_c_15, x_c_999, xc_RM_counts, x_istore_3, x_get_654, x_iald, x_goto, x_c_1, x_ic_ne, x_iload_3, x_isub, tg_RM_worlds_10, tg_RM_worlds_12, tg_RM_worlds_28, tg_RM_worlds_33, tg_RM_worlds_39, bk_RM_worlds_0, bk_RM_worlds_10, bk_RM_worlds_12, bk_RM_worlds_28, bk_RM_worlds_33, bk_RM_worlds_39, kil_int, kil_ref, kil_null, kil_long, kil_rA, psh_int, psh_long, psh_null, gI_gS, gL_gS, gR_gS, sI_gS, sL_gS, orf_some, Option.bind_some, List.length_cons, List.length_nil, Nat.reduceAdd, Nat.reduceLeDiff, if_true, if_false, Nat.zero_le, at_190, at_203, al_203, rw_190_14, u1', s_RM_in, w_Lle, w_leL, ite_b1, ite_b2, c1, c2, i10, true_or, ne_eq, not_true_eq_false, not_false_eq_true, Bool.false_eq_true, true_and, and_true, and_self, if_true, if_false, or_true, false_or, or_false, or_self, false_and, and_false, Nat.one_ne_zero, n01, Nat.reduceEqDiff, hc, nI_ltI, nI_leI, nI_eq, nI_ltL, nI_leL, L_ltI, L_leI, nI_eqL, L_eqI, oob_nI, ix_nI, oob_L, ix_L, nI_1, nI_add, nI_z, z_nI, nI_lt0, nI_ge0, nI_gt0, nI_le0, ne_eq, Nat.le_zero_eq, Nat.not_lt_zero, Nat.lt_irrefl, Nat.le_refl, hm]
      · simp (disch := first | omega | decide | assumption | simp only [List.length_cons, List.length_nil, Nat.reduceAdd, Nat.reduceLeDiff, bb_at, bb_t1, bb_t2, bb_t3, bb_t4, bb_t5, bb_t6, bb_t7, bb_t8, bb_t9, bb_t10, bb_t11, bb_t12, bb_t13, bb_t14, bb_t15, bb_t16, bs_at, bs_t1, bs_t2, bs_t3, bs_t4, bs_t5, bs_t6, bs_t7, bs_t8, bs_t9, bs_t10, bs_t11, bs_t12, bs_t13, bs_t14, bs_t15, bs_t16, lb_at, lb_t1, lb_t2, lb_t13, lb_t24, lb_t35, lb_t36, lb_t37, lq_at, lq_t1, lq_t2, lq_t13, lq_t24, lq_t35, lq_t36, lq_t37]) only [x_aload_0, x_iload_1, xc_RM_isLoss, x_if_eq, x_iload_2, x_i2l, x_l_0, x_l_2, xc_RM_in, x_if_ne, x_c_m1, x_iret, x_c_0, x_c_15, x_c_999, xc_RM_counts, x_istore_3, x_get_654, x_iald, x_goto, x_c_1, x_ic_ne, x_iload_3, x_isub, tg_RM_worlds_10, tg_RM_worlds_12, tg_RM_worlds_28, tg_RM_worlds_33, tg_RM_worlds_39, bk_RM_worlds_0, bk_RM_worlds_10, bk_RM_worlds_12, bk_RM_worlds_28, bk_RM_worlds_33, bk_RM_worlds_39, kil_int, kil_ref, kil_null, kil_long, kil_rA, psh_int, psh_long, psh_null, gI_gS, gL_gS, gR_gS, sI_gS, sL_gS, orf_some, Option.bind_some, List.length_cons, List.length_nil, Nat.reduceAdd, Nat.reduceLeDiff, if_true, if_false, Nat.zero_le, at_190, at_203, al_203, rw_190_14, u1', s_RM_in, w_Lle, w_leL, ite_b1, ite_b2, c1, c2, i10, true_or, ne_eq, not_true_eq_false, not_false_eq_true, Bool.false_eq_true, true_and, and_true, and_self, if_true, if_false, or_true, false_or, or_false, or_self, false_and, and_false, Nat.one_ne_zero, n01, Nat.reduceEqDiff, hc, nI_ltI, nI_leI, nI_eq, nI_ltL, nI_leL, L_ltI, L_leI, nI_eqL, L_eqI, oob_nI, ix_nI, oob_L, ix_L, nI_1, nI_add, nI_z, z_nI, nI_lt0, nI_ge0, nI_gt0, nI_le0, ne_eq, Nat.le_zero_eq, Nat.not_lt_zero, Nat.lt_irrefl, Nat.le_refl, hm, pk_sub]
  · refine ⟨.int (-1), I, ?_, ?_, hk, fun _ _ => rfl⟩
    · rw [cl_GB_worlds]
      simp (disch := first | omega | decide | assumption | simp only [List.length_cons, List.length_nil, Nat.reduceAdd, Nat.reduceLeDiff, bb_at, bb_t1, bb_t2, bb_t3, bb_t4, bb_t5, bb_t6, bb_t7, bb_t8, bb_t9, bb_t10, bb_t11, bb_t12, bb_t13, bb_t14, bb_t15, bb_t16, bs_at, bs_t1, bs_t2, bs_t3, bs_t4, bs_t5, bs_t6, bs_t7, bs_t8, bs_t9, bs_t10, bs_t11, bs_t12, bs_t13, bs_t14, bs_t15, bs_t16, lb_at, lb_t1, lb_t2, lb_t13, lb_t24, lb_t35, lb_t36, lb_t37, lq_at, lq_t1, lq_t2, lq_t13, lq_t24, lq_t35, lq_t36, lq_t37]) only [x_aload_0, x_iload_1, xc_GB_isLoss, x_if_eq, x_iload_2, x_c_0, x_c_2, xc_GB_within, x_if_ne, x_c_m1, x_iret, x_get_577, x_get_582, xc_LA_settle, xc_BE_worldsOf, x_istore_3, x_iload_3, x_c_999, xc_LA_howMany, x_istore_4, x_c_1, x_ic_ne, x_iload_4, x_isub, x_goto, tg_GB_worlds_9, tg_GB_worlds_11, tg_GB_worlds_26, tg_GB_worlds_42, tg_GB_worlds_43, bk_GB_worlds_0, bk_GB_worlds_9, bk_GB_worlds_26, bk_GB_worlds_42, bk_GB_worlds_43, kil_int, kil_ref, kil_null, kil_long, kil_rA, psh_int, psh_long, psh_null, gI_gS, gL_gS, gR_gS, sI_gS, sL_gS, orf_some, Option.bind_some, List.length_cons, List.length_nil, Nat.reduceAdd, Nat.reduceLeDiff, if_true, if_false, Nat.zero_le, s1, s_GB_within, ite_b1, ite_b2]
      by_cases c1 : 0 ≤ l ∧ l ≤ dn (N 4)
      · have c2 : ¬ (0 ≤ w ∧ w ≤ 2) := fun c => hb ⟨c1, c⟩
        simp only [c1, c2, i10, true_or, ne_eq, not_true_eq_false, not_false_eq_true, Bool.false_eq_true, true_and, and_true, and_self, if_true, if_false, or_true, false_or, or_false, or_self, false_and, and_false, Nat.one_ne_zero, n01, Nat.reduceEqDiff, if_false]
      · simp only [c1, i10, true_or, ne_eq, not_true_eq_false, not_false_eq_true, Bool.false_eq_true, true_and, and_true, and_self, if_true, if_false, or_true, false_or, or_false, or_self, false_and, and_false, Nat.one_ne_zero, n01, Nat.reduceEqDiff, if_true]
    · rw [cl_RM_worlds]
      simp (disch := first | omega | decide | assumption | simp only [List.length_cons, List.length_nil, Nat.reduceAdd, Nat.reduceLeDiff, bb_at, bb_t1, bb_t2, bb_t3, bb_t4, bb_t5, bb_t6, bb_t7, bb_t8, bb_t9, bb_t10, bb_t11, bb_t12, bb_t13, bb_t14, bb_t15, bb_t16, bs_at, bs_t1, bs_t2, bs_t3, bs_t4, bs_t5, bs_t6, bs_t7, bs_t8, bs_t9, bs_t10, bs_t11, bs_t12, bs_t13, bs_t14, bs_t15, bs_t16, lb_at, lb_t1, lb_t2, lb_t13, lb_t24, lb_t35, lb_t36, lb_t37, lq_at, lq_t1, lq_t2, lq_t13, lq_t24, lq_t35, lq_t36, lq_t37]) only [x_aload_0, x_iload_1, xc_RM_isLoss, x_if_eq, x_iload_2, x_i2l, x_l_0, x_l_2, xc_RM_in, x_if_ne, x_c_m1, x_iret, x_c_0, x_c_15, x_c_999, xc_RM_counts, x_istore_3, x_get_654, x_iald, x_goto, x_c_1, x_ic_ne, x_iload_3, x_isub, tg_RM_worlds_10, tg_RM_worlds_12, tg_RM_worlds_28, tg_RM_worlds_33, tg_RM_worlds_39, bk_RM_worlds_0, bk_RM_worlds_10, bk_RM_worlds_28, bk_RM_worlds_33, bk_RM_worlds_39, kil_int, kil_ref, kil_null, kil_long, kil_rA, psh_int, psh_long, psh_null, gI_gS, gL_gS, gR_gS, sI_gS, sL_gS, orf_some, Option.bind_some, List.length_cons, List.length_nil, Nat.reduceAdd, Nat.reduceLeDiff, if_true, if_false, Nat.zero_le, u1, s_RM_in, w_Lle, w_leL, ite_b1, ite_b2]
      by_cases c1 : 0 ≤ l ∧ l ≤ dn (N 4)
      · have c2 : ¬ (0 ≤ w ∧ w ≤ 2) := fun c => hb ⟨c1, c⟩
        simp only [c1, c2, i10, true_or, ne_eq, not_true_eq_false, not_false_eq_true, Bool.false_eq_true, true_and, and_true, and_self, if_true, if_false, or_true, false_or, or_false, or_self, false_and, and_false, Nat.one_ne_zero, n01, Nat.reduceEqDiff, if_false]
      · simp only [c1, i10, true_or, ne_eq, not_true_eq_false, not_false_eq_true, Bool.false_eq_true, true_and, and_true, and_self, if_true, if_false, or_true, false_or, or_false, or_self, false_and, and_false, Nat.one_ne_zero, n01, Nat.reduceEqDiff, if_true]
theorem cn_congr {N : Nat → Nat} {D : Nat → Nat → Int} {l : Nat} {P Q : Option (Nat × Nat) → Nat → Bool} (h : ∀ w, w < Wn D l → P (wo N D l w) w = Q (wo N D l w) w) : cn N D l P = cn N D l Q := sm_congr fun w _ hw => by rw [h w (by omega)]
theorem cn_o0 {N : Nat → Nat} {D : Nat → Nat → Int} {l a b f t : Nat} {g : Option (Nat × Nat) → Bool} : cn N D l (fun u _ => ash a b f t u && (decide (0 = 0) || !g u)) = cn N D l (fun u _ => ash a b f t u) := cn_congr fun w _ => by simp
theorem d_ashore (I : Nat → Nat → Int32) (J : Nat → Nat → Int64) (q : Bool × Bool) (X : Nat × (Nat → Int32)) {N : Nat → Nat} {D : Nat → Nat → Int} {nr : Nat} (hL : lay I q N D) (hr : rp0 I nr) (hk : kn I N D) (hW : ∀ l, l < N 4 → mW I N D l) (l x f t : Int32) : ∃ r I1, gb_call 75 [.ref (0 : Nat), .int l, .int x, .int f, .int t] gb_pG (gS I J q X) = some (r, gb_pG, gS I1 J q X) ∧ gb_call 140 [.ref (190 : Nat), .int l, .int x, .int f, .int t] gb_pG (gS I1 J q X) = some (r, gb_pG, gS I1 J q X) ∧ kn I1 N D ∧ ∀ a, ¬ (3 ≤ a ∧ a ≤ 22) → I1 a = I a := by
  have hz := bsz_of hL
  have s1 := s_GB_isLoss I J q X hz l
  have u1 := s_RM_isLoss I J q X hz l
  have s2 := s_GB_isCell I J q X hz x
  have u2 := s_RM_isCell I J q X hz x
  have o2 := hL.2.2.1.2.1
  by_cases hb : (0 ≤ l ∧ l ≤ dn (N 4)) ∧ (0 ≤ x ∧ x ≤ dn (N 0)) ∧ (0 ≤ f ∧ f ≤ 999) ∧ (0 ≤ t ∧ t ≤ 999) ∧ f ≤ t
  · obtain ⟨c1, c2, c3, c4, c5⟩ := hb
    obtain ⟨l', l1, rfl⟩ := (dn_le (by have := hz.2.2.2.2.2.2.2.2; omega)).mp c1
    obtain ⟨x', x1, rfl⟩ := (dn_le (by omega)).mp c2
    obtain ⟨f', f1, f2, rfl⟩ := nI_rng (by decide) (by decide) c3
    obtain ⟨t', t1, t2, rfl⟩ := nI_rng (by decide) (by decide) c4
    replace f2 : f' ≤ 999 := f2
    replace t2 : t' ≤ 999 := t2
    have hl8 : l' < 8 := by have := hL.2.2.1.2.2.2.2.2; omega
    obtain ⟨I1, p1, p2, p3, p4⟩ := s_settle I J q X hL hk l1
    have hL1 : lay I1 q N D := lay_fr hL (fun a ha => p4 a (by omega))
    have hwb := Wn_b hL.2.2 l1
    have hwo := s_worldsOf I1 J q X hL1 l1
    have hhm := s_howMany I1 J q X (l := l') (n := Wn D l') hl8 (by omega) (nI x') (nI f') (nI t')
    rw [how_ash hL.2.2 l1 p3 (by omega) f2 t2] at hhm
    have hW1 := mW_fr (hW l' l1) (I' := I1) (fun a a1 a2 => p4 a (by omega))
    have hr1 := rp0_fr hr (I' := I1) (fun a ha => p4 a (by omega))
    have hc := s_counts I1 J q X hL1 hr1 (a := x') (b := x') (f := f') (t := t') (o := 0) l1 hW1 (by omega) (by omega) (by omega) (by omega) (by omega)
    rw [cn_o0] at hc
    have u1' := s_RM_isLoss I1 J q X (bsz_of hL1) (nI l')
    have u2' := s_RM_isCell I1 J q X (bsz_of hL1) (nI x')
    have hc : gb_call 138 [.ref (190 : Nat), .int (nI l'), .int (nI x'), .int (nI x'), .int (nI f'), .int (nI t'), .int 0] gb_pG (gS I1 J q X) = _ := hc
    have c6 : ¬ nI t' < nI f' := Int32.not_lt.mpr c5
    refine ⟨.int (nI (cn N D l' (fun o _ => ash x' x' f' t' o))), I1, ?_, ?_, p2, p4⟩
    · rw [cl_GB_ashore]
      simp (disch := first | omega | decide | assumption | simp only [List.length_cons, List.length_nil, Nat.reduceAdd, Nat.reduceLeDiff, bb_at, bb_t1, bb_t2, bb_t3, bb_t4, bb_t5, bb_t6, bb_t7, bb_t8, bb_t9, bb_t10, bb_t11, bb_t12, bb_t13, bb_t14, bb_t15, bb_t16, bs_at, bs_t1, bs_t2, bs_t3, bs_t4, bs_t5, bs_t6, bs_t7, bs_t8, bs_t9, bs_t10, bs_t11, bs_t12, bs_t13, bs_t14, bs_t15, bs_t16, lb_at, lb_t1, lb_t2, lb_t13, lb_t24, lb_t35, lb_t36, lb_t37, lq_at, lq_t1, lq_t2, lq_t13, lq_t24, lq_t35, lq_t36, lq_t37]) only [x_aload_0, x_iload_1, xc_GB_isLoss, x_if_eq, x_iload_2, xc_GB_isCell, x_iload_3, xc_GB_isHour, x_iload_4, x_ic_le, x_c_m1, x_iret, x_get_577, x_get_582, xc_LA_settle, xc_BE_worldsOf, xc_LA_howMany, tg_GB_ashore_17, tg_GB_ashore_19, bk_GB_ashore_0, bk_GB_ashore_17, bk_GB_ashore_19, kil_int, kil_ref, kil_null, kil_long, kil_rA, psh_int, psh_long, psh_null, gI_gS, gL_gS, gR_gS, sI_gS, sL_gS, orf_some, Option.bind_some, List.length_cons, List.length_nil, Nat.reduceAdd, Nat.reduceLeDiff, if_true, if_false, Nat.zero_le, at_0, at_3, rw_0_1, rw_0_6, s1, s2, s_GB_isHour, ite_b1, ite_b2, c1, c2, c3, c4, c5, i10, true_or, ne_eq, not_true_eq_false, not_false_eq_true, Bool.false_eq_true, true_and, and_true, and_self, if_true, if_false, or_true, false_or, or_false, or_self, false_and, and_false, Nat.one_ne_zero, n01, Nat.reduceEqDiff, p1, hwo, hhm]
    · rw [cl_RM_ashore]
      simp (disch := first | omega | decide | assumption | simp only [List.length_cons, List.length_nil, Nat.reduceAdd, Nat.reduceLeDiff, bb_at, bb_t1, bb_t2, bb_t3, bb_t4, bb_t5, bb_t6, bb_t7, bb_t8, bb_t9, bb_t10, bb_t11, bb_t12, bb_t13, bb_t14, bb_t15, bb_t16, bs_at, bs_t1, bs_t2, bs_t3, bs_t4, bs_t5, bs_t6, bs_t7, bs_t8, bs_t9, bs_t10, bs_t11, bs_t12, bs_t13, bs_t14, bs_t15, bs_t16, lb_at, lb_t1, lb_t2, lb_t13, lb_t24, lb_t35, lb_t36, lb_t37, lq_at, lq_t1, lq_t2, lq_t13, lq_t24, lq_t35, lq_t36, lq_t37]) only [x_aload_0, x_iload_1, xc_RM_isLoss, x_if_eq, x_iload_2, xc_RM_isCell, x_iload_3, xc_RM_isHour, x_iload_4, x_ic_gt, x_c_0, xc_RM_counts, x_goto, x_c_m1, x_iret, tg_RM_ashore_26, tg_RM_ashore_27, bk_RM_ashore_0, bk_RM_ashore_26, bk_RM_ashore_27, kil_int, kil_ref, kil_null, kil_long, kil_rA, psh_int, psh_long, psh_null, gI_gS, gL_gS, gR_gS, sI_gS, sL_gS, orf_some, Option.bind_some, List.length_cons, List.length_nil, Nat.reduceAdd, Nat.reduceLeDiff, if_true, if_false, Nat.zero_le, at_190, u1', u2', s_RM_isHour, ite_b1, ite_b2, c1, c2, c3, c4, c6, i10, true_or, ne_eq, not_true_eq_false, not_false_eq_true, Bool.false_eq_true, true_and, and_true, and_self, if_true, if_false, or_true, false_or, or_false, or_self, false_and, and_false, Nat.one_ne_zero, n01, Nat.reduceEqDiff, hc]
  · refine ⟨.int (-1), I, ?_, ?_, hk, fun _ _ => rfl⟩
    · rw [cl_GB_ashore]
      simp (disch := first | omega | decide | assumption | simp only [List.length_cons, List.length_nil, Nat.reduceAdd, Nat.reduceLeDiff, bb_at, bb_t1, bb_t2, bb_t3, bb_t4, bb_t5, bb_t6, bb_t7, bb_t8, bb_t9, bb_t10, bb_t11, bb_t12, bb_t13, bb_t14, bb_t15, bb_t16, bs_at, bs_t1, bs_t2, bs_t3, bs_t4, bs_t5, bs_t6, bs_t7, bs_t8, bs_t9, bs_t10, bs_t11, bs_t12, bs_t13, bs_t14, bs_t15, bs_t16, lb_at, lb_t1, lb_t2, lb_t13, lb_t24, lb_t35, lb_t36, lb_t37, lq_at, lq_t1, lq_t2, lq_t13, lq_t24, lq_t35, lq_t36, lq_t37]) only [x_aload_0, x_iload_1, xc_GB_isLoss, x_if_eq, x_iload_2, xc_GB_isCell, x_iload_3, xc_GB_isHour, x_iload_4, x_ic_le, x_c_m1, x_iret, x_get_577, x_get_582, xc_LA_settle, xc_BE_worldsOf, xc_LA_howMany, tg_GB_ashore_17, tg_GB_ashore_19, bk_GB_ashore_0, bk_GB_ashore_17, kil_int, kil_ref, kil_null, kil_long, kil_rA, psh_int, psh_long, psh_null, gI_gS, gL_gS, gR_gS, sI_gS, sL_gS, orf_some, Option.bind_some, List.length_cons, List.length_nil, Nat.reduceAdd, Nat.reduceLeDiff, if_true, if_false, Nat.zero_le, s1, s2, s_GB_isHour, ite_b1, ite_b2]
      by_cases c1 : 0 ≤ l ∧ l ≤ dn (N 4)
      · by_cases c2 : 0 ≤ x ∧ x ≤ dn (N 0)
        · by_cases c3 : 0 ≤ f ∧ f ≤ 999
          · by_cases c4 : 0 ≤ t ∧ t ≤ 999
            · have c5 : ¬ f ≤ t := fun c => hb ⟨c1, c2, c3, c4, c⟩
              simp only [c1, c2, c3, c4, c5, i10, true_or, ne_eq, not_true_eq_false, not_false_eq_true, Bool.false_eq_true, true_and, and_true, and_self, if_true, if_false, or_true, false_or, or_false, or_self, false_and, and_false, Nat.one_ne_zero, n01, Nat.reduceEqDiff, if_false]
            · simp only [c1, c2, c3, c4, i10, true_or, ne_eq, not_true_eq_false, not_false_eq_true, Bool.false_eq_true, true_and, and_true, and_self, if_true, if_false, or_true, false_or, or_false, or_self, false_and, and_false, Nat.one_ne_zero, n01, Nat.reduceEqDiff, if_true]
          · simp only [c1, c2, c3, i10, true_or, ne_eq, not_true_eq_false, not_false_eq_true, Bool.false_eq_true, true_and, and_true, and_self, if_true, if_false, or_true, false_or, or_false, or_self, false_and, and_false, Nat.one_ne_zero, n01, Nat.reduceEqDiff, if_true]
        · simp only [c1, c2, i10, true_or, ne_eq, not_true_eq_false, not_false_eq_true, Bool.false_eq_true, true_and, and_true, and_self, if_true, if_false, or_true, false_or, or_false, or_self, false_and, and_false, Nat.one_ne_zero, n01, Nat.reduceEqDiff, if_true]
      · simp only [c1, i10, true_or, ne_eq, not_true_eq_false, not_false_eq_true, Bool.false_eq_true, true_and, and_true, and_self, if_true, if_false, or_true, false_or, or_false, or_self, false_and, and_false, Nat.one_ne_zero, n01, Nat.reduceEqDiff, if_true]
    · rw [cl_RM_ashore]
      simp (disch := first | omega | decide | assumption | simp only [List.length_cons, List.length_nil, Nat.reduceAdd, Nat.reduceLeDiff, bb_at, bb_t1, bb_t2, bb_t3, bb_t4, bb_t5, bb_t6, bb_t7, bb_t8, bb_t9, bb_t10, bb_t11, bb_t12, bb_t13, bb_t14, bb_t15, bb_t16, bs_at, bs_t1, bs_t2, bs_t3, bs_t4, bs_t5, bs_t6, bs_t7, bs_t8, bs_t9, bs_t10, bs_t11, bs_t12, bs_t13, bs_t14, bs_t15, bs_t16, lb_at, lb_t1, lb_t2, lb_t13, lb_t24, lb_t35, lb_t36, lb_t37, lq_at, lq_t1, lq_t2, lq_t13, lq_t24, lq_t35, lq_t36, lq_t37]) only [x_aload_0, x_iload_1, xc_RM_isLoss, x_if_eq, x_iload_2, xc_RM_isCell, x_iload_3, xc_RM_isHour, x_iload_4, x_ic_gt, x_c_0, xc_RM_counts, x_goto, x_c_m1, x_iret, tg_RM_ashore_26, tg_RM_ashore_27, bk_RM_ashore_0, bk_RM_ashore_26, bk_RM_ashore_27, kil_int, kil_ref, kil_null, kil_long, kil_rA, psh_int, psh_long, psh_null, gI_gS, gL_gS, gR_gS, sI_gS, sL_gS, orf_some, Option.bind_some, List.length_cons, List.length_nil, Nat.reduceAdd, Nat.reduceLeDiff, if_true, if_false, Nat.zero_le, at_190, u1, u2, s_RM_isHour, ite_b1, ite_b2]
      by_cases c1 : 0 ≤ l ∧ l ≤ dn (N 4)
      · by_cases c2 : 0 ≤ x ∧ x ≤ dn (N 0)
        · by_cases c3 : 0 ≤ f ∧ f ≤ 999
          · by_cases c4 : 0 ≤ t ∧ t ≤ 999
            · have c5 : t < f := Int32.not_le.mp (fun c => hb ⟨c1, c2, c3, c4, c⟩)
              simp only [c1, c2, c3, c4, c5, i10, true_or, ne_eq, not_true_eq_false, not_false_eq_true, Bool.false_eq_true, true_and, and_true, and_self, if_true, if_false, or_true, false_or, or_false, or_self, false_and, and_false, Nat.one_ne_zero, n01, Nat.reduceEqDiff, if_true]
            · simp only [c1, c2, c3, c4, i10, true_or, ne_eq, not_true_eq_false, not_false_eq_true, Bool.false_eq_true, true_and, and_true, and_self, if_true, if_false, or_true, false_or, or_false, or_self, false_and, and_false, Nat.one_ne_zero, n01, Nat.reduceEqDiff, if_true]
          · simp only [c1, c2, c3, i10, true_or, ne_eq, not_true_eq_false, not_false_eq_true, Bool.false_eq_true, true_and, and_true, and_self, if_true, if_false, or_true, false_or, or_false, or_self, false_and, and_false, Nat.one_ne_zero, n01, Nat.reduceEqDiff, if_true]
        · simp only [c1, c2, i10, true_or, ne_eq, not_true_eq_false, not_false_eq_true, Bool.false_eq_true, true_and, and_true, and_self, if_true, if_false, or_true, false_or, or_false, or_self, false_and, and_false, Nat.one_ne_zero, n01, Nat.reduceEqDiff, if_true]
      · simp only [c1, i10, true_or, ne_eq, not_true_eq_false, not_false_eq_true, Bool.false_eq_true, true_and, and_true, and_self, if_true, if_false, or_true, false_or, or_false, or_self, false_and, and_false, Nat.one_ne_zero, n01, Nat.reduceEqDiff, if_true]
