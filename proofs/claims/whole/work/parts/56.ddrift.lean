/-- what is laid -/
def lay (I : Nat → Nat → Int32) (q : Bool × Bool) (N : Nat → Nat) (D : Nat → Nat → Int) : Prop := cR I (gb_bb q) N D ∧ mR I 0 N D ∧ oB N D
theorem lay_ld {I : Nat → Nat → Int32} {q : Bool × Bool} {N : Nat → Nat} {D : Nat → Nat → Int} (h : lay I q N D) (c t : Int32) : lay (ld I c t) q N D := by
  have := gb_bb_r q
  exact ⟨cR_fr h.1 (fun a ha => ld_n (by omega)), mR_fr h.2.1 (fun a a1 a2 => ld_n (by omega)), h.2.2⟩
theorem dh_n {I : Nat → Nat → Int32} {o : Option (Nat × Nat)} {a : Nat} (h : a ≠ 190) : dh I o a = I a := by
  cases o with
  | none => rfl
  | some p => exact up_ne h
theorem dh_k {I : Nat → Nat → Int32} {o : Option (Nat × Nat)} {k : Nat} (h : k ≠ 17) : dh I o 190 k = I 190 k := by
  cases o with
  | none => rfl
  | some p =>
    show up I 190 17 _ 190 k = _
    rw [up_same, upd_ne h]
theorem d_drift (I : Nat → Nat → Int32) (J : Nat → Nat → Int64) (q : Bool × Bool) (X : Nat × (Nat → Int32)) {N : Nat → Nat} {D : Nat → Nat → Int} (hl : lay I q N D) (x y h s w : Int32) : ∃ r I1 I2, gb_call 73 [.ref (0 : Nat), .int x, .int y, .int h, .int s, .int w] gb_pG (gS I J q X) = some (.int r, gb_pG, gS I1 J q X) ∧ gb_call 136 [.ref (190 : Nat), .int x, .int y, .int h, .int s, .int w] gb_pG (gS I1 J q X) = some (.int r, gb_pG, gS I2 J q X) ∧ (∀ a, a ≠ 3 → a ≠ 190 → I2 a = I a) ∧ (∀ k, k ≠ 17 → I2 190 k = I 190 k) := by
  have hbb := gb_bb_r q
  obtain ⟨hR, hM, ho⟩ := id hl
  obtain ⟨⟨o1, o2, o3, o4, o5, o6⟩, -⟩ := id ho
  have hn := hR.1.1
  have hm := hM.1.1
  have e9 : (10 : Int32) * nI (N 0) - 1 = dn (10 * N 0) := by rw [show (10 : Int32) * nI (N 0) = nI (10 * N 0) from (by rw [fa_lit 10, pk_mul]), dn_sub]
  by_cases hb : (0 ≤ x ∧ x ≤ dn (10 * N 0)) ∧ (1 ≤ y ∧ y ≤ 99) ∧ (0 ≤ h ∧ h ≤ 999) ∧ (0 ≤ s ∧ s ≤ 10) ∧ (0 ≤ w ∧ w ≤ 1)
  · obtain ⟨c1, c2, c3, c4, c5⟩ := hb
    obtain ⟨x', x1, rfl⟩ := (dn_le (by omega)).mp c1
    obtain ⟨y', y1, y2, rfl⟩ := nI_rng (by decide) (by decide) c2
    obtain ⟨h', h1, h2, rfl⟩ := nI_rng (by decide) (by decide) c3
    obtain ⟨s', s1, s2, rfl⟩ := nI_rng (by decide) (by decide) c4
    obtain ⟨w', w1, w2, rfl⟩ := nI_rng (by decide) (by decide) c5
    replace y1 : 1 ≤ y' := y1
    replace y2 : y' ≤ 99 := y2
    replace h2 : h' ≤ 999 := h2
    replace s2 : s' ≤ 10 := s2
    replace w2 : w' ≤ 1 := w2
    have rel := s_release I J q X ho hR (s := s') (h := h') (x := (x' : Int)) (y := (y' : Int)) s2 h2 (by omega) (by omega)
    obtain ⟨o, hoo⟩ : ∃ o, o = dr N D s' (999 - h') h' (x' : Int) (y' : Int) := ⟨_, rfl⟩
    rw [← zI_nI, ← zI_nI, ← hoo] at rel
    have hl1 := lay_ld hl (rC o) (rT o)
    have drf := s_drifts (ld I (rC o) (rT o)) J q X ho hl1.2.1 (s := s') (h := h') (x := (x' : Int)) (y := (y' : Int)) s2 h2 (by omega) (by omega)
    rw [← zI_nI, ← zI_nI, ← hoo] at drf
    have hm1 : ld I (rC o) (rT o) 192 0 = nI (N 0) := by rw [ld_n (by decide)]; exact hm
    refine ⟨match o with | none => -4 | some (c, t) => if w' = 0 then nI c else nI t, ld I (rC o) (rT o), dh (ld I (rC o) (rT o)) o, ?_, ?_, fun a a1 a2 => by rw [dh_n a2, ld_n a1], fun k hk => by rw [dh_k hk, ld_n (by decide)]⟩
    · rw [cl_GB_drift]
      simp (disch := first | omega | decide | assumption | simp only [List.length_cons, List.length_nil, Nat.reduceAdd, Nat.reduceLeDiff, bb_at, bb_t1, bb_t2, bb_t3, bb_t4, bb_t5, bb_t6, bb_t7, bb_t8, bb_t9, bb_t10, bb_t11, bb_t12, bb_t13, bb_t14, bb_t15, bb_t16, bs_at, bs_t1, bs_t2, bs_t3, bs_t4, bs_t5, bs_t6, bs_t7, bs_t8, bs_t9, bs_t10, bs_t11, bs_t12, bs_t13, bs_t14, bs_t15, bs_t16, lb_at, lb_t1, lb_t2, lb_t13, lb_t24, lb_t35, lb_t36, lb_t37, lq_at, lq_t1, lq_t2, lq_t13, lq_t24, lq_t35, lq_t36, lq_t37]) only [x_iload_1, x_c_0, x_c_10, x_aload_0, x_get_582, x_get_1, x_imul, x_c_1, x_isub, xc_GB_within, x_if_eq, x_iload_2, x_c_99, x_iload_3, xc_GB_isHour, x_iload_4, x_iload_5, x_if_ne, x_c_m1, x_iret, x_get_577, xc_LA_release, x_get_64, x_ic_ne, x_c_m4, x_goto, x_get_65, tg_GB_drift_29, tg_GB_drift_31, tg_GB_drift_47, tg_GB_drift_53, tg_GB_drift_56, bk_GB_drift_0, bk_GB_drift_29, bk_GB_drift_31, bk_GB_drift_47, bk_GB_drift_53, bk_GB_drift_56, kil_int, kil_ref, kil_null, kil_long, kil_rA, psh_int, psh_long, psh_null, gI_gS, gL_gS, gR_gS, sI_gS, sL_gS, orf_some, Option.bind_some, List.length_cons, List.length_nil, Nat.reduceAdd, Nat.reduceLeDiff, if_true, if_false, Nat.zero_le, at_0, at_3, rw_0_1, rw_0_6, hn, e9, s_GB_within, s_GB_isHour, ite_b1, ite_b2, c1, c2, c3, c4, c5, i10, true_or, ne_eq, not_true_eq_false, not_false_eq_true, Bool.false_eq_true, true_and, and_true, and_self, if_true, if_false, or_true, false_or, or_false, or_self, false_and, and_false, Nat.one_ne_zero, n01, Nat.reduceEqDiff, rel, ld_0, ld_1, nI_z]
      cases o with
      | none =>
        simp only [rC, rT, i10, true_or, ne_eq, not_true_eq_false, not_false_eq_true, Bool.false_eq_true, true_and, and_true, and_self, if_true, if_false, or_true, false_or, or_false, or_self, false_and, and_false, Nat.one_ne_zero, n01, Nat.reduceEqDiff]
      | some p =>
        have hdb := dr_b (by omega : 999 - h' + h' = 999) hoo.symm
        have k1 : ¬ nI p.1 = -1 := fun e => by
          have : (-1 : Int32) < 0 := by decide
          rw [← e] at this
          exact nI_pos (by omega) this
        simp only [rC, rT, k1, i10, true_or, ne_eq, not_true_eq_false, not_false_eq_true, Bool.false_eq_true, true_and, and_true, and_self, if_true, if_false, or_true, false_or, or_false, or_self, false_and, and_false, Nat.one_ne_zero, n01, Nat.reduceEqDiff]
        by_cases cw : w' = 0
        · simp only [cw, i10, true_or, ne_eq, not_true_eq_false, not_false_eq_true, Bool.false_eq_true, true_and, and_true, and_self, if_true, if_false, or_true, false_or, or_false, or_self, false_and, and_false, Nat.one_ne_zero, n01, Nat.reduceEqDiff, if_true]
        · simp only [cw, i10, true_or, ne_eq, not_true_eq_false, not_false_eq_true, Bool.false_eq_true, true_and, and_true, and_self, if_true, if_false, or_true, false_or, or_false, or_self, false_and, and_false, Nat.one_ne_zero, n01, Nat.reduceEqDiff, if_false]
    · rw [cl_RM_drift]
      simp (disch := first | omega | decide | assumption | simp only [List.length_cons, List.length_nil, Nat.reduceAdd, Nat.reduceLeDiff, bb_at, bb_t1, bb_t2, bb_t3, bb_t4, bb_t5, bb_t6, bb_t7, bb_t8, bb_t9, bb_t10, bb_t11, bb_t12, bb_t13, bb_t14, bb_t15, bb_t16, bs_at, bs_t1, bs_t2, bs_t3, bs_t4, bs_t5, bs_t6, bs_t7, bs_t8, bs_t9, bs_t10, bs_t11, bs_t12, bs_t13, bs_t14, bs_t15, bs_t16, lb_at, lb_t1, lb_t2, lb_t13, lb_t24, lb_t35, lb_t36, lb_t37, lq_at, lq_t1, lq_t2, lq_t13, lq_t24, lq_t35, lq_t36, lq_t37]) only [x_iload_1, x_i2l, x_l_0, x_c_10, x_aload_0, x_get_643, x_c_0, x_iald, x_imul, x_c_1, x_isub, xc_RM_in, x_if_eq, x_iload_2, x_l_1, x_l_99, x_iload_3, xc_RM_isHour, x_iload_4, x_l_10, x_iload_5, x_if_ne, x_c_m1, x_iret, xc_RM_drifts, x_istore_6, x_iload_6, x_if_ge, x_c_m4, x_goto, x_get_657, tg_RM_drift_35, tg_RM_drift_37, tg_RM_drift_48, tg_RM_drift_52, tg_RM_drift_54, bk_RM_drift_0, bk_RM_drift_35, bk_RM_drift_37, bk_RM_drift_48, bk_RM_drift_52, bk_RM_drift_54, kil_int, kil_ref, kil_null, kil_long, kil_rA, psh_int, psh_long, psh_null, gI_gS, gL_gS, gR_gS, sI_gS, sL_gS, orf_some, Option.bind_some, List.length_cons, List.length_nil, Nat.reduceAdd, Nat.reduceLeDiff, if_true, if_false, Nat.zero_le, at_190, at_192, al_192, rw_190_3, oob_L, ix_L, hm1, e9, s_RM_in, s_RM_isHour, w_Lle, w_leL, w_le, ite_b1, ite_b2, c1, c2, c3, c4, c5, i10, true_or, ne_eq, not_true_eq_false, not_false_eq_true, Bool.false_eq_true, true_and, and_true, and_self, if_true, if_false, or_true, false_or, or_false, or_self, false_and, and_false, Nat.one_ne_zero, n01, Nat.reduceEqDiff, drf, nI_z]
      cases o with
      | none =>
        simp only [rC, show ((0 : Int32) ≤ -1) = False from by decide, i10, true_or, ne_eq, not_true_eq_false, not_false_eq_true, Bool.false_eq_true, true_and, and_true, and_self, if_true, if_false, or_true, false_or, or_false, or_self, false_and, and_false, Nat.one_ne_zero, n01, Nat.reduceEqDiff, dh]
      | some p =>
        have hdb := dr_b (by omega : 999 - h' + h' = 999) hoo.symm
        have k1 : 0 ≤ nI p.1 := nI_pos' (by omega)
        simp only [rC, k1, i10, true_or, ne_eq, not_true_eq_false, not_false_eq_true, Bool.false_eq_true, true_and, and_true, and_self, if_true, if_false, or_true, false_or, or_false, or_self, false_and, and_false, Nat.one_ne_zero, n01, Nat.reduceEqDiff, dh, up_same, upd_same]
        by_cases cw : w' = 0
        · simp only [cw, i10, true_or, ne_eq, not_true_eq_false, not_false_eq_true, Bool.false_eq_true, true_and, and_true, and_self, if_true, if_false, or_true, false_or, or_false, or_self, false_and, and_false, Nat.one_ne_zero, n01, Nat.reduceEqDiff, if_true]
        · simp only [cw, i10, true_or, ne_eq, not_true_eq_false, not_false_eq_true, Bool.false_eq_true, true_and, and_true, and_self, if_true, if_false, or_true, false_or, or_false, or_self, false_and, and_false, Nat.one_ne_zero, n01, Nat.reduceEqDiff, if_false]
  · refine ⟨-1, I, I, ?_, ?_, fun _ _ _ => rfl, fun _ _ => rfl⟩
    · rw [cl_GB_drift]
      simp (disch := first | omega | decide | assumption | simp only [List.length_cons, List.length_nil, Nat.reduceAdd, Nat.reduceLeDiff, bb_at, bb_t1, bb_t2, bb_t3, bb_t4, bb_t5, bb_t6, bb_t7, bb_t8, bb_t9, bb_t10, bb_t11, bb_t12, bb_t13, bb_t14, bb_t15, bb_t16, bs_at, bs_t1, bs_t2, bs_t3, bs_t4, bs_t5, bs_t6, bs_t7, bs_t8, bs_t9, bs_t10, bs_t11, bs_t12, bs_t13, bs_t14, bs_t15, bs_t16, lb_at, lb_t1, lb_t2, lb_t13, lb_t24, lb_t35, lb_t36, lb_t37, lq_at, lq_t1, lq_t2, lq_t13, lq_t24, lq_t35, lq_t36, lq_t37]) only [x_iload_1, x_c_0, x_c_10, x_aload_0, x_get_582, x_get_1, x_imul, x_c_1, x_isub, xc_GB_within, x_if_eq, x_iload_2, x_c_99, x_iload_3, xc_GB_isHour, x_iload_4, x_iload_5, x_if_ne, x_c_m1, x_iret, x_get_577, xc_LA_release, x_get_64, x_ic_ne, x_c_m4, x_goto, x_get_65, tg_GB_drift_29, tg_GB_drift_31, tg_GB_drift_47, tg_GB_drift_53, tg_GB_drift_56, bk_GB_drift_0, bk_GB_drift_29, bk_GB_drift_47, bk_GB_drift_53, bk_GB_drift_56, kil_int, kil_ref, kil_null, kil_long, kil_rA, psh_int, psh_long, psh_null, gI_gS, gL_gS, gR_gS, sI_gS, sL_gS, orf_some, Option.bind_some, List.length_cons, List.length_nil, Nat.reduceAdd, Nat.reduceLeDiff, if_true, if_false, Nat.zero_le, at_0, at_3, rw_0_1, rw_0_6, hn, e9, s_GB_within, s_GB_isHour, ite_b1, ite_b2]
      by_cases c1 : 0 ≤ x ∧ x ≤ dn (10 * N 0)
      · by_cases c2 : 1 ≤ y ∧ y ≤ 99
        · by_cases c3 : 0 ≤ h ∧ h ≤ 999
          · by_cases c4 : 0 ≤ s ∧ s ≤ 10
            · have c5 : ¬ (0 ≤ w ∧ w ≤ 1) := fun c5 => hb ⟨c1, c2, c3, c4, c5⟩
              simp only [c1, c2, c3, c4, c5, i10, true_or, ne_eq, not_true_eq_false, not_false_eq_true, Bool.false_eq_true, true_and, and_true, and_self, if_true, if_false, or_true, false_or, or_false, or_self, false_and, and_false, Nat.one_ne_zero, n01, Nat.reduceEqDiff, if_false]
            · simp only [c1, c2, c3, c4, i10, true_or, ne_eq, not_true_eq_false, not_false_eq_true, Bool.false_eq_true, true_and, and_true, and_self, if_true, if_false, or_true, false_or, or_false, or_self, false_and, and_false, Nat.one_ne_zero, n01, Nat.reduceEqDiff, if_true]
          · simp only [c1, c2, c3, i10, true_or, ne_eq, not_true_eq_false, not_false_eq_true, Bool.false_eq_true, true_and, and_true, and_self, if_true, if_false, or_true, false_or, or_false, or_self, false_and, and_false, Nat.one_ne_zero, n01, Nat.reduceEqDiff, if_true]
        · simp only [c1, c2, i10, true_or, ne_eq, not_true_eq_false, not_false_eq_true, Bool.false_eq_true, true_and, and_true, and_self, if_true, if_false, or_true, false_or, or_false, or_self, false_and, and_false, Nat.one_ne_zero, n01, Nat.reduceEqDiff, if_true]
      · simp only [c1, i10, true_or, ne_eq, not_true_eq_false, not_false_eq_true, Bool.false_eq_true, true_and, and_true, and_self, if_true, if_false, or_true, false_or, or_false, or_self, false_and, and_false, Nat.one_ne_zero, n01, Nat.reduceEqDiff, if_true]
    · rw [cl_RM_drift]
      simp (disch := first | omega | decide | assumption | simp only [List.length_cons, List.length_nil, Nat.reduceAdd, Nat.reduceLeDiff, bb_at, bb_t1, bb_t2, bb_t3, bb_t4, bb_t5, bb_t6, bb_t7, bb_t8, bb_t9, bb_t10, bb_t11, bb_t12, bb_t13, bb_t14, bb_t15, bb_t16, bs_at, bs_t1, bs_t2, bs_t3, bs_t4, bs_t5, bs_t6, bs_t7, bs_t8, bs_t9, bs_t10, bs_t11, bs_t12, bs_t13, bs_t14, bs_t15, bs_t16, lb_at, lb_t1, lb_t2, lb_t13, lb_t24, lb_t35, lb_t36, lb_t37, lq_at, lq_t1, lq_t2, lq_t13, lq_t24, lq_t35, lq_t36, lq_t37]) only [x_iload_1, x_i2l, x_l_0, x_c_10, x_aload_0, x_get_643, x_c_0, x_iald, x_imul, x_c_1, x_isub, xc_RM_in, x_if_eq, x_iload_2, x_l_1, x_l_99, x_iload_3, xc_RM_isHour, x_iload_4, x_l_10, x_iload_5, x_if_ne, x_c_m1, x_iret, xc_RM_drifts, x_istore_6, x_iload_6, x_if_ge, x_c_m4, x_goto, x_get_657, tg_RM_drift_35, tg_RM_drift_37, tg_RM_drift_48, tg_RM_drift_52, tg_RM_drift_54, bk_RM_drift_0, bk_RM_drift_35, bk_RM_drift_48, bk_RM_drift_52, bk_RM_drift_54, kil_int, kil_ref, kil_null, kil_long, kil_rA, psh_int, psh_long, psh_null, gI_gS, gL_gS, gR_gS, sI_gS, sL_gS, orf_some, Option.bind_some, List.length_cons, List.length_nil, Nat.reduceAdd, Nat.reduceLeDiff, if_true, if_false, Nat.zero_le, at_190, at_192, al_192, rw_190_3, oob_L, ix_L, hm, e9, s_RM_in, s_RM_isHour, w_Lle, w_leL, w_le, ite_b1, ite_b2]
      by_cases c1 : 0 ≤ x ∧ x ≤ dn (10 * N 0)
      · by_cases c2 : 1 ≤ y ∧ y ≤ 99
        · by_cases c3 : 0 ≤ h ∧ h ≤ 999
          · by_cases c4 : 0 ≤ s ∧ s ≤ 10
            · have c5 : ¬ (0 ≤ w ∧ w ≤ 1) := fun c5 => hb ⟨c1, c2, c3, c4, c5⟩
              simp only [c1, c2, c3, c4, c5, i10, true_or, ne_eq, not_true_eq_false, not_false_eq_true, Bool.false_eq_true, true_and, and_true, and_self, if_true, if_false, or_true, false_or, or_false, or_self, false_and, and_false, Nat.one_ne_zero, n01, Nat.reduceEqDiff, if_false]
            · simp only [c1, c2, c3, c4, i10, true_or, ne_eq, not_true_eq_false, not_false_eq_true, Bool.false_eq_true, true_and, and_true, and_self, if_true, if_false, or_true, false_or, or_false, or_self, false_and, and_false, Nat.one_ne_zero, n01, Nat.reduceEqDiff, if_true]
          · simp only [c1, c2, c3, i10, true_or, ne_eq, not_true_eq_false, not_false_eq_true, Bool.false_eq_true, true_and, and_true, and_self, if_true, if_false, or_true, false_or, or_false, or_self, false_and, and_false, Nat.one_ne_zero, n01, Nat.reduceEqDiff, if_true]
        · simp only [c1, c2, i10, true_or, ne_eq, not_true_eq_false, not_false_eq_true, Bool.false_eq_true, true_and, and_true, and_self, if_true, if_false, or_true, false_or, or_false, or_self, false_and, and_false, Nat.one_ne_zero, n01, Nat.reduceEqDiff, if_true]
      · simp only [c1, i10, true_or, ne_eq, not_true_eq_false, not_false_eq_true, Bool.false_eq_true, true_and, and_true, and_self, if_true, if_false, or_true, false_or, or_false, or_self, false_and, and_false, Nat.one_ne_zero, n01, Nat.reduceEqDiff, if_true]
