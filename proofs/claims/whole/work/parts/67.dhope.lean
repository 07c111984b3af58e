theorem l_wl (J : Nat → Nat → Int64) (q : Bool × Bool) (X : Nat × (Nat → Int32)) {N : Nat → Nat} {D : Nat → Nat → Int} {R : Nat → Nat → Int32} {nr h : Nat} (hL0 : lay R q N D) (hh : h ≤ 999) : ∀ d l I, d + l = N 4 → kn I N D → (∀ k, k < N 3 → clG I k (gs R q nr k)) → wgh I N D (fun l => gs R q nr (kl D l)) h l → frO R I → ∃ I', gb_ex 87 bk_GB_weighLosses_9 [.ref (0 : Nat), .int (nI h), .int (nI l)] [] gb_pG (gS I J q X) = some (.null, gb_pG, gS I' J q X) ∧ kn I' N D ∧ wgh I' N D (fun l => gs R q nr (kl D l)) h (N 4) ∧ frO R I'
  | 0, l, I, e, hk, hG, hw, hf => by
    have e2 : l = N 4 := by omega
    subst e2
    have hL : lay I q N D := lay_fr hL0 (fun a ha => hf a (by omega) (by omega))
    have h8 := hL.1.1.2.2.2.2
    have o6 := hL.2.2.1.2.2.2.2.2
    refine ⟨I, ?_, hk, hw, hf⟩
    rw [bk_GB_weighLosses_9]
    simp (disch := first | omega | decide | assumption | simp only [List.length_cons, List.length_nil, Nat.reduceAdd, Nat.reduceLeDiff, bb_at, bb_t1, bb_t2, bb_t3, bb_t4, bb_t5, bb_t6, bb_t7, bb_t8, bb_t9, bb_t10, bb_t11, bb_t12, bb_t13, bb_t14, bb_t15, bb_t16, bs_at, bs_t1, bs_t2, bs_t3, bs_t4, bs_t5, bs_t6, bs_t7, bs_t8, bs_t9, bs_t10, bs_t11, bs_t12, bs_t13, bs_t14, bs_t15, bs_t16, lb_at, lb_t1, lb_t2, lb_t13, lb_t24, lb_t35, lb_t36, lb_t37, lq_at, lq_t1, lq_t2, lq_t13, lq_t24, lq_t35, lq_t36, lq_t37]) only [x_aload_0, x_get_580, x_get_582, x_get_578, xc_OU_readReports, x_c_0, x_istore_2, x_iload_2, x_get_8, x_ic_ge, x_get_577, xc_LA_settle, x_iload_1, xc_OU_weigh, x_iinc_2_1, x_goto, x_vret, tg_GB_weighLosses_9, tg_GB_weighLosses_31, bk_GB_weighLosses_0, bk_GB_weighLosses_31, kil_int, kil_ref, kil_null, kil_long, kil_rA, psh_int, psh_long, psh_null, gI_gS, gL_gS, gR_gS, sI_gS, sL_gS, orf_some, Option.bind_some, List.length_cons, List.length_nil, Nat.reduceAdd, Nat.reduceLeDiff, if_true, if_false, Nat.zero_le, at_0, rw_0_6, h8, nI_ltI, nI_leI, nI_eq, nI_ltL, nI_leL, L_ltI, L_leI, nI_eqL, L_eqI, oob_nI, ix_nI, oob_L, ix_L, nI_1, nI_add, nI_z, z_nI, nI_lt0, nI_ge0, nI_gt0, nI_le0, ne_eq, Nat.le_zero_eq, Nat.not_lt_zero, Nat.lt_irrefl, Nat.le_refl, i10, true_or, ne_eq, not_true_eq_false, not_false_eq_true, Bool.false_eq_true, true_and, and_true, and_self, if_true, if_false, or_true, false_or, or_false, or_self, false_and, and_false, Nat.one_ne_zero, n01, Nat.reduceEqDiff]
  | d + 1, l, I, e, hk, hG, hw, hf => by
    have hl : l < N 4 := by omega
    have hL : lay I q N D := lay_fr hL0 (fun a ha => hf a (by omega) (by omega))
    have h8 := hL.1.1.2.2.2.2
    have o6 := hL.2.2.1.2.2.2.2.2
    obtain ⟨⟨k1, k2⟩, -⟩ := lfa hL.2.2 hl
    have hk6 : kl D l < 6 := by have := hL.2.2.1.2.2.2.2.1; omega
    obtain ⟨I2, b1, b2, b3, b4⟩ := s_settle I J q X hL hk hl
    have hL2 : lay I2 q N D := lay_fr hL (fun a ha => b4 a (by omega))
    obtain ⟨I3, d1, d2, d3, d4, d5⟩ := s_weigh I2 J q X hL2 (hr := h) hl hh (gs_none R q nr (kl D l)) b3 (clG_fr (hG _ k2) (b4 _ (by omega)))
    have hN3 : N 3 ≤ 6 := hL.2.2.1.2.2.2.2.1
    obtain ⟨I', r1, r2, r3, r4⟩ := l_wl J q X (nr := nr) hL0 hh d (l + 1) I3 (by omega) (kn_fr hL.2.2 b2 (fun a x1 x2 => d5 a (by omega) (by omega))) (fun k hk' => clG_fr (hG k hk') (by rw [d5 (41 + k) (by omega) (by omega), b4 (41 + k) (by omega)])) (fun l' hl' => by
      by_cases el : l' = l
      · subst el
        exact ⟨d2, d3⟩
      · obtain ⟨w1, w2⟩ := hw l' (by omega)
        rw [d4 l' el, b4 47 (by omega), d5 (49 + l') (by omega) (by omega), b4 (49 + l') (by omega)]
        exact ⟨w1, w2⟩) (fun a x1 x2 => by rw [d5 a (by omega) (by omega), b4 a x1, hf a x1 x2])
    refine ⟨I', ?_, r2, r3, r4⟩
    rw [bk_GB_weighLosses_9, ← r1]
    clear r1 r2 r3 r4 d2 d3 d4 d5 b2 b3 b4 hG hw hf
    simp (disch := first | omega | decide | assumption | simp only [List.length_cons, List.length_nil, Nat.reduceAdd, Nat.reduceLeDiff, bb_at, bb_t1, bb_t2, bb_t3, bb_t4, bb_t5, bb_t6, bb_t7, bb_t8, bb_t9, bb_t10, bb_t11, bb_t12, bb_t13, bb_t14, bb_t15, bb_t16, bs_at, bs_t1, bs_t2, bs_t3, bs_t4, bs_t5, bs_t6, bs_t7, bs_t8, bs_t9, bs_t10, bs_t11, bs_t12, bs_t13, bs_t14, bs_t15, bs_t16, lb_at, lb_t1, lb_t2, lb_t13, lb_t24, lb_t35, lb_t36, lb_t37, lq_at, lq_t1, lq_t2, lq_t13, lq_t24, lq_t35, lq_t36, lq_t37]) only [x_aload_0, x_get_580, x_get_582, x_get_578, xc_OU_readReports, x_c_0, x_istore_2, x_iload_2, x_get_8, x_ic_ge, x_get_577, xc_LA_settle, x_iload_1, xc_OU_weigh, x_iinc_2_1, x_goto, x_vret, tg_GB_weighLosses_9, tg_GB_weighLosses_31, bk_GB_weighLosses_0, bk_GB_weighLosses_31, kil_int, kil_ref, kil_null, kil_long, kil_rA, psh_int, psh_long, psh_null, gI_gS, gL_gS, gR_gS, sI_gS, sL_gS, orf_some, Option.bind_some, List.length_cons, List.length_nil, Nat.reduceAdd, Nat.reduceLeDiff, if_true, if_false, Nat.zero_le, at_0, at_3, at_39, rw_0_1, rw_0_4, rw_0_6, h8, nI_ltI, nI_leI, nI_eq, nI_ltL, nI_leL, L_ltI, L_leI, nI_eqL, L_eqI, oob_nI, ix_nI, oob_L, ix_L, nI_1, nI_add, nI_z, z_nI, nI_lt0, nI_ge0, nI_gt0, nI_le0, ne_eq, Nat.le_zero_eq, Nat.not_lt_zero, Nat.lt_irrefl, Nat.le_refl, i10, true_or, ne_eq, not_true_eq_false, not_false_eq_true, Bool.false_eq_true, true_and, and_true, and_self, if_true, if_false, or_true, false_or, or_false, or_self, false_and, and_false, Nat.one_ne_zero, n01, Nat.reduceEqDiff, if_neg (show ¬ N 4 ≤ l by omega), b1, d1]
theorem s_wl (I : Nat → Nat → Int32) (J : Nat → Nat → Int64) (q : Bool × Bool) (X : Nat × (Nat → Int32)) {N : Nat → Nat} {D : Nat → Nat → Int} {cc : Nat → Nat → Nat} {h : Nat} (hL : lay I q N D) (hr : rp0 I (cc 1 0)) (hrp : rpt I cc (N 3) (N 0)) (hk : kn I N D) (hh : h ≤ 999) : ∃ I', gb_call 87 [.ref (0 : Nat), .int (nI h)] gb_pG (gS I J q X) = some (.null, gb_pG, gS I' J q X) ∧ kn I' N D ∧ wgh I' N D (fun l => gs I q (cc 1 0) (kl D l)) h (N 4) ∧ frO I I' := by
  obtain ⟨I1, a1, a2, a3⟩ := s_reports I J q X hL hr.1 hr.2.1 hrp
  obtain ⟨I', r1, r2, r3, r4⟩ := l_wl J q X (nr := cc 1 0) hL hh (N 4) 0 I1 (by omega) (kn_fr hL.2.2 hk (fun a x1 x2 => a3 a (by omega))) (fun k hk' => clG_of a2 hk') (fun l hl => by omega) (fun a x1 x2 => a3 a (by omega))
  refine ⟨I', ?_, r2, r3, r4⟩
  rw [cl_GB_weighLosses, ← r1]
  simp (disch := first | omega | decide | assumption | simp only [List.length_cons, List.length_nil, Nat.reduceAdd, Nat.reduceLeDiff, bb_at, bb_t1, bb_t2, bb_t3, bb_t4, bb_t5, bb_t6, bb_t7, bb_t8, bb_t9, bb_t10, bb_t11, bb_t12, bb_t13, bb_t14, bb_t15, bb_t16, bs_at, bs_t1, bs_t2, bs_t3, bs_t4, bs_t5, bs_t6, bs_t7, bs_t8, bs_t9, bs_t10, bs_t11, bs_t12, bs_t13, bs_t14, bs_t15, bs_t16, lb_at, lb_t1, lb_t2, lb_t13, lb_t24, lb_t35, lb_t36, lb_t37, lq_at, lq_t1, lq_t2, lq_t13, lq_t24, lq_t35, lq_t36, lq_t37]) only [x_aload_0, x_get_580, x_get_582, x_get_578, xc_OU_readReports, x_c_0, x_istore_2, x_iload_2, x_get_8, x_ic_ge, x_get_577, xc_LA_settle, x_iload_1, xc_OU_weigh, x_iinc_2_1, x_goto, x_vret, tg_GB_weighLosses_9, tg_GB_weighLosses_31, bk_GB_weighLosses_0, bk_GB_weighLosses_31, kil_int, kil_ref, kil_null, kil_long, kil_rA, psh_int, psh_long, psh_null, gI_gS, gL_gS, gR_gS, sI_gS, sL_gS, orf_some, Option.bind_some, List.length_cons, List.length_nil, Nat.reduceAdd, Nat.reduceLeDiff, if_true, if_false, Nat.zero_le, at_0, at_39, rw_0_2, rw_0_4, rw_0_6, i10, true_or, ne_eq, not_true_eq_false, not_false_eq_true, Bool.false_eq_true, true_and, and_true, and_self, if_true, if_false, or_true, false_or, or_false, or_self, false_and, and_false, Nat.one_ne_zero, n01, Nat.reduceEqDiff, a1]
  rfl
theorem s_RM_areEyes (v : Int32) (p : gb_Pi) (g : gb_Sg) : gb_call 157 [.int v] p g = some (.int (if 0 ≤ v ∧ v ≤ 9 then 1 else 0), p, g) := by
  rw [cl_RM_areEyes]
  simp only [x_iload_0, x_i2l, x_l_0, x_l_9, xc_RM_in, x_zret, bk_RM_areEyes_0, kil_int, kil_ref, kil_null, kil_long, kil_rA, psh_int, psh_long, psh_null, gI_gS, gL_gS, gR_gS, sI_gS, sL_gS, orf_some, Option.bind_some, List.length_cons, List.length_nil, Nat.reduceAdd, Nat.reduceLeDiff, if_true, if_false, Nat.zero_le, s_RM_in, ite_b3]
  simp (disch := first | omega | decide | assumption | simp only [List.length_cons, List.length_nil, Nat.reduceAdd, Nat.reduceLeDiff]) only [w_Lle, w_leL]
theorem d_hope (I : Nat → Nat → Int32) (J : Nat → Nat → Int64) (q : Bool × Bool) (X : Nat × (Nat → Int32)) {N : Nat → Nat} {D : Nat → Nat → Int} {cc : Nat → Nat → Nat} (hL : lay I q N D) (hr : rp0 I (cc 1 0)) (hrp : rpt I cc (N 3) (N 0)) (hk : kn I N D) (hW : ∀ l, l < N 4 → mW I N D l) (a b h e : Int32) : ∃ r I1, gb_call 84 [.ref (0 : Nat), .int a, .int b, .int h, .int e] gb_pG (gS I J q X) = some (.long r, gb_pG, gS I1 J q X) ∧ gb_call 158 [.ref (190 : Nat), .int a, .int b, .int h, .int e] gb_pG (gS I1 J q X) = some (.long r, gb_pG, gS I1 J q X) ∧ kn I1 N D ∧ frO I I1 := by
  have hz := bsz_of hL
  have o2 := hL.2.2.1.2.1
  have s1 := s_GB_isCell I J q X hz a
  have s2 := s_GB_isCell I J q X hz b
  have u1 := s_RM_isCell I J q X hz a
  have u2 := s_RM_isCell I J q X hz b
  by_cases hb : (0 ≤ a ∧ a ≤ dn (N 0)) ∧ (0 ≤ b ∧ b ≤ dn (N 0)) ∧ a ≤ b ∧ (0 ≤ h ∧ h ≤ 999) ∧ (0 ≤ e ∧ e ≤ 9)
  · obtain ⟨c1, c2, c3, c4, c5⟩ := hb
    obtain ⟨a', a1, rfl⟩ := (dn_le (by omega)).mp c1
    obtain ⟨b', b1, rfl⟩ := (dn_le (by omega)).mp c2
    obtain ⟨h', h1, h2, rfl⟩ := nI_rng (by decide) (by decide) c4
    obtain ⟨e', e1, e2, rfl⟩ := nI_rng (by decide) (by decide) c5
    replace h2 : h' ≤ 999 := h2
    replace e2 : e' ≤ 9 := e2
    have hab : a' ≤ b' := (nI_leI (by omega) (by omega)).mp c3
    have c6 : ¬ nI b' < nI a' := Int32.not_lt.mpr c3
    obtain ⟨I1, p1, p2, p3, p4⟩ := s_wl I J q X hL hr hrp hk h2
    have hL1 : lay I1 q N D := lay_fr hL (fun a ha => p4 a (by omega) (by omega))
    have hr1 := rp0_fr hr (I' := I1) (fun a ha => p4 a (by omega) (by omega))
    have hso := s_sumOver I1 J q X hL1 p3 hab (show b' < 16 by omega) e2
    have hho := s_hopeOf I1 J q X hL1 hr1 (fun l hl => mW_fr (hW l hl) (fun a x1 x2 => p4 a (by omega) (by omega))) (show a' < 16 by omega) (show b' < 16 by omega) h2 e2
    have eg : (fun l => gs I1 q (cc 1 0) (kl D l)) = fun l => gs I q (cc 1 0) (kl D l) := by
      funext l
      exact gs_fr (fun a ha => p4 a (by omega) (by omega))
    rw [eg] at hho
    have u1' := s_RM_isCell I1 J q X (bsz_of hL1) (nI a')
    have u2' := s_RM_isCell I1 J q X (bsz_of hL1) (nI b')
    refine ⟨lN (hpe N D (fun l => gs I q (cc 1 0) (kl D l)) a' b' h' e'), I1, ?_, ?_, p2, p4⟩
    · rw [cl_GB_hope]
      simp (disch := first | omega | decide | assumption | simp only [List.length_cons, List.length_nil, Nat.reduceAdd, Nat.reduceLeDiff, bb_at, bb_t1, bb_t2, bb_t3, bb_t4, bb_t5, bb_t6, bb_t7, bb_t8, bb_t9, bb_t10, bb_t11, bb_t12, bb_t13, bb_t14, bb_t15, bb_t16, bs_at, bs_t1, bs_t2, bs_t3, bs_t4, bs_t5, bs_t6, bs_t7, bs_t8, bs_t9, bs_t10, bs_t11, bs_t12, bs_t13, bs_t14, bs_t15, bs_t16, lb_at, lb_t1, lb_t2, lb_t13, lb_t24, lb_t35, lb_t36, lb_t37, lq_at, lq_t1, lq_t2, lq_t13, lq_t24, lq_t35, lq_t36, lq_t37]) only [x_aload_0, x_iload_1, xc_GB_isCell, x_if_eq, x_iload_2, x_ic_gt, x_iload_3, xc_GB_isHour, x_iload_4, xc_GB_isEyes, x_if_ne, x_l_m1, x_lret, xc_GB_weighLosses, x_get_580, x_get_582, xc_OU_sumOver, tg_GB_hope_17, tg_GB_hope_19, bk_GB_hope_0, bk_GB_hope_17, bk_GB_hope_19, kil_int, kil_ref, kil_null, kil_long, kil_rA, psh_int, psh_long, psh_null, gI_gS, gL_gS, gR_gS, sI_gS, sL_gS, orf_some, Option.bind_some, List.length_cons, List.length_nil, Nat.reduceAdd, Nat.reduceLeDiff, if_true, if_false, Nat.zero_le, at_0, at_39, rw_0_4, rw_0_6, s1, s2, s_GB_isHour, s_GB_isEyes, ite_b1, ite_b2, c1, c2, c4, c5, c6, i10, true_or, ne_eq, not_true_eq_false, not_false_eq_true, Bool.false_eq_true, true_and, and_true, and_self, if_true, if_false, or_true, false_or, or_false, or_self, false_and, and_false, Nat.one_ne_zero, n01, Nat.reduceEqDiff, p1, hso]
    · rw [cl_RM_hope]
      simp (disch := first | omega | decide | assumption | simp only [List.length_cons, List.length_nil, Nat.reduceAdd, Nat.reduceLeDiff, bb_at, bb_t1, bb_t2, bb_t3, bb_t4, bb_t5, bb_t6, bb_t7, bb_t8, bb_t9, bb_t10, bb_t11, bb_t12, bb_t13, bb_t14, bb_t15, bb_t16, bs_at, bs_t1, bs_t2, bs_t3, bs_t4, bs_t5, bs_t6, bs_t7, bs_t8, bs_t9, bs_t10, bs_t11, bs_t12, bs_t13, bs_t14, bs_t15, bs_t16, lb_at, lb_t1, lb_t2, lb_t13, lb_t24, lb_t35, lb_t36, lb_t37, lq_at, lq_t1, lq_t2, lq_t13, lq_t24, lq_t35, lq_t36, lq_t37]) only [x_aload_0, x_iload_1, xc_RM_isCell, x_if_eq, x_iload_2, x_ic_gt, x_iload_3, xc_RM_isHour, x_iload_4, xc_RM_areEyes, xc_RM_hopeOf, x_goto, x_l_m1, x_lret, tg_RM_hope_24, tg_RM_hope_25, bk_RM_hope_0, bk_RM_hope_24, bk_RM_hope_25, kil_int, kil_ref, kil_null, kil_long, kil_rA, psh_int, psh_long, psh_null, gI_gS, gL_gS, gR_gS, sI_gS, sL_gS, orf_some, Option.bind_some, List.length_cons, List.length_nil, Nat.reduceAdd, Nat.reduceLeDiff, if_true, if_false, Nat.zero_le, at_190, u1', u2', s_RM_isHour, s_RM_areEyes, ite_b1, ite_b2, c1, c2, c4, c5, c6, i10, true_or, ne_eq, not_true_eq_false, not_false_eq_true, Bool.false_eq_true, true_and, and_true, and_self, if_true, if_false, or_true, false_or, or_false, or_self, false_and, and_false, Nat.one_ne_zero, n01, Nat.reduceEqDiff, hho]
  · refine ⟨-1, I, ?_, ?_, hk, fun _ _ _ => rfl⟩
    · rw [cl_GB_hope]
      simp (disch := first | omega | decide | assumption | simp only [List.length_cons, List.length_nil, Nat.reduceAdd, Nat.reduceLeDiff, bb_at, bb_t1, bb_t2, bb_t3, bb_t4, bb_t5, bb_t6, bb_t7, bb_t8, bb_t9, bb_t10, bb_t11, bb_t12, bb_t13, bb_t14, bb_t15, bb_t16, bs_at, bs_t1, bs_t2, bs_t3, bs_t4, bs_t5, bs_t6, bs_t7, bs_t8, bs_t9, bs_t10, bs_t11, bs_t12, bs_t13, bs_t14, bs_t15, bs_t16, lb_at, lb_t1, lb_t2, lb_t13, lb_t24, lb_t35, lb_t36, lb_t37, lq_at, lq_t1, lq_t2, lq_t13, lq_t24, lq_t35, lq_t36, lq_t37]) only [x_aload_0, x_iload_1, xc_GB_isCell, x_if_eq, x_iload_2, x_ic_gt, x_iload_3, xc_GB_isHour, x_iload_4, xc_GB_isEyes, x_if_ne, x_l_m1, x_lret, xc_GB_weighLosses, x_get_580, x_get_582, xc_OU_sumOver, tg_GB_hope_17, tg_GB_hope_19, bk_GB_hope_0, bk_GB_hope_17, kil_int, kil_ref, kil_null, kil_long, kil_rA, psh_int, psh_long, psh_null, gI_gS, gL_gS, gR_gS, sI_gS, sL_gS, orf_some, Option.bind_some, List.length_cons, List.length_nil, Nat.reduceAdd, Nat.reduceLeDiff, if_true, if_false, Nat.zero_le, s1, s2, s_GB_isHour, s_GB_isEyes, ite_b1, ite_b2]
      by_cases c1 : 0 ≤ a ∧ a ≤ dn (N 0)
      · by_cases c2 : 0 ≤ b ∧ b ≤ dn (N 0)
        · by_cases c3 : b < a
          · simp only [c1, c2, c3, i10, true_or, ne_eq, not_true_eq_false, not_false_eq_true, Bool.false_eq_true, true_and, and_true, and_self, if_true, if_false, or_true, false_or, or_false, or_self, false_and, and_false, Nat.one_ne_zero, n01, Nat.reduceEqDiff, if_true]
          · by_cases c4 : 0 ≤ h ∧ h ≤ 999
            · have c5 : ¬ (0 ≤ e ∧ e ≤ 9) := fun c => hb ⟨c1, c2, Int32.not_lt.mp c3, c4, c⟩
              simp only [c1, c2, c3, c4, c5, i10, true_or, ne_eq, not_true_eq_false, not_false_eq_true, Bool.false_eq_true, true_and, and_true, and_self, if_true, if_false, or_true, false_or, or_false, or_self, false_and, and_false, Nat.one_ne_zero, n01, Nat.reduceEqDiff, if_false]
            · simp only [c1, c2, c3, c4, i10, true_or, ne_eq, not_true_eq_false, not_false_eq_true, Bool.false_eq_true, true_and, and_true, and_self, if_true, if_false, or_true, false_or, or_false, or_self, false_and, and_false, Nat.one_ne_zero, n01, Nat.reduceEqDiff, if_true, if_false]
        · simp only [c1, c2, i10, true_or, ne_eq, not_true_eq_false, not_false_eq_true, Bool.false_eq_true, true_and, and_true, and_self, if_true, if_false, or_true, false_or, or_false, or_self, false_and, and_false, Nat.one_ne_zero, n01, Nat.reduceEqDiff, if_true]
      · simp only [c1, i10, true_or, ne_eq, not_true_eq_false, not_false_eq_true, Bool.false_eq_true, true_and, and_true, and_self, if_true, if_false, or_true, false_or, or_false, or_self, false_and, and_false, Nat.one_ne_zero, n01, Nat.reduceEqDiff, if_true]
    · rw [cl_RM_hope]
      simp (disch := first | omega | decide | assumption | simp only [List.length_cons, List.length_nil, Nat.reduceAdd, Nat.reduceLeDiff, bb_at, bb_t1, bb_t2, bb_t3, bb_t4, bb_t5, bb_t6, bb_t7, bb_t8, bb_t9, bb_t10, bb_t11, bb_t12, bb_t13, bb_t14, bb_t15, bb_t16, bs_at, bs_t1, bs_t2, bs_t3, bs_t4, bs_t5, bs_t6, bs_t7, bs_t8, bs_t9, bs_t10, bs_t11, bs_t12, bs_t13, bs_t14, bs_t15, bs_t16, lb_at, lb_t1, lb_t2, lb_t13, lb_t24, lb_t35, lb_t36, lb_t37, lq_at, lq_t1, lq_t2, lq_t13, lq_t24, lq_t35, lq_t36, lq_t37]) only [x_aload_0, x_iload_1, xc_RM_isCell, x_if_eq, x_iload_2, x_ic_gt, x_iload_3, xc_RM_isHour, x_iload_4, xc_RM_areEyes, xc_RM_hopeOf, x_goto, x_l_m1, x_lret, tg_RM_hope_24, tg_RM_hope_25, bk_RM_hope_0, bk_RM_hope_24, bk_RM_hope_25, kil_int, kil_ref, kil_null, kil_long, kil_rA, psh_int, psh_long, psh_null, gI_gS, gL_gS, gR_gS, sI_gS, sL_gS, orf_some, Option.bind_some, List.length_cons, List.length_nil, Nat.reduceAdd, Nat.reduceLeDiff, if_true, if_false, Nat.zero_le, at_190, u1, u2, s_RM_isHour, s_RM_areEyes, ite_b1, ite_b2]
      by_cases c1 : 0 ≤ a ∧ a ≤ dn (N 0)
      · by_cases c2 : 0 ≤ b ∧ b ≤ dn (N 0)
        · by_cases c3 : b < a
          · simp only [c1, c2, c3, i10, true_or, ne_eq, not_true_eq_false, not_false_eq_true, Bool.false_eq_true, true_and, and_true, and_self, if_true, if_false, or_true, false_or, or_false, or_self, false_and, and_false, Nat.one_ne_zero, n01, Nat.reduceEqDiff, if_true]
          · by_cases c4 : 0 ≤ h ∧ h ≤ 999
            · have c5 : ¬ (0 ≤ e ∧ e ≤ 9) := fun c => hb ⟨c1, c2, Int32.not_lt.mp c3, c4, c⟩
              simp only [c1, c2, c3, c4, c5, i10, true_or, ne_eq, not_true_eq_false, not_false_eq_true, Bool.false_eq_true, true_and, and_true, and_self, if_true, if_false, or_true, false_or, or_false, or_self, false_and, and_false, Nat.one_ne_zero, n01, Nat.reduceEqDiff, if_true, if_false]
            · simp only [c1, c2, c3, c4, i10, true_or, ne_eq, not_true_eq_false, not_false_eq_true, Bool.false_eq_true, true_and, and_true, and_self, if_true, if_false, or_true, false_or, or_false, or_self, false_and, and_false, Nat.one_ne_zero, n01, Nat.reduceEqDiff, if_true, if_false]
        · simp only [c1, c2, i10, true_or, ne_eq, not_true_eq_false, not_false_eq_true, Bool.false_eq_true, true_and, and_true, and_self, if_true, if_false, or_true, false_or, or_false, or_self, false_and, and_false, Nat.one_ne_zero, n01, Nat.reduceEqDiff, if_true]
      · simp only [c1, i10, true_or, ne_eq, not_true_eq_false, not_false_eq_true, Bool.false_eq_true, true_and, and_true, and_self, if_true, if_false, or_true, false_or, or_false, or_self, false_and, and_false, Nat.one_ne_zero, n01, Nat.reduceEqDiff, if_true]
