/-! from which losses a find may be -/
def fro (N : Nat → Nat) (D : Nat → Nat → Int) (k x t d l a : Nat) : Nat := lp (fun l a => a ||| if kl D l = k ∧ 0 < cn N D l (fun o _ => ash x x 0 t o) then 2 ^ l else 0) d l a
theorem fro_s (N : Nat → Nat) (D : Nat → Nat → Int) (k x t d l a : Nat) : fro N D k x t (d + 1) l a = fro N D k x t d (l + 1) (a ||| if kl D l = k ∧ 0 < cn N D l (fun o _ => ash x x 0 t o) then 2 ^ l else 0) := rfl
theorem l_behind (J : Nat → Nat → Int64) (q : Bool × Bool) (X : Nat × (Nat → Int32)) {N : Nat → Nat} {D : Nat → Nat → Int} {i k x t : Nat} (hi : i < 12) (hk3 : k < N 3) (hx : x < N 0) (ht : t ≤ 999) : ∀ d l a I, d + l = N 4 → lay I q N D → kn I N D → I 24 i = nI k → I 25 i = nI x → I 26 i = nI t → ∃ I', gb_ex 78 bk_GB_lossesBehind_4 [.ref (0 : Nat), .int (nI i), .int (nI a), .int (nI l)] [] gb_pG (gS I J q X) = some (.int (nI (fro N D k x t d l a)), gb_pG, gS I' J q X) ∧ kn I' N D ∧ ∀ a, ¬ (3 ≤ a ∧ a ≤ 22) → I' a = I a
  | 0, l, a, I, e, hL, hkn, h24, h25, h26 => by
    have e2 : l = N 4 := by omega
    subst e2
    have h8 := hL.1.1.2.2.2.2
    obtain ⟨⟨o1, o2, o3, o4, o5, o6⟩, -⟩ := hL.2.2
    refine ⟨I, ?_, hkn, fun _ _ => rfl⟩
    rw [bk_GB_lossesBehind_4]
    simp (disch := first | omega | decide | assumption | simp only [List.length_cons, List.length_nil, Nat.reduceAdd, Nat.reduceLeDiff, bb_at, bb_t1, bb_t2, bb_t3, bb_t4, bb_t5, bb_t6, bb_t7, bb_t8, bb_t9, bb_t10, bb_t11, bb_t12, bb_t13, bb_t14, bb_t15, bb_t16, bs_at, bs_t1, bs_t2, bs_t3, bs_t4, bs_t5, bs_t6, bs_t7, bs_t8, bs_t9, bs_t10, bs_t11, bs_t12, bs_t13, bs_t14, bs_t15, bs_t16, lb_at, lb_t1, lb_t2, lb_t13, lb_t24, lb_t35, lb_t36, lb_t37, lq_at, lq_t1, lq_t2, lq_t13, lq_t24, lq_t35, lq_t36, lq_t37]) only [x_c_0, x_istore_2, x_istore_3, x_iload_3, x_aload_0, x_get_582, x_get_8, x_ic_ge, x_get_9, x_iald, x_get_578, x_get_385, x_iload_1, x_ic_ne, x_get_577, xc_LA_settle, xc_BE_worldsOf, x_get_386, x_get_387, xc_LA_howMany, x_if_le, x_iload_2, x_c_1, x_ishl, x_ior, x_iinc_3_1, x_goto, x_iret, tg_GB_lossesBehind_4, tg_GB_lossesBehind_52, tg_GB_lossesBehind_54, bk_GB_lossesBehind_0, bk_GB_lossesBehind_52, bk_GB_lossesBehind_54, kil_int, kil_ref, kil_null, kil_long, kil_rA, psh_int, psh_long, psh_null, gI_gS, gL_gS, gR_gS, sI_gS, sL_gS, orf_some, Option.bind_some, List.length_cons, List.length_nil, Nat.reduceAdd, Nat.reduceLeDiff, if_true, if_false, Nat.zero_le, at_0, rw_0_6, h8, nI_ltI, nI_leI, nI_eq, nI_ltL, nI_leL, L_ltI, L_leI, nI_eqL, L_eqI, oob_nI, ix_nI, oob_L, ix_L, nI_1, nI_add, nI_z, z_nI, nI_lt0, nI_ge0, nI_gt0, nI_le0, ne_eq, Nat.le_zero_eq, Nat.not_lt_zero, Nat.lt_irrefl, Nat.le_refl, i10, true_or, ne_eq, not_true_eq_false, not_false_eq_true, Bool.false_eq_true, true_and, and_true, and_self, if_true, if_false, or_true, false_or, or_false, or_self, false_and, and_false, Nat.one_ne_zero, n01, Nat.reduceEqDiff]
    rfl
  | d + 1, l, a, I, e, hL, hkn, h24, h25, h26 => by
    have hl : l < N 4 := by omega
    have h8 := hL.1.1.2.2.2.2
    obtain ⟨⟨o1, o2, o3, o4, o5, o6⟩, -⟩ := id hL.2.2
    obtain ⟨⟨k1, k2⟩, -⟩ := lfa hL.2.2 hl
    have f9 := (hL.1.2.2.2.2 l hl).1
    rw [k1, ← zI_nI] at f9
    rw [fro_s]
    by_cases c : kl D l = k
    · obtain ⟨I1, p1, p2, p3, p4⟩ := s_settle I J q X hL hkn hl
      have hL1 : lay I1 q N D := lay_fr hL (fun a ha => p4 a (by omega))
      have hwb := Wn_b hL.2.2 hl
      have hwo := s_worldsOf I1 J q X hL1 hl
      have hhm := s_howMany I1 J q X (l := l) (n := Wn D l) (by omega) (by omega) (nI x) (nI 0) (nI t)
      rw [how_ash hL.2.2 hl p3 (by omega) (by omega) ht] at hhm
      have hle := cn_le N D l (fun o _ => ash x x 0 t o)
      have g24 : I1 24 i = nI k := by rw [p4 24 (by omega)]; exact h24
      have g25 : I1 25 i = nI x := by rw [p4 25 (by omega)]; exact h25
      have g26 : I1 26 i = nI t := by rw [p4 26 (by omega)]; exact h26
      obtain ⟨I', r1, r2, r3⟩ := l_behind J q X hi hk3 hx ht d (l + 1) (a ||| if kl D l = k ∧ 0 < cn N D l (fun o _ => ash x x 0 t o) then 2 ^ l else 0) I1 (by omega) hL1 p2 g24 g25 g26
      refine ⟨I', ?_, r2, fun y hy => by rw [r3 y hy, p4 y hy]⟩
      have hhm : gb_call 15 [.ref (3 : Nat), .int (nI l), .int (nI (Wn D l)), .int (nI x), .int 0, .int (nI t)] gb_pG (gS I1 J q X) = _ := hhm
      rw [bk_GB_lossesBehind_4, ← r1]
      generalize cn N D l (fun o _ => ash x x 0 t o) = m at hhm hle ⊢
      have hcc : (kl D l = k ∧ 0 < m) ↔ 0 < m := ⟨fun h => h.2, fun h => ⟨c, h⟩⟩
      have hsh := sh_1 (k := l) (by omega)
      clear r1 r2 r3 p2 p3
      simp (disch := first | omega | decide | assumption | simp only [List.length_cons, List.length_nil, Nat.reduceAdd, Nat.reduceLeDiff, bb_at, bb_t1, bb_t2, bb_t3, bb_t4, bb_t5, bb_t6, bb_t7, bb_t8, bb_t9, bb_t10, bb_t11, bb_t12, bb_t13, bb_t14, bb_t15, bb_t16, bs_at, bs_t1, bs_t2, bs_t3, bs_t4, bs_t5, bs_t6, bs_t7, bs_t8, bs_t9, bs_t10, bs_t11, bs_t12, bs_t13, bs_t14, bs_t15, bs_t16, lb_at, lb_t1, lb_t2, lb_t13, lb_t24, lb_t35, lb_t36, lb_t37, lq_at, lq_t1, lq_t2, lq_t13, lq_t24, lq_t35, lq_t36, lq_t37]) only [x_c_0, x_istore_2, x_istore_3, x_iload_3, x_aload_0, x_get_582, x_get_8, x_ic_ge, x_get_9, x_iald, x_get_578, x_get_385, x_iload_1, x_ic_ne, x_get_577, xc_LA_settle, xc_BE_worldsOf, x_get_386, x_get_387, xc_LA_howMany, x_if_le, x_iload_2, x_c_1, x_ishl, x_ior, x_iinc_3_1, x_goto, x_iret, tg_GB_lossesBehind_4, tg_GB_lossesBehind_52, tg_GB_lossesBehind_54, bk_GB_lossesBehind_0, bk_GB_lossesBehind_52, bk_GB_lossesBehind_54, kil_int, kil_ref, kil_null, kil_long, kil_rA, psh_int, psh_long, psh_null, gI_gS, gL_gS, gR_gS, sI_gS, sL_gS, orf_some, Option.bind_some, List.length_cons, List.length_nil, Nat.reduceAdd, Nat.reduceLeDiff, if_true, if_false, Nat.zero_le, at_0, at_3, at_23, at_24, at_25, at_26, al_24, al_25, al_26, rw_0_1, rw_0_2, rw_0_6, rw_23_1, rw_23_2, rw_23_3, bb_r0, bb_r2, bb_r4, bb_r5, bb_r6, bb_r7, bb_r9, bb_r10, bb_r11, bb_r12, bb_r13, bb_w1, bb_w2, bb_w5, bb_w6, bb_w7, bs_r0, bs_r2, bs_r4, bs_r5, bs_r6, bs_r7, bs_r9, bs_r10, bs_r11, bs_r12, bs_r13, bs_w1, bs_w2, bs_w5, bs_w6, bs_w7, lb_r1, lb_r2, lb_r3, lb_r4, lb_r5, lb_r6, lb_r7, lq_r1, lq_r2, lq_r3, lq_r4, lq_r5, lq_r6, lq_r7, bb_l1, bb_l3, bb_l4, bb_l5, bb_l6, bb_l7, bb_l8, bb_l9, bb_l10, bb_l11, bb_l12, bb_l13, bb_l14, bb_l15, bb_l16, bs_l1, bs_l3, bs_l4, bs_l5, bs_l6, bs_l7, bs_l8, bs_l9, bs_l10, bs_l11, bs_l12, bs_l13, bs_l14, bs_l15, bs_l16, lb_l1, lb_l2, lb_l13, lb_l24, lb_l35, lb_l36, lb_l37, lq_l1, lq_l2, lq_l13, lq_l24, lq_l35, lq_l36, lq_l37, h8, nI_ltI, nI_leI, nI_eq, nI_ltL, nI_leL, L_ltI, L_leI, nI_eqL, L_eqI, oob_nI, ix_nI, oob_L, ix_L, nI_1, nI_add, nI_z, z_nI, nI_lt0, nI_ge0, nI_gt0, nI_le0, ne_eq, Nat.le_zero_eq, Nat.not_lt_zero, Nat.lt_irrefl, Nat.le_refl, i10, true_or, ne_eq, not_true_eq_false, not_false_eq_true, Bool.false_eq_true, true_and, and_true, and_self, if_true, if_false, or_true, false_or, or_false, or_self, false_and, and_false, Nat.one_ne_zero, n01, Nat.reduceEqDiff, if_neg (show ¬ N 4 ≤ l by omega), f9, h24, c, p1, hwo, g25, g26, hhm, hsh, nI_or, true_and]
      by_cases cm : m = 0
      · simp only [cm, i10, true_or, ne_eq, not_true_eq_false, not_false_eq_true, Bool.false_eq_true, true_and, and_true, and_self, if_true, if_false, or_true, false_or, or_false, or_self, false_and, and_false, Nat.one_ne_zero, n01, Nat.reduceEqDiff, if_true, if_false, Nat.or_zero, Nat.lt_irrefl]
      · simp only [cm, i10, true_or, ne_eq, not_true_eq_false, not_false_eq_true, Bool.false_eq_true, true_and, and_true, and_self, if_true, if_false, or_true, false_or, or_false, or_self, false_and, and_false, Nat.one_ne_zero, n01, Nat.reduceEqDiff, if_true, if_false, if_pos (show 0 < m by omega)]
    · obtain ⟨I', r1, r2, r3⟩ := l_behind J q X hi hk3 hx ht d (l + 1) a I (by omega) hL hkn h24 h25 h26
      refine ⟨I', ?_, r2, r3⟩
      rw [if_neg (fun h => c h.1), Nat.or_zero, bk_GB_lossesBehind_4, ← r1]
      clear r1 r2 r3
      simp (disch := first | omega | decide | assumption | simp only [List.length_cons, List.length_nil, Nat.reduceAdd, Nat.reduceLeDiff, bb_at, bb_t1, bb_t2, bb_t3, bb_t4, bb_t5, bb_t6, bb_t7, bb_t8, bb_t9, bb_t10, bb_t11, bb_t12, bb_t13, bb_t14, bb_t15, bb_t16, bs_at, bs_t1, bs_t2, bs_t3, bs_t4, bs_t5, bs_t6, bs_t7, bs_t8, bs_t9, bs_t10, bs_t11, bs_t12, bs_t13, bs_t14, bs_t15, bs_t16, lb_at, lb_t1, lb_t2, lb_t13, lb_t24, lb_t35, lb_t36, lb_t37, lq_at, lq_t1, lq_t2, lq_t13, lq_t24, lq_t35, lq_t36, lq_t37]) only [x_c_0, x_istore_2, x_istore_3, x_iload_3, x_aload_0, x_get_582, x_get_8, x_ic_ge, x_get_9, x_iald, x_get_578, x_get_385, x_iload_1, x_ic_ne, x_get_577, xc_LA_settle, xc_BE_worldsOf, x_get_386, x_get_387, xc_LA_howMany, x_if_le, x_iload_2, x_c_1, x_ishl, x_ior, x_iinc_3_1, x_goto, x_iret, tg_GB_lossesBehind_4, tg_GB_lossesBehind_52, tg_GB_lossesBehind_54, bk_GB_lossesBehind_0, bk_GB_lossesBehind_52, bk_GB_lossesBehind_54, kil_int, kil_ref, kil_null, kil_long, kil_rA, psh_int, psh_long, psh_null, gI_gS, gL_gS, gR_gS, sI_gS, sL_gS, orf_some, Option.bind_some, List.length_cons, List.length_nil, Nat.reduceAdd, Nat.reduceLeDiff, if_true, if_false, Nat.zero_le, at_0, at_23, at_24, al_24, rw_0_2, rw_0_6, rw_23_1, bb_r0, bb_r2, bb_r4, bb_r5, bb_r6, bb_r7, bb_r9, bb_r10, bb_r11, bb_r12, bb_r13, bb_w1, bb_w2, bb_w5, bb_w6, bb_w7, bs_r0, bs_r2, bs_r4, bs_r5, bs_r6, bs_r7, bs_r9, bs_r10, bs_r11, bs_r12, bs_r13, bs_w1, bs_w2, bs_w5, bs_w6, bs_w7, lb_r1, lb_r2, lb_r3, lb_r4, lb_r5, lb_r6, lb_r7, lq_r1, lq_r2, lq_r3, lq_r4, lq_r5, lq_r6, lq_r7, bb_l1, bb_l3, bb_l4, bb_l5, bb_l6, bb_l7, bb_l8, bb_l9, bb_l10, bb_l11, bb_l12, bb_l13, bb_l14, bb_l15, bb_l16, bs_l1, bs_l3, bs_l4, bs_l5, bs_l6, bs_l7, bs_l8, bs_l9, bs_l10, bs_l11, bs_l12, bs_l13, bs_l14, bs_l15, bs_l16, lb_l1, lb_l2, lb_l13, lb_l24, lb_l35, lb_l36, lb_l37, lq_l1, lq_l2, lq_l13, lq_l24, lq_l35, lq_l36, lq_l37, h8, nI_ltI, nI_leI, nI_eq, nI_ltL, nI_leL, L_ltI, L_leI, nI_eqL, L_eqI, oob_nI, ix_nI, oob_L, ix_L, nI_1, nI_add, nI_z, z_nI, nI_lt0, nI_ge0, nI_gt0, nI_le0, ne_eq, Nat.le_zero_eq, Nat.not_lt_zero, Nat.lt_irrefl, Nat.le_refl, i10, true_or, ne_eq, not_true_eq_false, not_false_eq_true, Bool.false_eq_true, true_and, and_true, and_self, if_true, if_false, or_true, false_or, or_false, or_self, false_and, and_false, Nat.one_ne_zero, n01, Nat.reduceEqDiff, if_neg (show ¬ N 4 ≤ l by omega), f9, h24, c]
theorem fro_lt {N : Nat → Nat} {D : Nat → Nat → Int} {k x t : Nat} : ∀ d l a, d + l ≤ 8 → a < 256 → fro N D k x t d l a < 256
  | 0, l, a, _, ha => ha
  | d + 1, l, a, h, ha => by
    rw [fro_s]
    refine fro_lt d (l + 1) _ (by omega) ?_
    refine Nat.or_lt_two_pow (n := 8) ha ?_
    split
    · exact Nat.pow_lt_pow_right (by omega) (by omega)
    · omega
theorem s_behind (I : Nat → Nat → Int32) (J : Nat → Nat → Int64) (q : Bool × Bool) (X : Nat × (Nat → Int32)) {N : Nat → Nat} {D : Nat → Nat → Int} {i k x t : Nat} (hi : i < 12) (hk3 : k < N 3) (hx : x < N 0) (ht : t ≤ 999) (hL : lay I q N D) (hkn : kn I N D) (h24 : I 24 i = nI k) (h25 : I 25 i = nI x) (h26 : I 26 i = nI t) : ∃ I', gb_call 78 [.ref (0 : Nat), .int (nI i)] gb_pG (gS I J q X) = some (.int (nI (fro N D k x t (N 4) 0 0)), gb_pG, gS I' J q X) ∧ kn I' N D ∧ ∀ a, ¬ (3 ≤ a ∧ a ≤ 22) → I' a = I a := by
  obtain ⟨I', r1, r2, r3⟩ := l_behind J q X hi hk3 hx ht (N 4) 0 0 I (by omega) hL hkn h24 h25 h26
  refine ⟨I', ?_, r2, r3⟩
  rw [cl_GB_lossesBehind, ← r1]
  simp only [x_c_0, x_istore_2, x_istore_3, x_iload_3, x_aload_0, x_get_582, x_get_8, x_ic_ge, x_get_9, x_iald, x_get_578, x_get_385, x_iload_1, x_ic_ne, x_get_577, xc_LA_settle, xc_BE_worldsOf, x_get_386, x_get_387, xc_LA_howMany, x_if_le, x_iload_2, x_c_1, x_ishl, x_ior, x_iinc_3_1, x_goto, x_iret, tg_GB_lossesBehind_4, tg_GB_lossesBehind_52, tg_GB_lossesBehind_54, bk_GB_lossesBehind_0, bk_GB_lossesBehind_52, bk_GB_lossesBehind_54, kil_int, kil_ref, kil_null, kil_long, kil_rA, psh_int, psh_long, psh_null, gI_gS, gL_gS, gR_gS, sI_gS, sL_gS, orf_some, Option.bind_some, List.length_cons, List.length_nil, Nat.reduceAdd, Nat.reduceLeDiff, if_true, if_false, Nat.zero_le]
  rfl
theorem l_fromOf (I : Nat → Nat → Int32) (J : Nat → Nat → Int64) (q : Bool × Bool) (X : Nat × (Nat → Int32)) {N : Nat → Nat} {D : Nat → Nat → Int} {nr i k x t : Nat} (hi : i < 12) (hk3 : k < N 3) (hx : x < N 0) (ht : t ≤ 999) (hL : lay I q N D) (hr : rp0 I nr) (hW : ∀ l, l < N 4 → mW I N D l) (h0 : I 207 (3 * i) = nI k) (h1 : I 207 (3 * i + 1) = nI x) (h2 : I 207 (3 * i + 2) = nI t) : ∀ d l a (z4 : Value), d + l = N 4 → gb_ex 142 bk_RM_fromOf_4 [.ref (190 : Nat), .int (nI i), .int (nI a), .int (nI l), z4] [] gb_pG (gS I J q X) = some (.int (nI (fro N D k x t d l a)), gb_pG, gS I J q X)
  | 0, l, a, z4, e => by
    have e2 : l = N 4 := by omega
    subst e2
    have h8 := hL.2.1.1.2.2.2.2
    obtain ⟨⟨o1, o2, o3, o4, o5, o6⟩, -⟩ := hL.2.2
    rw [bk_RM_fromOf_4]
    simp (disch := first | omega | decide | assumption | simp only [List.length_cons, List.length_nil, Nat.reduceAdd, Nat.reduceLeDiff]) only [x_c_0, x_istore_2, x_istore_3, x_iload_3, x_aload_0, x_get_650, x_iald, x_ic_ge, x_get_660, x_c_3, x_iload_1, x_imul, x_c_1, x_iadd, x_istore_4, x_iload_2, x_get_651, x_c_5, x_ic_ne, x_iload_4, x_c_2, xc_RM_counts, x_if_le, x_ishl, x_goto, x_ior, x_iinc_3_1, x_iret, tg_RM_fromOf_4, tg_RM_fromOf_53, tg_RM_fromOf_54, tg_RM_fromOf_58, bk_RM_fromOf_0, bk_RM_fromOf_53, bk_RM_fromOf_54, bk_RM_fromOf_58, kil_int, kil_ref, kil_null, kil_long, kil_rA, psh_int, psh_long, psh_null, gI_gS, gL_gS, gR_gS, sI_gS, sL_gS, orf_some, Option.bind_some, List.length_cons, List.length_nil, Nat.reduceAdd, Nat.reduceLeDiff, if_true, if_false, Nat.zero_le, at_190, at_199, al_199, rw_190_10, h8, nI_ltI, nI_leI, nI_eq, nI_ltL, nI_leL, L_ltI, L_leI, nI_eqL, L_eqI, oob_nI, ix_nI, oob_L, ix_L, nI_1, nI_add, nI_z, z_nI, nI_lt0, nI_ge0, nI_gt0, nI_le0, ne_eq, Nat.le_zero_eq, Nat.not_lt_zero, Nat.lt_irrefl, Nat.le_refl, i10, true_or, ne_eq, not_true_eq_false, not_false_eq_true, Bool.false_eq_true, true_and, and_true, and_self, if_true, if_false, or_true, false_or, or_false, or_self, false_and, and_false, Nat.one_ne_zero, n01, Nat.reduceEqDiff]
    rfl
  | d + 1, l, a, z4, e => by
    have hl : l < N 4 := by omega
    have h8 := hL.2.1.1.2.2.2.2
    obtain ⟨⟨o1, o2, o3, o4, o5, o6⟩, -⟩ := id hL.2.2
    obtain ⟨⟨k1, k2⟩, -⟩ := lfa hL.2.2 hl
    have f9 := m_l0 hL.2.1 (r := 0) (by omega) hl
    rw [k1, ← zI_nI, Nat.add_zero] at f9
    have hc := s_counts I J q X hL hr (a := x) (b := x) (f := 0) (t := t) (o := 0) hl (hW l hl) (by omega) (by omega) (by omega) ht (by omega)
    rw [cn_o0] at hc
    have hc : gb_call 138 [.ref (190 : Nat), .int (nI l), .int (nI x), .int (nI x), .int 0, .int (nI t), .int 0] gb_pG (gS I J q X) = _ := hc
    have hle := cn_le N D l (fun o _ => ash x x 0 t o)
    have hwb := Wn_b hL.2.2 hl
    have hsh := sh_1 (k := l) (by omega)
    have ih := fun a z4 => l_fromOf I J q X hi hk3 hx ht hL hr hW h0 h1 h2 d (l + 1) a z4 (by omega)
    rw [fro_s, bk_RM_fromOf_4]
    generalize cn N D l (fun o _ => ash x x 0 t o) = m at hc hle ⊢
    have e0 : nI a ||| 0 = nI a := by rw [← nI_0, nI_or, Nat.or_zero]
    by_cases c : kl D l = k
    · simp (disch := first | omega | decide | assumption | simp only [List.length_cons, List.length_nil, Nat.reduceAdd, Nat.reduceLeDiff]) only [x_c_0, x_istore_2, x_istore_3, x_iload_3, x_aload_0, x_get_650, x_iald, x_ic_ge, x_get_660, x_c_3, x_iload_1, x_imul, x_c_1, x_iadd, x_istore_4, x_iload_2, x_get_651, x_c_5, x_ic_ne, x_iload_4, x_c_2, xc_RM_counts, x_if_le, x_ishl, x_goto, x_ior, x_iinc_3_1, x_iret, tg_RM_fromOf_4, tg_RM_fromOf_53, tg_RM_fromOf_54, tg_RM_fromOf_58, bk_RM_fromOf_0, bk_RM_fromOf_53, bk_RM_fromOf_54, bk_RM_fromOf_58, kil_int, kil_ref, kil_null, kil_long, kil_rA, psh_int, psh_long, psh_null, gI_gS, gL_gS, gR_gS, sI_gS, sL_gS, orf_some, Option.bind_some, List.length_cons, List.length_nil, Nat.reduceAdd, Nat.reduceLeDiff, if_true, if_false, Nat.zero_le, at_190, at_199, at_200, at_207, al_199, al_200, al_207, rw_190_10, rw_190_11, rw_190_20, h8, nI_ltI, nI_leI, nI_eq, nI_ltL, nI_leL, L_ltI, L_leI, nI_eqL, L_eqI, oob_nI, ix_nI, oob_L, ix_L, nI_1, nI_add, nI_z, z_nI, nI_lt0, nI_ge0, nI_gt0, nI_le0, ne_eq, Nat.le_zero_eq, Nat.not_lt_zero, Nat.lt_irrefl, Nat.le_refl, nI_mL, nI_aL, i10, true_or, ne_eq, not_true_eq_false, not_false_eq_true, Bool.false_eq_true, true_and, and_true, and_self, if_true, if_false, or_true, false_or, or_false, or_self, false_and, and_false, Nat.one_ne_zero, n01, Nat.reduceEqDiff, if_neg (show ¬ N 4 ≤ l by omega), f9, h0, h1, h2, c, hc, hsh, nI_or, e0, ih]
      by_cases cm : m = 0
      · simp only [cm, i10, true_or, ne_eq, not_true_eq_false, not_false_eq_true, Bool.false_eq_true, true_and, and_true, and_self, if_true, if_false, or_true, false_or, or_false, or_self, false_and, and_false, Nat.one_ne_zero, n01, Nat.reduceEqDiff, if_true, if_false, Nat.or_zero, Nat.lt_irrefl]
      · simp only [cm, i10, true_or, ne_eq, not_true_eq_false, not_false_eq_true, Bool.false_eq_true, true_and, and_true, and_self, if_true, if_false, or_true, false_or, or_false, or_self, false_and, and_false, Nat.one_ne_zero, n01, Nat.reduceEqDiff, if_true, if_false, if_pos (show 0 < m by omega)]
    · simp (disch := first | omega | decide | assumption | simp only [List.length_cons, List.length_nil, Nat.reduceAdd, Nat.reduceLeDiff]) only [x_c_0, x_istore_2, x_istore_3, x_iload_3, x_aload_0, x_get_650, x_iald, x_ic_ge, x_get_660, x_c_3, x_iload_1, x_imul, x_c_1, x_iadd, x_istore_4, x_iload_2, x_get_651, x_c_5, x_ic_ne, x_iload_4, x_c_2, xc_RM_counts, x_if_le, x_ishl, x_goto, x_ior, x_iinc_3_1, x_iret, tg_RM_fromOf_4, tg_RM_fromOf_53, tg_RM_fromOf_54, tg_RM_fromOf_58, bk_RM_fromOf_0, bk_RM_fromOf_53, bk_RM_fromOf_54, bk_RM_fromOf_58, kil_int, kil_ref, kil_null, kil_long, kil_rA, psh_int, psh_long, psh_null, gI_gS, gL_gS, gR_gS, sI_gS, sL_gS, orf_some, Option.bind_some, List.length_cons, List.length_nil, Nat.reduceAdd, Nat.reduceLeDiff, if_true, if_false, Nat.zero_le, at_190, at_199, at_200, at_207, al_199, al_200, al_207, rw_190_10, rw_190_11, rw_190_20, h8, nI_ltI, nI_leI, nI_eq, nI_ltL, nI_leL, L_ltI, L_leI, nI_eqL, L_eqI, oob_nI, ix_nI, oob_L, ix_L, nI_1, nI_add, nI_z, z_nI, nI_lt0, nI_ge0, nI_gt0, nI_le0, ne_eq, Nat.le_zero_eq, Nat.not_lt_zero, Nat.lt_irrefl, Nat.le_refl, nI_mL, nI_aL, i10, true_or, ne_eq, not_true_eq_false, not_false_eq_true, Bool.false_eq_true, true_and, and_true, and_self, if_true, if_false, or_true, false_or, or_false, or_self, false_and, and_false, Nat.one_ne_zero, n01, Nat.reduceEqDiff, if_neg (show ¬ N 4 ≤ l by omega), f9, h0, h1, h2, c, e0, ih, Nat.or_zero]
theorem s_fromOf (I : Nat → Nat → Int32) (J : Nat → Nat → Int64) (q : Bool × Bool) (X : Nat × (Nat → Int32)) {N : Nat → Nat} {D : Nat → Nat → Int} {nr i k x t : Nat} (hi : i < 12) (hk3 : k < N 3) (hx : x < N 0) (ht : t ≤ 999) (hL : lay I q N D) (hr : rp0 I nr) (hW : ∀ l, l < N 4 → mW I N D l) (h0 : I 207 (3 * i) = nI k) (h1 : I 207 (3 * i + 1) = nI x) (h2 : I 207 (3 * i + 2) = nI t) : gb_call 142 [.ref (190 : Nat), .int (nI i)] gb_pG (gS I J q X) = some (.int (nI (fro N D k x t (N 4) 0 0)), gb_pG, gS I J q X) := by
  rw [cl_RM_fromOf]
  have := l_fromOf I J q X hi hk3 hx ht hL hr hW h0 h1 h2 (N 4) 0 0 .null (by omega)
  rw [← this]
  simp only [x_c_0, x_istore_2, x_istore_3, x_iload_3, x_aload_0, x_get_650, x_iald, x_ic_ge, x_get_660, x_c_3, x_iload_1, x_imul, x_c_1, x_iadd, x_istore_4, x_iload_2, x_get_651, x_c_5, x_ic_ne, x_iload_4, x_c_2, xc_RM_counts, x_if_le, x_ishl, x_goto, x_ior, x_iinc_3_1, x_iret, tg_RM_fromOf_4, tg_RM_fromOf_53, tg_RM_fromOf_54, tg_RM_fromOf_58, bk_RM_fromOf_0, bk_RM_fromOf_53, bk_RM_fromOf_54, bk_RM_fromOf_58, kil_int, kil_ref, kil_null, kil_long, kil_rA, psh_int, psh_long, psh_null, gI_gS, gL_gS, gR_gS, sI_gS, sL_gS, orf_some, Option.bind_some, List.length_cons, List.length_nil, Nat.reduceAdd, Nat.reduceLeDiff, if_true, if_false, Nat.zero_le]
  rfl
/-- the losses that find i may be from -/
def fb (I : Nat → Nat → Int32) (N : Nat → Nat) (D : Nat → Nat → Int) (i : Nat) : Nat := fro N D (ix (I 24 i)) (ix (I 25 i)) (ix (I 26 i)) (N 4) 0 0
/-- the finds and the model's own copy of them -/
def fd0 (I : Nat → Nat → Int32) (N : Nat → Nat) (n : Nat) : Prop := n ≤ 12 ∧ I 23 0 = nI n ∧ I 206 0 = nI n ∧ ∀ i, i < n → I 24 i = nI (ix (I 24 i)) ∧ I 25 i = nI (ix (I 25 i)) ∧ I 26 i = nI (ix (I 26 i)) ∧ ix (I 24 i) < N 3 ∧ ix (I 25 i) < N 0 ∧ ix (I 26 i) ≤ 999 ∧ I 207 (3 * i) = I 24 i ∧ I 207 (3 * i + 1) = I 25 i ∧ I 207 (3 * i + 2) = I 26 i
theorem fd0_of {I : Nat → Nat → Int32} {K : Nat} {c : Nat → Nat → Nat} {N : Nat → Nat} {D : Nat → Nat → Int} (ho : oB N D) (h : shr I K c) (hf : fnd I c (N 3) (N 0)) : fd0 I N (c 0 0) := by
  obtain ⟨⟨k1, k2, k3⟩, ⟨n1, n2, n3⟩, hk, hl, ⟨b1, b2, b3⟩, m1, m2, f1, f2, f3⟩ := h
  obtain ⟨⟨o1, o2, o3, o4, o5, o6⟩, -⟩ := ho
  refine ⟨b1, n1, (hl 0 (by omega)).1, fun i hi => ?_⟩
  have := f1 0 i (by omega) hi
  simp only [show 36 * 0 = 0 from rfl, Nat.zero_add] at this
  obtain ⟨k, x, t, a1, a2, a3, a4, a5, a6⟩ := hf i hi
  refine ⟨?_, ?_, ?_, ?_, ?_, ?_, this⟩
  · rw [a4, ix_nI (by omega)]
  · rw [a5, ix_nI (by omega)]
  · rw [a6, ix_nI (by omega)]
  · rw [a4, ix_nI (by omega)]; exact a1
  · rw [a5, ix_nI (by omega)]; exact a2
  · rw [a6, ix_nI (by omega)]; exact a3
theorem fd0_fr {I I' : Nat → Nat → Int32} {N : Nat → Nat} {n : Nat} (h : fd0 I N n) (hI : ∀ a, (23 ≤ a ∧ a ≤ 26) ∨ a = 206 ∨ a = 207 → I' a = I a) : fd0 I' N n := by
  unfold fd0 at h ⊢
  rw [hI 23 (by omega), hI 24 (by omega), hI 25 (by omega), hI 26 (by omega), hI 206 (by omega), hI 207 (by omega)]
  exact h
theorem fb_fr {I I' : Nat → Nat → Int32} {N : Nat → Nat} {D : Nat → Nat → Int} {i : Nat} (hI : ∀ a, 24 ≤ a → a ≤ 26 → I' a = I a) : fb I' N D i = fb I N D i := by
  unfold fb
  rw [hI 24 (by omega) (by omega), hI 25 (by omega) (by omega), hI 26 (by omega) (by omega)]
theorem t_behind (I : Nat → Nat → Int32) (J : Nat → Nat → Int64) (q : Bool × Bool) (X : Nat × (Nat → Int32)) {N : Nat → Nat} {D : Nat → Nat → Int} {n i : Nat} (hL : lay I q N D) (hkn : kn I N D) (hf : fd0 I N n) (hi : i < n) : ∃ I', gb_call 78 [.ref (0 : Nat), .int (nI i)] gb_pG (gS I J q X) = some (.int (nI (fb I N D i)), gb_pG, gS I' J q X) ∧ kn I' N D ∧ ∀ a, ¬ (3 ≤ a ∧ a ≤ 22) → I' a = I a := by
  obtain ⟨f1, f2, f3, f4⟩ := hf
  obtain ⟨g1, g2, g3, g4, g5, g6, g7, g8, g9⟩ := f4 i hi
  exact s_behind I J q X (by omega) g4 g5 g6 hL hkn g1 g2 g3
theorem t_fromOf (I : Nat → Nat → Int32) (J : Nat → Nat → Int64) (q : Bool × Bool) (X : Nat × (Nat → Int32)) {N : Nat → Nat} {D : Nat → Nat → Int} {nr n i : Nat} (hL : lay I q N D) (hr : rp0 I nr) (hW : ∀ l, l < N 4 → mW I N D l) (hf : fd0 I N n) (hi : i < n) : gb_call 142 [.ref (190 : Nat), .int (nI i)] gb_pG (gS I J q X) = some (.int (nI (fb I N D i)), gb_pG, gS I J q X) := by
  obtain ⟨f1, f2, f3, f4⟩ := hf
  obtain ⟨g1, g2, g3, g4, g5, g6, g7, g8, g9⟩ := f4 i hi
  exact s_fromOf I J q X (by omega) g4 g5 g6 hL hr hW (by rw [g7]; exact g1) (by rw [g8]; exact g2) (by rw [g9]; exact g3)
theorem d_from (I : Nat → Nat → Int32) (J : Nat → Nat → Int64) (q : Bool × Bool) (X : Nat × (Nat → Int32)) {N : Nat → Nat} {D : Nat → Nat → Int} {nr n : Nat} (hL : lay I q N D) (hr : rp0 I nr) (hkn : kn I N D) (hW : ∀ l, l < N 4 → mW I N D l) (hf : fd0 I N n) (i : Int32) : ∃ r I1, gb_call 77 [.ref (0 : Nat), .int i] gb_pG (gS I J q X) = some (r, gb_pG, gS I1 J q X) ∧ gb_call 143 [.ref (190 : Nat), .int i] gb_pG (gS I1 J q X) = some (r, gb_pG, gS I1 J q X) ∧ kn I1 N D ∧ ∀ a, ¬ (3 ≤ a ∧ a ≤ 22) → I1 a = I a := by
  obtain ⟨f1, f2, f3, f4⟩ := id hf
  by_cases hb : 0 ≤ i ∧ i ≤ dn n
  · obtain ⟨i', i1, rfl⟩ := (dn_le (by omega)).mp hb
    obtain ⟨I1, p1, p2, p3⟩ := t_behind I J q X hL hkn hf i1
    have hL1 : lay I1 q N D := lay_fr hL (fun a ha => p3 a (by omega))
    have hr1 := rp0_fr hr (I' := I1) (fun a ha => p3 a (by omega))
    have hf1 := fd0_fr hf (I' := I1) (fun a ha => p3 a (by omega))
    have hm := t_fromOf I1 J q X hL1 hr1 (fun l hl => mW_fr (hW l hl) (fun a a1 a2 => p3 a (by omega))) hf1 i1
    rw [fb_fr (fun a a1 a2 => p3 a (by omega))] at hm
    have g206 : I1 206 0 = nI n := hf1.2.2.1
    refine ⟨.int (nI (fb I N D i')), I1, ?_, ?_, p2, p3⟩
    · rw [cl_GB_from]
      simp (disch := first | omega | decide | assumption | simp only [List.length_cons, List.length_nil, Nat.reduceAdd, Nat.reduceLeDiff, bb_at, bb_t1, bb_t2, bb_t3, bb_t4, bb_t5, bb_t6, bb_t7, bb_t8, bb_t9, bb_t10, bb_t11, bb_t12, bb_t13, bb_t14, bb_t15, bb_t16, bs_at, bs_t1, bs_t2, bs_t3, bs_t4, bs_t5, bs_t6, bs_t7, bs_t8, bs_t9, bs_t10, bs_t11, bs_t12, bs_t13, bs_t14, bs_t15, bs_t16, lb_at, lb_t1, lb_t2, lb_t13, lb_t24, lb_t35, lb_t36, lb_t37, lq_at, lq_t1, lq_t2, lq_t13, lq_t24, lq_t35, lq_t36, lq_t37]) only [x_iload_1, x_c_0, x_aload_0, x_get_578, x_get_384, x_c_1, x_isub, xc_GB_within, x_if_eq, xc_GB_lossesBehind, x_goto, x_c_m1, x_iret, tg_GB_from_13, tg_GB_from_14, bk_GB_from_0, bk_GB_from_13, bk_GB_from_14, kil_int, kil_ref, kil_null, kil_long, kil_rA, psh_int, psh_long, psh_null, gI_gS, gL_gS, gR_gS, sI_gS, sL_gS, orf_some, Option.bind_some, List.length_cons, List.length_nil, Nat.reduceAdd, Nat.reduceLeDiff, if_true, if_false, Nat.zero_le, at_0, at_23, rw_0_2, f2, dn_sub, s_GB_within, ite_b1, hb, i10, true_or, ne_eq, not_true_eq_false, not_false_eq_true, Bool.false_eq_true, true_and, and_true, and_self, if_true, if_false, or_true, false_or, or_false, or_self, false_and, and_false, Nat.one_ne_zero, n01, Nat.reduceEqDiff, p1]
    · rw [cl_RM_from]
      simp (disch := first | omega | decide | assumption | simp only [List.length_cons, List.length_nil, Nat.reduceAdd, Nat.reduceLeDiff, bb_at, bb_t1, bb_t2, bb_t3, bb_t4, bb_t5, bb_t6, bb_t7, bb_t8, bb_t9, bb_t10, bb_t11, bb_t12, bb_t13, bb_t14, bb_t15, bb_t16, bs_at, bs_t1, bs_t2, bs_t3, bs_t4, bs_t5, bs_t6, bs_t7, bs_t8, bs_t9, bs_t10, bs_t11, bs_t12, bs_t13, bs_t14, bs_t15, bs_t16, lb_at, lb_t1, lb_t2, lb_t13, lb_t24, lb_t35, lb_t36, lb_t37, lq_at, lq_t1, lq_t2, lq_t13, lq_t24, lq_t35, lq_t36, lq_t37]) only [x_iload_1, x_i2l, x_l_0, x_aload_0, x_get_659, x_c_0, x_iald, x_c_1, x_isub, xc_RM_in, x_if_eq, xc_RM_fromOf, x_goto, x_c_m1, x_iret, tg_RM_from_16, tg_RM_from_17, bk_RM_from_0, bk_RM_from_16, bk_RM_from_17, kil_int, kil_ref, kil_null, kil_long, kil_rA, psh_int, psh_long, psh_null, gI_gS, gL_gS, gR_gS, sI_gS, sL_gS, orf_some, Option.bind_some, List.length_cons, List.length_nil, Nat.reduceAdd, Nat.reduceLeDiff, if_true, if_false, Nat.zero_le, at_190, at_206, al_206, rw_190_19, oob_L, ix_L, g206, dn_sub, s_RM_in, w_Lle, w_le, ite_b1, hb, i10, true_or, ne_eq, not_true_eq_false, not_false_eq_true, Bool.false_eq_true, true_and, and_true, and_self, if_true, if_false, or_true, false_or, or_false, or_self, false_and, and_false, Nat.one_ne_zero, n01, Nat.reduceEqDiff, hm]
  · refine ⟨.int (-1), I, ?_, ?_, hkn, fun _ _ => rfl⟩
    · rw [cl_GB_from]
      simp (disch := first | omega | decide | assumption | simp only [List.length_cons, List.length_nil, Nat.reduceAdd, Nat.reduceLeDiff, bb_at, bb_t1, bb_t2, bb_t3, bb_t4, bb_t5, bb_t6, bb_t7, bb_t8, bb_t9, bb_t10, bb_t11, bb_t12, bb_t13, bb_t14, bb_t15, bb_t16, bs_at, bs_t1, bs_t2, bs_t3, bs_t4, bs_t5, bs_t6, bs_t7, bs_t8, bs_t9, bs_t10, bs_t11, bs_t12, bs_t13, bs_t14, bs_t15, bs_t16, lb_at, lb_t1, lb_t2, lb_t13, lb_t24, lb_t35, lb_t36, lb_t37, lq_at, lq_t1, lq_t2, lq_t13, lq_t24, lq_t35, lq_t36, lq_t37]) only [x_iload_1, x_c_0, x_aload_0, x_get_578, x_get_384, x_c_1, x_isub, xc_GB_within, x_if_eq, xc_GB_lossesBehind, x_goto, x_c_m1, x_iret, tg_GB_from_13, tg_GB_from_14, bk_GB_from_0, bk_GB_from_13, bk_GB_from_14, kil_int, kil_ref, kil_null, kil_long, kil_rA, psh_int, psh_long, psh_null, gI_gS, gL_gS, gR_gS, sI_gS, sL_gS, orf_some, Option.bind_some, List.length_cons, List.length_nil, Nat.reduceAdd, Nat.reduceLeDiff, if_true, if_false, Nat.zero_le, at_0, at_23, rw_0_2, f2, dn_sub, s_GB_within, ite_b1, hb, i10, true_or, ne_eq, not_true_eq_false, not_false_eq_true, Bool.false_eq_true, true_and, and_true, and_self, if_true, if_false, or_true, false_or, or_false, or_self, false_and, and_false, Nat.one_ne_zero, n01, Nat.reduceEqDiff]
    · rw [cl_RM_from]
      simp (disch := first | omega | decide | assumption | simp only [List.length_cons, List.length_nil, Nat.reduceAdd, Nat.reduceLeDiff, bb_at, bb_t1, bb_t2, bb_t3, bb_t4, bb_t5, bb_t6, bb_t7, bb_t8, bb_t9, bb_t10, bb_t11, bb_t12, bb_t13, bb_t14, bb_t15, bb_t16, bs_at, bs_t1, bs_t2, bs_t3, bs_t4, bs_t5, bs_t6, bs_t7, bs_t8, bs_t9, bs_t10, bs_t11, bs_t12, bs_t13, bs_t14, bs_t15, bs_t16, lb_at, lb_t1, lb_t2, lb_t13, lb_t24, lb_t35, lb_t36, lb_t37, lq_at, lq_t1, lq_t2, lq_t13, lq_t24, lq_t35, lq_t36, lq_t37]) only [x_iload_1, x_i2l, x_l_0, x_aload_0, x_get_659, x_c_0, x_iald, x_c_1, x_isub, xc_RM_in, x_if_eq, xc_RM_fromOf, x_goto, x_c_m1, x_iret, tg_RM_from_16, tg_RM_from_17, bk_RM_from_0, bk_RM_from_16, bk_RM_from_17, kil_int, kil_ref, kil_null, kil_long, kil_rA, psh_int, psh_long, psh_null, gI_gS, gL_gS, gR_gS, sI_gS, sL_gS, orf_some, Option.bind_some, List.length_cons, List.length_nil, Nat.reduceAdd, Nat.reduceLeDiff, if_true, if_false, Nat.zero_le, at_190, at_206, al_206, rw_190_19, oob_L, ix_L, f3, dn_sub, s_RM_in, w_Lle, w_le, ite_b1, hb, i10, true_or, ne_eq, not_true_eq_false, not_false_eq_true, Bool.false_eq_true, true_and, and_true, and_self, if_true, if_false, or_true, false_or, or_false, or_self, false_and, and_false, Nat.one_ne_zero, n01, Nat.reduceEqDiff]
