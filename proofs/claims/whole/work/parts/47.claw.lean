def fL (w : Nat) (I I' : Nat → Nat → Int32) : Prop := (∀ k, k ≠ 2 → k ≠ 3 → I' 1 k = I 1 k) ∧ ∀ a, a ≠ 1 → ¬ (w ≤ a ∧ a ≤ w + 37) → I' a = I a
theorem fL_up {w : Nat} {I I' : Nat → Nat → Int32} (h : fL w I I') {a k : Nat} {x : Int32} (hb : 1 < w) (h1 : w ≤ a) (h2 : a ≤ w + 37) : fL w I (up I' a k x) := by
  refine ⟨fun k k2 k3 => ?_, fun y y1 y2 => ?_⟩
  · rw [up_ne (by omega)]; exact h.1 k k2 k3
  · rw [up_ne (by omega)]; exact h.2 y y1 y2
theorem fL_sc {w : Nat} {I I' : Nat → Nat → Int32} (h : fL w I I') (p v : Int32) : fL w I (sc I' p v) := ⟨fun k k1 k2 => by rw [sc_1 k1 k2]; exact h.1 k k1 k2, fun a a1 a2 => by rw [sc_n a1]; exact h.2 a a1 a2⟩
theorem fL_refl (w : Nat) (I : Nat → Nat → Int32) : fL w I I := ⟨fun _ _ _ => rfl, fun _ _ _ => rfl⟩
theorem fL_tr {w : Nat} {I I' I2 : Nat → Nat → Int32} (h : fL w I I') (h' : fL w I' I2) : fL w I I2 := ⟨fun k k1 k2 => by rw [h'.1 k k1 k2, h.1 k k1 k2], fun a a1 a2 => by rw [h'.2 a a1 a2, h.2 a a1 a2]⟩
theorem rd_fL {I I' : Nat → Nat → Int32} {L : Nat} {B : Nat → Nat} {q : Bool × Bool} (h : rd I L B) (hf : fL (gb_lq q) I I') : rd I' L B := by
  have := gb_lq_r q
  exact rd_fr h (hf.1 1 (by decide) (by decide)) (hf.2 2 (by omega) (by omega)) (by rw [hf.2 190 (by omega) (by omega)]) (hf.2 191 (by omega) (by omega))
/-- the class behind i conditions -/
def ci (I : Nat → Nat → Int32) (w r : Nat) (B : Nat → Nat) (p : Nat) : Nat → Nat → Nat → Int32
  | 0 => up I (w + 1) r 0
  | i + 1 => up (up (up (up (ci I w r B p i) (w + 3 + r) i (nI (B (cp B p i)))) (w + 14 + r) i (nI (B (cp B p i + 1)))) (w + 25 + r) i (nI (tnv B 0 (cp B p i + 2)))) (w + 1) r (nI (i + 1))
theorem ci_n {I : Nat → Nat → Int32} {w r : Nat} {B : Nat → Nat} {p a : Nat} (h1 : a ≠ w + 1) (h2 : a ≠ w + 3 + r) (h3 : a ≠ w + 14 + r) (h4 : a ≠ w + 25 + r) : ∀ i, ci I w r B p i a = I a
  | 0 => up_ne h1
  | i + 1 => by rw [ci, up_ne h1, up_ne h4, up_ne h3, up_ne h2, ci_n h1 h2 h3 h4 i]
theorem ci_c {I : Nat → Nat → Int32} {w r : Nat} {B : Nat → Nat} {p : Nat} : ∀ i j, ci I w r B p i (w + 1) j = if j = r then nI i else I (w + 1) j
  | 0, j => by rw [ci, up_same, upd_at]; rfl
  | i + 1, j => by
    rw [ci, up_same, upd_at]
    by_cases e : j = r
    · rw [if_pos e, if_pos e]
    · rw [if_neg e, if_neg e, up_ne (by omega), up_ne (by omega), up_ne (by omega), ci_c i j, if_neg e]
theorem ci_r {I : Nat → Nat → Int32} {w r : Nat} {B : Nat → Nat} {p : Nat} (hr : r < 10) : ∀ i j, j < i → ci I w r B p i (w + 3 + r) j = nI (B (cp B p j)) ∧ ci I w r B p i (w + 14 + r) j = nI (B (cp B p j + 1)) ∧ ci I w r B p i (w + 25 + r) j = nI (tnv B 0 (cp B p j + 2))
  | 0, j, h => by omega
  | i + 1, j, h => by
    by_cases e : j = i
    · subst e
      rw [ci]
      refine ⟨?_, ?_, ?_⟩ <;> simp (disch := first | omega | decide | assumption | simp only [List.length_cons, List.length_nil, Nat.reduceAdd, Nat.reduceLeDiff]) only [up_ne, up_same, upd_same]
    · have ih := ci_r (I := I) (w := w) (B := B) (p := p) hr i j (by omega)
      rw [ci]
      refine ⟨?_, ?_, ?_⟩ <;> simp (disch := first | omega | decide | assumption | simp only [List.length_cons, List.length_nil, Nat.reduceAdd, Nat.reduceLeDiff]) only [up_ne, up_same, upd_ne]
      · exact ih.1
      · exact ih.2.1
      · exact ih.2.2
theorem ci_f {I : Nat → Nat → Int32} {w r : Nat} {B : Nat → Nat} {p : Nat} (hw : 1 < w) (hr : r < 10) : ∀ i, fL w I (ci I w r B p i)
  | 0 => fL_up (fL_refl w I) hw (by omega) (by omega)
  | i + 1 => fL_up (fL_up (fL_up (fL_up (ci_f hw hr i) hw (by omega) (by omega)) hw (by omega) (by omega)) hw (by omega) (by omega)) hw (by omega) (by omega)
theorem l_readConds (I : Nat → Nat → Int32) (J : Nat → Nat → Int64) (q : Bool × Bool) (X : Nat × (Nat → Int32)) {L : Nat} {B : Nat → Nat} (h : rd I L B) {p r : Nat} (hp : p ≤ 900) (hr : r < 10) (hI : I (gb_lq q) 0 = nI r) : ∀ d i v, d + i = 3 → ∃ R I', gb_ex 18 bk_LW_readConditions_14 [.ref (gb_lq q), .ref (1 : Nat), .int (nI i)] [] gb_pG (gS (sc (ci I (gb_lq q) r B p i) (nI (cp B p i)) v) J q X) = some (.int (nI R), gb_pG, gS I' J q X) ∧ R ≤ 1 ∧ fL (gb_lq q) I I' ∧ (R = 0 → ∀ n, ¬ chn B p i n) ∧ (R = 1 → ∃ n v', chn B p i n ∧ I' = sc (ci I (gb_lq q) r B p n) (nI (cp B p n)) v')
  | 0, i, v, e => by
    have e2 : i = 3 := by omega
    subst e2
    have hq := gb_lq_r q
    refine ⟨0, sc (ci I (gb_lq q) r B p 3) (nI (cp B p 3)) v, ?_, by omega, fL_sc (ci_f (by omega) hr 3) _ _, fun _ n hn => ?_, fun x => absurd x (by decide)⟩
    · rw [bk_LW_readConditions_14]
      simp (disch := first | omega | decide | assumption | simp only [List.length_cons, List.length_nil, Nat.reduceAdd, Nat.reduceLeDiff, bb_at, bb_t1, bb_t2, bb_t3, bb_t4, bb_t5, bb_t6, bb_t7, bb_t8, bb_t9, bb_t10, bb_t11, bb_t12, bb_t13, bb_t14, bb_t15, bb_t16, bs_at, bs_t1, bs_t2, bs_t3, bs_t4, bs_t5, bs_t6, bs_t7, bs_t8, bs_t9, bs_t10, bs_t11, bs_t12, bs_t13, bs_t14, bs_t15, bs_t16, lb_at, lb_t1, lb_t2, lb_t13, lb_t24, lb_t35, lb_t36, lb_t37, lq_at, lq_t1, lq_t2, lq_t13, lq_t24, lq_t35, lq_t36, lq_t37]) only [x_aload_0, x_get_129, x_get_128, x_c_0, x_iast, x_aload_1, x_c_58, xc_SC_take, x_if_eq, x_c_1, x_zret, x_istore_2, x_iload_2, x_c_3, x_ic_ge, xc_LW_readCondition, x_if_ne, x_iadd, x_c_38, x_iinc_2_1, x_goto, tg_LW_readConditions_12, tg_LW_readConditions_14, tg_LW_readConditions_24, tg_LW_readConditions_38, tg_LW_readConditions_44, tg_LW_readConditions_46, bk_LW_readConditions_0, bk_LW_readConditions_12, bk_LW_readConditions_24, bk_LW_readConditions_38, bk_LW_readConditions_44, bk_LW_readConditions_46, kil_int, kil_ref, kil_null, kil_long, kil_rA, psh_int, psh_long, psh_null, gI_gS, gL_gS, gR_gS, sI_gS, sL_gS, orf_some, Option.bind_some, List.length_cons, List.length_nil, Nat.reduceAdd, Nat.reduceLeDiff, if_true, if_false, Nat.zero_le, nI_ltI, nI_leI, nI_eq, nI_ltL, nI_leL, L_ltI, L_leI, nI_eqL, L_eqI, oob_nI, ix_nI, oob_L, ix_L, nI_1, nI_add, nI_z, z_nI, nI_lt0, nI_ge0, nI_gt0, nI_le0, ne_eq, Nat.le_zero_eq, Nat.not_lt_zero, Nat.lt_irrefl, Nat.le_refl, i10, true_or, ne_eq, not_true_eq_false, not_false_eq_true, Bool.false_eq_true, true_and, and_true, and_self, if_true, if_false, or_true, false_or, or_false, or_self, false_and, and_false, Nat.one_ne_zero, n01, Nat.reduceEqDiff, ib_0]
      rfl
    · obtain ⟨a, b, -⟩ := hn
      omega
  | d + 1, i, v, e => by
    have hq := gb_lq_r q
    have hcb := cp_b B p i
    have htb := tnp_b B 0 (cp B p i + 2)
    have hci := ci_f (I := I) (B := B) (p := p) (show 1 < gb_lq q by omega) hr
    have hrd := rd_fL h (hci i)
    have hI' : ci I (gb_lq q) r B p i (gb_lq q) 0 = nI r := by rw [ci_n (by omega) (by omega) (by omega) (by omega)]; exact hI
    obtain ⟨c1, c2⟩ := s_readCond _ J q X hrd (c := cp B p i) (i := i) (by omega) (by omega) hr hI' v
    by_cases ok : okc B (cp B p i)
    · have c1 := c1 ok
      obtain ⟨I3, e3⟩ : ∃ I3, I3 = up (up (up (ci I (gb_lq q) r B p i) (gb_lq q + 3 + r) i (nI (B (cp B p i)))) (gb_lq q + 14 + r) i (nI (B (cp B p i + 1)))) (gb_lq q + 25 + r) i (nI (tnv B 0 (cp B p i + 2))) := ⟨_, rfl⟩
      rw [← e3] at c1
      have g3 : I3 (gb_lq q) 0 = nI r := by rw [e3]; simp (disch := first | omega | decide | assumption | simp only [List.length_cons, List.length_nil, Nat.reduceAdd, Nat.reduceLeDiff]) only [up_ne]; exact hI'
      have e4 : up I3 (gb_lq q + 1) r (nI (i + 1)) = ci I (gb_lq q) r B p (i + 1) := by rw [ci, e3]
      have hrd' := rd_fL h (hci (i + 1))
      have k58 := s_take _ J q X hrd' (tnp B 0 (cp B p i + 2)) 58 (nI (tnv B 0 (cp B p i + 2))) (by omega) (by omega)
      have k38 := s_take _ J q X hrd' (tnp B 0 (cp B p i + 2)) 38 (nI (tnv B 0 (cp B p i + 2))) (by omega) (by omega)
      by_cases s1 : B (tnp B 0 (cp B p i + 2)) = 58
      · refine ⟨1, sc (ci I (gb_lq q) r B p (i + 1)) (nI (cp B p (i + 1))) (nI (tnv B 0 (cp B p i + 2))), ?_, by omega, fL_sc (hci (i + 1)) _ _, fun x => absurd x (by decide), fun _ => ⟨i + 1, _, (chn_1 (by omega)).mpr ⟨ok, s1⟩, rfl⟩⟩
        simp only [s1, if_true] at k58
        rw [bk_LW_readConditions_14]
        simp (disch := first | omega | decide | assumption | simp only [List.length_cons, List.length_nil, Nat.reduceAdd, Nat.reduceLeDiff, bb_at, bb_t1, bb_t2, bb_t3, bb_t4, bb_t5, bb_t6, bb_t7, bb_t8, bb_t9, bb_t10, bb_t11, bb_t12, bb_t13, bb_t14, bb_t15, bb_t16, bs_at, bs_t1, bs_t2, bs_t3, bs_t4, bs_t5, bs_t6, bs_t7, bs_t8, bs_t9, bs_t10, bs_t11, bs_t12, bs_t13, bs_t14, bs_t15, bs_t16, lb_at, lb_t1, lb_t2, lb_t13, lb_t24, lb_t35, lb_t36, lb_t37, lq_at, lq_t1, lq_t2, lq_t13, lq_t24, lq_t35, lq_t36, lq_t37]) only [x_aload_0, x_get_129, x_get_128, x_c_0, x_iast, x_aload_1, x_c_58, xc_SC_take, x_if_eq, x_c_1, x_zret, x_istore_2, x_iload_2, x_c_3, x_ic_ge, xc_LW_readCondition, x_if_ne, x_iadd, x_c_38, x_iinc_2_1, x_goto, tg_LW_readConditions_12, tg_LW_readConditions_14, tg_LW_readConditions_24, tg_LW_readConditions_38, tg_LW_readConditions_44, tg_LW_readConditions_46, bk_LW_readConditions_0, bk_LW_readConditions_12, bk_LW_readConditions_24, bk_LW_readConditions_38, bk_LW_readConditions_44, bk_LW_readConditions_46, kil_int, kil_ref, kil_null, kil_long, kil_rA, psh_int, psh_long, psh_null, gI_gS, gL_gS, gR_gS, sI_gS, sL_gS, orf_some, Option.bind_some, List.length_cons, List.length_nil, Nat.reduceAdd, Nat.reduceLeDiff, if_true, if_false, Nat.zero_le, at_1, nI_ltI, nI_leI, nI_eq, nI_ltL, nI_leL, L_ltI, L_leI, nI_eqL, L_eqI, oob_nI, ix_nI, oob_L, ix_L, nI_1, nI_add, nI_z, z_nI, nI_lt0, nI_ge0, nI_gt0, nI_le0, ne_eq, Nat.le_zero_eq, Nat.not_lt_zero, Nat.lt_irrefl, Nat.le_refl, i10, true_or, ne_eq, not_true_eq_false, not_false_eq_true, Bool.false_eq_true, true_and, and_true, and_self, if_true, if_false, or_true, false_or, or_false, or_self, false_and, and_false, Nat.one_ne_zero, n01, Nat.reduceEqDiff, bb_r0, bb_r2, bb_r4, bb_r5, bb_r6, bb_r7, bb_r9, bb_r10, bb_r11, bb_r12, bb_r13, bb_w1, bb_w2, bb_w5, bb_w6, bb_w7, bs_r0, bs_r2, bs_r4, bs_r5, bs_r6, bs_r7, bs_r9, bs_r10, bs_r11, bs_r12, bs_r13, bs_w1, bs_w2, bs_w5, bs_w6, bs_w7, lb_r1, lb_r2, lb_r3, lb_r4, lb_r5, lb_r6, lb_r7, lq_r1, lq_r2, lq_r3, lq_r4, lq_r5, lq_r6, lq_r7, bb_l1, bb_l3, bb_l4, bb_l5, bb_l6, bb_l7, bb_l8, bb_l9, bb_l10, bb_l11, bb_l12, bb_l13, bb_l14, bb_l15, bb_l16, bs_l1, bs_l3, bs_l4, bs_l5, bs_l6, bs_l7, bs_l8, bs_l9, bs_l10, bs_l11, bs_l12, bs_l13, bs_l14, bs_l15, bs_l16, lb_l1, lb_l2, lb_l13, lb_l24, lb_l35, lb_l36, lb_l37, lq_l1, lq_l2, lq_l13, lq_l24, lq_l35, lq_l36, lq_l37, if_neg (show ¬ 3 ≤ i by omega), c1, sc_n, g3, up_sc, e4, k58]
        rfl
      · by_cases s2 : B (tnp B 0 (cp B p i + 2)) = 38
        · obtain ⟨R, I', u1, u2, u3, u4, u5⟩ := l_readConds I J q X h (p := p) hp hr hI d (i + 1) (nI (tnv B 0 (cp B p i + 2))) (by omega)
          refine ⟨R, I', ?_, u2, u3, fun R0 n hn => ?_, fun R1 => ?_⟩
          · simp only [s1, if_false] at k58
            simp only [s2, if_true] at k38
            rw [bk_LW_readConditions_14, ← u1, cp]
            simp (disch := first | omega | decide | assumption | simp only [List.length_cons, List.length_nil, Nat.reduceAdd, Nat.reduceLeDiff, bb_at, bb_t1, bb_t2, bb_t3, bb_t4, bb_t5, bb_t6, bb_t7, bb_t8, bb_t9, bb_t10, bb_t11, bb_t12, bb_t13, bb_t14, bb_t15, bb_t16, bs_at, bs_t1, bs_t2, bs_t3, bs_t4, bs_t5, bs_t6, bs_t7, bs_t8, bs_t9, bs_t10, bs_t11, bs_t12, bs_t13, bs_t14, bs_t15, bs_t16, lb_at, lb_t1, lb_t2, lb_t13, lb_t24, lb_t35, lb_t36, lb_t37, lq_at, lq_t1, lq_t2, lq_t13, lq_t24, lq_t35, lq_t36, lq_t37]) only [x_aload_0, x_get_129, x_get_128, x_c_0, x_iast, x_aload_1, x_c_58, xc_SC_take, x_if_eq, x_c_1, x_zret, x_istore_2, x_iload_2, x_c_3, x_ic_ge, xc_LW_readCondition, x_if_ne, x_iadd, x_c_38, x_iinc_2_1, x_goto, tg_LW_readConditions_12, tg_LW_readConditions_14, tg_LW_readConditions_24, tg_LW_readConditions_38, tg_LW_readConditions_44, tg_LW_readConditions_46, bk_LW_readConditions_0, bk_LW_readConditions_12, bk_LW_readConditions_24, bk_LW_readConditions_38, bk_LW_readConditions_44, bk_LW_readConditions_46, kil_int, kil_ref, kil_null, kil_long, kil_rA, psh_int, psh_long, psh_null, gI_gS, gL_gS, gR_gS, sI_gS, sL_gS, orf_some, Option.bind_some, List.length_cons, List.length_nil, Nat.reduceAdd, Nat.reduceLeDiff, if_true, if_false, Nat.zero_le, at_1, nI_ltI, nI_leI, nI_eq, nI_ltL, nI_leL, L_ltI, L_leI, nI_eqL, L_eqI, oob_nI, ix_nI, oob_L, ix_L, nI_1, nI_add, nI_z, z_nI, nI_lt0, nI_ge0, nI_gt0, nI_le0, ne_eq, Nat.le_zero_eq, Nat.not_lt_zero, Nat.lt_irrefl, Nat.le_refl, i10, true_or, ne_eq, not_true_eq_false, not_false_eq_true, Bool.false_eq_true, true_and, and_true, and_self, if_true, if_false, or_true, false_or, or_false, or_self, false_and, and_false, Nat.one_ne_zero, n01, Nat.reduceEqDiff, bb_r0, bb_r2, bb_r4, bb_r5, bb_r6, bb_r7, bb_r9, bb_r10, bb_r11, bb_r12, bb_r13, bb_w1, bb_w2, bb_w5, bb_w6, bb_w7, bs_r0, bs_r2, bs_r4, bs_r5, bs_r6, bs_r7, bs_r9, bs_r10, bs_r11, bs_r12, bs_r13, bs_w1, bs_w2, bs_w5, bs_w6, bs_w7, lb_r1, lb_r2, lb_r3, lb_r4, lb_r5, lb_r6, lb_r7, lq_r1, lq_r2, lq_r3, lq_r4, lq_r5, lq_r6, lq_r7, bb_l1, bb_l3, bb_l4, bb_l5, bb_l6, bb_l7, bb_l8, bb_l9, bb_l10, bb_l11, bb_l12, bb_l13, bb_l14, bb_l15, bb_l16, bs_l1, bs_l3, bs_l4, bs_l5, bs_l6, bs_l7, bs_l8, bs_l9, bs_l10, bs_l11, bs_l12, bs_l13, bs_l14, bs_l15, bs_l16, lb_l1, lb_l2, lb_l13, lb_l24, lb_l35, lb_l36, lb_l37, lq_l1, lq_l2, lq_l13, lq_l24, lq_l35, lq_l36, lq_l37, if_neg (show ¬ 3 ≤ i by omega), c1, sc_n, g3, up_sc, e4, k58, k38]
          · by_cases en : i + 1 = n
            · subst en
              have := ((chn_1 (by omega)).mp hn).2
              omega
            · exact u4 R0 n ((chn_s (by omega) en).mp hn).2.2
          · obtain ⟨n, v', hn, hI2⟩ := u5 R1
            exact ⟨n, v', (chn_s (by omega) (by have := hn.1; omega)).mpr ⟨ok, s2, hn⟩, hI2⟩
        · refine ⟨0, sc (ci I (gb_lq q) r B p (i + 1)) (nI (tnp B 0 (cp B p i + 2))) (nI (tnv B 0 (cp B p i + 2))), ?_, by omega, fL_sc (hci (i + 1)) _ _, fun _ n hn => ?_, fun x => absurd x (by decide)⟩
          · simp only [s1, if_false] at k58
            simp only [s2, if_false] at k38
            rw [bk_LW_readConditions_14]
            simp (disch := first | omega | decide | assumption | simp only [List.length_cons, List.length_nil, Nat.reduceAdd, Nat.reduceLeDiff, bb_at, bb_t1, bb_t2, bb_t3, bb_t4, bb_t5, bb_t6, bb_t7, bb_t8, bb_t9, bb_t10, bb_t11, bb_t12, bb_t13, bb_t14, bb_t15, bb_t16, bs_at, bs_t1, bs_t2, bs_t3, bs_t4, bs_t5, bs_t6, bs_t7, bs_t8, bs_t9, bs_t10, bs_t11, bs_t12, bs_t13, bs_t14, bs_t15, bs_t16, lb_at, lb_t1, lb_t2, lb_t13, lb_t24, lb_t35, lb_t36, lb_t37, lq_at, lq_t1, lq_t2, lq_t13, lq_t24, lq_t35, lq_t36, lq_t37]) only [x_aload_0, x_get_129, x_get_128, x_c_0, x_iast, x_aload_1, x_c_58, xc_SC_take, x_if_eq, x_c_1, x_zret, x_istore_2, x_iload_2, x_c_3, x_ic_ge, xc_LW_readCondition, x_if_ne, x_iadd, x_c_38, x_iinc_2_1, x_goto, tg_LW_readConditions_12, tg_LW_readConditions_14, tg_LW_readConditions_24, tg_LW_readConditions_38, tg_LW_readConditions_44, tg_LW_readConditions_46, bk_LW_readConditions_0, bk_LW_readConditions_12, bk_LW_readConditions_24, bk_LW_readConditions_38, bk_LW_readConditions_44, bk_LW_readConditions_46, kil_int, kil_ref, kil_null, kil_long, kil_rA, psh_int, psh_long, psh_null, gI_gS, gL_gS, gR_gS, sI_gS, sL_gS, orf_some, Option.bind_some, List.length_cons, List.length_nil, Nat.reduceAdd, Nat.reduceLeDiff, if_true, if_false, Nat.zero_le, at_1, nI_ltI, nI_leI, nI_eq, nI_ltL, nI_leL, L_ltI, L_leI, nI_eqL, L_eqI, oob_nI, ix_nI, oob_L, ix_L, nI_1, nI_add, nI_z, z_nI, nI_lt0, nI_ge0, nI_gt0, nI_le0, ne_eq, Nat.le_zero_eq, Nat.not_lt_zero, Nat.lt_irrefl, Nat.le_refl, i10, true_or, ne_eq, not_true_eq_false, not_false_eq_true, Bool.false_eq_true, true_and, and_true, and_self, if_true, if_false, or_true, false_or, or_false, or_self, false_and, and_false, Nat.one_ne_zero, n01, Nat.reduceEqDiff, bb_r0, bb_r2, bb_r4, bb_r5, bb_r6, bb_r7, bb_r9, bb_r10, bb_r11, bb_r12, bb_r13, bb_w1, bb_w2, bb_w5, bb_w6, bb_w7, bs_r0, bs_r2, bs_r4, bs_r5, bs_r6, bs_r7, bs_r9, bs_r10, bs_r11, bs_r12, bs_r13, bs_w1, bs_w2, bs_w5, bs_w6, bs_w7, lb_r1, lb_r2, lb_r3, lb_r4, lb_r5, lb_r6, lb_r7, lq_r1, lq_r2, lq_r3, lq_r4, lq_r5, lq_r6, lq_r7, bb_l1, bb_l3, bb_l4, bb_l5, bb_l6, bb_l7, bb_l8, bb_l9, bb_l10, bb_l11, bb_l12, bb_l13, bb_l14, bb_l15, bb_l16, bs_l1, bs_l3, bs_l4, bs_l5, bs_l6, bs_l7, bs_l8, bs_l9, bs_l10, bs_l11, bs_l12, bs_l13, bs_l14, bs_l15, bs_l16, lb_l1, lb_l2, lb_l13, lb_l24, lb_l35, lb_l36, lb_l37, lq_l1, lq_l2, lq_l13, lq_l24, lq_l35, lq_l36, lq_l37, if_neg (show ¬ 3 ≤ i by omega), c1, sc_n, g3, up_sc, e4, k58, k38, ib_0]
            rfl
          · by_cases en : i + 1 = n
            · subst en
              exact s1 ((chn_1 (by omega)).mp hn).2
            · exact s2 ((chn_s (by omega) en).mp hn).2.1
    · obtain ⟨a, v', c2⟩ := c2 ok
      refine ⟨0, sc (ci I (gb_lq q) r B p i) a v', ?_, by omega, fL_sc (hci i) _ _, fun _ n hn => ok (hn.2.2 i (Nat.le_refl _) hn.1).1, fun x => absurd x (by decide)⟩
      rw [bk_LW_readConditions_14]
      simp (disch := first | omega | decide | assumption | simp only [List.length_cons, List.length_nil, Nat.reduceAdd, Nat.reduceLeDiff, bb_at, bb_t1, bb_t2, bb_t3, bb_t4, bb_t5, bb_t6, bb_t7, bb_t8, bb_t9, bb_t10, bb_t11, bb_t12, bb_t13, bb_t14, bb_t15, bb_t16, bs_at, bs_t1, bs_t2, bs_t3, bs_t4, bs_t5, bs_t6, bs_t7, bs_t8, bs_t9, bs_t10, bs_t11, bs_t12, bs_t13, bs_t14, bs_t15, bs_t16, lb_at, lb_t1, lb_t2, lb_t13, lb_t24, lb_t35, lb_t36, lb_t37, lq_at, lq_t1, lq_t2, lq_t13, lq_t24, lq_t35, lq_t36, lq_t37]) only [x_aload_0, x_get_129, x_get_128, x_c_0, x_iast, x_aload_1, x_c_58, xc_SC_take, x_if_eq, x_c_1, x_zret, x_istore_2, x_iload_2, x_c_3, x_ic_ge, xc_LW_readCondition, x_if_ne, x_iadd, x_c_38, x_iinc_2_1, x_goto, tg_LW_readConditions_12, tg_LW_readConditions_14, tg_LW_readConditions_24, tg_LW_readConditions_38, tg_LW_readConditions_44, tg_LW_readConditions_46, bk_LW_readConditions_0, bk_LW_readConditions_12, bk_LW_readConditions_24, bk_LW_readConditions_38, bk_LW_readConditions_44, bk_LW_readConditions_46, kil_int, kil_ref, kil_null, kil_long, kil_rA, psh_int, psh_long, psh_null, gI_gS, gL_gS, gR_gS, sI_gS, sL_gS, orf_some, Option.bind_some, List.length_cons, List.length_nil, Nat.reduceAdd, Nat.reduceLeDiff, if_true, if_false, Nat.zero_le, nI_ltI, nI_leI, nI_eq, nI_ltL, nI_leL, L_ltI, L_leI, nI_eqL, L_eqI, oob_nI, ix_nI, oob_L, ix_L, nI_1, nI_add, nI_z, z_nI, nI_lt0, nI_ge0, nI_gt0, nI_le0, ne_eq, Nat.le_zero_eq, Nat.not_lt_zero, Nat.lt_irrefl, Nat.le_refl, i10, true_or, ne_eq, not_true_eq_false, not_false_eq_true, Bool.false_eq_true, true_and, and_true, and_self, if_true, if_false, or_true, false_or, or_false, or_self, false_and, and_false, Nat.one_ne_zero, n01, Nat.reduceEqDiff, if_neg (show ¬ 3 ≤ i by omega), c2, ib_0]
      rfl
theorem s_readConds (I : Nat → Nat → Int32) (J : Nat → Nat → Int64) (q : Bool × Bool) (X : Nat × (Nat → Int32)) {L : Nat} {B : Nat → Nat} (h : rd I L B) {p r : Nat} (hp : p ≤ 900) (hr : r < 10) (hI : I (gb_lq q) 0 = nI r) (v : Int32) : ∃ R I', gb_call 18 [.ref (gb_lq q), .ref (1 : Nat)] gb_pG (gS (sc I (nI p) v) J q X) = some (.int (nI R), gb_pG, gS I' J q X) ∧ R ≤ 1 ∧ fL (gb_lq q) I I' ∧ (R = 0 → ∀ n, ¬ cnd B p n) ∧ (R = 1 → ∃ n v', n ≤ 3 ∧ cnd B p n ∧ I' = sc (ci I (gb_lq q) r B p n) (nI (op B p n)) v') := by
  have hq := gb_lq_r q
  have hci := ci_f (I := I) (B := B) (p := p) (show 1 < gb_lq q by omega) hr
  have hrd := rd_fL h (hci 0)
  have e4 : up I (gb_lq q + 1) r 0 = ci I (gb_lq q) r B p 0 := rfl
  have k58 := s_take _ J q X hrd p 58 v (by omega) (by omega)
  rw [cl_LW_readConditions]
  by_cases s1 : B p = 58
  · refine ⟨1, sc (ci I (gb_lq q) r B p 0) (nI (p + 1)) v, ?_, by omega, fL_sc (hci 0) _ _, fun x => absurd x (by decide), fun _ => ⟨0, v, by omega, Or.inl ⟨rfl, s1⟩, rfl⟩⟩
    simp only [s1, if_true] at k58
    simp (disch := first | omega | decide | assumption | simp only [List.length_cons, List.length_nil, Nat.reduceAdd, Nat.reduceLeDiff, bb_at, bb_t1, bb_t2, bb_t3, bb_t4, bb_t5, bb_t6, bb_t7, bb_t8, bb_t9, bb_t10, bb_t11, bb_t12, bb_t13, bb_t14, bb_t15, bb_t16, bs_at, bs_t1, bs_t2, bs_t3, bs_t4, bs_t5, bs_t6, bs_t7, bs_t8, bs_t9, bs_t10, bs_t11, bs_t12, bs_t13, bs_t14, bs_t15, bs_t16, lb_at, lb_t1, lb_t2, lb_t13, lb_t24, lb_t35, lb_t36, lb_t37, lq_at, lq_t1, lq_t2, lq_t13, lq_t24, lq_t35, lq_t36, lq_t37]) only [x_aload_0, x_get_129, x_get_128, x_c_0, x_iast, x_aload_1, x_c_58, xc_SC_take, x_if_eq, x_c_1, x_zret, x_istore_2, x_iload_2, x_c_3, x_ic_ge, xc_LW_readCondition, x_if_ne, x_iadd, x_c_38, x_iinc_2_1, x_goto, tg_LW_readConditions_12, tg_LW_readConditions_14, tg_LW_readConditions_24, tg_LW_readConditions_38, tg_LW_readConditions_44, tg_LW_readConditions_46, bk_LW_readConditions_0, bk_LW_readConditions_12, bk_LW_readConditions_24, bk_LW_readConditions_38, bk_LW_readConditions_44, bk_LW_readConditions_46, kil_int, kil_ref, kil_null, kil_long, kil_rA, psh_int, psh_long, psh_null, gI_gS, gL_gS, gR_gS, sI_gS, sL_gS, orf_some, Option.bind_some, List.length_cons, List.length_nil, Nat.reduceAdd, Nat.reduceLeDiff, if_true, if_false, Nat.zero_le, at_1, nI_ltI, nI_leI, nI_eq, nI_ltL, nI_leL, L_ltI, L_leI, nI_eqL, L_eqI, oob_nI, ix_nI, oob_L, ix_L, nI_1, nI_add, nI_z, z_nI, nI_lt0, nI_ge0, nI_gt0, nI_le0, ne_eq, Nat.le_zero_eq, Nat.not_lt_zero, Nat.lt_irrefl, Nat.le_refl, i10, true_or, ne_eq, not_true_eq_false, not_false_eq_true, Bool.false_eq_true, true_and, and_true, and_self, if_true, if_false, or_true, false_or, or_false, or_self, false_and, and_false, Nat.one_ne_zero, n01, Nat.reduceEqDiff, bb_r0, bb_r2, bb_r4, bb_r5, bb_r6, bb_r7, bb_r9, bb_r10, bb_r11, bb_r12, bb_r13, bb_w1, bb_w2, bb_w5, bb_w6, bb_w7, bs_r0, bs_r2, bs_r4, bs_r5, bs_r6, bs_r7, bs_r9, bs_r10, bs_r11, bs_r12, bs_r13, bs_w1, bs_w2, bs_w5, bs_w6, bs_w7, lb_r1, lb_r2, lb_r3, lb_r4, lb_r5, lb_r6, lb_r7, lq_r1, lq_r2, lq_r3, lq_r4, lq_r5, lq_r6, lq_r7, bb_l1, bb_l3, bb_l4, bb_l5, bb_l6, bb_l7, bb_l8, bb_l9, bb_l10, bb_l11, bb_l12, bb_l13, bb_l14, bb_l15, bb_l16, bs_l1, bs_l3, bs_l4, bs_l5, bs_l6, bs_l7, bs_l8, bs_l9, bs_l10, bs_l11, bs_l12, bs_l13, bs_l14, bs_l15, bs_l16, lb_l1, lb_l2, lb_l13, lb_l24, lb_l35, lb_l36, lb_l37, lq_l1, lq_l2, lq_l13, lq_l24, lq_l35, lq_l36, lq_l37, sc_n, hI, up_sc, e4, k58]
    rfl
  · obtain ⟨R, I', u1, u2, u3, u4, u5⟩ := l_readConds I J q X h (p := p) hp hr hI 3 0 v (by omega)
    refine ⟨R, I', ?_, u2, u3, fun R0 n hn => ?_, fun R1 => ?_⟩
    · simp only [s1, if_false] at k58
      rw [← u1]
      simp (disch := first | omega | decide | assumption | simp only [List.length_cons, List.length_nil, Nat.reduceAdd, Nat.reduceLeDiff, bb_at, bb_t1, bb_t2, bb_t3, bb_t4, bb_t5, bb_t6, bb_t7, bb_t8, bb_t9, bb_t10, bb_t11, bb_t12, bb_t13, bb_t14, bb_t15, bb_t16, bs_at, bs_t1, bs_t2, bs_t3, bs_t4, bs_t5, bs_t6, bs_t7, bs_t8, bs_t9, bs_t10, bs_t11, bs_t12, bs_t13, bs_t14, bs_t15, bs_t16, lb_at, lb_t1, lb_t2, lb_t13, lb_t24, lb_t35, lb_t36, lb_t37, lq_at, lq_t1, lq_t2, lq_t13, lq_t24, lq_t35, lq_t36, lq_t37]) only [x_aload_0, x_get_129, x_get_128, x_c_0, x_iast, x_aload_1, x_c_58, xc_SC_take, x_if_eq, x_c_1, x_zret, x_istore_2, x_iload_2, x_c_3, x_ic_ge, xc_LW_readCondition, x_if_ne, x_iadd, x_c_38, x_iinc_2_1, x_goto, tg_LW_readConditions_12, tg_LW_readConditions_14, tg_LW_readConditions_24, tg_LW_readConditions_38, tg_LW_readConditions_44, tg_LW_readConditions_46, bk_LW_readConditions_0, bk_LW_readConditions_12, bk_LW_readConditions_24, bk_LW_readConditions_38, bk_LW_readConditions_44, bk_LW_readConditions_46, kil_int, kil_ref, kil_null, kil_long, kil_rA, psh_int, psh_long, psh_null, gI_gS, gL_gS, gR_gS, sI_gS, sL_gS, orf_some, Option.bind_some, List.length_cons, List.length_nil, Nat.reduceAdd, Nat.reduceLeDiff, if_true, if_false, Nat.zero_le, at_1, nI_ltI, nI_leI, nI_eq, nI_ltL, nI_leL, L_ltI, L_leI, nI_eqL, L_eqI, oob_nI, ix_nI, oob_L, ix_L, nI_1, nI_add, nI_z, z_nI, nI_lt0, nI_ge0, nI_gt0, nI_le0, ne_eq, Nat.le_zero_eq, Nat.not_lt_zero, Nat.lt_irrefl, Nat.le_refl, i10, true_or, ne_eq, not_true_eq_false, not_false_eq_true, Bool.false_eq_true, true_and, and_true, and_self, if_true, if_false, or_true, false_or, or_false, or_self, false_and, and_false, Nat.one_ne_zero, n01, Nat.reduceEqDiff, bb_r0, bb_r2, bb_r4, bb_r5, bb_r6, bb_r7, bb_r9, bb_r10, bb_r11, bb_r12, bb_r13, bb_w1, bb_w2, bb_w5, bb_w6, bb_w7, bs_r0, bs_r2, bs_r4, bs_r5, bs_r6, bs_r7, bs_r9, bs_r10, bs_r11, bs_r12, bs_r13, bs_w1, bs_w2, bs_w5, bs_w6, bs_w7, lb_r1, lb_r2, lb_r3, lb_r4, lb_r5, lb_r6, lb_r7, lq_r1, lq_r2, lq_r3, lq_r4, lq_r5, lq_r6, lq_r7, bb_l1, bb_l3, bb_l4, bb_l5, bb_l6, bb_l7, bb_l8, bb_l9, bb_l10, bb_l11, bb_l12, bb_l13, bb_l14, bb_l15, bb_l16, bs_l1, bs_l3, bs_l4, bs_l5, bs_l6, bs_l7, bs_l8, bs_l9, bs_l10, bs_l11, bs_l12, bs_l13, bs_l14, bs_l15, bs_l16, lb_l1, lb_l2, lb_l13, lb_l24, lb_l35, lb_l36, lb_l37, lq_l1, lq_l2, lq_l13, lq_l24, lq_l35, lq_l36, lq_l37, sc_n, hI, up_sc, e4, k58]
      rfl
    · rcases hn with hn | hn
      · exact s1 hn.2
      · exact u4 R0 n hn
    · obtain ⟨n, v', hn, hI2⟩ := u5 R1
      refine ⟨n, v', hn.2.1, Or.inr hn, ?_⟩
      rw [hI2]
      unfold op
      rw [if_neg (by have := hn.1; omega)]
