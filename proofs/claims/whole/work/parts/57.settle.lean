/-! all worlds of a loss -/
def kl (D : Nat → Nat → Int) (l : Nat) : Nat := (D 9 l).toNat
def slo (D : Nat → Nat → Int) (l : Nat) : Nat := (D 5 (kl D l)).toNat
def shi (D : Nat → Nat → Int) (l : Nat) : Nat := (D 6 (kl D l)).toNat
def hfi (D : Nat → Nat → Int) (l : Nat) : Nat := (D 12 l).toNat
def hla (D : Nat → Nat → Int) (l : Nat) : Nat := (D 13 l).toNat
def Hn (D : Nat → Nat → Int) (l : Nat) : Nat := hla D l - hfi D l + 1
def Sn (D : Nat → Nat → Int) (l : Nat) : Nat := shi D l - slo D l + 1
def Wn (D : Nat → Nat → Int) (l : Nat) : Nat := Sn D l * Hn D l
def wo (N : Nat → Nat) (D : Nat → Nat → Int) (l w : Nat) : Option (Nat × Nat) := dr N D (slo D l + w / Hn D l) (999 - (hfi D l + w % Hn D l)) (hfi D l + w % Hn D l) (D 10 l) (D 11 l)
theorem lfa {N : Nat → Nat} {D : Nat → Nat → Int} (ho : oB N D) {l : Nat} (hl : l < N 4) : (D 9 l = (kl D l : Int) ∧ kl D l < N 3) ∧ (D 5 (kl D l) = (slo D l : Int) ∧ D 6 (kl D l) = (shi D l : Int) ∧ slo D l ≤ shi D l ∧ shi D l ≤ 10) ∧ (D 12 l = (hfi D l : Int) ∧ D 13 l = (hla D l : Int) ∧ hfi D l ≤ hla D l ∧ hla D l ≤ hfi D l + 9 ∧ hla D l ≤ 999) ∧ (0 ≤ D 10 l ∧ D 10 l ≤ 159) ∧ (1 ≤ D 11 l ∧ D 11 l ≤ 99) := by
  have h := ho.2.2.2.2 l hl
  have e : D 9 l = (kl D l : Int) := by unfold kl; omega
  have hk : kl D l < N 3 := by omega
  have h2 := ho.2.2.2.1 (kl D l) hk
  have e5 : D 5 (kl D l) = (slo D l : Int) := by unfold slo; omega
  have e6 : D 6 (kl D l) = (shi D l : Int) := by unfold shi; omega
  have e12 : D 12 l = (hfi D l : Int) := by unfold hfi; omega
  have e13 : D 13 l = (hla D l : Int) := by unfold hla; omega
  exact ⟨⟨e, hk⟩, ⟨e5, e6, by omega, by omega⟩, ⟨e12, e13, by omega, by omega, by omega⟩, h.2.1, h.2.2.1⟩
theorem Wn_b {N : Nat → Nat} {D : Nat → Nat → Int} (ho : oB N D) {l : Nat} (hl : l < N 4) : 1 ≤ Hn D l ∧ Hn D l ≤ 10 ∧ 1 ≤ Sn D l ∧ Sn D l ≤ 11 ∧ Wn D l ≤ 110 ∧ 1 ≤ Wn D l := by
  obtain ⟨-, ⟨a1, a2, a3, a4⟩, ⟨b1, b2, b3, b4, b5⟩, -⟩ := lfa ho hl
  have h1 : Hn D l ≤ 10 := by unfold Hn; omega
  have h2 : Sn D l ≤ 11 := by unfold Sn; omega
  have h3 : Wn D l ≤ 11 * 10 := Nat.mul_le_mul h2 h1
  have h4 : 1 * 1 ≤ Wn D l := Nat.mul_le_mul (by unfold Sn; omega) (by unfold Hn; omega)
  refine ⟨by unfold Hn; omega, h1, by unfold Sn; omega, h2, h3, h4⟩
theorem dm_ij {i j H : Nat} (hj : j < H) : (i * H + j) / H = i ∧ (i * H + j) % H = j := by
  refine ⟨?_, ?_⟩
  · rw [Nat.mul_comm, Nat.mul_add_div (by omega), Nat.div_eq_of_lt hj, Nat.add_zero]
  · rw [Nat.mul_comm, Nat.mul_add_mod, Nat.mod_eq_of_lt hj]
theorem wo_b {N : Nat → Nat} {D : Nat → Nat → Int} (ho : oB N D) {l w c t : Nat} (hl : l < N 4) (h : wo N D l w = some (c, t)) : c < N 0 ∧ t ≤ 999 := by
  obtain ⟨-, -, ⟨b1, b2, b3, b4, b5⟩, -⟩ := lfa ho hl
  have : w % Hn D l < Hn D l := Nat.mod_lt _ (by unfold Hn; omega)
  have h2 : hfi D l + w % Hn D l ≤ 999 := by unfold Hn at this ⊢; omega
  exact dr_b (by omega) h
/-- the class's rows behind n worlds -/
def swn (I : Nat → Nat → Int32) (N : Nat → Nat) (D : Nat → Nat → Int) (l : Nat) : Nat → Nat → Nat → Int32
  | 0 => I
  | n + 1 => up (up (swn I N D l n) (6 + l) n (rC (wo N D l n))) (15 + l) n (rT (wo N D l n))
theorem swn_n {I : Nat → Nat → Int32} {N : Nat → Nat} {D : Nat → Nat → Int} {l a : Nat} (h1 : a ≠ 6 + l) (h2 : a ≠ 15 + l) : ∀ n, swn I N D l n a = I a
  | 0 => rfl
  | n + 1 => by rw [swn, up_ne h2, up_ne h1, swn_n h1 h2 n]
theorem swn_v {I : Nat → Nat → Int32} {N : Nat → Nat} {D : Nat → Nat → Int} {l : Nat} : ∀ n w, w < n → swn I N D l n (6 + l) w = rC (wo N D l w) ∧ swn I N D l n (15 + l) w = rT (wo N D l w)
  | 0, w, h => by omega
  | n + 1, w, h => by
    rw [swn]
    by_cases e : w = n
    · subst e
      refine ⟨?_, ?_⟩ <;> simp (disch := first | omega | decide | assumption | simp only [List.length_cons, List.length_nil, Nat.reduceAdd, Nat.reduceLeDiff]) only [up_ne, up_same, upd_same]
    · have ih := swn_v (I := I) (N := N) (D := D) (l := l) n w (by omega)
      simp (disch := first | omega | decide | assumption | simp only [List.length_cons, List.length_nil, Nat.reduceAdd, Nat.reduceLeDiff]) only [up_ne, up_same, upd_ne]
      exact ih
theorem lay_swn {I : Nat → Nat → Int32} {q : Bool × Bool} {N : Nat → Nat} {D : Nat → Nat → Int} (h : lay I q N D) {l : Nat} (hl : l < 8) (n : Nat) (c t : Int32) : lay (ld (swn I N D l n) c t) q N D := by
  have := gb_bb_r q
  refine lay_ld ⟨cR_fr h.1 (fun a ha => swn_n (by omega) (by omega) n), mR_fr h.2.1 (fun a a1 a2 => swn_n (by omega) (by omega) n), h.2.2⟩ c t
theorem l_settle2 (I : Nat → Nat → Int32) (J : Nat → Nat → Int64) (q : Bool × Bool) (X : Nat × (Nat → Int32)) {N : Nat → Nat} {D : Nat → Nat → Int} (hL : lay I q N D) {l i : Nat} (hl : l < N 4) (hi : i < Sn D l) : ∀ d j (c t : Int32), d + j = Hn D l → ∃ c' t', gb_ex 14 bk_LA_settle_29 [.ref (3 : Nat), .ref (gb_bb q), .int (nI l), .int (nI (kl D l)), .int (nI (i * Hn D l + j)), .int (nI (slo D l + i)), .int (nI (hfi D l + j))] [] gb_pG (gS (ld (swn I N D l (i * Hn D l + j)) c t) J q X) = gb_ex 14 bk_LA_settle_70 [.ref (3 : Nat), .ref (gb_bb q), .int (nI l), .int (nI (kl D l)), .int (nI ((i + 1) * Hn D l)), .int (nI (slo D l + i)), .int (nI (hfi D l + Hn D l))] [] gb_pG (gS (ld (swn I N D l ((i + 1) * Hn D l)) c' t') J q X)
  | 0, j, c, t, e => by
    obtain ⟨-, ⟨a1, a2, a3, a4⟩, ⟨b1, b2, b3, b4, b5⟩, -⟩ := lfa hL.2.2 hl
    have hl8 : l < 8 := by have := hL.2.2.1.2.2.2.2.2; omega
    have hLs := lay_swn hL hl8 (i * Hn D l + j) c t
    have h13 := (hLs.1.2.2.2.2 l hl).2.2.2.2
    have ej : j = Hn D l := by omega
    have hH : Hn D l = hla D l - hfi D l + 1 := rfl
    refine ⟨c, t, ?_⟩
    rw [show (i + 1) * Hn D l = i * Hn D l + Hn D l from Nat.succ_mul _ _, ← ej, bk_LA_settle_29]
    rw [b2, ← zI_nI, ← ej] at h13
    simp (disch := first | omega | decide | assumption | simp only [List.length_cons, List.length_nil, Nat.reduceAdd, Nat.reduceLeDiff, bb_at, bb_t1, bb_t2, bb_t3, bb_t4, bb_t5, bb_t6, bb_t7, bb_t8, bb_t9, bb_t10, bb_t11, bb_t12, bb_t13, bb_t14, bb_t15, bb_t16, bs_at, bs_t1, bs_t2, bs_t3, bs_t4, bs_t5, bs_t6, bs_t7, bs_t8, bs_t9, bs_t10, bs_t11, bs_t12, bs_t13, bs_t14, bs_t15, bs_t16, lb_at, lb_t1, lb_t2, lb_t13, lb_t24, lb_t35, lb_t36, lb_t37, lq_at, lq_t1, lq_t2, lq_t13, lq_t24, lq_t35, lq_t36, lq_t37]) only [x_aload_0, x_get_66, x_iload_2, x_bald, x_zald, x_if_eq, x_vret, x_aload_1, x_get_9, x_iald, x_istore_3, x_c_0, x_istore_4, x_get_4, x_iload_3, x_istore_5, x_iload_5, x_get_5, x_ic_gt, x_get_12, x_istore_6, x_iload_6, x_get_13, x_iload_4, x_c_110, x_ic_ge, x_get_10, x_get_11, xc_LA_release, x_get_67, x_aald, x_aaldJ, x_get_64, x_iast, x_get_68, x_get_65, x_iinc_4_1, x_iinc_6_1, x_goto, x_iinc_5_1, x_c_1, x_bast, x_zast, tg_LA_settle_6, tg_LA_settle_18, tg_LA_settle_29, tg_LA_settle_68, tg_LA_settle_70, tg_LA_settle_72, bk_LA_settle_0, bk_LA_settle_6, bk_LA_settle_18, bk_LA_settle_68, bk_LA_settle_72, kil_int, kil_ref, kil_null, kil_long, kil_rA, psh_int, psh_long, psh_null, gI_gS, gL_gS, gR_gS, sI_gS, sL_gS, orf_some, Option.bind_some, List.length_cons, List.length_nil, Nat.reduceAdd, Nat.reduceLeDiff, if_true, if_false, Nat.zero_le, bb_r0, bb_r2, bb_r4, bb_r5, bb_r6, bb_r7, bb_r9, bb_r10, bb_r11, bb_r12, bb_r13, bb_w1, bb_w2, bb_w5, bb_w6, bb_w7, bs_r0, bs_r2, bs_r4, bs_r5, bs_r6, bs_r7, bs_r9, bs_r10, bs_r11, bs_r12, bs_r13, bs_w1, bs_w2, bs_w5, bs_w6, bs_w7, lb_r1, lb_r2, lb_r3, lb_r4, lb_r5, lb_r6, lb_r7, lq_r1, lq_r2, lq_r3, lq_r4, lq_r5, lq_r6, lq_r7, bb_l1, bb_l3, bb_l4, bb_l5, bb_l6, bb_l7, bb_l8, bb_l9, bb_l10, bb_l11, bb_l12, bb_l13, bb_l14, bb_l15, bb_l16, bs_l1, bs_l3, bs_l4, bs_l5, bs_l6, bs_l7, bs_l8, bs_l9, bs_l10, bs_l11, bs_l12, bs_l13, bs_l14, bs_l15, bs_l16, lb_l1, lb_l2, lb_l13, lb_l24, lb_l35, lb_l36, lb_l37, lq_l1, lq_l2, lq_l13, lq_l24, lq_l35, lq_l36, lq_l37, nI_ltI, nI_leI, nI_eq, nI_ltL, nI_leL, L_ltI, L_leI, nI_eqL, L_eqI, oob_nI, ix_nI, oob_L, ix_L, nI_1, nI_add, nI_z, z_nI, nI_lt0, nI_ge0, nI_gt0, nI_le0, ne_eq, Nat.le_zero_eq, Nat.not_lt_zero, Nat.lt_irrefl, Nat.le_refl, i10, true_or, ne_eq, not_true_eq_false, not_false_eq_true, Bool.false_eq_true, true_and, and_true, and_self, if_true, if_false, or_true, false_or, or_false, or_self, false_and, and_false, Nat.one_ne_zero, n01, Nat.reduceEqDiff, h13, if_pos (show hla D l < hfi D l + j by omega)]
  | d + 1, j, c, t, e => by
    obtain ⟨⟨k1, k2⟩, ⟨a1, a2, a3, a4⟩, ⟨b1, b2, b3, b4, b5⟩, hx, hy⟩ := lfa hL.2.2 hl
    obtain ⟨w1, w2, w3, w4, w5, w6⟩ := Wn_b hL.2.2 hl
    have hl8 : l < 8 := by have := hL.2.2.1.2.2.2.2.2; omega
    have hH : Hn D l = hla D l - hfi D l + 1 := rfl
    have hS : Sn D l = shi D l - slo D l + 1 := rfl
    obtain ⟨n, hn⟩ : ∃ n, n = i * Hn D l + j := ⟨_, rfl⟩
    have hlt : n < 110 := by
      have x1 : (i + 1) * Hn D l ≤ Sn D l * Hn D l := Nat.mul_le_mul_right _ (by omega)
      have x2 : (i + 1) * Hn D l = i * Hn D l + Hn D l := Nat.succ_mul _ _
      have x3 : Sn D l * Hn D l ≤ 110 := w5
      omega
    have hLs := lay_swn hL hl8 n c t
    obtain ⟨-, f10, f11, f12, f13⟩ := hLs.1.2.2.2.2 l hl
    rw [b2, ← zI_nI] at f13
    have hdm := dm_ij (i := i) (show j < Hn D l by omega)
    have rel := s_release _ J q X hLs.2.2 hLs.1 (s := slo D l + i) (h := hfi D l + j) (x := D 10 l) (y := D 11 l) (by omega) (by omega) hx hy
    have ew : dr N D (slo D l + i) (999 - (hfi D l + j)) (hfi D l + j) (D 10 l) (D 11 l) = wo N D l n := by
      unfold wo
      rw [hn, hdm.1, hdm.2]
    rw [ew, ld_ld] at rel
    obtain ⟨c', t', ih⟩ := l_settle2 I J q X hL (i := i) hl hi d (j + 1) (rC (wo N D l n)) (rT (wo N D l n)) (by omega)
    refine ⟨c', t', ?_⟩
    rw [show i * Hn D l + (j + 1) = n + 1 by omega, show hfi D l + (j + 1) = hfi D l + j + 1 by omega] at ih
    rw [bk_LA_settle_29, ← ih, ← hn, swn]
    have t6 := atr_5 (k := l) hl8
    have t15 := atr_14 (k := l) hl8
    clear ih hdm ew hn w5
    simp (disch := first | omega | decide | assumption | simp only [List.length_cons, List.length_nil, Nat.reduceAdd, Nat.reduceLeDiff, bb_at, bb_t1, bb_t2, bb_t3, bb_t4, bb_t5, bb_t6, bb_t7, bb_t8, bb_t9, bb_t10, bb_t11, bb_t12, bb_t13, bb_t14, bb_t15, bb_t16, bs_at, bs_t1, bs_t2, bs_t3, bs_t4, bs_t5, bs_t6, bs_t7, bs_t8, bs_t9, bs_t10, bs_t11, bs_t12, bs_t13, bs_t14, bs_t15, bs_t16, lb_at, lb_t1, lb_t2, lb_t13, lb_t24, lb_t35, lb_t36, lb_t37, lq_at, lq_t1, lq_t2, lq_t13, lq_t24, lq_t35, lq_t36, lq_t37]) only [x_aload_0, x_get_66, x_iload_2, x_bald, x_zald, x_if_eq, x_vret, x_aload_1, x_get_9, x_iald, x_istore_3, x_c_0, x_istore_4, x_get_4, x_iload_3, x_istore_5, x_iload_5, x_get_5, x_ic_gt, x_get_12, x_istore_6, x_iload_6, x_get_13, x_iload_4, x_c_110, x_ic_ge, x_get_10, x_get_11, xc_LA_release, x_get_67, x_aald, x_aaldJ, x_get_64, x_iast, x_get_68, x_get_65, x_iinc_4_1, x_iinc_6_1, x_goto, x_iinc_5_1, x_c_1, x_bast, x_zast, tg_LA_settle_6, tg_LA_settle_18, tg_LA_settle_29, tg_LA_settle_68, tg_LA_settle_70, tg_LA_settle_72, bk_LA_settle_0, bk_LA_settle_6, bk_LA_settle_18, bk_LA_settle_68, bk_LA_settle_72, kil_int, kil_ref, kil_null, kil_long, kil_rA, psh_int, psh_long, psh_null, gI_gS, gL_gS, gR_gS, sI_gS, sL_gS, orf_some, Option.bind_some, List.length_cons, List.length_nil, Nat.reduceAdd, Nat.reduceLeDiff, if_true, if_false, Nat.zero_le, bb_r0, bb_r2, bb_r4, bb_r5, bb_r6, bb_r7, bb_r9, bb_r10, bb_r11, bb_r12, bb_r13, bb_w1, bb_w2, bb_w5, bb_w6, bb_w7, bs_r0, bs_r2, bs_r4, bs_r5, bs_r6, bs_r7, bs_r9, bs_r10, bs_r11, bs_r12, bs_r13, bs_w1, bs_w2, bs_w5, bs_w6, bs_w7, lb_r1, lb_r2, lb_r3, lb_r4, lb_r5, lb_r6, lb_r7, lq_r1, lq_r2, lq_r3, lq_r4, lq_r5, lq_r6, lq_r7, bb_l1, bb_l3, bb_l4, bb_l5, bb_l6, bb_l7, bb_l8, bb_l9, bb_l10, bb_l11, bb_l12, bb_l13, bb_l14, bb_l15, bb_l16, bs_l1, bs_l3, bs_l4, bs_l5, bs_l6, bs_l7, bs_l8, bs_l9, bs_l10, bs_l11, bs_l12, bs_l13, bs_l14, bs_l15, bs_l16, lb_l1, lb_l2, lb_l13, lb_l24, lb_l35, lb_l36, lb_l37, lq_l1, lq_l2, lq_l13, lq_l24, lq_l35, lq_l36, lq_l37, at_3, at_5, at_14, al_5, al_14, rw_3_3, rw_3_4, rw_5, rw_14, alr_5, alr_14, nI_ltI, nI_leI, nI_eq, nI_ltL, nI_leL, L_ltI, L_leI, nI_eqL, L_eqI, oob_nI, ix_nI, oob_L, ix_L, nI_1, nI_add, nI_z, z_nI, nI_lt0, nI_ge0, nI_gt0, nI_le0, ne_eq, Nat.le_zero_eq, Nat.not_lt_zero, Nat.lt_irrefl, Nat.le_refl, i10, true_or, ne_eq, not_true_eq_false, not_false_eq_true, Bool.false_eq_true, true_and, and_true, and_self, if_true, if_false, or_true, false_or, or_false, or_self, false_and, and_false, Nat.one_ne_zero, n01, Nat.reduceEqDiff, f13, if_neg (show ¬ hla D l < hfi D l + j by omega), if_neg (show ¬ 110 ≤ n by omega), f10, f11, rel, ld_0, ld_1, up_ld]
theorem l_settle1 (I : Nat → Nat → Int32) (J : Nat → Nat → Int64) (q : Bool × Bool) (X : Nat × (Nat → Int32)) {N : Nat → Nat} {D : Nat → Nat → Int} (hL : lay I q N D) {l : Nat} (hl : l < N 4) : ∀ d i (c t : Int32) (z6 : Value), d + i = Sn D l → ∃ c' t', gb_ex 14 bk_LA_settle_18 [.ref (3 : Nat), .ref (gb_bb q), .int (nI l), .int (nI (kl D l)), .int (nI (i * Hn D l)), .int (nI (slo D l + i)), z6] [] gb_pG (gS (ld (swn I N D l (i * Hn D l)) c t) J q X) = some (.null, gb_pG, gS (up (ld (swn I N D l (Wn D l)) c' t') 4 l 1) J q X)
  | 0, i, c, t, z6, e => by
    obtain ⟨⟨k1, k2⟩, ⟨a1, a2, a3, a4⟩, -⟩ := lfa hL.2.2 hl
    have hl8 : l < 8 := by have := hL.2.2.1.2.2.2.2.2; omega
    have hk6 : kl D l < 6 := by have := hL.2.2.1.2.2.2.2.1; omega
    have ei : i = Sn D l := by omega
    subst ei
    have hLs := lay_swn hL hl8 (Sn D l * Hn D l) c t
    have f6 := (hLs.1.2.2.2.1 (kl D l) k2).2.1
    rw [a2, ← zI_nI] at f6
    have hS : Sn D l = shi D l - slo D l + 1 := rfl
    refine ⟨c, t, ?_⟩
    have e1 : (1 : Int32) &&& 1 = 1 := by decide
    rw [bk_LA_settle_18]
    simp (disch := first | omega | decide | assumption | simp only [List.length_cons, List.length_nil, Nat.reduceAdd, Nat.reduceLeDiff, bb_at, bb_t1, bb_t2, bb_t3, bb_t4, bb_t5, bb_t6, bb_t7, bb_t8, bb_t9, bb_t10, bb_t11, bb_t12, bb_t13, bb_t14, bb_t15, bb_t16, bs_at, bs_t1, bs_t2, bs_t3, bs_t4, bs_t5, bs_t6, bs_t7, bs_t8, bs_t9, bs_t10, bs_t11, bs_t12, bs_t13, bs_t14, bs_t15, bs_t16, lb_at, lb_t1, lb_t2, lb_t13, lb_t24, lb_t35, lb_t36, lb_t37, lq_at, lq_t1, lq_t2, lq_t13, lq_t24, lq_t35, lq_t36, lq_t37]) only [x_aload_0, x_get_66, x_iload_2, x_bald, x_zald, x_if_eq, x_vret, x_aload_1, x_get_9, x_iald, x_istore_3, x_c_0, x_istore_4, x_get_4, x_iload_3, x_istore_5, x_iload_5, x_get_5, x_ic_gt, x_get_12, x_istore_6, x_iload_6, x_get_13, x_iload_4, x_c_110, x_ic_ge, x_get_10, x_get_11, xc_LA_release, x_get_67, x_aald, x_aaldJ, x_get_64, x_iast, x_get_68, x_get_65, x_iinc_4_1, x_iinc_6_1, x_goto, x_iinc_5_1, x_c_1, x_bast, x_zast, tg_LA_settle_6, tg_LA_settle_18, tg_LA_settle_29, tg_LA_settle_68, tg_LA_settle_70, tg_LA_settle_72, bk_LA_settle_0, bk_LA_settle_6, bk_LA_settle_68, bk_LA_settle_70, bk_LA_settle_72, kil_int, kil_ref, kil_null, kil_long, kil_rA, psh_int, psh_long, psh_null, gI_gS, gL_gS, gR_gS, sI_gS, sL_gS, orf_some, Option.bind_some, List.length_cons, List.length_nil, Nat.reduceAdd, Nat.reduceLeDiff, if_true, if_false, Nat.zero_le, bb_r0, bb_r2, bb_r4, bb_r5, bb_r6, bb_r7, bb_r9, bb_r10, bb_r11, bb_r12, bb_r13, bb_w1, bb_w2, bb_w5, bb_w6, bb_w7, bs_r0, bs_r2, bs_r4, bs_r5, bs_r6, bs_r7, bs_r9, bs_r10, bs_r11, bs_r12, bs_r13, bs_w1, bs_w2, bs_w5, bs_w6, bs_w7, lb_r1, lb_r2, lb_r3, lb_r4, lb_r5, lb_r6, lb_r7, lq_r1, lq_r2, lq_r3, lq_r4, lq_r5, lq_r6, lq_r7, bb_l1, bb_l3, bb_l4, bb_l5, bb_l6, bb_l7, bb_l8, bb_l9, bb_l10, bb_l11, bb_l12, bb_l13, bb_l14, bb_l15, bb_l16, bs_l1, bs_l3, bs_l4, bs_l5, bs_l6, bs_l7, bs_l8, bs_l9, bs_l10, bs_l11, bs_l12, bs_l13, bs_l14, bs_l15, bs_l16, lb_l1, lb_l2, lb_l13, lb_l24, lb_l35, lb_l36, lb_l37, lq_l1, lq_l2, lq_l13, lq_l24, lq_l35, lq_l36, lq_l37, at_3, at_4, al_4, rw_3_2, nI_ltI, nI_leI, nI_eq, nI_ltL, nI_leL, L_ltI, L_leI, nI_eqL, L_eqI, oob_nI, ix_nI, oob_L, ix_L, nI_1, nI_add, nI_z, z_nI, nI_lt0, nI_ge0, nI_gt0, nI_le0, ne_eq, Nat.le_zero_eq, Nat.not_lt_zero, Nat.lt_irrefl, Nat.le_refl, i10, true_or, ne_eq, not_true_eq_false, not_false_eq_true, Bool.false_eq_true, true_and, and_true, and_self, if_true, if_false, or_true, false_or, or_false, or_self, false_and, and_false, Nat.one_ne_zero, n01, Nat.reduceEqDiff, f6, if_pos (show shi D l < slo D l + Sn D l by omega), e1]
    rfl
  | d + 1, i, c, t, z6, e => by
    obtain ⟨⟨k1, k2⟩, ⟨a1, a2, a3, a4⟩, ⟨b1, b2, b3, b4, b5⟩, -⟩ := lfa hL.2.2 hl
    have hl8 : l < 8 := by have := hL.2.2.1.2.2.2.2.2; omega
    have hk6 : kl D l < 6 := by have := hL.2.2.1.2.2.2.2.1; omega
    have hLs := lay_swn hL hl8 (i * Hn D l) c t
    have f6 := (hLs.1.2.2.2.1 (kl D l) k2).2.1
    rw [a2, ← zI_nI] at f6
    have f12 := (hLs.1.2.2.2.2 l hl).2.2.2.1
    rw [b1, ← zI_nI] at f12
    have hS : Sn D l = shi D l - slo D l + 1 := rfl
    obtain ⟨c1, t1, h2⟩ := l_settle2 I J q X hL (i := i) hl (by omega) (Hn D l) 0 c t (by omega)
    obtain ⟨c', t', ih⟩ := l_settle1 I J q X hL hl d (i + 1) c1 t1 (.int (nI (hfi D l + Hn D l))) (by omega)
    refine ⟨c', t', ?_⟩
    rw [Nat.add_zero, Nat.add_zero] at h2
    rw [← ih]
    have st : gb_ex 14 bk_LA_settle_18 [.ref (3 : Nat), .ref (gb_bb q), .int (nI l), .int (nI (kl D l)), .int (nI (i * Hn D l)), .int (nI (slo D l + i)), z6] [] gb_pG (gS (ld (swn I N D l (i * Hn D l)) c t) J q X) = gb_ex 14 bk_LA_settle_29 [.ref (3 : Nat), .ref (gb_bb q), .int (nI l), .int (nI (kl D l)), .int (nI (i * Hn D l)), .int (nI (slo D l + i)), .int (nI (hfi D l))] [] gb_pG (gS (ld (swn I N D l (i * Hn D l)) c t) J q X) := by
      rw [bk_LA_settle_18]
      simp (disch := first | omega | decide | assumption | simp only [List.length_cons, List.length_nil, Nat.reduceAdd, Nat.reduceLeDiff, bb_at, bb_t1, bb_t2, bb_t3, bb_t4, bb_t5, bb_t6, bb_t7, bb_t8, bb_t9, bb_t10, bb_t11, bb_t12, bb_t13, bb_t14, bb_t15, bb_t16, bs_at, bs_t1, bs_t2, bs_t3, bs_t4, bs_t5, bs_t6, bs_t7, bs_t8, bs_t9, bs_t10, bs_t11, bs_t12, bs_t13, bs_t14, bs_t15, bs_t16, lb_at, lb_t1, lb_t2, lb_t13, lb_t24, lb_t35, lb_t36, lb_t37, lq_at, lq_t1, lq_t2, lq_t13, lq_t24, lq_t35, lq_t36, lq_t37]) only [x_aload_0, x_get_66, x_iload_2, x_bald, x_zald, x_if_eq, x_vret, x_aload_1, x_get_9, x_iald, x_istore_3, x_c_0, x_istore_4, x_get_4, x_iload_3, x_istore_5, x_iload_5, x_get_5, x_ic_gt, x_get_12, x_istore_6, x_iload_6, x_get_13, x_iload_4, x_c_110, x_ic_ge, x_get_10, x_get_11, xc_LA_release, x_get_67, x_aald, x_aaldJ, x_get_64, x_iast, x_get_68, x_get_65, x_iinc_4_1, x_iinc_6_1, x_goto, x_iinc_5_1, x_c_1, x_bast, x_zast, tg_LA_settle_6, tg_LA_settle_18, tg_LA_settle_29, tg_LA_settle_68, tg_LA_settle_70, tg_LA_settle_72, bk_LA_settle_0, bk_LA_settle_6, bk_LA_settle_68, bk_LA_settle_70, bk_LA_settle_72, kil_int, kil_ref, kil_null, kil_long, kil_rA, psh_int, psh_long, psh_null, gI_gS, gL_gS, gR_gS, sI_gS, sL_gS, orf_some, Option.bind_some, List.length_cons, List.length_nil, Nat.reduceAdd, Nat.reduceLeDiff, if_true, if_false, Nat.zero_le, bb_r0, bb_r2, bb_r4, bb_r5, bb_r6, bb_r7, bb_r9, bb_r10, bb_r11, bb_r12, bb_r13, bb_w1, bb_w2, bb_w5, bb_w6, bb_w7, bs_r0, bs_r2, bs_r4, bs_r5, bs_r6, bs_r7, bs_r9, bs_r10, bs_r11, bs_r12, bs_r13, bs_w1, bs_w2, bs_w5, bs_w6, bs_w7, lb_r1, lb_r2, lb_r3, lb_r4, lb_r5, lb_r6, lb_r7, lq_r1, lq_r2, lq_r3, lq_r4, lq_r5, lq_r6, lq_r7, bb_l1, bb_l3, bb_l4, bb_l5, bb_l6, bb_l7, bb_l8, bb_l9, bb_l10, bb_l11, bb_l12, bb_l13, bb_l14, bb_l15, bb_l16, bs_l1, bs_l3, bs_l4, bs_l5, bs_l6, bs_l7, bs_l8, bs_l9, bs_l10, bs_l11, bs_l12, bs_l13, bs_l14, bs_l15, bs_l16, lb_l1, lb_l2, lb_l13, lb_l24, lb_l35, lb_l36, lb_l37, lq_l1, lq_l2, lq_l13, lq_l24, lq_l35, lq_l36, lq_l37, nI_ltI, nI_leI, nI_eq, nI_ltL, nI_leL, L_ltI, L_leI, nI_eqL, L_eqI, oob_nI, ix_nI, oob_L, ix_L, nI_1, nI_add, nI_z, z_nI, nI_lt0, nI_ge0, nI_gt0, nI_le0, ne_eq, Nat.le_zero_eq, Nat.not_lt_zero, Nat.lt_irrefl, Nat.le_refl, i10, true_or, ne_eq, not_true_eq_false, not_false_eq_true, Bool.false_eq_true, true_and, and_true, and_self, if_true, if_false, or_true, false_or, or_false, or_self, false_and, and_false, Nat.one_ne_zero, n01, Nat.reduceEqDiff, f6, f12, if_neg (show ¬ shi D l < slo D l + i by omega)]
    rw [st, h2, bk_LA_settle_70]
    simp (disch := first | omega | decide | assumption | simp only [List.length_cons, List.length_nil, Nat.reduceAdd, Nat.reduceLeDiff, bb_at, bb_t1, bb_t2, bb_t3, bb_t4, bb_t5, bb_t6, bb_t7, bb_t8, bb_t9, bb_t10, bb_t11, bb_t12, bb_t13, bb_t14, bb_t15, bb_t16, bs_at, bs_t1, bs_t2, bs_t3, bs_t4, bs_t5, bs_t6, bs_t7, bs_t8, bs_t9, bs_t10, bs_t11, bs_t12, bs_t13, bs_t14, bs_t15, bs_t16, lb_at, lb_t1, lb_t2, lb_t13, lb_t24, lb_t35, lb_t36, lb_t37, lq_at, lq_t1, lq_t2, lq_t13, lq_t24, lq_t35, lq_t36, lq_t37]) only [x_aload_0, x_get_66, x_iload_2, x_bald, x_zald, x_if_eq, x_vret, x_aload_1, x_get_9, x_iald, x_istore_3, x_c_0, x_istore_4, x_get_4, x_iload_3, x_istore_5, x_iload_5, x_get_5, x_ic_gt, x_get_12, x_istore_6, x_iload_6, x_get_13, x_iload_4, x_c_110, x_ic_ge, x_get_10, x_get_11, xc_LA_release, x_get_67, x_aald, x_aaldJ, x_get_64, x_iast, x_get_68, x_get_65, x_iinc_4_1, x_iinc_6_1, x_goto, x_iinc_5_1, x_c_1, x_bast, x_zast, tg_LA_settle_6, tg_LA_settle_18, tg_LA_settle_29, tg_LA_settle_68, tg_LA_settle_70, tg_LA_settle_72, bk_LA_settle_0, bk_LA_settle_6, bk_LA_settle_29, bk_LA_settle_68, bk_LA_settle_70, bk_LA_settle_72, kil_int, kil_ref, kil_null, kil_long, kil_rA, psh_int, psh_long, psh_null, gI_gS, gL_gS, gR_gS, sI_gS, sL_gS, orf_some, Option.bind_some, List.length_cons, List.length_nil, Nat.reduceAdd, Nat.reduceLeDiff, if_true, if_false, Nat.zero_le, nI_ltI, nI_leI, nI_eq, nI_ltL, nI_leL, L_ltI, L_leI, nI_eqL, L_eqI, oob_nI, ix_nI, oob_L, ix_L, nI_1, nI_add, nI_z, z_nI, nI_lt0, nI_ge0, nI_gt0, nI_le0, ne_eq, Nat.le_zero_eq, Nat.not_lt_zero, Nat.lt_irrefl, Nat.le_refl, i10, true_or, ne_eq, not_true_eq_false, not_false_eq_true, Bool.false_eq_true, true_and, and_true, and_self, if_true, if_false, or_true, false_or, or_false, or_self, false_and, and_false, Nat.one_ne_zero, n01, Nat.reduceEqDiff]
    rfl
/-- of each loss: not drifted yet, or all its worlds -/
def kn (I : Nat → Nat → Int32) (N : Nat → Nat) (D : Nat → Nat → Int) : Prop := ∀ l, l < N 4 → I 4 l = 0 ∨ (I 4 l = 1 ∧ ∀ w, w < Wn D l → I (6 + l) w = rC (wo N D l w) ∧ I (15 + l) w = rT (wo N D l w))
theorem s_settle (I : Nat → Nat → Int32) (J : Nat → Nat → Int64) (q : Bool × Bool) (X : Nat × (Nat → Int32)) {N : Nat → Nat} {D : Nat → Nat → Int} (hL : lay I q N D) (hk : kn I N D) {l : Nat} (hl : l < N 4) : ∃ I', gb_call 14 [.ref (3 : Nat), .ref (gb_bb q), .int (nI l)] gb_pG (gS I J q X) = some (.null, gb_pG, gS I' J q X) ∧ kn I' N D ∧ (∀ w, w < Wn D l → I' (6 + l) w = rC (wo N D l w) ∧ I' (15 + l) w = rT (wo N D l w)) ∧ ∀ a, ¬ (3 ≤ a ∧ a ≤ 22) → I' a = I a := by
  have hl8 : l < 8 := by have := hL.2.2.1.2.2.2.2.2; omega
  obtain ⟨⟨k1, k2⟩, ⟨a1, a2, a3, a4⟩, ⟨b1, b2, b3, b4, b5⟩, -⟩ := lfa hL.2.2 hl
  have hk6 : kl D l < 6 := by have := hL.2.2.1.2.2.2.2.1; omega
  rw [cl_LA_settle]
  rcases hk l hl with h0 | ⟨h1, h2⟩
  · obtain ⟨c', t', run⟩ := l_settle1 I J q X hL hl (Sn D l) 0 (I 3 0) (I 3 1) .null (by omega)
    have f9 := (hL.1.2.2.2.2 l hl).1
    rw [k1, ← zI_nI] at f9
    have f5 := (hL.1.2.2.2.1 (kl D l) k2).1
    rw [a1, ← zI_nI] at f5
    have e0 : swn I N D l (0 * Hn D l) = I := by rw [Nat.zero_mul]; rfl
    rw [e0, ld_id, Nat.zero_mul, Nat.add_zero] at run
    obtain ⟨I', e'⟩ : ∃ I', I' = up (ld (swn I N D l (Wn D l)) c' t') 4 l 1 := ⟨_, rfl⟩
    rw [← e'] at run
    have g4 : ∀ j, I' 4 j = if j = l then 1 else I 4 j := fun j => by
      rw [e', up_same, ld_n (by omega), swn_n (by omega) (by omega)]; rfl
    have gv : ∀ w, w < Wn D l → I' (6 + l) w = rC (wo N D l w) ∧ I' (15 + l) w = rT (wo N D l w) := fun w hw => by
      rw [e', up_ne (by omega), up_ne (by omega), ld_n (by omega), ld_n (by omega)]
      exact swn_v _ w hw
    have gf : ∀ a, a ≠ 3 → a ≠ 4 → a ≠ 6 + l → a ≠ 15 + l → I' a = I a := fun a x1 x2 x3 x4 => by rw [e', up_ne x2, ld_n x1, swn_n x3 x4]
    refine ⟨I', ?_, fun l' hl' => ?_, gv, fun a ha => gf a (by omega) (by omega) (by omega) (by omega)⟩
    · rw [← run]
      simp (disch := first | omega | decide | assumption | simp only [List.length_cons, List.length_nil, Nat.reduceAdd, Nat.reduceLeDiff, bb_at, bb_t1, bb_t2, bb_t3, bb_t4, bb_t5, bb_t6, bb_t7, bb_t8, bb_t9, bb_t10, bb_t11, bb_t12, bb_t13, bb_t14, bb_t15, bb_t16, bs_at, bs_t1, bs_t2, bs_t3, bs_t4, bs_t5, bs_t6, bs_t7, bs_t8, bs_t9, bs_t10, bs_t11, bs_t12, bs_t13, bs_t14, bs_t15, bs_t16, lb_at, lb_t1, lb_t2, lb_t13, lb_t24, lb_t35, lb_t36, lb_t37, lq_at, lq_t1, lq_t2, lq_t13, lq_t24, lq_t35, lq_t36, lq_t37]) only [x_aload_0, x_get_66, x_iload_2, x_bald, x_zald, x_if_eq, x_vret, x_aload_1, x_get_9, x_iald, x_istore_3, x_c_0, x_istore_4, x_get_4, x_iload_3, x_istore_5, x_iload_5, x_get_5, x_ic_gt, x_get_12, x_istore_6, x_iload_6, x_get_13, x_iload_4, x_c_110, x_ic_ge, x_get_10, x_get_11, xc_LA_release, x_get_67, x_aald, x_aaldJ, x_get_64, x_iast, x_get_68, x_get_65, x_iinc_4_1, x_iinc_6_1, x_goto, x_iinc_5_1, x_c_1, x_bast, x_zast, tg_LA_settle_6, tg_LA_settle_18, tg_LA_settle_29, tg_LA_settle_68, tg_LA_settle_70, tg_LA_settle_72, bk_LA_settle_0, bk_LA_settle_6, bk_LA_settle_29, bk_LA_settle_68, bk_LA_settle_70, bk_LA_settle_72, kil_int, kil_ref, kil_null, kil_long, kil_rA, psh_int, psh_long, psh_null, gI_gS, gL_gS, gR_gS, sI_gS, sL_gS, orf_some, Option.bind_some, List.length_cons, List.length_nil, Nat.reduceAdd, Nat.reduceLeDiff, if_true, if_false, Nat.zero_le, bb_r0, bb_r2, bb_r4, bb_r5, bb_r6, bb_r7, bb_r9, bb_r10, bb_r11, bb_r12, bb_r13, bb_w1, bb_w2, bb_w5, bb_w6, bb_w7, bs_r0, bs_r2, bs_r4, bs_r5, bs_r6, bs_r7, bs_r9, bs_r10, bs_r11, bs_r12, bs_r13, bs_w1, bs_w2, bs_w5, bs_w6, bs_w7, lb_r1, lb_r2, lb_r3, lb_r4, lb_r5, lb_r6, lb_r7, lq_r1, lq_r2, lq_r3, lq_r4, lq_r5, lq_r6, lq_r7, bb_l1, bb_l3, bb_l4, bb_l5, bb_l6, bb_l7, bb_l8, bb_l9, bb_l10, bb_l11, bb_l12, bb_l13, bb_l14, bb_l15, bb_l16, bs_l1, bs_l3, bs_l4, bs_l5, bs_l6, bs_l7, bs_l8, bs_l9, bs_l10, bs_l11, bs_l12, bs_l13, bs_l14, bs_l15, bs_l16, lb_l1, lb_l2, lb_l13, lb_l24, lb_l35, lb_l36, lb_l37, lq_l1, lq_l2, lq_l13, lq_l24, lq_l35, lq_l36, lq_l37, at_3, at_4, al_4, rw_3_2, nI_ltI, nI_leI, nI_eq, nI_ltL, nI_leL, L_ltI, L_leI, nI_eqL, L_eqI, oob_nI, ix_nI, oob_L, ix_L, nI_1, nI_add, nI_z, z_nI, nI_lt0, nI_ge0, nI_gt0, nI_le0, ne_eq, Nat.le_zero_eq, Nat.not_lt_zero, Nat.lt_irrefl, Nat.le_refl, i10, true_or, ne_eq, not_true_eq_false, not_false_eq_true, Bool.false_eq_true, true_and, and_true, and_self, if_true, if_false, or_true, false_or, or_false, or_self, false_and, and_false, Nat.one_ne_zero, n01, Nat.reduceEqDiff, h0, f9, f5]
      rfl
    · have hl8' : l' < 8 := by have := hL.2.2.1.2.2.2.2.2; omega
      by_cases el : l' = l
      · subst el
        exact Or.inr ⟨by rw [g4, if_pos rfl], gv⟩
      · rw [g4, if_neg el, gf (6 + l') (by omega) (by omega) (by omega) (by omega), gf (15 + l') (by omega) (by omega) (by omega) (by omega)]
        exact hk l' hl'
  · refine ⟨I, ?_, hk, h2, fun _ _ => rfl⟩
    simp (disch := first | omega | decide | assumption | simp only [List.length_cons, List.length_nil, Nat.reduceAdd, Nat.reduceLeDiff, bb_at, bb_t1, bb_t2, bb_t3, bb_t4, bb_t5, bb_t6, bb_t7, bb_t8, bb_t9, bb_t10, bb_t11, bb_t12, bb_t13, bb_t14, bb_t15, bb_t16, bs_at, bs_t1, bs_t2, bs_t3, bs_t4, bs_t5, bs_t6, bs_t7, bs_t8, bs_t9, bs_t10, bs_t11, bs_t12, bs_t13, bs_t14, bs_t15, bs_t16, lb_at, lb_t1, lb_t2, lb_t13, lb_t24, lb_t35, lb_t36, lb_t37, lq_at, lq_t1, lq_t2, lq_t13, lq_t24, lq_t35, lq_t36, lq_t37]) only [x_aload_0, x_get_66, x_iload_2, x_bald, x_zald, x_if_eq, x_vret, x_aload_1, x_get_9, x_iald, x_istore_3, x_c_0, x_istore_4, x_get_4, x_iload_3, x_istore_5, x_iload_5, x_get_5, x_ic_gt, x_get_12, x_istore_6, x_iload_6, x_get_13, x_iload_4, x_c_110, x_ic_ge, x_get_10, x_get_11, xc_LA_release, x_get_67, x_aald, x_aaldJ, x_get_64, x_iast, x_get_68, x_get_65, x_iinc_4_1, x_iinc_6_1, x_goto, x_iinc_5_1, x_c_1, x_bast, x_zast, tg_LA_settle_6, tg_LA_settle_18, tg_LA_settle_29, tg_LA_settle_68, tg_LA_settle_70, tg_LA_settle_72, bk_LA_settle_0, bk_LA_settle_6, bk_LA_settle_29, bk_LA_settle_68, bk_LA_settle_70, bk_LA_settle_72, kil_int, kil_ref, kil_null, kil_long, kil_rA, psh_int, psh_long, psh_null, gI_gS, gL_gS, gR_gS, sI_gS, sL_gS, orf_some, Option.bind_some, List.length_cons, List.length_nil, Nat.reduceAdd, Nat.reduceLeDiff, if_true, if_false, Nat.zero_le, bb_r0, bb_r2, bb_r4, bb_r5, bb_r6, bb_r7, bb_r9, bb_r10, bb_r11, bb_r12, bb_r13, bb_w1, bb_w2, bb_w5, bb_w6, bb_w7, bs_r0, bs_r2, bs_r4, bs_r5, bs_r6, bs_r7, bs_r9, bs_r10, bs_r11, bs_r12, bs_r13, bs_w1, bs_w2, bs_w5, bs_w6, bs_w7, lb_r1, lb_r2, lb_r3, lb_r4, lb_r5, lb_r6, lb_r7, lq_r1, lq_r2, lq_r3, lq_r4, lq_r5, lq_r6, lq_r7, bb_l1, bb_l3, bb_l4, bb_l5, bb_l6, bb_l7, bb_l8, bb_l9, bb_l10, bb_l11, bb_l12, bb_l13, bb_l14, bb_l15, bb_l16, bs_l1, bs_l3, bs_l4, bs_l5, bs_l6, bs_l7, bs_l8, bs_l9, bs_l10, bs_l11, bs_l12, bs_l13, bs_l14, bs_l15, bs_l16, lb_l1, lb_l2, lb_l13, lb_l24, lb_l35, lb_l36, lb_l37, lq_l1, lq_l2, lq_l13, lq_l24, lq_l35, lq_l36, lq_l37, at_3, at_4, al_4, rw_3_2, nI_ltI, nI_leI, nI_eq, nI_ltL, nI_leL, L_ltI, L_leI, nI_eqL, L_eqI, oob_nI, ix_nI, oob_L, ix_L, nI_1, nI_add, nI_z, z_nI, nI_lt0, nI_ge0, nI_gt0, nI_le0, ne_eq, Nat.le_zero_eq, Nat.not_lt_zero, Nat.lt_irrefl, Nat.le_refl, i10, true_or, ne_eq, not_true_eq_false, not_false_eq_true, Bool.false_eq_true, true_and, and_true, and_self, if_true, if_false, or_true, false_or, or_false, or_self, false_and, and_false, Nat.one_ne_zero, n01, Nat.reduceEqDiff, h1]
theorem lay_fr {I I' : Nat → Nat → Int32} {q : Bool × Bool} {N : Nat → Nat} {D : Nat → Nat → Int} (h : lay I q N D) (hI : ∀ a, (80 ≤ a ∧ a ≤ 113) ∨ (192 ≤ a ∧ a ≤ 200) → I' a = I a) : lay I' q N D := by
  have := gb_bb_r q
  exact ⟨cR_fr h.1 (fun a ha => hI a (by omega)), mR_fr h.2.1 (fun a a1 a2 => hI a (by omega)), h.2.2⟩
theorem s_worldsOf (I : Nat → Nat → Int32) (J : Nat → Nat → Int64) (q : Bool × Bool) (X : Nat × (Nat → Int32)) {N : Nat → Nat} {D : Nat → Nat → Int} (hL : lay I q N D) {l : Nat} (hl : l < N 4) : gb_call 2 [.ref (gb_bb q), .int (nI l)] gb_pG (gS I J q X) = some (.int (nI (Wn D l)), gb_pG, gS I J q X) := by
  have hl8 : l < 8 := by have := hL.2.2.1.2.2.2.2.2; omega
  obtain ⟨⟨k1, k2⟩, ⟨a1, a2, a3, a4⟩, ⟨b1, b2, b3, b4, b5⟩, -⟩ := lfa hL.2.2 hl
  have hk6 : kl D l < 6 := by have := hL.2.2.1.2.2.2.2.1; omega
  obtain ⟨f9, -, -, f12, f13⟩ := hL.1.2.2.2.2 l hl
  obtain ⟨f5, f6, -⟩ := hL.1.2.2.2.1 (kl D l) k2
  rw [k1, ← zI_nI] at f9
  rw [a1, ← zI_nI] at f5
  rw [a2, ← zI_nI] at f6
  rw [b1, ← zI_nI] at f12
  rw [b2, ← zI_nI] at f13
  rw [cl_BE_worldsOf]
  simp (disch := first | omega | decide | assumption | simp only [List.length_cons, List.length_nil, Nat.reduceAdd, Nat.reduceLeDiff, bb_at, bb_t1, bb_t2, bb_t3, bb_t4, bb_t5, bb_t6, bb_t7, bb_t8, bb_t9, bb_t10, bb_t11, bb_t12, bb_t13, bb_t14, bb_t15, bb_t16, bs_at, bs_t1, bs_t2, bs_t3, bs_t4, bs_t5, bs_t6, bs_t7, bs_t8, bs_t9, bs_t10, bs_t11, bs_t12, bs_t13, bs_t14, bs_t15, bs_t16, lb_at, lb_t1, lb_t2, lb_t13, lb_t24, lb_t35, lb_t36, lb_t37, lq_at, lq_t1, lq_t2, lq_t13, lq_t24, lq_t35, lq_t36, lq_t37]) only [x_aload_0, x_get_9, x_iload_1, x_iald, x_istore_2, x_get_5, x_iload_2, x_get_4, x_isub, x_c_1, x_iadd, x_get_13, x_get_12, x_imul, x_iret, bk_BE_worldsOf_0, kil_int, kil_ref, kil_null, kil_long, kil_rA, psh_int, psh_long, psh_null, gI_gS, gL_gS, gR_gS, sI_gS, sL_gS, orf_some, Option.bind_some, List.length_cons, List.length_nil, Nat.reduceAdd, Nat.reduceLeDiff, if_true, if_false, Nat.zero_le, bb_r0, bb_r2, bb_r4, bb_r5, bb_r6, bb_r7, bb_r9, bb_r10, bb_r11, bb_r12, bb_r13, bb_w1, bb_w2, bb_w5, bb_w6, bb_w7, bs_r0, bs_r2, bs_r4, bs_r5, bs_r6, bs_r7, bs_r9, bs_r10, bs_r11, bs_r12, bs_r13, bs_w1, bs_w2, bs_w5, bs_w6, bs_w7, lb_r1, lb_r2, lb_r3, lb_r4, lb_r5, lb_r6, lb_r7, lq_r1, lq_r2, lq_r3, lq_r4, lq_r5, lq_r6, lq_r7, bb_l1, bb_l3, bb_l4, bb_l5, bb_l6, bb_l7, bb_l8, bb_l9, bb_l10, bb_l11, bb_l12, bb_l13, bb_l14, bb_l15, bb_l16, bs_l1, bs_l3, bs_l4, bs_l5, bs_l6, bs_l7, bs_l8, bs_l9, bs_l10, bs_l11, bs_l12, bs_l13, bs_l14, bs_l15, bs_l16, lb_l1, lb_l2, lb_l13, lb_l24, lb_l35, lb_l36, lb_l37, lq_l1, lq_l2, lq_l13, lq_l24, lq_l35, lq_l36, lq_l37, oob_nI, ix_nI, i10, true_or, ne_eq, not_true_eq_false, not_false_eq_true, Bool.false_eq_true, true_and, and_true, and_self, if_true, if_false, or_true, false_or, or_false, or_self, false_and, and_false, Nat.one_ne_zero, n01, Nat.reduceEqDiff, f9, f5, f6, f12, f13, pk_sub, nI_1, pk_mul]
  rfl
