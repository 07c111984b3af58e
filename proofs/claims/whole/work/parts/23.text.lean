/-! the text -/
def byC (v : Int64) (k : Nat) : Int32 := (v.toUInt64 >>> (((8 : Int32) * nI k).toInt64.toUInt64 &&& Int64.toUInt64 63)).toInt64.toInt32.toInt8.toInt32
def byR (v : Int64) (k : Nat) : Int32 := (v >>> (((8 : Int32) * nI k).toInt64 &&& 63)).toInt32.toInt8.toInt32
theorem by_bv (x : BitVec 64) {n : Nat} (h : n ≤ 56) : ((x >>> n).signExtend 32).signExtend 8 = ((x.sshiftRight n).signExtend 32).signExtend 8 := by
  apply BitVec.eq_of_getLsbD_eq
  intro i hi
  rw [BitVec.getLsbD_signExtend, BitVec.getLsbD_signExtend, BitVec.getLsbD_signExtend, BitVec.getLsbD_signExtend, BitVec.getLsbD_ushiftRight, BitVec.getLsbD_sshiftRight]
  rw [if_pos (show i < 32 by omega), if_pos (show i < 64 by omega), if_pos (show i < 32 by omega), if_pos (show i < 64 by omega), if_pos (show n + i < 64 by omega)]
  simp only [decide_eq_true (show i < 8 from hi), decide_eq_true (show i < 32 by omega), decide_eq_false (show ¬ 64 ≤ i by omega)]
  simp
theorem by_eq {k : Nat} (h : k < 8) (v : Int64) : byC v k = byR v k := by
  unfold byC byR
  congr 1
  apply Int8.toBitVec_inj.mp
  have hk : k = 0 ∨ k = 1 ∨ k = 2 ∨ k = 3 ∨ k = 4 ∨ k = 5 ∨ k = 6 ∨ k = 7 := by omega
  have e := by_bv v.toBitVec (n := 8 * k) (by omega)
  rcases hk with rfl | rfl | rfl | rfl | rfl | rfl | rfl | rfl <;> exact e
def dn : Nat → Int32
  | 0 => -1
  | d + 1 => nI d
theorem dn_sub (n : Nat) : nI n - 1 = dn n := by
  cases n with
  | zero => decide
  | succ n => exact nI_pred n
theorem dn_add (n : Nat) : nI n + -1 = dn n := by
  cases n with
  | zero => decide
  | succ n => exact pk_m1 n
theorem dn_lt0 : dn 0 < 0 := by decide
def txt (I : Nat → Nat → Int32) (L : Nat) : Prop := L ≤ 400 ∧ I 1 1 = nI L ∧ I 190 0 = nI L ∧ ∀ j, j < L → I 2 j = I 191 j ∧ ∃ x : Int8, I 2 j = x.toInt32
theorem l_SC_append (J : Nat → Nat → Int64) (q : Bool × Bool) (X : Nat × (Nat → Int32)) (n : Int32) (v : Int64) : ∀ d I L, d ≤ 8 → I 1 1 = nI L → L + d ≤ 400 → ∃ I', gb_ex 37 bk_SC_append_4 [.ref (1 : Nat), .int n, .long v, .null, .int (dn d)] [] gb_pG (gS I J q X) = some (.null, gb_pG, gS I' J q X) ∧ I' 1 1 = nI (L + d) ∧ (∀ j, I' 2 j = if L ≤ j ∧ j < L + d then byC v (L + d - 1 - j) else I 2 j) ∧ (∀ k, k ≠ 1 → I' 1 k = I 1 k) ∧ ∀ a, a ≠ 1 → a ≠ 2 → I' a = I a
  | 0, I, L, hd, h1, h2 => by
    refine ⟨I, ?_, h1, fun j => by rw [if_neg (by omega)], fun _ _ => rfl, fun _ _ _ => rfl⟩
    rw [bk_SC_append_4]
    simp only [x_iload_1, x_c_1, x_isub, x_istore_4, x_iload_4, x_if_lt, x_aload_0, x_get_321, x_c_400, x_ic_ge, x_get_320, x_lload_2, x_c_8, x_imul, x_lushr, x_l2i, x_i2b, x_bast, x_zast, x_dup_i, x_dup_r, x_iadd, x_put_321, x_iinc_4_m1, x_goto, x_vret, tg_SC_append_4, tg_SC_append_30, bk_SC_append_0, bk_SC_append_30, kil_int, kil_ref, kil_null, kil_long, kil_rA, psh_int, psh_long, psh_null, gI_gS, gL_gS, gR_gS, sI_gS, sL_gS, orf_some, Option.bind_some, List.length_cons, List.length_nil, Nat.reduceAdd, Nat.reduceLeDiff, if_true, if_false, Nat.zero_le, if_pos dn_lt0]
  | d + 1, I, L, hd, h1, h2 => by
    obtain ⟨I', p1, p2, p3, p4, p5⟩ := l_SC_append J q X n v d (up (up I 2 L (byC v d)) 1 1 (nI (L + 1))) (L + 1) (by omega) (by rw [up_same, upd_same]) (by omega)
    refine ⟨I', ?_, by rw [p2]; congr 1; omega, fun j => ?_, fun k hk => by rw [p4 k hk, up_same, upd_ne hk, up_ne (by omega)], fun a a1 a2 => by rw [p5 a a1 a2, up_ne a1, up_ne a2]⟩
    · rw [bk_SC_append_4, ← p1, dn]
      simp (disch := first | omega | decide | assumption | simp only [List.length_cons, List.length_nil, Nat.reduceAdd, Nat.reduceLeDiff]) only [x_iload_1, x_c_1, x_isub, x_istore_4, x_iload_4, x_if_lt, x_aload_0, x_get_321, x_c_400, x_ic_ge, x_get_320, x_lload_2, x_c_8, x_imul, x_lushr, x_l2i, x_i2b, x_bast, x_zast, x_dup_i, x_dup_r, x_iadd, x_put_321, x_iinc_4_m1, x_goto, x_vret, tg_SC_append_4, tg_SC_append_30, bk_SC_append_0, bk_SC_append_30, kil_int, kil_ref, kil_null, kil_long, kil_rA, psh_int, psh_long, psh_null, gI_gS, gL_gS, gR_gS, sI_gS, sL_gS, orf_some, Option.bind_some, List.length_cons, List.length_nil, Nat.reduceAdd, Nat.reduceLeDiff, if_true, if_false, Nat.zero_le, nI_ltI, nI_leI, nI_eq, nI_ltL, nI_leL, L_ltI, L_leI, nI_eqL, L_eqI, oob_nI, ix_nI, oob_L, ix_L, nI_1, nI_add, nI_z, z_nI, nI_lt0, nI_ge0, nI_gt0, nI_le0, ne_eq, Nat.le_zero_eq, Nat.not_lt_zero, Nat.lt_irrefl, Nat.le_refl, at_1, at_2, al_2, rw_1_0, h1, i10, true_or, ne_eq, not_true_eq_false, not_false_eq_true, Bool.false_eq_true, true_and, and_true, and_self, if_true, if_false, if_neg (show ¬ 400 ≤ L by omega), up_ne, dn_add, byC]
      simp
    · rw [p3 j, up_ne (by omega), up_same]
      by_cases e : j = L
      · subst e
        rw [upd_same, if_neg (by omega), if_pos (by omega), show j + (d + 1) - 1 - j = d by omega]
      · rw [upd_ne e]
        by_cases e2 : L ≤ j ∧ j < L + (d + 1)
        · rw [if_pos e2, if_pos (by omega), show L + 1 + d - 1 - j = L + (d + 1) - 1 - j by omega]
        · rw [if_neg e2, if_neg (by omega)]
theorem l_RM_write (J : Nat → Nat → Int64) (q : Bool × Bool) (X : Nat × (Nat → Int32)) (n : Int32) (v : Int64) : ∀ d I L, d ≤ 8 → I 190 0 = nI L → L + d ≤ 400 → ∃ I', gb_ex 118 bk_RM_write_20 [.ref (190 : Nat), .int n, .long v, .null, .int (dn d)] [] gb_pG (gS I J q X) = some (.int (nI (L + d)), gb_pG, gS I' J q X) ∧ I' 190 0 = nI (L + d) ∧ (∀ j, I' 191 j = if L ≤ j ∧ j < L + d then byR v (L + d - 1 - j) else I 191 j) ∧ (∀ k, k ≠ 0 → I' 190 k = I 190 k) ∧ ∀ a, a ≠ 190 → a ≠ 191 → I' a = I a
  | 0, I, L, hd, h1, h2 => by
    refine ⟨I, ?_, h1, fun j => by rw [if_neg (by omega)], fun _ _ => rfl, fun _ _ _ => rfl⟩
    rw [bk_RM_write_20]
    simp only [x_iload_1, x_i2l, x_l_1, x_l_8, xc_RM_in, x_if_ne, x_c_m1, x_iret, x_aload_0, x_get_640, x_iadd, x_c_400, x_ic_le, x_c_m3, x_c_1, x_isub, x_istore_4, x_iload_4, x_if_lt, x_get_641, x_lload_2, x_c_8, x_imul, x_lshr, x_l2i, x_i2b, x_bast, x_zast, x_dup_i, x_dup_r, x_put_640, x_iinc_4_m1, x_goto, tg_RM_write_8, tg_RM_write_16, tg_RM_write_20, tg_RM_write_42, bk_RM_write_0, bk_RM_write_8, bk_RM_write_16, bk_RM_write_42, kil_int, kil_ref, kil_null, kil_long, kil_rA, psh_int, psh_long, psh_null, gI_gS, gL_gS, gR_gS, sI_gS, sL_gS, orf_some, Option.bind_some, List.length_cons, List.length_nil, Nat.reduceAdd, Nat.reduceLeDiff, if_true, if_false, Nat.zero_le, if_pos dn_lt0, at_190, h1]
    rfl
  | d + 1, I, L, hd, h1, h2 => by
    obtain ⟨I', p1, p2, p3, p4, p5⟩ := l_RM_write J q X n v d (up (up I 191 L (byR v d)) 190 0 (nI (L + 1))) (L + 1) (by omega) (by rw [up_same, upd_same]) (by omega)
    refine ⟨I', ?_, by rw [p2]; congr 1; omega, fun j => ?_, fun k hk => by rw [p4 k hk, up_same, upd_ne hk, up_ne (by omega)], fun a a1 a2 => by rw [p5 a a1 a2, up_ne a1, up_ne a2]⟩
    · rw [show L + (d + 1) = L + 1 + d by omega, bk_RM_write_20, ← p1, dn]
      simp (disch := first | omega | decide | assumption | simp only [List.length_cons, List.length_nil, Nat.reduceAdd, Nat.reduceLeDiff]) only [x_iload_1, x_i2l, x_l_1, x_l_8, xc_RM_in, x_if_ne, x_c_m1, x_iret, x_aload_0, x_get_640, x_iadd, x_c_400, x_ic_le, x_c_m3, x_c_1, x_isub, x_istore_4, x_iload_4, x_if_lt, x_get_641, x_lload_2, x_c_8, x_imul, x_lshr, x_l2i, x_i2b, x_bast, x_zast, x_dup_i, x_dup_r, x_put_640, x_iinc_4_m1, x_goto, tg_RM_write_8, tg_RM_write_16, tg_RM_write_20, tg_RM_write_42, bk_RM_write_0, bk_RM_write_8, bk_RM_write_16, bk_RM_write_42, kil_int, kil_ref, kil_null, kil_long, kil_rA, psh_int, psh_long, psh_null, gI_gS, gL_gS, gR_gS, sI_gS, sL_gS, orf_some, Option.bind_some, List.length_cons, List.length_nil, Nat.reduceAdd, Nat.reduceLeDiff, if_true, if_false, Nat.zero_le, nI_ltI, nI_leI, nI_eq, nI_ltL, nI_leL, L_ltI, L_leI, nI_eqL, L_eqI, oob_nI, ix_nI, oob_L, ix_L, nI_1, nI_add, nI_z, z_nI, nI_lt0, nI_ge0, nI_gt0, nI_le0, ne_eq, Nat.le_zero_eq, Nat.not_lt_zero, Nat.lt_irrefl, Nat.le_refl, at_190, at_191, al_191, rw_190_1, h1, i10, true_or, ne_eq, not_true_eq_false, not_false_eq_true, Bool.false_eq_true, true_and, and_true, and_self, if_true, if_false, up_ne, dn_add, byR]
      simp
    · rw [p3 j, up_ne (by omega), up_same]
      by_cases e : j = L
      · subst e
        rw [upd_same, if_neg (by omega), if_pos (by omega), show j + (d + 1) - 1 - j = d by omega]
      · rw [upd_ne e]
        by_cases e2 : L ≤ j ∧ j < L + (d + 1)
        · rw [if_pos e2, if_pos (by omega), show L + 1 + d - 1 - j = L + (d + 1) - 1 - j by omega]
        · rw [if_neg e2, if_neg (by omega)]
/-- nothing but the text has changed -/
def frT (I I' : Nat → Nat → Int32) : Prop := (∀ k, k ≠ 1 → I' 1 k = I 1 k) ∧ (∀ k, k ≠ 0 → I' 190 k = I 190 k) ∧ ∀ a, a ≠ 1 → a ≠ 2 → a ≠ 190 → a ≠ 191 → I' a = I a
theorem d_write (I : Nat → Nat → Int32) (J : Nat → Nat → Int64) (q : Bool × Bool) (X : Nat × (Nat → Int32)) {L : Nat} (h : txt I L) (n : Int32) (v : Int64) : ∃ r I1 I2 L', gb_call 67 [.ref (0 : Nat), .int n, .long v] gb_pG (gS I J q X) = some (.int r, gb_pG, gS I1 J q X) ∧ gb_call 118 [.ref (190 : Nat), .int n, .long v] gb_pG (gS I1 J q X) = some (.int r, gb_pG, gS I2 J q X) ∧ txt I2 L' ∧ frT I I2 := by
  have h0 := h
  obtain ⟨h1, h2, h3, h4⟩ := h
  rw [cl_GB_write]
  by_cases c1 : 1 ≤ n ∧ n ≤ 8
  · obtain ⟨n', x1, x2, rfl⟩ := nI_rng (by decide) (by decide) c1
    replace x1 : 1 ≤ n' := x1
    replace x2 : n' ≤ 8 := x2
    by_cases c2 : L + n' ≤ 400
    · obtain ⟨I1, p1, p2, p3, p4, p5⟩ := l_SC_append J q X (nI n') v n' I L x2 h2 c2
      obtain ⟨I2, r1, r2, r3, r4, r5⟩ := l_RM_write J q X (nI n') v n' I1 L x2 (by rw [p5 190 (by omega) (by omega)]; exact h3) c2
      have ha : gb_call 37 [.ref (1 : Nat), .int (nI n'), .long v] gb_pG (gS I J q X) = some (.null, gb_pG, gS I1 J q X) := by
        rw [cl_SC_append]
        simp only [x_iload_1, x_c_1, x_isub, x_istore_4, x_iload_4, x_if_lt, x_aload_0, x_get_321, x_c_400, x_ic_ge, x_get_320, x_lload_2, x_c_8, x_imul, x_lushr, x_l2i, x_i2b, x_bast, x_zast, x_dup_i, x_dup_r, x_iadd, x_put_321, x_iinc_4_m1, x_goto, x_vret, tg_SC_append_4, tg_SC_append_30, bk_SC_append_0, bk_SC_append_30, kil_int, kil_ref, kil_null, kil_long, kil_rA, psh_int, psh_long, psh_null, gI_gS, gL_gS, gR_gS, sI_gS, sL_gS, orf_some, Option.bind_some, List.length_cons, List.length_nil, Nat.reduceAdd, Nat.reduceLeDiff, if_true, if_false, Nat.zero_le, dn_sub]
        exact p1
      have h5 : I1 190 0 = nI L := by rw [p5 190 (by omega) (by omega)]; exact h3
      refine ⟨nI (L + n'), I1, I2, L + n', ?_, ?_, ⟨c2, ?_, r2, ?_⟩, ?_, ?_, ?_⟩
      · simp (disch := first | omega | decide | assumption | simp only [List.length_cons, List.length_nil, Nat.reduceAdd, Nat.reduceLeDiff]) only [x_iload_1, x_c_1, x_c_8, xc_GB_within, x_if_ne, x_c_m1, x_iret, x_aload_0, x_get_576, x_get_321, x_iadd, x_c_400, x_ic_le, x_c_m3, x_lload_2, xc_SC_append, tg_GB_write_7, tg_GB_write_16, bk_GB_write_0, bk_GB_write_7, bk_GB_write_16, kil_int, kil_ref, kil_null, kil_long, kil_rA, psh_int, psh_long, psh_null, gI_gS, gL_gS, gR_gS, sI_gS, sL_gS, orf_some, Option.bind_some, List.length_cons, List.length_nil, Nat.reduceAdd, Nat.reduceLeDiff, if_true, if_false, Nat.zero_le, s_GB_within, ite_b2, nI_ltI, nI_leI, nI_eq, nI_ltL, nI_leL, L_ltI, L_leI, nI_eqL, L_eqI, oob_nI, ix_nI, oob_L, ix_L, nI_1, nI_add, nI_z, z_nI, nI_lt0, nI_ge0, nI_gt0, nI_le0, ne_eq, Nat.le_zero_eq, Nat.not_lt_zero, Nat.lt_irrefl, Nat.le_refl, x1, x2, c2, i10, true_or, ne_eq, not_true_eq_false, not_false_eq_true, Bool.false_eq_true, true_and, and_true, and_self, if_true, if_false, at_0, at_1, rw_0_0, h2, ha, psh_null, p2]
      · rw [cl_RM_write]
        simp (disch := first | omega | decide | assumption | simp only [List.length_cons, List.length_nil, Nat.reduceAdd, Nat.reduceLeDiff]) only [x_iload_1, x_i2l, x_l_1, x_l_8, xc_RM_in, x_if_ne, x_c_m1, x_iret, x_aload_0, x_get_640, x_iadd, x_c_400, x_ic_le, x_c_m3, x_c_1, x_isub, x_istore_4, x_iload_4, x_if_lt, x_get_641, x_lload_2, x_c_8, x_imul, x_lshr, x_l2i, x_i2b, x_bast, x_zast, x_dup_i, x_dup_r, x_put_640, x_iinc_4_m1, x_goto, tg_RM_write_8, tg_RM_write_16, tg_RM_write_20, tg_RM_write_42, bk_RM_write_0, bk_RM_write_8, bk_RM_write_16, bk_RM_write_42, kil_int, kil_ref, kil_null, kil_long, kil_rA, psh_int, psh_long, psh_null, gI_gS, gL_gS, gR_gS, sI_gS, sL_gS, orf_some, Option.bind_some, List.length_cons, List.length_nil, Nat.reduceAdd, Nat.reduceLeDiff, if_true, if_false, Nat.zero_le, s_RM_in, ite_b2, w_Lle, w_leL, nI_ltI, nI_leI, nI_eq, nI_ltL, nI_leL, L_ltI, L_leI, nI_eqL, L_eqI, oob_nI, ix_nI, oob_L, ix_L, nI_1, nI_add, nI_z, z_nI, nI_lt0, nI_ge0, nI_gt0, nI_le0, ne_eq, Nat.le_zero_eq, Nat.not_lt_zero, Nat.lt_irrefl, Nat.le_refl, x1, x2, c2, i10, true_or, ne_eq, not_true_eq_false, not_false_eq_true, Bool.false_eq_true, true_and, and_true, and_self, if_true, if_false, at_190, h5, dn_sub]
        exact r1
      · rw [r5 1 (by omega) (by omega)]; exact p2
      · intro j hj
        rw [r5 2 (by omega) (by omega), p3 j, r3 j, p5 191 (by omega) (by omega)]
        by_cases e : L ≤ j ∧ j < L + n'
        · rw [if_pos e, if_pos e]
          exact ⟨by_eq (by omega) v, _, rfl⟩
        · rw [if_neg e, if_neg e]
          exact h4 j (by omega)
      · intro k hk
        rw [r5 1 (by omega) (by omega), p4 k hk]
      · intro k hk
        rw [r4 k hk, p5 190 (by omega) (by omega)]
      · intro a a1 a2 a3 a4
        rw [r5 a a3 a4, p5 a a1 a2]
    · refine ⟨-3, I, I, L, ?_, ?_, h0, fun _ _ => rfl, fun _ _ => rfl, fun _ _ _ _ _ => rfl⟩
      · simp (disch := first | omega | decide | assumption | simp only [List.length_cons, List.length_nil, Nat.reduceAdd, Nat.reduceLeDiff]) only [x_iload_1, x_c_1, x_c_8, xc_GB_within, x_if_ne, x_c_m1, x_iret, x_aload_0, x_get_576, x_get_321, x_iadd, x_c_400, x_ic_le, x_c_m3, x_lload_2, xc_SC_append, tg_GB_write_7, tg_GB_write_16, bk_GB_write_0, bk_GB_write_7, bk_GB_write_16, kil_int, kil_ref, kil_null, kil_long, kil_rA, psh_int, psh_long, psh_null, gI_gS, gL_gS, gR_gS, sI_gS, sL_gS, orf_some, Option.bind_some, List.length_cons, List.length_nil, Nat.reduceAdd, Nat.reduceLeDiff, if_true, if_false, Nat.zero_le, s_GB_within, ite_b2, nI_ltI, nI_leI, nI_eq, nI_ltL, nI_leL, L_ltI, L_leI, nI_eqL, L_eqI, oob_nI, ix_nI, oob_L, ix_L, nI_1, nI_add, nI_z, z_nI, nI_lt0, nI_ge0, nI_gt0, nI_le0, ne_eq, Nat.le_zero_eq, Nat.not_lt_zero, Nat.lt_irrefl, Nat.le_refl, x1, x2, c2, i10, true_or, ne_eq, not_true_eq_false, not_false_eq_true, Bool.false_eq_true, true_and, and_true, and_self, if_true, if_false, at_0, at_1, rw_0_0, h2]
      · rw [cl_RM_write]
        simp (disch := first | omega | decide | assumption | simp only [List.length_cons, List.length_nil, Nat.reduceAdd, Nat.reduceLeDiff]) only [x_iload_1, x_i2l, x_l_1, x_l_8, xc_RM_in, x_if_ne, x_c_m1, x_iret, x_aload_0, x_get_640, x_iadd, x_c_400, x_ic_le, x_c_m3, x_c_1, x_isub, x_istore_4, x_iload_4, x_if_lt, x_get_641, x_lload_2, x_c_8, x_imul, x_lshr, x_l2i, x_i2b, x_bast, x_zast, x_dup_i, x_dup_r, x_put_640, x_iinc_4_m1, x_goto, tg_RM_write_8, tg_RM_write_16, tg_RM_write_20, tg_RM_write_42, bk_RM_write_0, bk_RM_write_8, bk_RM_write_16, bk_RM_write_42, kil_int, kil_ref, kil_null, kil_long, kil_rA, psh_int, psh_long, psh_null, gI_gS, gL_gS, gR_gS, sI_gS, sL_gS, orf_some, Option.bind_some, List.length_cons, List.length_nil, Nat.reduceAdd, Nat.reduceLeDiff, if_true, if_false, Nat.zero_le, s_RM_in, ite_b2, w_Lle, w_leL, nI_ltI, nI_leI, nI_eq, nI_ltL, nI_leL, L_ltI, L_leI, nI_eqL, L_eqI, oob_nI, ix_nI, oob_L, ix_L, nI_1, nI_add, nI_z, z_nI, nI_lt0, nI_ge0, nI_gt0, nI_le0, ne_eq, Nat.le_zero_eq, Nat.not_lt_zero, Nat.lt_irrefl, Nat.le_refl, x1, x2, c2, i10, true_or, ne_eq, not_true_eq_false, not_false_eq_true, Bool.false_eq_true, true_and, and_true, and_self, if_true, if_false, at_190, h3]
  · refine ⟨-1, I, I, L, ?_, ?_, h0, fun _ _ => rfl, fun _ _ => rfl, fun _ _ _ _ _ => rfl⟩
    · simp only [x_iload_1, x_c_1, x_c_8, xc_GB_within, x_if_ne, x_c_m1, x_iret, x_aload_0, x_get_576, x_get_321, x_iadd, x_c_400, x_ic_le, x_c_m3, x_lload_2, xc_SC_append, tg_GB_write_7, tg_GB_write_16, bk_GB_write_0, bk_GB_write_7, bk_GB_write_16, kil_int, kil_ref, kil_null, kil_long, kil_rA, psh_int, psh_long, psh_null, gI_gS, gL_gS, gR_gS, sI_gS, sL_gS, orf_some, Option.bind_some, List.length_cons, List.length_nil, Nat.reduceAdd, Nat.reduceLeDiff, if_true, if_false, Nat.zero_le, s_GB_within, ite_b2, if_neg c1, i10, true_or, ne_eq, not_true_eq_false, not_false_eq_true, Bool.false_eq_true, true_and, and_true, and_self, if_true, if_false]
    · rw [cl_RM_write]
      simp (disch := first | omega | decide | assumption | simp only [List.length_cons, List.length_nil, Nat.reduceAdd, Nat.reduceLeDiff]) only [x_iload_1, x_i2l, x_l_1, x_l_8, xc_RM_in, x_if_ne, x_c_m1, x_iret, x_aload_0, x_get_640, x_iadd, x_c_400, x_ic_le, x_c_m3, x_c_1, x_isub, x_istore_4, x_iload_4, x_if_lt, x_get_641, x_lload_2, x_c_8, x_imul, x_lshr, x_l2i, x_i2b, x_bast, x_zast, x_dup_i, x_dup_r, x_put_640, x_iinc_4_m1, x_goto, tg_RM_write_8, tg_RM_write_16, tg_RM_write_20, tg_RM_write_42, bk_RM_write_0, bk_RM_write_8, bk_RM_write_16, bk_RM_write_42, kil_int, kil_ref, kil_null, kil_long, kil_rA, psh_int, psh_long, psh_null, gI_gS, gL_gS, gR_gS, sI_gS, sL_gS, orf_some, Option.bind_some, List.length_cons, List.length_nil, Nat.reduceAdd, Nat.reduceLeDiff, if_true, if_false, Nat.zero_le, s_RM_in, ite_b2, w_Lle, w_leL, if_neg c1, i10, true_or, ne_eq, not_true_eq_false, not_false_eq_true, Bool.false_eq_true, true_and, and_true, and_self, if_true, if_false]
theorem d_wipe (I : Nat → Nat → Int32) (J : Nat → Nat → Int64) (q : Bool × Bool) (X : Nat × (Nat → Int32)) {L : Nat} (h : txt I L) : ∃ r I1 I2, gb_call 68 [.ref (0 : Nat)] gb_pG (gS I J q X) = some (.int r, gb_pG, gS I1 J q X) ∧ gb_call 119 [.ref (190 : Nat)] gb_pG (gS I1 J q X) = some (.int r, gb_pG, gS I2 J q X) ∧ txt I2 0 ∧ frT I I2 := by
  obtain ⟨h1, h2, h3, h4⟩ := h
  refine ⟨nI L, up I 1 1 0, up (up I 1 1 0) 190 0 0, ?_, ?_, ⟨by omega, ?_, ?_, fun j hj => by omega⟩, fun k hk => ?_, fun k hk => ?_, fun a a1 a2 a3 a4 => ?_⟩
  · rw [cl_GB_wipe]
    simp only [x_aload_0, x_get_576, x_get_321, x_istore_1, x_c_0, x_put_321, x_iload_1, x_iret, bk_GB_wipe_0, kil_int, kil_ref, kil_null, kil_long, kil_rA, psh_int, psh_long, psh_null, gI_gS, gL_gS, gR_gS, sI_gS, sL_gS, orf_some, Option.bind_some, List.length_cons, List.length_nil, Nat.reduceAdd, Nat.reduceLeDiff, if_true, if_false, Nat.zero_le, at_0, at_1, rw_0_0, h2]
  · rw [cl_RM_wipe]
    simp (disch := first | omega | decide | assumption | simp only [List.length_cons, List.length_nil, Nat.reduceAdd, Nat.reduceLeDiff]) only [x_aload_0, x_get_640, x_istore_1, x_c_0, x_put_640, x_iload_1, x_iret, bk_RM_wipe_0, kil_int, kil_ref, kil_null, kil_long, kil_rA, psh_int, psh_long, psh_null, gI_gS, gL_gS, gR_gS, sI_gS, sL_gS, orf_some, Option.bind_some, List.length_cons, List.length_nil, Nat.reduceAdd, Nat.reduceLeDiff, if_true, if_false, Nat.zero_le, at_190, up_ne, h3]
  · rw [up_ne (by omega), up_same, upd_same]; rfl
  · rw [up_same, upd_same]; rfl
  · rw [up_ne (by omega), up_same, upd_ne hk]
  · rw [up_same, upd_ne hk, up_ne (by omega)]
  · rw [up_ne a3, up_ne a1]
