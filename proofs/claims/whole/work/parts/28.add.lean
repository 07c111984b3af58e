theorem nI_aL (a n : Nat) : nI a + (no_index (OfNat.ofNat n) : Int32) = nI (a + n) := by rw [fa_lit, nI_add]
theorem nI_mL (a n : Nat) : (no_index (OfNat.ofNat n) : Int32) * nI a = nI (n * a) := by rw [fa_lit, pk_mul]
def fnd (I : Nat → Nat → Int32) (c : Nat → Nat → Nat) (nk nc : Nat) : Prop := ∀ i, i < c 0 0 → ∃ k x t, k < nk ∧ x < nc ∧ t ≤ 999 ∧ I 24 i = nI k ∧ I 25 i = nI x ∧ I 26 i = nI t
def rpt (I : Nat → Nat → Int32) (c : Nat → Nat → Nat) (nk nc : Nat) : Prop := ∀ i, i < c 1 0 → ∃ x t e k s, x < nc ∧ t ≤ 999 ∧ e ≤ 9 ∧ k < nk ∧ s ≤ 1 ∧ I 27 i = nI x ∧ I 28 i = nI t ∧ I 29 i = nI e ∧ I 30 i = nI k ∧ I 31 i = nI s
def nmb (I : Nat → Nat → Int32) (c : Nat → Nat → Nat) : Prop := (∀ i, i < c 2 0 → ∃ w, 1 ≤ w ∧ w ≤ 9999 ∧ I 32 i = nI w) ∧ ∀ i j, i < j → j < c 2 0 → I 32 i ≠ I 32 j
/-- nothing but finds, reports and numbers has changed -/
def frF (I I' : Nat → Nat → Int32) : Prop := (∀ k, k ≠ 0 → k ≠ 4 → k ≠ 10 → I' 23 k = I 23 k) ∧ ∀ a, ¬ (23 ≤ a ∧ a ≤ 32) → ¬ (206 ≤ a ∧ a ≤ 211) → I' a = I a
def inc (c : Nat → Nat → Nat) (m0 : Nat) : Nat → Nat → Nat := fun m l => if m = m0 ∧ l = 0 then c m 0 + 1 else c m l
theorem inc_le {c : Nat → Nat → Nat} {K m0 : Nat} (m1 : ∀ m l, l ≤ K → c m l ≤ c m 0) : ∀ m l, l ≤ K → inc c m0 m l ≤ inc c m0 m 0 := by
  intro m l hl
  have := m1 m l hl
  unfold inc
  by_cases e : m = m0 <;> by_cases e2 : l = 0 <;> simp [e, e2] <;> (try subst e) <;> omega
theorem inc_mo {c : Nat → Nat → Nat} {K m0 : Nat} (m2 : ∀ m l, 1 ≤ l → l < K → c m l ≤ c m (l + 1)) : ∀ m l, 1 ≤ l → l < K → inc c m0 m l ≤ inc c m0 m (l + 1) := by
  intro m l h1 h2
  unfold inc
  rw [if_neg (by omega), if_neg (by omega)]
  exact m2 m l h1 h2
theorem d_find (I : Nat → Nat → Int32) (J : Nat → Nat → Int64) (q : Bool × Bool) (X : Nat × (Nat → Int32)) {K nc nk nl : Nat} {c : Nat → Nat → Nat} (hz : bsz I q nc nk nl) (h : shr I K c) (hf : fnd I c nk nc) (k x t : Int32) : ∃ r I1 I2 c', gb_call 76 [.ref (0 : Nat), .int k, .int x, .int t] gb_pG (gS I J q X) = some (.int r, gb_pG, gS I1 J q X) ∧ gb_call 141 [.ref (190 : Nat), .int k, .int x, .int t] gb_pG (gS I1 J q X) = some (.int r, gb_pG, gS I2 J q X) ∧ shr I2 K c' ∧ fnd I2 c' nk nc ∧ (∀ m, m ≠ 0 → c' m = c m) ∧ (∀ y, 27 ≤ y → y ≤ 32 → I2 y = I y) ∧ frF I I2 := by
  have h0 := h
  obtain ⟨⟨k1, k2, k3⟩, ⟨n1, n2, n3⟩, hk, hl, ⟨b1, b2, b3⟩, m1, m2, f1, f2, f3⟩ := h
  have s1 := s_GB_isKind I J q X hz k
  have s2 := s_GB_isCell I J q X hz x
  have u1 := s_RM_isKind I J q X hz k
  have u2 := s_RM_isCell I J q X hz x
  have bad : ¬ ((0 ≤ k ∧ k ≤ dn nk) ∧ (0 ≤ x ∧ x ≤ dn nc) ∧ (0 ≤ t ∧ t ≤ 999)) → gb_call 76 [.ref (0 : Nat), .int k, .int x, .int t] gb_pG (gS I J q X) = some (.int (-1), gb_pG, gS I J q X) ∧ gb_call 141 [.ref (190 : Nat), .int k, .int x, .int t] gb_pG (gS I J q X) = some (.int (-1), gb_pG, gS I J q X) := by
    intro hb
    rw [cl_GB_find, cl_RM_find]
    simp (disch := first | omega | decide | assumption | simp only [List.length_cons, List.length_nil, Nat.reduceAdd, Nat.reduceLeDiff, bb_at, bb_t1, bb_t2, bb_t3, bb_t4, bb_t5, bb_t6, bb_t7, bb_t8, bb_t9, bb_t10, bb_t11, bb_t12, bb_t13, bb_t14, bb_t15, bb_t16, bs_at, bs_t1, bs_t2, bs_t3, bs_t4, bs_t5, bs_t6, bs_t7, bs_t8, bs_t9, bs_t10, bs_t11, bs_t12, bs_t13, bs_t14, bs_t15, bs_t16, lb_at, lb_t1, lb_t2, lb_t13, lb_t24, lb_t35, lb_t36, lb_t37, lq_at, lq_t1, lq_t2, lq_t13, lq_t24, lq_t35, lq_t36, lq_t37]) only [x_aload_0, x_iload_1, xc_GB_isKind, x_if_eq, x_iload_2, xc_GB_isCell, x_iload_3, xc_GB_isHour, x_if_ne, x_c_m1, x_iret, x_get_578, x_get_384, x_c_12, x_ic_lt, x_c_m3, xc_SH_addFind, tg_GB_find_11, tg_GB_find_13, tg_GB_find_20, bk_GB_find_0, bk_GB_find_11, bk_GB_find_13, bk_GB_find_20, kil_int, kil_ref, kil_null, kil_long, kil_rA, psh_int, psh_long, psh_null, gI_gS, gL_gS, gR_gS, sI_gS, sL_gS, orf_some, Option.bind_some, List.length_cons, List.length_nil, Nat.reduceAdd, Nat.reduceLeDiff, if_true, if_false, Nat.zero_le, x_aload_0, x_iload_1, xc_RM_isKind, x_if_eq, x_iload_2, xc_RM_isCell, x_iload_3, xc_RM_isHour, x_if_ne, x_c_m1, x_iret, x_get_659, x_c_0, x_iald, x_istore_4, x_iload_4, x_c_12, x_ic_ne, x_c_m3, x_get_660, x_c_3, x_imul, x_iast, x_c_1, x_iadd, x_c_2, x_dup2, tg_RM_find_11, tg_RM_find_13, tg_RM_find_23, bk_RM_find_0, bk_RM_find_11, bk_RM_find_13, bk_RM_find_23, kil_int, kil_ref, kil_null, kil_long, kil_rA, psh_int, psh_long, psh_null, gI_gS, gL_gS, gR_gS, sI_gS, sL_gS, orf_some, Option.bind_some, List.length_cons, List.length_nil, Nat.reduceAdd, Nat.reduceLeDiff, if_true, if_false, Nat.zero_le, s1, s2, u1, u2, s_GB_isHour, s_RM_isHour, ite_b1, ite_b2]
    by_cases c1 : 0 ≤ k ∧ k ≤ dn nk
    · by_cases c2 : 0 ≤ x ∧ x ≤ dn nc
      · have c3 : ¬ (0 ≤ t ∧ t ≤ 999) := fun e => hb ⟨c1, c2, e⟩
        simp only [if_neg (not_not_intro c1), if_neg (not_not_intro c2), if_neg c3, i10, ne_eq, not_true_eq_false, not_false_eq_true, Bool.false_eq_true, true_and, and_true, and_self, if_true, if_false]
      · simp only [if_neg (not_not_intro c1), if_pos c2, i10, ne_eq, not_true_eq_false, not_false_eq_true, Bool.false_eq_true, true_and, and_true, and_self, if_true, if_false]
    · simp only [if_pos c1, i10, ne_eq, not_true_eq_false, not_false_eq_true, Bool.false_eq_true, true_and, and_true, and_self, if_true, if_false]
  by_cases hb : (0 ≤ k ∧ k ≤ dn nk) ∧ (0 ≤ x ∧ x ≤ dn nc) ∧ (0 ≤ t ∧ t ≤ 999)
  · obtain ⟨c1, c2, c3⟩ := hb
    by_cases full : c 0 0 = 12
    · refine ⟨-3, I, I, c, ?_, ?_, h0, hf, fun _ _ => rfl, fun _ _ _ => rfl, fun _ _ _ _ => rfl, fun _ _ _ => rfl⟩
      · rw [cl_GB_find]
        simp (disch := first | omega | decide | assumption | simp only [List.length_cons, List.length_nil, Nat.reduceAdd, Nat.reduceLeDiff, bb_at, bb_t1, bb_t2, bb_t3, bb_t4, bb_t5, bb_t6, bb_t7, bb_t8, bb_t9, bb_t10, bb_t11, bb_t12, bb_t13, bb_t14, bb_t15, bb_t16, bs_at, bs_t1, bs_t2, bs_t3, bs_t4, bs_t5, bs_t6, bs_t7, bs_t8, bs_t9, bs_t10, bs_t11, bs_t12, bs_t13, bs_t14, bs_t15, bs_t16, lb_at, lb_t1, lb_t2, lb_t13, lb_t24, lb_t35, lb_t36, lb_t37, lq_at, lq_t1, lq_t2, lq_t13, lq_t24, lq_t35, lq_t36, lq_t37]) only [x_aload_0, x_iload_1, xc_GB_isKind, x_if_eq, x_iload_2, xc_GB_isCell, x_iload_3, xc_GB_isHour, x_if_ne, x_c_m1, x_iret, x_get_578, x_get_384, x_c_12, x_ic_lt, x_c_m3, xc_SH_addFind, tg_GB_find_11, tg_GB_find_13, tg_GB_find_20, bk_GB_find_0, bk_GB_find_11, bk_GB_find_13, bk_GB_find_20, kil_int, kil_ref, kil_null, kil_long, kil_rA, psh_int, psh_long, psh_null, gI_gS, gL_gS, gR_gS, sI_gS, sL_gS, orf_some, Option.bind_some, List.length_cons, List.length_nil, Nat.reduceAdd, Nat.reduceLeDiff, if_true, if_false, Nat.zero_le, s1, s2, s_GB_isHour, ite_b1, ite_b2, if_neg (not_not_intro c1), if_neg (not_not_intro c2), if_pos c3, at_0, at_23, rw_0_2, n1, full, nI_ltI, nI_leI, nI_eq, nI_ltL, nI_leL, L_ltI, L_leI, nI_eqL, L_eqI, oob_nI, ix_nI, oob_L, ix_L, nI_1, nI_add, nI_z, z_nI, nI_lt0, nI_ge0, nI_gt0, nI_le0, ne_eq, Nat.le_zero_eq, Nat.not_lt_zero, Nat.lt_irrefl, Nat.le_refl, i10, ne_eq, not_true_eq_false, not_false_eq_true, Bool.false_eq_true, true_and, and_true, and_self, if_true, if_false, c1, c2, c3]
      · rw [cl_RM_find]
        simp (disch := first | omega | decide | assumption | simp only [List.length_cons, List.length_nil, Nat.reduceAdd, Nat.reduceLeDiff, bb_at, bb_t1, bb_t2, bb_t3, bb_t4, bb_t5, bb_t6, bb_t7, bb_t8, bb_t9, bb_t10, bb_t11, bb_t12, bb_t13, bb_t14, bb_t15, bb_t16, bs_at, bs_t1, bs_t2, bs_t3, bs_t4, bs_t5, bs_t6, bs_t7, bs_t8, bs_t9, bs_t10, bs_t11, bs_t12, bs_t13, bs_t14, bs_t15, bs_t16, lb_at, lb_t1, lb_t2, lb_t13, lb_t24, lb_t35, lb_t36, lb_t37, lq_at, lq_t1, lq_t2, lq_t13, lq_t24, lq_t35, lq_t36, lq_t37]) only [x_aload_0, x_iload_1, xc_RM_isKind, x_if_eq, x_iload_2, xc_RM_isCell, x_iload_3, xc_RM_isHour, x_if_ne, x_c_m1, x_iret, x_get_659, x_c_0, x_iald, x_istore_4, x_iload_4, x_c_12, x_ic_ne, x_c_m3, x_get_660, x_c_3, x_imul, x_iast, x_c_1, x_iadd, x_c_2, x_dup2, tg_RM_find_11, tg_RM_find_13, tg_RM_find_23, bk_RM_find_0, bk_RM_find_11, bk_RM_find_13, bk_RM_find_23, kil_int, kil_ref, kil_null, kil_long, kil_rA, psh_int, psh_long, psh_null, gI_gS, gL_gS, gR_gS, sI_gS, sL_gS, orf_some, Option.bind_some, List.length_cons, List.length_nil, Nat.reduceAdd, Nat.reduceLeDiff, if_true, if_false, Nat.zero_le, u1, u2, s_RM_isHour, ite_b1, ite_b2, if_neg (not_not_intro c1), if_neg (not_not_intro c2), if_pos c3, at_190, at_206, al_206, rw_190_19, (hl 0 (by omega)).1, full, nI_ltI, nI_leI, nI_eq, nI_ltL, nI_leL, L_ltI, L_leI, nI_eqL, L_eqI, oob_nI, ix_nI, oob_L, ix_L, nI_1, nI_add, nI_z, z_nI, nI_lt0, nI_ge0, nI_gt0, nI_le0, ne_eq, Nat.le_zero_eq, Nat.not_lt_zero, Nat.lt_irrefl, Nat.le_refl, i10, ne_eq, not_true_eq_false, not_false_eq_true, Bool.false_eq_true, true_and, and_true, and_self, if_true, if_false, c1, c2, c3]
    · obtain ⟨n, hn⟩ : ∃ n, n = c 0 0 := ⟨_, rfl⟩
      rw [← hn] at n1 b1 full
      obtain ⟨I1, e1⟩ : ∃ I1, I1 = up (up (up (up I 24 n k) 25 n x) 26 n t) 23 0 (nI (n + 1)) := ⟨_, rfl⟩
      obtain ⟨I2, e2⟩ : ∃ I2, I2 = up (up (up (up I1 207 (3 * n) k) 207 (3 * n + 1) x) 207 (3 * n + 2) t) 206 0 (nI (n + 1)) := ⟨_, rfl⟩
      have hz1 : bsz I1 q nc nk nl := by
        unfold bsz at hz ⊢
        have : gb_bb q = 97 ∨ gb_bb q = 80 := by unfold gb_bb; split <;> simp
        rw [e1]
        simp (disch := first | omega | decide | assumption | simp only [List.length_cons, List.length_nil, Nat.reduceAdd, Nat.reduceLeDiff]) only [up_ne]
        exact hz
      have e3 : (3 : Int32) * nI n = nI (3 * n) := by rw [fa_lit, pk_mul]
      have l0 : I1 206 0 = nI n := by rw [e1]; simp (disch := first | omega | decide | assumption | simp only [List.length_cons, List.length_nil, Nat.reduceAdd, Nat.reduceLeDiff]) only [up_ne]; rw [hn]; exact (hl 0 (by omega)).1
      have q24 : ∀ j, I2 24 j = if j = n then k else I 24 j := fun j => by rw [e2, e1]; simp (disch := first | omega | decide | assumption | simp only [List.length_cons, List.length_nil, Nat.reduceAdd, Nat.reduceLeDiff]) only [up_ne, up_same]; rfl
      have q25 : ∀ j, I2 25 j = if j = n then x else I 25 j := fun j => by rw [e2, e1]; simp (disch := first | omega | decide | assumption | simp only [List.length_cons, List.length_nil, Nat.reduceAdd, Nat.reduceLeDiff]) only [up_ne, up_same]; rfl
      have q26 : ∀ j, I2 26 j = if j = n then t else I 26 j := fun j => by rw [e2, e1]; simp (disch := first | omega | decide | assumption | simp only [List.length_cons, List.length_nil, Nat.reduceAdd, Nat.reduceLeDiff]) only [up_ne, up_same]; rfl
      have q23 : ∀ j, I2 23 j = if j = 0 then nI (n + 1) else I 23 j := fun j => by rw [e2, e1]; simp (disch := first | omega | decide | assumption | simp only [List.length_cons, List.length_nil, Nat.reduceAdd, Nat.reduceLeDiff]) only [up_ne, up_same]; rfl
      have q206 : ∀ j, I2 206 j = if j = 0 then nI (n + 1) else I 206 j := fun j => by rw [e2, e1]; simp (disch := first | omega | decide | assumption | simp only [List.length_cons, List.length_nil, Nat.reduceAdd, Nat.reduceLeDiff]) only [up_ne, up_same]; rfl
      have q207 : ∀ j, I2 207 j = if j = 3 * n + 2 then t else if j = 3 * n + 1 then x else if j = 3 * n then k else I 207 j := fun j => by rw [e2, e1]; simp (disch := first | omega | decide | assumption | simp only [List.length_cons, List.length_nil, Nat.reduceAdd, Nat.reduceLeDiff]) only [up_ne, up_same]; rfl
      have qf : ∀ a, ¬ (23 ≤ a ∧ a ≤ 26) → ¬ (206 ≤ a ∧ a ≤ 207) → I2 a = I a := fun a a1 a2 => by rw [e2, e1]; simp (disch := first | omega | decide | assumption | simp only [List.length_cons, List.length_nil, Nat.reduceAdd, Nat.reduceLeDiff]) only [up_ne]
      refine ⟨nI (n + 1), I1, I2, inc c 0, ?_, ?_, ⟨⟨k1, ?_, ?_⟩, ⟨?_, ?_, ?_⟩, ?_, ?_, ⟨?_, ?_, ?_⟩, inc_le m1, inc_mo m2, ?_, ?_, ?_⟩, ?_, ?_, ?_, ?_, ?_⟩
      · have ha : gb_call 47 [.ref (23 : Nat), .int k, .int x, .int t] gb_pG (gS I J q X) = some (.int (nI (n + 1)), gb_pG, gS I1 J q X) := by
          rw [cl_SH_addFind, e1]
          simp (disch := first | omega | decide | assumption | simp only [List.length_cons, List.length_nil, Nat.reduceAdd, Nat.reduceLeDiff]) only [x_aload_0, x_get_385, x_get_384, x_iload_1, x_iast, x_get_386, x_iload_2, x_get_387, x_iload_3, x_dup_i, x_dup_r, x_c_1, x_iadd, x_put_384, x_iret, bk_SH_addFind_0, kil_int, kil_ref, kil_null, kil_long, kil_rA, psh_int, psh_long, psh_null, gI_gS, gL_gS, gR_gS, sI_gS, sL_gS, orf_some, Option.bind_some, List.length_cons, List.length_nil, Nat.reduceAdd, Nat.reduceLeDiff, if_true, if_false, Nat.zero_le, at_23, at_24, at_25, at_26, al_24, al_25, al_26, rw_23_1, rw_23_2, rw_23_3, n1, nI_ltI, nI_leI, nI_eq, nI_ltL, nI_leL, L_ltI, L_leI, nI_eqL, L_eqI, oob_nI, ix_nI, oob_L, ix_L, nI_1, nI_add, nI_z, z_nI, nI_lt0, nI_ge0, nI_gt0, nI_le0, ne_eq, Nat.le_zero_eq, Nat.not_lt_zero, Nat.lt_irrefl, Nat.le_refl, up_ne, up_same, upd_same, i10, ne_eq, not_true_eq_false, not_false_eq_true, Bool.false_eq_true, true_and, and_true, and_self, if_true, if_false]
        rw [cl_GB_find]
        simp (disch := first | omega | decide | assumption | simp only [List.length_cons, List.length_nil, Nat.reduceAdd, Nat.reduceLeDiff, bb_at, bb_t1, bb_t2, bb_t3, bb_t4, bb_t5, bb_t6, bb_t7, bb_t8, bb_t9, bb_t10, bb_t11, bb_t12, bb_t13, bb_t14, bb_t15, bb_t16, bs_at, bs_t1, bs_t2, bs_t3, bs_t4, bs_t5, bs_t6, bs_t7, bs_t8, bs_t9, bs_t10, bs_t11, bs_t12, bs_t13, bs_t14, bs_t15, bs_t16, lb_at, lb_t1, lb_t2, lb_t13, lb_t24, lb_t35, lb_t36, lb_t37, lq_at, lq_t1, lq_t2, lq_t13, lq_t24, lq_t35, lq_t36, lq_t37]) only [x_aload_0, x_iload_1, xc_GB_isKind, x_if_eq, x_iload_2, xc_GB_isCell, x_iload_3, xc_GB_isHour, x_if_ne, x_c_m1, x_iret, x_get_578, x_get_384, x_c_12, x_ic_lt, x_c_m3, xc_SH_addFind, tg_GB_find_11, tg_GB_find_13, tg_GB_find_20, bk_GB_find_0, bk_GB_find_11, bk_GB_find_13, bk_GB_find_20, kil_int, kil_ref, kil_null, kil_long, kil_rA, psh_int, psh_long, psh_null, gI_gS, gL_gS, gR_gS, sI_gS, sL_gS, orf_some, Option.bind_some, List.length_cons, List.length_nil, Nat.reduceAdd, Nat.reduceLeDiff, if_true, if_false, Nat.zero_le, s1, s2, s_GB_isHour, ite_b1, ite_b2, at_0, at_23, rw_0_2, n1, nI_ltI, nI_leI, nI_eq, nI_ltL, nI_leL, L_ltI, L_leI, nI_eqL, L_eqI, oob_nI, ix_nI, oob_L, ix_L, nI_1, nI_add, nI_z, z_nI, nI_lt0, nI_ge0, nI_gt0, nI_le0, ne_eq, Nat.le_zero_eq, Nat.not_lt_zero, Nat.lt_irrefl, Nat.le_refl, i10, ne_eq, not_true_eq_false, not_false_eq_true, Bool.false_eq_true, true_and, and_true, and_self, if_true, if_false, c1, c2, c3, ha, if_pos (show n < 12 by omega)]
      · have u1' := s_RM_isKind I1 J q X hz1 k
        have u2' := s_RM_isCell I1 J q X hz1 x
        rw [cl_RM_find, e2]
        simp (disch := first | omega | decide | assumption | simp only [List.length_cons, List.length_nil, Nat.reduceAdd, Nat.reduceLeDiff, bb_at, bb_t1, bb_t2, bb_t3, bb_t4, bb_t5, bb_t6, bb_t7, bb_t8, bb_t9, bb_t10, bb_t11, bb_t12, bb_t13, bb_t14, bb_t15, bb_t16, bs_at, bs_t1, bs_t2, bs_t3, bs_t4, bs_t5, bs_t6, bs_t7, bs_t8, bs_t9, bs_t10, bs_t11, bs_t12, bs_t13, bs_t14, bs_t15, bs_t16, lb_at, lb_t1, lb_t2, lb_t13, lb_t24, lb_t35, lb_t36, lb_t37, lq_at, lq_t1, lq_t2, lq_t13, lq_t24, lq_t35, lq_t36, lq_t37]) only [x_aload_0, x_iload_1, xc_RM_isKind, x_if_eq, x_iload_2, xc_RM_isCell, x_iload_3, xc_RM_isHour, x_if_ne, x_c_m1, x_iret, x_get_659, x_c_0, x_iald, x_istore_4, x_iload_4, x_c_12, x_ic_ne, x_c_m3, x_get_660, x_c_3, x_imul, x_iast, x_c_1, x_iadd, x_c_2, x_dup2, tg_RM_find_11, tg_RM_find_13, tg_RM_find_23, bk_RM_find_0, bk_RM_find_11, bk_RM_find_13, bk_RM_find_23, kil_int, kil_ref, kil_null, kil_long, kil_rA, psh_int, psh_long, psh_null, gI_gS, gL_gS, gR_gS, sI_gS, sL_gS, orf_some, Option.bind_some, List.length_cons, List.length_nil, Nat.reduceAdd, Nat.reduceLeDiff, if_true, if_false, Nat.zero_le, u1', u2', s_RM_isHour, ite_b1, ite_b2, at_190, at_206, at_207, al_206, al_207, rw_190_19, rw_190_20, l0, e3, nI_1, nI_aL, nI_ltI, nI_leI, nI_eq, nI_ltL, nI_leL, L_ltI, L_leI, nI_eqL, L_eqI, oob_nI, ix_nI, oob_L, ix_L, nI_1, nI_add, nI_z, z_nI, nI_lt0, nI_ge0, nI_gt0, nI_le0, ne_eq, Nat.le_zero_eq, Nat.not_lt_zero, Nat.lt_irrefl, Nat.le_refl, i10, ne_eq, not_true_eq_false, not_false_eq_true, Bool.false_eq_true, true_and, and_true, and_self, if_true, if_false, c1, c2, c3, full, up_ne, up_same, upd_same]
      · rw [q23, if_neg (by omega)]; exact k2
      · rw [qf 190 (by omega) (by omega)]; exact k3
      · rw [q23, if_pos rfl]; simp [inc, hn]
      · rw [q23, if_neg (by omega)]; simpa [inc] using n2
      · rw [q23, if_neg (by omega)]; simpa [inc] using n3
      · intro j hj
        rw [qf 33 (by omega) (by omega), qf 34 (by omega) (by omega), qf 35 (by omega) (by omega)]
        simpa [inc] using hk j hj
      · intro l hl2
        have := hl l hl2
        rw [q206, qf 208 (by omega) (by omega), qf 210 (by omega) (by omega)]
        by_cases e : l = 0
        · subst e
          simp only [if_true]
          refine ⟨by simp [inc, hn], by simpa [inc] using this.2.1, by simpa [inc] using this.2.2⟩
        · simpa [inc, e] using this
      · simp [inc]; omega
      · simpa [inc] using b2
      · simpa [inc] using b3
      · intro l i hl2 hi
        rw [q207, q207, q207, q24, q25, q26]
        have hm := m1 0 l hl2
        by_cases e : l = 0 ∧ i = n
        · obtain ⟨rfl, rfl⟩ := e
          simp
        · have hi' : i < c 0 l := by
            unfold inc at hi
            by_cases e2 : l = 0
            · subst e2; simp at hi; omega
            · simpa [e2] using hi
          rw [if_neg (by omega), if_neg (by omega), if_neg (by omega), if_neg (by omega), if_neg (by omega), if_neg (by omega), if_neg (by omega), if_neg (by omega), if_neg (by omega), if_neg (by omega), if_neg (by omega), if_neg (by omega)]
          exact f1 l i hl2 hi'
      · intro l i hl2 hi
        rw [qf 209 (by omega) (by omega), qf 27 (by omega) (by omega), qf 28 (by omega) (by omega), qf 29 (by omega) (by omega), qf 30 (by omega) (by omega), qf 31 (by omega) (by omega)]
        exact f2 l i hl2 (by simpa [inc] using hi)
      · intro l i hl2 hi
        rw [qf 211 (by omega) (by omega), qf 32 (by omega) (by omega)]
        exact f3 l i hl2 (by simpa [inc] using hi)
      · intro i hi
        rw [q24, q25, q26]
        by_cases e : i = n
        · obtain ⟨k', a1, a2⟩ := (dn_le (by have := hz.2.2.2.2.2.2.2.1; omega)).mp c1
          obtain ⟨x', a3, a4⟩ := (dn_le hz.2.2.2.2.2.2.1).mp c2
          obtain ⟨t', a5, a6, a7⟩ := nI_rng (by decide) (by decide) c3
          simp only [if_pos e]
          exact ⟨k', x', t', a1, a3, a6, a2, a4, a7⟩
        · simp only [if_neg e]
          refine hf i ?_
          simp [inc] at hi
          omega
      · intro m hm
        funext l
        simp [inc, hm]
      · intro y y1 y2
        exact qf y (by omega) (by omega)
      · intro y y1 y2 y3
        rw [q23, if_neg y1]
      · intro a a1 a2
        exact qf a (by omega) (by omega)
  · obtain ⟨g1, g2⟩ := bad hb
    exact ⟨-1, I, I, c, g1, g2, h0, hf, fun _ _ => rfl, fun _ _ _ => rfl, fun _ _ _ _ => rfl, fun _ _ _ => rfl⟩
theorem d_report (I : Nat → Nat → Int32) (J : Nat → Nat → Int64) (q : Bool × Bool) (X : Nat × (Nat → Int32)) {K nc nk nl : Nat} {c : Nat → Nat → Nat} (hz : bsz I q nc nk nl) (h : shr I K c) (hf : rpt I c nk nc) (x t e k : Int32) {s : Nat} (hs : s ≤ 1) : ∃ r I1 I2 c', gb_call 80 [.ref (0 : Nat), .int x, .int t, .int e, .int k, .int (nI s)] gb_pG (gS I J q X) = some (.int r, gb_pG, gS I1 J q X) ∧ gb_call 146 [.ref (190 : Nat), .int x, .int t, .int e, .int k, .int (nI s)] gb_pG (gS I1 J q X) = some (.int r, gb_pG, gS I2 J q X) ∧ shr I2 K c' ∧ rpt I2 c' nk nc ∧ (∀ m, m ≠ 1 → c' m = c m) ∧ (∀ y, 24 ≤ y → y ≤ 32 → ¬ (27 ≤ y ∧ y ≤ 31) → I2 y = I y) ∧ frF I I2 := by
  have h0 := h
  obtain ⟨⟨k1, k2, k3⟩, ⟨n1, n2, n3⟩, hk, hl, ⟨b1, b2, b3⟩, m1, m2, f1, f2, f3⟩ := h
  have s1 := s_GB_isKind I J q X hz k
  have s2 := s_GB_isCell I J q X hz x
  have u1 := s_RM_isKind I J q X hz k
  have u2 := s_RM_isCell I J q X hz x
  have bad : ¬ ((0 ≤ x ∧ x ≤ dn nc) ∧ (0 ≤ t ∧ t ≤ 999) ∧ (0 ≤ e ∧ e ≤ 9) ∧ (0 ≤ k ∧ k ≤ dn nk)) → gb_call 80 [.ref (0 : Nat), .int x, .int t, .int e, .int k, .int (nI s)] gb_pG (gS I J q X) = some (.int (-1), gb_pG, gS I J q X) ∧ gb_call 146 [.ref (190 : Nat), .int x, .int t, .int e, .int k, .int (nI s)] gb_pG (gS I J q X) = some (.int (-1), gb_pG, gS I J q X) := by
    intro hb
    rw [cl_GB_report, cl_RM_report]
    simp (disch := first | omega | decide | assumption | simp only [List.length_cons, List.length_nil, Nat.reduceAdd, Nat.reduceLeDiff, bb_at, bb_t1, bb_t2, bb_t3, bb_t4, bb_t5, bb_t6, bb_t7, bb_t8, bb_t9, bb_t10, bb_t11, bb_t12, bb_t13, bb_t14, bb_t15, bb_t16, bs_at, bs_t1, bs_t2, bs_t3, bs_t4, bs_t5, bs_t6, bs_t7, bs_t8, bs_t9, bs_t10, bs_t11, bs_t12, bs_t13, bs_t14, bs_t15, bs_t16, lb_at, lb_t1, lb_t2, lb_t13, lb_t24, lb_t35, lb_t36, lb_t37, lq_at, lq_t1, lq_t2, lq_t13, lq_t24, lq_t35, lq_t36, lq_t37]) only [x_aload_0, x_iload_1, xc_GB_isCell, x_if_eq, x_iload_2, xc_GB_isHour, x_iload_3, xc_GB_isEyes, x_iload_4, xc_GB_isKind, x_if_ne, x_c_m1, x_iret, x_get_578, x_get_388, x_c_24, x_ic_lt, x_c_m3, x_iload_5, xc_SH_addReport, tg_GB_report_14, tg_GB_report_16, tg_GB_report_23, bk_GB_report_0, bk_GB_report_14, bk_GB_report_16, bk_GB_report_23, kil_int, kil_ref, kil_null, kil_long, kil_rA, psh_int, psh_long, psh_null, gI_gS, gL_gS, gR_gS, sI_gS, sL_gS, orf_some, Option.bind_some, List.length_cons, List.length_nil, Nat.reduceAdd, Nat.reduceLeDiff, if_true, if_false, Nat.zero_le, x_aload_0, x_iload_1, xc_RM_isCell, x_if_eq, x_iload_2, xc_RM_isHour, x_iload_3, x_i2l, x_l_0, x_l_9, xc_RM_in, x_iload_4, xc_RM_isKind, x_if_ne, x_c_m1, x_iret, x_get_661, x_c_0, x_iald, x_istore_6, x_iload_6, x_c_24, x_ic_ne, x_c_m3, x_get_662, x_c_5, x_imul, x_iast, x_c_1, x_iadd, x_c_2, x_c_3, x_c_4, x_iload_5, x_goto, x_dup2, tg_RM_report_17, tg_RM_report_19, tg_RM_report_29, tg_RM_report_74, tg_RM_report_75, bk_RM_report_0, bk_RM_report_17, bk_RM_report_19, bk_RM_report_29, bk_RM_report_74, bk_RM_report_75, kil_int, kil_ref, kil_null, kil_long, kil_rA, psh_int, psh_long, psh_null, gI_gS, gL_gS, gR_gS, sI_gS, sL_gS, orf_some, Option.bind_some, List.length_cons, List.length_nil, Nat.reduceAdd, Nat.reduceLeDiff, if_true, if_false, Nat.zero_le, s1, s2, u1, u2, s_GB_isHour, s_GB_isEyes, s_RM_isHour, s_RM_in, w_Lle, w_leL, ite_b1, ite_b2]
    by_cases c1 : 0 ≤ x ∧ x ≤ dn nc
    · by_cases c2 : 0 ≤ t ∧ t ≤ 999
      · by_cases c3 : 0 ≤ e ∧ e ≤ 9
        · have c4 : ¬ (0 ≤ k ∧ k ≤ dn nk) := fun e => hb ⟨c1, c2, c3, e⟩
          simp only [if_neg (not_not_intro c1), if_neg (not_not_intro c2), if_neg (not_not_intro c3), if_neg c4, i10, ne_eq, not_true_eq_false, not_false_eq_true, Bool.false_eq_true, true_and, and_true, and_self, if_true, if_false]
        · simp only [if_neg (not_not_intro c1), if_neg (not_not_intro c2), if_pos c3, i10, ne_eq, not_true_eq_false, not_false_eq_true, Bool.false_eq_true, true_and, and_true, and_self, if_true, if_false]
      · simp only [if_neg (not_not_intro c1), if_pos c2, i10, ne_eq, not_true_eq_false, not_false_eq_true, Bool.false_eq_true, true_and, and_true, and_self, if_true, if_false]
    · simp only [if_pos c1, i10, ne_eq, not_true_eq_false, not_false_eq_true, Bool.false_eq_true, true_and, and_true, and_self, if_true, if_false]
  by_cases hb : (0 ≤ x ∧ x ≤ dn nc) ∧ (0 ≤ t ∧ t ≤ 999) ∧ (0 ≤ e ∧ e ≤ 9) ∧ (0 ≤ k ∧ k ≤ dn nk)
  · obtain ⟨c1, c2, c3, c4⟩ := hb
    by_cases full : c 1 0 = 24
    · refine ⟨-3, I, I, c, ?_, ?_, h0, hf, fun _ _ => rfl, fun _ _ _ _ => rfl, fun _ _ _ _ => rfl, fun _ _ _ => rfl⟩
      · rw [cl_GB_report]
        simp (disch := first | omega | decide | assumption | simp only [List.length_cons, List.length_nil, Nat.reduceAdd, Nat.reduceLeDiff, bb_at, bb_t1, bb_t2, bb_t3, bb_t4, bb_t5, bb_t6, bb_t7, bb_t8, bb_t9, bb_t10, bb_t11, bb_t12, bb_t13, bb_t14, bb_t15, bb_t16, bs_at, bs_t1, bs_t2, bs_t3, bs_t4, bs_t5, bs_t6, bs_t7, bs_t8, bs_t9, bs_t10, bs_t11, bs_t12, bs_t13, bs_t14, bs_t15, bs_t16, lb_at, lb_t1, lb_t2, lb_t13, lb_t24, lb_t35, lb_t36, lb_t37, lq_at, lq_t1, lq_t2, lq_t13, lq_t24, lq_t35, lq_t36, lq_t37]) only [x_aload_0, x_iload_1, xc_GB_isCell, x_if_eq, x_iload_2, xc_GB_isHour, x_iload_3, xc_GB_isEyes, x_iload_4, xc_GB_isKind, x_if_ne, x_c_m1, x_iret, x_get_578, x_get_388, x_c_24, x_ic_lt, x_c_m3, x_iload_5, xc_SH_addReport, tg_GB_report_14, tg_GB_report_16, tg_GB_report_23, bk_GB_report_0, bk_GB_report_14, bk_GB_report_16, bk_GB_report_23, kil_int, kil_ref, kil_null, kil_long, kil_rA, psh_int, psh_long, psh_null, gI_gS, gL_gS, gR_gS, sI_gS, sL_gS, orf_some, Option.bind_some, List.length_cons, List.length_nil, Nat.reduceAdd, Nat.reduceLeDiff, if_true, if_false, Nat.zero_le, s1, s2, s_GB_isHour, s_GB_isEyes, ite_b1, ite_b2, at_0, at_23, rw_0_2, n2, full, nI_ltI, nI_leI, nI_eq, nI_ltL, nI_leL, L_ltI, L_leI, nI_eqL, L_eqI, oob_nI, ix_nI, oob_L, ix_L, nI_1, nI_add, nI_z, z_nI, nI_lt0, nI_ge0, nI_gt0, nI_le0, ne_eq, Nat.le_zero_eq, Nat.not_lt_zero, Nat.lt_irrefl, Nat.le_refl, i10, ne_eq, not_true_eq_false, not_false_eq_true, Bool.false_eq_true, true_and, and_true, and_self, if_true, if_false, c1, c2, c3, c4]
      · rw [cl_RM_report]
        simp (disch := first | omega | decide | assumption | simp only [List.length_cons, List.length_nil, Nat.reduceAdd, Nat.reduceLeDiff, bb_at, bb_t1, bb_t2, bb_t3, bb_t4, bb_t5, bb_t6, bb_t7, bb_t8, bb_t9, bb_t10, bb_t11, bb_t12, bb_t13, bb_t14, bb_t15, bb_t16, bs_at, bs_t1, bs_t2, bs_t3, bs_t4, bs_t5, bs_t6, bs_t7, bs_t8, bs_t9, bs_t10, bs_t11, bs_t12, bs_t13, bs_t14, bs_t15, bs_t16, lb_at, lb_t1, lb_t2, lb_t13, lb_t24, lb_t35, lb_t36, lb_t37, lq_at, lq_t1, lq_t2, lq_t13, lq_t24, lq_t35, lq_t36, lq_t37]) only [x_aload_0, x_iload_1, xc_RM_isCell, x_if_eq, x_iload_2, xc_RM_isHour, x_iload_3, x_i2l, x_l_0, x_l_9, xc_RM_in, x_iload_4, xc_RM_isKind, x_if_ne, x_c_m1, x_iret, x_get_661, x_c_0, x_iald, x_istore_6, x_iload_6, x_c_24, x_ic_ne, x_c_m3, x_get_662, x_c_5, x_imul, x_iast, x_c_1, x_iadd, x_c_2, x_c_3, x_c_4, x_iload_5, x_goto, x_dup2, tg_RM_report_17, tg_RM_report_19, tg_RM_report_29, tg_RM_report_74, tg_RM_report_75, bk_RM_report_0, bk_RM_report_17, bk_RM_report_19, bk_RM_report_29, bk_RM_report_74, bk_RM_report_75, kil_int, kil_ref, kil_null, kil_long, kil_rA, psh_int, psh_long, psh_null, gI_gS, gL_gS, gR_gS, sI_gS, sL_gS, orf_some, Option.bind_some, List.length_cons, List.length_nil, Nat.reduceAdd, Nat.reduceLeDiff, if_true, if_false, Nat.zero_le, u1, u2, s_RM_isHour, s_RM_in, w_Lle, w_leL, ite_b1, ite_b2, at_190, at_208, al_208, rw_190_21, (hl 0 (by omega)).2.1, full, nI_ltI, nI_leI, nI_eq, nI_ltL, nI_leL, L_ltI, L_leI, nI_eqL, L_eqI, oob_nI, ix_nI, oob_L, ix_L, nI_1, nI_add, nI_z, z_nI, nI_lt0, nI_ge0, nI_gt0, nI_le0, ne_eq, Nat.le_zero_eq, Nat.not_lt_zero, Nat.lt_irrefl, Nat.le_refl, i10, ne_eq, not_true_eq_false, not_false_eq_true, Bool.false_eq_true, true_and, and_true, and_self, if_true, if_false, c1, c2, c3, c4]
    · obtain ⟨n, hn⟩ : ∃ n, n = c 1 0 := ⟨_, rfl⟩
      rw [← hn] at n2 b2 full
      obtain ⟨I1, e1⟩ : ∃ I1, I1 = up (up (up (up (up (up I 27 n x) 28 n t) 29 n e) 30 n k) 31 n (nI s)) 23 4 (nI (n + 1)) := ⟨_, rfl⟩
      obtain ⟨I2, e2⟩ : ∃ I2, I2 = up (up (up (up (up (up I1 209 (5 * n) x) 209 (5 * n + 1) t) 209 (5 * n + 2) e) 209 (5 * n + 3) k) 209 (5 * n + 4) (nI s)) 208 0 (nI (n + 1)) := ⟨_, rfl⟩
      have hz1 : bsz I1 q nc nk nl := by
        unfold bsz at hz ⊢
        have : gb_bb q = 97 ∨ gb_bb q = 80 := by unfold gb_bb; split <;> simp
        rw [e1]
        simp (disch := first | omega | decide | assumption | simp only [List.length_cons, List.length_nil, Nat.reduceAdd, Nat.reduceLeDiff]) only [up_ne]
        exact hz
      have e3 : (5 : Int32) * nI n = nI (5 * n) := by rw [fa_lit, pk_mul]
      have es : nI s &&& 1 = nI s := by
        have : s = 0 ∨ s = 1 := by omega
        rcases this with rfl | rfl <;> decide
      have l0 : I1 208 0 = nI n := by rw [e1]; simp (disch := first | omega | decide | assumption | simp only [List.length_cons, List.length_nil, Nat.reduceAdd, Nat.reduceLeDiff]) only [up_ne]; rw [hn]; exact (hl 0 (by omega)).2.1
      have q27 : ∀ j, I2 27 j = if j = n then x else I 27 j := fun j => by rw [e2, e1]; simp (disch := first | omega | decide | assumption | simp only [List.length_cons, List.length_nil, Nat.reduceAdd, Nat.reduceLeDiff]) only [up_ne, up_same]; rfl
      have q28 : ∀ j, I2 28 j = if j = n then t else I 28 j := fun j => by rw [e2, e1]; simp (disch := first | omega | decide | assumption | simp only [List.length_cons, List.length_nil, Nat.reduceAdd, Nat.reduceLeDiff]) only [up_ne, up_same]; rfl
      have q29 : ∀ j, I2 29 j = if j = n then e else I 29 j := fun j => by rw [e2, e1]; simp (disch := first | omega | decide | assumption | simp only [List.length_cons, List.length_nil, Nat.reduceAdd, Nat.reduceLeDiff]) only [up_ne, up_same]; rfl
      have q30 : ∀ j, I2 30 j = if j = n then k else I 30 j := fun j => by rw [e2, e1]; simp (disch := first | omega | decide | assumption | simp only [List.length_cons, List.length_nil, Nat.reduceAdd, Nat.reduceLeDiff]) only [up_ne, up_same]; rfl
      have q31 : ∀ j, I2 31 j = if j = n then nI s else I 31 j := fun j => by rw [e2, e1]; simp (disch := first | omega | decide | assumption | simp only [List.length_cons, List.length_nil, Nat.reduceAdd, Nat.reduceLeDiff]) only [up_ne, up_same]; rfl
      have q23 : ∀ j, I2 23 j = if j = 4 then nI (n + 1) else I 23 j := fun j => by rw [e2, e1]; simp (disch := first | omega | decide | assumption | simp only [List.length_cons, List.length_nil, Nat.reduceAdd, Nat.reduceLeDiff]) only [up_ne, up_same]; rfl
      have q208 : ∀ j, I2 208 j = if j = 0 then nI (n + 1) else I 208 j := fun j => by rw [e2, e1]; simp (disch := first | omega | decide | assumption | simp only [List.length_cons, List.length_nil, Nat.reduceAdd, Nat.reduceLeDiff]) only [up_ne, up_same]; rfl
      have q209 : ∀ j, I2 209 j = if j = 5 * n + 4 then nI s else if j = 5 * n + 3 then k else if j = 5 * n + 2 then e else if j = 5 * n + 1 then t else if j = 5 * n then x else I 209 j := fun j => by rw [e2, e1]; simp (disch := first | omega | decide | assumption | simp only [List.length_cons, List.length_nil, Nat.reduceAdd, Nat.reduceLeDiff]) only [up_ne, up_same]; rfl
      have qf : ∀ a, a ≠ 23 → ¬ (27 ≤ a ∧ a ≤ 31) → ¬ (208 ≤ a ∧ a ≤ 209) → I2 a = I a := fun a a0 a1 a2 => by rw [e2, e1]; simp (disch := first | omega | decide | assumption | simp only [List.length_cons, List.length_nil, Nat.reduceAdd, Nat.reduceLeDiff]) only [up_ne]
      refine ⟨nI (n + 1), I1, I2, inc c 1, ?_, ?_, ⟨⟨k1, ?_, ?_⟩, ⟨?_, ?_, ?_⟩, ?_, ?_, ⟨?_, ?_, ?_⟩, inc_le m1, inc_mo m2, ?_, ?_, ?_⟩, ?_, ?_, ?_, ?_, ?_⟩
      · have ha : gb_call 48 [.ref (23 : Nat), .int x, .int t, .int e, .int k, .int (nI s)] gb_pG (gS I J q X) = some (.int (nI (n + 1)), gb_pG, gS I1 J q X) := by
          rw [cl_SH_addReport, e1]
          simp (disch := first | omega | decide | assumption | simp only [List.length_cons, List.length_nil, Nat.reduceAdd, Nat.reduceLeDiff]) only [x_aload_0, x_get_389, x_get_388, x_iload_1, x_iast, x_get_390, x_iload_2, x_get_391, x_iload_3, x_get_392, x_iload_4, x_get_393, x_iload_5, x_bast, x_zast, x_dup_i, x_dup_r, x_c_1, x_iadd, x_put_388, x_iret, bk_SH_addReport_0, kil_int, kil_ref, kil_null, kil_long, kil_rA, psh_int, psh_long, psh_null, gI_gS, gL_gS, gR_gS, sI_gS, sL_gS, orf_some, Option.bind_some, List.length_cons, List.length_nil, Nat.reduceAdd, Nat.reduceLeDiff, if_true, if_false, Nat.zero_le, at_23, at_27, at_28, at_29, at_30, at_31, al_27, al_28, al_29, al_30, al_31, rw_23_5, rw_23_6, rw_23_7, rw_23_8, rw_23_9, n2, es, nI_ltI, nI_leI, nI_eq, nI_ltL, nI_leL, L_ltI, L_leI, nI_eqL, L_eqI, oob_nI, ix_nI, oob_L, ix_L, nI_1, nI_add, nI_z, z_nI, nI_lt0, nI_ge0, nI_gt0, nI_le0, ne_eq, Nat.le_zero_eq, Nat.not_lt_zero, Nat.lt_irrefl, Nat.le_refl, up_ne, up_same, upd_same, i10, ne_eq, not_true_eq_false, not_false_eq_true, Bool.false_eq_true, true_and, and_true, and_self, if_true, if_false]
        rw [cl_GB_report]
        simp (disch := first | omega | decide | assumption | simp only [List.length_cons, List.length_nil, Nat.reduceAdd, Nat.reduceLeDiff, bb_at, bb_t1, bb_t2, bb_t3, bb_t4, bb_t5, bb_t6, bb_t7, bb_t8, bb_t9, bb_t10, bb_t11, bb_t12, bb_t13, bb_t14, bb_t15, bb_t16, bs_at, bs_t1, bs_t2, bs_t3, bs_t4, bs_t5, bs_t6, bs_t7, bs_t8, bs_t9, bs_t10, bs_t11, bs_t12, bs_t13, bs_t14, bs_t15, bs_t16, lb_at, lb_t1, lb_t2, lb_t13, lb_t24, lb_t35, lb_t36, lb_t37, lq_at, lq_t1, lq_t2, lq_t13, lq_t24, lq_t35, lq_t36, lq_t37]) only [x_aload_0, x_iload_1, xc_GB_isCell, x_if_eq, x_iload_2, xc_GB_isHour, x_iload_3, xc_GB_isEyes, x_iload_4, xc_GB_isKind, x_if_ne, x_c_m1, x_iret, x_get_578, x_get_388, x_c_24, x_ic_lt, x_c_m3, x_iload_5, xc_SH_addReport, tg_GB_report_14, tg_GB_report_16, tg_GB_report_23, bk_GB_report_0, bk_GB_report_14, bk_GB_report_16, bk_GB_report_23, kil_int, kil_ref, kil_null, kil_long, kil_rA, psh_int, psh_long, psh_null, gI_gS, gL_gS, gR_gS, sI_gS, sL_gS, orf_some, Option.bind_some, List.length_cons, List.length_nil, Nat.reduceAdd, Nat.reduceLeDiff, if_true, if_false, Nat.zero_le, s1, s2, s_GB_isHour, s_GB_isEyes, ite_b1, ite_b2, at_0, at_23, rw_0_2, n2, nI_ltI, nI_leI, nI_eq, nI_ltL, nI_leL, L_ltI, L_leI, nI_eqL, L_eqI, oob_nI, ix_nI, oob_L, ix_L, nI_1, nI_add, nI_z, z_nI, nI_lt0, nI_ge0, nI_gt0, nI_le0, ne_eq, Nat.le_zero_eq, Nat.not_lt_zero, Nat.lt_irrefl, Nat.le_refl, i10, ne_eq, not_true_eq_false, not_false_eq_true, Bool.false_eq_true, true_and, and_true, and_self, if_true, if_false, c1, c2, c3, c4, ha, if_pos (show n < 24 by omega)]
      · have u1' := s_RM_isKind I1 J q X hz1 k
        have u2' := s_RM_isCell I1 J q X hz1 x
        rw [cl_RM_report, e2]
        have : s = 0 ∨ s = 1 := by omega
        rcases this with rfl | rfl
        · simp (disch := first | omega | decide | assumption | simp only [List.length_cons, List.length_nil, Nat.reduceAdd, Nat.reduceLeDiff, bb_at, bb_t1, bb_t2, bb_t3, bb_t4, bb_t5, bb_t6, bb_t7, bb_t8, bb_t9, bb_t10, bb_t11, bb_t12, bb_t13, bb_t14, bb_t15, bb_t16, bs_at, bs_t1, bs_t2, bs_t3, bs_t4, bs_t5, bs_t6, bs_t7, bs_t8, bs_t9, bs_t10, bs_t11, bs_t12, bs_t13, bs_t14, bs_t15, bs_t16, lb_at, lb_t1, lb_t2, lb_t13, lb_t24, lb_t35, lb_t36, lb_t37, lq_at, lq_t1, lq_t2, lq_t13, lq_t24, lq_t35, lq_t36, lq_t37]) only [x_aload_0, x_iload_1, xc_RM_isCell, x_if_eq, x_iload_2, xc_RM_isHour, x_iload_3, x_i2l, x_l_0, x_l_9, xc_RM_in, x_iload_4, xc_RM_isKind, x_if_ne, x_c_m1, x_iret, x_get_661, x_c_0, x_iald, x_istore_6, x_iload_6, x_c_24, x_ic_ne, x_c_m3, x_get_662, x_c_5, x_imul, x_iast, x_c_1, x_iadd, x_c_2, x_c_3, x_c_4, x_iload_5, x_goto, x_dup2, tg_RM_report_17, tg_RM_report_19, tg_RM_report_29, tg_RM_report_74, tg_RM_report_75, bk_RM_report_0, bk_RM_report_17, bk_RM_report_19, bk_RM_report_29, bk_RM_report_74, bk_RM_report_75, kil_int, kil_ref, kil_null, kil_long, kil_rA, psh_int, psh_long, psh_null, gI_gS, gL_gS, gR_gS, sI_gS, sL_gS, orf_some, Option.bind_some, List.length_cons, List.length_nil, Nat.reduceAdd, Nat.reduceLeDiff, if_true, if_false, Nat.zero_le, u1', u2', s_RM_isHour, s_RM_in, w_Lle, w_leL, ite_b1, ite_b2, at_190, at_208, at_209, al_208, al_209, rw_190_21, rw_190_22, l0, e3, nI_1, nI_aL, nI_ltI, nI_leI, nI_eq, nI_ltL, nI_leL, L_ltI, L_leI, nI_eqL, L_eqI, oob_nI, ix_nI, oob_L, ix_L, nI_1, nI_add, nI_z, z_nI, nI_lt0, nI_ge0, nI_gt0, nI_le0, ne_eq, Nat.le_zero_eq, Nat.not_lt_zero, Nat.lt_irrefl, Nat.le_refl, i10, ne_eq, not_true_eq_false, not_false_eq_true, Bool.false_eq_true, true_and, and_true, and_self, if_true, if_false, c1, c2, c3, c4, full, up_ne, up_same, upd_same]
          rfl
        · simp (disch := first | omega | decide | assumption | simp only [List.length_cons, List.length_nil, Nat.reduceAdd, Nat.reduceLeDiff, bb_at, bb_t1, bb_t2, bb_t3, bb_t4, bb_t5, bb_t6, bb_t7, bb_t8, bb_t9, bb_t10, bb_t11, bb_t12, bb_t13, bb_t14, bb_t15, bb_t16, bs_at, bs_t1, bs_t2, bs_t3, bs_t4, bs_t5, bs_t6, bs_t7, bs_t8, bs_t9, bs_t10, bs_t11, bs_t12, bs_t13, bs_t14, bs_t15, bs_t16, lb_at, lb_t1, lb_t2, lb_t13, lb_t24, lb_t35, lb_t36, lb_t37, lq_at, lq_t1, lq_t2, lq_t13, lq_t24, lq_t35, lq_t36, lq_t37]) only [x_aload_0, x_iload_1, xc_RM_isCell, x_if_eq, x_iload_2, xc_RM_isHour, x_iload_3, x_i2l, x_l_0, x_l_9, xc_RM_in, x_iload_4, xc_RM_isKind, x_if_ne, x_c_m1, x_iret, x_get_661, x_c_0, x_iald, x_istore_6, x_iload_6, x_c_24, x_ic_ne, x_c_m3, x_get_662, x_c_5, x_imul, x_iast, x_c_1, x_iadd, x_c_2, x_c_3, x_c_4, x_iload_5, x_goto, x_dup2, tg_RM_report_17, tg_RM_report_19, tg_RM_report_29, tg_RM_report_74, tg_RM_report_75, bk_RM_report_0, bk_RM_report_17, bk_RM_report_19, bk_RM_report_29, bk_RM_report_74, bk_RM_report_75, kil_int, kil_ref, kil_null, kil_long, kil_rA, psh_int, psh_long, psh_null, gI_gS, gL_gS, gR_gS, sI_gS, sL_gS, orf_some, Option.bind_some, List.length_cons, List.length_nil, Nat.reduceAdd, Nat.reduceLeDiff, if_true, if_false, Nat.zero_le, u1', u2', s_RM_isHour, s_RM_in, w_Lle, w_leL, ite_b1, ite_b2, at_190, at_208, at_209, al_208, al_209, rw_190_21, rw_190_22, l0, e3, nI_1, nI_aL, nI_ltI, nI_leI, nI_eq, nI_ltL, nI_leL, L_ltI, L_leI, nI_eqL, L_eqI, oob_nI, ix_nI, oob_L, ix_L, nI_1, nI_add, nI_z, z_nI, nI_lt0, nI_ge0, nI_gt0, nI_le0, ne_eq, Nat.le_zero_eq, Nat.not_lt_zero, Nat.lt_irrefl, Nat.le_refl, i10, ne_eq, not_true_eq_false, not_false_eq_true, Bool.false_eq_true, true_and, and_true, and_self, if_true, if_false, c1, c2, c3, c4, full, up_ne, up_same, upd_same]
          rfl
      · rw [q23, if_neg (by omega)]; exact k2
      · rw [qf 190 (by omega) (by omega) (by omega)]; exact k3
      · rw [q23, if_neg (by omega)]; simpa [inc] using n1
      · rw [q23, if_pos rfl]; simp [inc, hn]
      · rw [q23, if_neg (by omega)]; simpa [inc] using n3
      · intro j hj
        rw [qf 33 (by omega) (by omega) (by omega), qf 34 (by omega) (by omega) (by omega), qf 35 (by omega) (by omega) (by omega)]
        simpa [inc] using hk j hj
      · intro l hl2
        have := hl l hl2
        rw [q208, qf 206 (by omega) (by omega) (by omega), qf 210 (by omega) (by omega) (by omega)]
        by_cases e : l = 0
        · subst e
          simp only [if_true]
          refine ⟨by simpa [inc] using this.1, by simp [inc, hn], by simpa [inc] using this.2.2⟩
        · simpa [inc, e] using this
      · simpa [inc] using b1
      · simp [inc]; omega
      · simpa [inc] using b3
      · intro l i hl2 hi
        rw [qf 207 (by omega) (by omega) (by omega), qf 24 (by omega) (by omega) (by omega), qf 25 (by omega) (by omega) (by omega), qf 26 (by omega) (by omega) (by omega)]
        exact f1 l i hl2 (by simpa [inc] using hi)
      · intro l i hl2 hi
        rw [q209, q209, q209, q209, q209, q27, q28, q29, q30, q31]
        have hm := m1 1 l hl2
        by_cases e : l = 0 ∧ i = n
        · obtain ⟨rfl, rfl⟩ := e
          simp
        · have hi' : i < c 1 l := by
            unfold inc at hi
            by_cases e2 : l = 0
            · subst e2; simp at hi; omega
            · simpa [e2] using hi
          have en : ¬ i = n := by omega
          simp only [if_neg en]
          rw [if_neg (by omega), if_neg (by omega), if_neg (by omega), if_neg (by omega), if_neg (by omega), if_neg (by omega), if_neg (by omega), if_neg (by omega), if_neg (by omega), if_neg (by omega), if_neg (by omega), if_neg (by omega), if_neg (by omega), if_neg (by omega), if_neg (by omega), if_neg (by omega), if_neg (by omega), if_neg (by omega), if_neg (by omega), if_neg (by omega), if_neg (by omega), if_neg (by omega), if_neg (by omega), if_neg (by omega), if_neg (by omega)]
          exact f2 l i hl2 hi'
      · intro l i hl2 hi
        rw [qf 211 (by omega) (by omega) (by omega), qf 32 (by omega) (by omega) (by omega)]
        exact f3 l i hl2 (by simpa [inc] using hi)
      · intro i hi
        rw [q27, q28, q29, q30, q31]
        by_cases ei : i = n
        · obtain ⟨k', a1, a2⟩ := (dn_le (by have := hz.2.2.2.2.2.2.2.1; omega)).mp c4
          obtain ⟨x', a3, a4⟩ := (dn_le hz.2.2.2.2.2.2.1).mp c1
          obtain ⟨t', a5, a6, a7⟩ := nI_rng (by decide) (by decide) c2
          obtain ⟨e', a8, a9, a10⟩ := nI_rng (by decide) (by decide) c3
          simp only [if_pos ei]
          exact ⟨x', t', e', k', s, a3, a6, a9, a1, hs, a4, a7, a10, a2, rfl⟩
        · simp only [if_neg ei]
          refine hf i ?_
          simp [inc] at hi
          omega
      · intro m hm
        funext l
        simp [inc, hm]
      · intro y y1 y2 y3
        exact qf y (by omega) (by omega) (by omega)
      · intro y y1 y2 y3
        rw [q23, if_neg y2]
      · intro a a1 a2
        exact qf a (by omega) (by omega) (by omega)
  · obtain ⟨g1, g2⟩ := bad hb
    exact ⟨-1, I, I, c, g1, g2, h0, hf, fun _ _ => rfl, fun _ _ _ _ => rfl, fun _ _ _ _ => rfl, fun _ _ _ => rfl⟩
