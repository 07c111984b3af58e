def shr (I : Nat → Nat → Int32) (K : Nat) (c : Nat → Nat → Nat) : Prop :=
  (K ≤ 2 ∧ I 23 12 = nI K ∧ I 190 18 = nI K) ∧
  (I 23 0 = nI (c 0 0) ∧ I 23 4 = nI (c 1 0) ∧ I 23 10 = nI (c 2 0)) ∧
  (∀ j, j < K → I 33 j = nI (c 0 (j + 1)) ∧ I 34 j = nI (c 1 (j + 1)) ∧ I 35 j = nI (c 2 (j + 1))) ∧
  (∀ l, l ≤ K → I 206 l = nI (c 0 l) ∧ I 208 l = nI (c 1 l) ∧ I 210 l = nI (c 2 l)) ∧
  (c 0 0 ≤ 12 ∧ c 1 0 ≤ 24 ∧ c 2 0 ≤ 20) ∧
  (∀ m l, l ≤ K → c m l ≤ c m 0) ∧ (∀ m l, 1 ≤ l → l < K → c m l ≤ c m (l + 1)) ∧
  (∀ l i, l ≤ K → i < c 0 l → I 207 (36 * l + 3 * i) = I 24 i ∧ I 207 (36 * l + (3 * i + 1)) = I 25 i ∧ I 207 (36 * l + (3 * i + 2)) = I 26 i) ∧
  (∀ l i, l ≤ K → i < c 1 l → I 209 (120 * l + 5 * i) = I 27 i ∧ I 209 (120 * l + (5 * i + 1)) = I 28 i ∧ I 209 (120 * l + (5 * i + 2)) = I 29 i ∧ I 209 (120 * l + (5 * i + 3)) = I 30 i ∧ I 209 (120 * l + (5 * i + 4)) = I 31 i) ∧
  (∀ l i, l ≤ K → i < c 2 l → I 211 (20 * l + i) = I 32 i)
theorem s_RM_copies (I : Nat → Nat → Int32) (J : Nat → Nat → Int64) (q : Bool × Bool) (X : Nat × (Nat → Int32)) {a b : Nat} (ha : a ≤ 2) (hb : b ≤ 2) (hab : a ≠ b) : ∃ I', gb_call 181 [.ref (190 : Nat), .int (nI a), .int (nI b)] gb_pG (gS I J q X) = some (.null, gb_pG, gS I' J q X) ∧
    (∀ x, I' 209 x = if 120 * b ≤ x ∧ x < 120 * b + 120 then I 209 (x - 120 * b + 120 * a) else I 209 x) ∧
    (∀ x, I' 207 x = if 36 * b ≤ x ∧ x < 36 * b + 36 then I 207 (x - 36 * b + 36 * a) else I 207 x) ∧
    (∀ x, I' 211 x = if 20 * b ≤ x ∧ x < 20 * b + 20 then I 211 (x - 20 * b + 20 * a) else I 211 x) ∧
    (∀ x, I' 206 x = if x = b then I 206 a else I 206 x) ∧ (∀ x, I' 208 x = if x = b then I 208 a else I 208 x) ∧ (∀ x, I' 210 x = if x = b then I 210 a else I 210 x) ∧
    ∀ y, ¬ (206 ≤ y ∧ y ≤ 211) → I' y = I y := by
  obtain ⟨I', p1, p2, p3, p4, p5⟩ := l_RM_copies J q X ha hb hab 120 0 (up (up (up I 206 b (I 206 a)) 208 b (I 208 a)) 210 b (I 210 a)) (by omega)
  refine ⟨I', ?_, fun x => ?_, fun x => ?_, fun x => ?_, fun x => ?_, fun x => ?_, fun x => ?_, fun y hy => ?_⟩
  · rw [cl_RM_copies, ← p1]
    simp (disch := first | omega | decide | assumption | simp only [List.length_cons, List.length_nil, Nat.reduceAdd, Nat.reduceLeDiff]) only [x_aload_0, x_get_659, x_iload_2, x_iload_1, x_iald, x_iast, x_get_661, x_get_663, x_c_0, x_istore_3, x_iload_3, x_c_120, x_ic_ge, x_get_662, x_imul, x_iadd, x_c_36, x_get_660, x_c_20, x_get_664, x_iinc_3_1, x_goto, x_vret, tg_RM_copies_26, tg_RM_copies_64, tg_RM_copies_83, tg_RM_copies_85, bk_RM_copies_0, bk_RM_copies_64, bk_RM_copies_83, bk_RM_copies_85, kil_int, kil_ref, kil_null, kil_long, kil_rA, psh_int, psh_long, psh_null, gI_gS, gL_gS, gR_gS, sI_gS, sL_gS, orf_some, Option.bind_some, List.length_cons, List.length_nil, Nat.reduceAdd, Nat.reduceLeDiff, if_true, if_false, Nat.zero_le, nI_ltI, nI_leI, nI_eq, nI_ltL, nI_leL, L_ltI, L_leI, nI_eqL, L_eqI, oob_nI, ix_nI, oob_L, ix_L, nI_1, nI_add, nI_z, z_nI, nI_lt0, nI_ge0, nI_gt0, nI_le0, ne_eq, Nat.le_zero_eq, Nat.not_lt_zero, Nat.lt_irrefl, Nat.le_refl, at_190, at_206, at_208, at_210, al_206, al_208, al_210, rw_190_19, rw_190_21, rw_190_23, i10, ne_eq, not_true_eq_false, not_false_eq_true, Bool.false_eq_true, true_and, and_true, and_self, if_true, if_false, up_ne]
    rfl
  · rw [p2 x]
    simp (disch := first | omega | decide | assumption | simp only [List.length_cons, List.length_nil, Nat.reduceAdd, Nat.reduceLeDiff]) only [up_ne, Nat.add_zero]
  · rw [p3 x]
    simp (disch := first | omega | decide | assumption | simp only [List.length_cons, List.length_nil, Nat.reduceAdd, Nat.reduceLeDiff]) only [up_ne, Nat.add_zero]
  · rw [p4 x]
    simp (disch := first | omega | decide | assumption | simp only [List.length_cons, List.length_nil, Nat.reduceAdd, Nat.reduceLeDiff]) only [up_ne, Nat.add_zero]
  · rw [p5 206 (by omega) (by omega) (by omega)]
    simp (disch := first | omega | decide | assumption | simp only [List.length_cons, List.length_nil, Nat.reduceAdd, Nat.reduceLeDiff]) only [up_ne, up_same]
    rfl
  · rw [p5 208 (by omega) (by omega) (by omega)]
    simp (disch := first | omega | decide | assumption | simp only [List.length_cons, List.length_nil, Nat.reduceAdd, Nat.reduceLeDiff]) only [up_ne, up_same]
    rfl
  · rw [p5 210 (by omega) (by omega) (by omega)]
    simp (disch := first | omega | decide | assumption | simp only [List.length_cons, List.length_nil, Nat.reduceAdd, Nat.reduceLeDiff]) only [up_ne, up_same]
    rfl
  · rw [p5 y (by omega) (by omega) (by omega)]
    simp (disch := first | omega | decide | assumption | simp only [List.length_cons, List.length_nil, Nat.reduceAdd, Nat.reduceLeDiff]) only [up_ne]
/-- nothing but what was kept has changed -/
def frK (I I' : Nat → Nat → Int32) : Prop := (∀ k, k ≠ 0 → k ≠ 4 → k ≠ 10 → k ≠ 12 → I' 23 k = I 23 k) ∧ (∀ k, k ≠ 18 → I' 190 k = I 190 k) ∧ ∀ a, a ≠ 23 → ¬ (33 ≤ a ∧ a ≤ 35) → a ≠ 190 → ¬ (206 ≤ a ∧ a ≤ 211) → I' a = I a
theorem d_keep (I : Nat → Nat → Int32) (J : Nat → Nat → Int64) (q : Bool × Bool) (X : Nat × (Nat → Int32)) {K : Nat} {c : Nat → Nat → Nat} (h : shr I K c) : ∃ r I1 I2 K' c', gb_call 104 [.ref (0 : Nat)] gb_pG (gS I J q X) = some (.int r, gb_pG, gS I1 J q X) ∧ gb_call 182 [.ref (190 : Nat)] gb_pG (gS I1 J q X) = some (.int r, gb_pG, gS I2 J q X) ∧ shr I2 K' c' ∧ (∀ m, c' m 0 = c m 0) ∧ frK I I2 := by
  have h0 := h
  obtain ⟨⟨k1, k2, k3⟩, ⟨n1, n2, n3⟩, hk, hl, ⟨b1, b2, b3⟩, m1, m2, f1, f2, f3⟩ := h
  by_cases c1 : K = 2
  · subst c1
    refine ⟨-3, I, I, 2, c, ?_, ?_, h0, fun _ => rfl, fun _ _ _ _ _ => rfl, fun _ _ => rfl, fun _ _ _ _ _ => rfl⟩
    · rw [cl_GB_keep]
      simp (disch := first | omega | decide | assumption | simp only [List.length_cons, List.length_nil, Nat.reduceAdd, Nat.reduceLeDiff]) only [x_aload_0, x_get_578, x_get_396, x_c_2, x_ic_lt, x_c_m3, x_iret, xc_SH_addKept, tg_GB_keep_7, bk_GB_keep_0, bk_GB_keep_7, kil_int, kil_ref, kil_null, kil_long, kil_rA, psh_int, psh_long, psh_null, gI_gS, gL_gS, gR_gS, sI_gS, sL_gS, orf_some, Option.bind_some, List.length_cons, List.length_nil, Nat.reduceAdd, Nat.reduceLeDiff, if_true, if_false, Nat.zero_le, at_0, at_23, rw_0_2, k2, nI_ltI, nI_leI, nI_eq, nI_ltL, nI_leL, L_ltI, L_leI, nI_eqL, L_eqI, oob_nI, ix_nI, oob_L, ix_L, nI_1, nI_add, nI_z, z_nI, nI_lt0, nI_ge0, nI_gt0, nI_le0, ne_eq, Nat.le_zero_eq, Nat.not_lt_zero, Nat.lt_irrefl, Nat.le_refl, Nat.lt_irrefl, i10, ne_eq, not_true_eq_false, not_false_eq_true, Bool.false_eq_true, true_and, and_true, and_self, if_true, if_false]
    · rw [cl_RM_keep]
      simp (disch := first | omega | decide | assumption | simp only [List.length_cons, List.length_nil, Nat.reduceAdd, Nat.reduceLeDiff]) only [x_aload_0, x_get_658, x_c_2, x_ic_ne, x_c_m3, x_iret, x_dup_i, x_dup_r, x_c_1, x_iadd, x_put_658, x_c_0, xc_RM_copies, tg_RM_keep_6, bk_RM_keep_0, bk_RM_keep_6, kil_int, kil_ref, kil_null, kil_long, kil_rA, psh_int, psh_long, psh_null, gI_gS, gL_gS, gR_gS, sI_gS, sL_gS, orf_some, Option.bind_some, List.length_cons, List.length_nil, Nat.reduceAdd, Nat.reduceLeDiff, if_true, if_false, Nat.zero_le, at_190, k3, nI_ltI, nI_leI, nI_eq, nI_ltL, nI_leL, L_ltI, L_leI, nI_eqL, L_eqI, oob_nI, ix_nI, oob_L, ix_L, nI_1, nI_add, nI_z, z_nI, nI_lt0, nI_ge0, nI_gt0, nI_le0, ne_eq, Nat.le_zero_eq, Nat.not_lt_zero, Nat.lt_irrefl, Nat.le_refl, i10, ne_eq, not_true_eq_false, not_false_eq_true, Bool.false_eq_true, true_and, and_true, and_self, if_true, if_false]
  · obtain ⟨I1, e1⟩ : ∃ I1, I1 = up (up (up (up I 33 K (nI (c 0 0))) 34 K (nI (c 1 0))) 35 K (nI (c 2 0))) 23 12 (nI (K + 1)) := ⟨_, rfl⟩
    have g190 : I1 190 = I 190 := by rw [e1]; simp (disch := first | omega | decide | assumption | simp only [List.length_cons, List.length_nil, Nat.reduceAdd, Nat.reduceLeDiff]) only [up_ne]
    obtain ⟨I2, p1, p2, p3, p4, p5, p6, p7, p8⟩ := s_RM_copies (up I1 190 18 (nI (K + 1))) J q X (a := 0) (b := K + 1) (by omega) (by omega) (by omega)
    have q9 : ∀ x, I2 209 x = if 120 * (K + 1) ≤ x ∧ x < 120 * (K + 1) + 120 then I 209 (x - 120 * (K + 1)) else I 209 x := fun x => by
      rw [p2 x, e1]; simp (disch := first | omega | decide | assumption | simp only [List.length_cons, List.length_nil, Nat.reduceAdd, Nat.reduceLeDiff]) only [up_ne, show 120 * 0 = 0 from rfl, Nat.add_zero]
    have q7 : ∀ x, I2 207 x = if 36 * (K + 1) ≤ x ∧ x < 36 * (K + 1) + 36 then I 207 (x - 36 * (K + 1)) else I 207 x := fun x => by
      rw [p3 x, e1]; simp (disch := first | omega | decide | assumption | simp only [List.length_cons, List.length_nil, Nat.reduceAdd, Nat.reduceLeDiff]) only [up_ne, show 36 * 0 = 0 from rfl, Nat.add_zero]
    have q1 : ∀ x, I2 211 x = if 20 * (K + 1) ≤ x ∧ x < 20 * (K + 1) + 20 then I 211 (x - 20 * (K + 1)) else I 211 x := fun x => by
      rw [p4 x, e1]; simp (disch := first | omega | decide | assumption | simp only [List.length_cons, List.length_nil, Nat.reduceAdd, Nat.reduceLeDiff]) only [up_ne, show 20 * 0 = 0 from rfl, Nat.add_zero]
    have q6 : ∀ x, I2 206 x = if x = K + 1 then I 206 0 else I 206 x := fun x => by
      rw [p5 x, e1]; simp (disch := first | omega | decide | assumption | simp only [List.length_cons, List.length_nil, Nat.reduceAdd, Nat.reduceLeDiff]) only [up_ne]
    have q8 : ∀ x, I2 208 x = if x = K + 1 then I 208 0 else I 208 x := fun x => by
      rw [p6 x, e1]; simp (disch := first | omega | decide | assumption | simp only [List.length_cons, List.length_nil, Nat.reduceAdd, Nat.reduceLeDiff]) only [up_ne]
    have q0 : ∀ x, I2 210 x = if x = K + 1 then I 210 0 else I 210 x := fun x => by
      rw [p7 x, e1]; simp (disch := first | omega | decide | assumption | simp only [List.length_cons, List.length_nil, Nat.reduceAdd, Nat.reduceLeDiff]) only [up_ne]
    have q23 : ∀ x, I2 23 x = if x = 12 then nI (K + 1) else I 23 x := fun x => by
      rw [p8 23 (by omega), e1]; simp (disch := first | omega | decide | assumption | simp only [List.length_cons, List.length_nil, Nat.reduceAdd, Nat.reduceLeDiff]) only [up_ne, up_same]; rfl
    have q33 : ∀ x, I2 33 x = if x = K then nI (c 0 0) else I 33 x := fun x => by
      rw [p8 33 (by omega), e1]; simp (disch := first | omega | decide | assumption | simp only [List.length_cons, List.length_nil, Nat.reduceAdd, Nat.reduceLeDiff]) only [up_ne, up_same]; rfl
    have q34 : ∀ x, I2 34 x = if x = K then nI (c 1 0) else I 34 x := fun x => by
      rw [p8 34 (by omega), e1]; simp (disch := first | omega | decide | assumption | simp only [List.length_cons, List.length_nil, Nat.reduceAdd, Nat.reduceLeDiff]) only [up_ne, up_same]; rfl
    have q35 : ∀ x, I2 35 x = if x = K then nI (c 2 0) else I 35 x := fun x => by
      rw [p8 35 (by omega), e1]; simp (disch := first | omega | decide | assumption | simp only [List.length_cons, List.length_nil, Nat.reduceAdd, Nat.reduceLeDiff]) only [up_ne, up_same]; rfl
    have q190 : ∀ x, I2 190 x = if x = 18 then nI (K + 1) else I 190 x := fun x => by
      rw [p8 190 (by omega), e1]; simp (disch := first | omega | decide | assumption | simp only [List.length_cons, List.length_nil, Nat.reduceAdd, Nat.reduceLeDiff]) only [up_ne, up_same]; rfl
    have qf : ∀ a, a ≠ 23 → ¬ (33 ≤ a ∧ a ≤ 35) → a ≠ 190 → ¬ (206 ≤ a ∧ a ≤ 211) → I2 a = I a := fun a a1 a2 a3 a4 => by
      rw [p8 a a4, e1]; simp (disch := first | omega | decide | assumption | simp only [List.length_cons, List.length_nil, Nat.reduceAdd, Nat.reduceLeDiff]) only [up_ne]
    refine ⟨nI (K + 1), I1, I2, K + 1, fun m l => if l = K + 1 then c m 0 else c m l, ?_, ?_, ⟨⟨by omega, ?_, ?_⟩, ⟨?_, ?_, ?_⟩, ?_, ?_, ⟨?_, ?_, ?_⟩, ?_, ?_, ?_, ?_, ?_⟩, ?_, ?_, ?_, qf⟩
    · rw [cl_GB_keep]
      have hs : gb_call 45 [.ref (23 : Nat)] gb_pG (gS I J q X) = some (.int (nI (K + 1)), gb_pG, gS I1 J q X) := by
        rw [cl_SH_addKept, e1]
        simp (disch := first | omega | decide | assumption | simp only [List.length_cons, List.length_nil, Nat.reduceAdd, Nat.reduceLeDiff]) only [x_aload_0, x_get_397, x_get_396, x_get_384, x_iast, x_get_398, x_get_388, x_get_399, x_get_394, x_dup_i, x_dup_r, x_c_1, x_iadd, x_put_396, x_iret, bk_SH_addKept_0, kil_int, kil_ref, kil_null, kil_long, kil_rA, psh_int, psh_long, psh_null, gI_gS, gL_gS, gR_gS, sI_gS, sL_gS, orf_some, Option.bind_some, List.length_cons, List.length_nil, Nat.reduceAdd, Nat.reduceLeDiff, if_true, if_false, Nat.zero_le, at_23, at_33, at_34, at_35, al_33, al_34, al_35, rw_23_13, rw_23_14, rw_23_15, k2, n1, n2, n3, nI_ltI, nI_leI, nI_eq, nI_ltL, nI_leL, L_ltI, L_leI, nI_eqL, L_eqI, oob_nI, ix_nI, oob_L, ix_L, nI_1, nI_add, nI_z, z_nI, nI_lt0, nI_ge0, nI_gt0, nI_le0, ne_eq, Nat.le_zero_eq, Nat.not_lt_zero, Nat.lt_irrefl, Nat.le_refl, up_ne, up_same, upd_same, i10, ne_eq, not_true_eq_false, not_false_eq_true, Bool.false_eq_true, true_and, and_true, and_self, if_true, if_false]
      simp (disch := first | omega | decide | assumption | simp only [List.length_cons, List.length_nil, Nat.reduceAdd, Nat.reduceLeDiff]) only [x_aload_0, x_get_578, x_get_396, x_c_2, x_ic_lt, x_c_m3, x_iret, xc_SH_addKept, tg_GB_keep_7, bk_GB_keep_0, bk_GB_keep_7, kil_int, kil_ref, kil_null, kil_long, kil_rA, psh_int, psh_long, psh_null, gI_gS, gL_gS, gR_gS, sI_gS, sL_gS, orf_some, Option.bind_some, List.length_cons, List.length_nil, Nat.reduceAdd, Nat.reduceLeDiff, if_true, if_false, Nat.zero_le, at_0, at_23, rw_0_2, k2, nI_ltI, nI_leI, nI_eq, nI_ltL, nI_leL, L_ltI, L_leI, nI_eqL, L_eqI, oob_nI, ix_nI, oob_L, ix_L, nI_1, nI_add, nI_z, z_nI, nI_lt0, nI_ge0, nI_gt0, nI_le0, ne_eq, Nat.le_zero_eq, Nat.not_lt_zero, Nat.lt_irrefl, Nat.le_refl, i10, ne_eq, not_true_eq_false, not_false_eq_true, Bool.false_eq_true, true_and, and_true, and_self, if_true, if_false, hs, if_pos (show K < 2 by omega)]
    · rw [cl_RM_keep]
      have : I2 190 18 = nI (K + 1) := by rw [q190, if_pos rfl]
      rw [nI_0] at p1
      simp (disch := first | omega | decide | assumption | simp only [List.length_cons, List.length_nil, Nat.reduceAdd, Nat.reduceLeDiff]) only [x_aload_0, x_get_658, x_c_2, x_ic_ne, x_c_m3, x_iret, x_dup_i, x_dup_r, x_c_1, x_iadd, x_put_658, x_c_0, xc_RM_copies, tg_RM_keep_6, bk_RM_keep_0, bk_RM_keep_6, kil_int, kil_ref, kil_null, kil_long, kil_rA, psh_int, psh_long, psh_null, gI_gS, gL_gS, gR_gS, sI_gS, sL_gS, orf_some, Option.bind_some, List.length_cons, List.length_nil, Nat.reduceAdd, Nat.reduceLeDiff, if_true, if_false, Nat.zero_le, at_190, g190, k3, nI_ltI, nI_leI, nI_eq, nI_ltL, nI_leL, L_ltI, L_leI, nI_eqL, L_eqI, oob_nI, ix_nI, oob_L, ix_L, nI_1, nI_add, nI_z, z_nI, nI_lt0, nI_ge0, nI_gt0, nI_le0, ne_eq, Nat.le_zero_eq, Nat.not_lt_zero, Nat.lt_irrefl, Nat.le_refl, i10, ne_eq, not_true_eq_false, not_false_eq_true, Bool.false_eq_true, true_and, and_true, and_self, if_true, if_false, c1, up_same, upd_same, p1, psh_null, this]
    · rw [q23, if_pos rfl]
    · rw [q190, if_pos rfl]
    · rw [q23, if_neg (by omega)]; dsimp only; rw [if_neg (by omega)]; exact n1
    · rw [q23, if_neg (by omega)]; dsimp only; rw [if_neg (by omega)]; exact n2
    · rw [q23, if_neg (by omega)]; dsimp only; rw [if_neg (by omega)]; exact n3
    · intro j hj
      rw [q33, q34, q35]
      by_cases e : j = K
      · subst e; simp
      · have := hk j (by omega)
        simp [e, this]
    · intro l hl2
      rw [q6, q8, q0]
      by_cases e : l = K + 1
      · subst e; simp [hl 0]
      · have := hl l (by omega)
        simp [e, this]
    · dsimp only; rw [if_neg (by omega)]; exact b1
    · dsimp only; rw [if_neg (by omega)]; exact b2
    · dsimp only; rw [if_neg (by omega)]; exact b3
    · intro m l hl2
      dsimp only
      rw [if_neg (show ¬ 0 = K + 1 by omega)]
      split
      · exact Nat.le_refl _
      · exact m1 m l (by omega)
    · intro m l hl1 hl2
      dsimp only
      rw [if_neg (show ¬ l = K + 1 by omega)]
      split
      · exact m1 m l (by omega)
      · exact m2 m l hl1 (by omega)
    · intro l i hl2 hi
      dsimp only at hi
      rw [q7, q7, q7, qf 24 (by omega) (by omega) (by omega) (by omega), qf 25 (by omega) (by omega) (by omega) (by omega), qf 26 (by omega) (by omega) (by omega) (by omega)]
      by_cases e : l = K + 1
      · subst e
        rw [if_pos rfl] at hi
        have := f1 0 i (by omega) hi
        rw [if_pos (by omega), if_pos (by omega), if_pos (by omega)]
        simp only [Nat.mul_zero, Nat.zero_add] at this
        rw [Nat.add_sub_cancel_left, Nat.add_sub_cancel_left, Nat.add_sub_cancel_left]
        exact this
      · rw [if_neg e] at hi
        have hb := m1 0 l (by omega)
        rw [if_neg (by omega), if_neg (by omega), if_neg (by omega)]
        exact f1 l i (by omega) hi
    · intro l i hl2 hi
      dsimp only at hi
      rw [q9, q9, q9, q9, q9, qf 27 (by omega) (by omega) (by omega) (by omega), qf 28 (by omega) (by omega) (by omega) (by omega), qf 29 (by omega) (by omega) (by omega) (by omega), qf 30 (by omega) (by omega) (by omega) (by omega), qf 31 (by omega) (by omega) (by omega) (by omega)]
      by_cases e : l = K + 1
      · subst e
        rw [if_pos rfl] at hi
        have := f2 0 i (by omega) hi
        rw [if_pos (by omega), if_pos (by omega), if_pos (by omega), if_pos (by omega), if_pos (by omega)]
        simp only [Nat.mul_zero, Nat.zero_add] at this
        rw [Nat.add_sub_cancel_left, Nat.add_sub_cancel_left, Nat.add_sub_cancel_left, Nat.add_sub_cancel_left, Nat.add_sub_cancel_left]
        exact this
      · rw [if_neg e] at hi
        have hb := m1 1 l (by omega)
        rw [if_neg (by omega), if_neg (by omega), if_neg (by omega), if_neg (by omega), if_neg (by omega)]
        exact f2 l i (by omega) hi
    · intro l i hl2 hi
      dsimp only at hi
      rw [q1, qf 32 (by omega) (by omega) (by omega) (by omega)]
      by_cases e : l = K + 1
      · subst e
        rw [if_pos rfl] at hi
        have := f3 0 i (by omega) hi
        rw [if_pos (by omega), Nat.add_sub_cancel_left]
        simp only [Nat.mul_zero, Nat.zero_add] at this
        exact this
      · rw [if_neg e] at hi
        have hb := m1 2 l (by omega)
        rw [if_neg (by omega)]
        exact f3 l i (by omega) hi
    · intro m
      dsimp only
      rw [if_neg (by omega)]
    · intro k x1 x2 x3 x4
      rw [q23, if_neg x4]
    · intro k x1
      rw [q190, if_neg x1]
theorem d_back (I : Nat → Nat → Int32) (J : Nat → Nat → Int64) (q : Bool × Bool) (X : Nat × (Nat → Int32)) {K : Nat} {c : Nat → Nat → Nat} (h : shr I K c) : ∃ r I1 I2 K' c', gb_call 105 [.ref (0 : Nat)] gb_pG (gS I J q X) = some (.int r, gb_pG, gS I1 J q X) ∧ gb_call 183 [.ref (190 : Nat)] gb_pG (gS I1 J q X) = some (.int r, gb_pG, gS I2 J q X) ∧ shr I2 K' c' ∧ (∀ m, c' m 0 ≤ c m 0) ∧ frK I I2 := by
  have h0 := h
  obtain ⟨⟨k1, k2, k3⟩, ⟨n1, n2, n3⟩, hk, hl, ⟨b1, b2, b3⟩, m1, m2, f1, f2, f3⟩ := h
  by_cases c1 : K = 0
  · subst c1
    refine ⟨-2, I, I, 0, c, ?_, ?_, h0, fun _ => Nat.le_refl _, fun _ _ _ _ _ => rfl, fun _ _ => rfl, fun _ _ _ _ _ => rfl⟩
    · rw [cl_GB_back]
      simp (disch := first | omega | decide | assumption | simp only [List.length_cons, List.length_nil, Nat.reduceAdd, Nat.reduceLeDiff]) only [x_aload_0, x_get_578, x_get_396, x_c_1, x_ic_ge, x_c_m2, x_iret, xc_SH_goBack, tg_GB_back_7, bk_GB_back_0, bk_GB_back_7, kil_int, kil_ref, kil_null, kil_long, kil_rA, psh_int, psh_long, psh_null, gI_gS, gL_gS, gR_gS, sI_gS, sL_gS, orf_some, Option.bind_some, List.length_cons, List.length_nil, Nat.reduceAdd, Nat.reduceLeDiff, if_true, if_false, Nat.zero_le, at_0, at_23, rw_0_2, k2, nI_ltI, nI_leI, nI_eq, nI_ltL, nI_leL, L_ltI, L_leI, nI_eqL, L_eqI, oob_nI, ix_nI, oob_L, ix_L, nI_1, nI_add, nI_z, z_nI, nI_lt0, nI_ge0, nI_gt0, nI_le0, ne_eq, Nat.le_zero_eq, Nat.not_lt_zero, Nat.lt_irrefl, Nat.le_refl, i10, ne_eq, not_true_eq_false, not_false_eq_true, Bool.false_eq_true, true_and, and_true, and_self, if_true, if_false]
      simp
    · rw [cl_RM_back]
      simp (disch := first | omega | decide | assumption | simp only [List.length_cons, List.length_nil, Nat.reduceAdd, Nat.reduceLeDiff]) only [x_aload_0, x_get_658, x_if_ne, x_c_m2, x_iret, x_c_0, xc_RM_copies, x_dup_i, x_dup_r, x_c_1, x_isub, x_put_658, tg_RM_back_5, bk_RM_back_0, bk_RM_back_5, kil_int, kil_ref, kil_null, kil_long, kil_rA, psh_int, psh_long, psh_null, gI_gS, gL_gS, gR_gS, sI_gS, sL_gS, orf_some, Option.bind_some, List.length_cons, List.length_nil, Nat.reduceAdd, Nat.reduceLeDiff, if_true, if_false, Nat.zero_le, at_190, k3, nI_ltI, nI_leI, nI_eq, nI_ltL, nI_leL, L_ltI, L_leI, nI_eqL, L_eqI, oob_nI, ix_nI, oob_L, ix_L, nI_1, nI_add, nI_z, z_nI, nI_lt0, nI_ge0, nI_gt0, nI_le0, ne_eq, Nat.le_zero_eq, Nat.not_lt_zero, Nat.lt_irrefl, Nat.le_refl, i10, ne_eq, not_true_eq_false, not_false_eq_true, Bool.false_eq_true, true_and, and_true, and_self, if_true, if_false]
  · obtain ⟨n, rfl⟩ : ∃ n, K = n + 1 := ⟨K - 1, by omega⟩
    have hkn := hk n (by omega)
    obtain ⟨I1, e1⟩ : ∃ I1, I1 = up (up (up (up I 23 12 (nI n)) 23 0 (nI (c 0 (n + 1)))) 23 4 (nI (c 1 (n + 1)))) 23 10 (nI (c 2 (n + 1))) := ⟨_, rfl⟩
    have g190 : I1 190 = I 190 := by rw [e1]; simp (disch := first | omega | decide | assumption | simp only [List.length_cons, List.length_nil, Nat.reduceAdd, Nat.reduceLeDiff]) only [up_ne]
    obtain ⟨I3, p1, p2, p3, p4, p5, p6, p7, p8⟩ := s_RM_copies I1 J q X (a := n + 1) (b := 0) (by omega) (by omega) (by omega)
    obtain ⟨I2, e2⟩ : ∃ I2, I2 = up I3 190 18 (nI n) := ⟨_, rfl⟩
    have q9 : ∀ x, I2 209 x = if x < 120 then I 209 (x + 120 * (n + 1)) else I 209 x := fun x => by
      rw [e2, up_ne (by omega), p2 x, e1]
      simp (disch := first | omega | decide | assumption | simp only [List.length_cons, List.length_nil, Nat.reduceAdd, Nat.reduceLeDiff]) only [up_ne, show 120 * 0 = 0 from rfl, Nat.zero_add, Nat.sub_zero, Nat.zero_le, true_and]
    have q7 : ∀ x, I2 207 x = if x < 36 then I 207 (x + 36 * (n + 1)) else I 207 x := fun x => by
      rw [e2, up_ne (by omega), p3 x, e1]
      simp (disch := first | omega | decide | assumption | simp only [List.length_cons, List.length_nil, Nat.reduceAdd, Nat.reduceLeDiff]) only [up_ne, show 36 * 0 = 0 from rfl, Nat.zero_add, Nat.sub_zero, Nat.zero_le, true_and]
    have q1 : ∀ x, I2 211 x = if x < 20 then I 211 (x + 20 * (n + 1)) else I 211 x := fun x => by
      rw [e2, up_ne (by omega), p4 x, e1]
      simp (disch := first | omega | decide | assumption | simp only [List.length_cons, List.length_nil, Nat.reduceAdd, Nat.reduceLeDiff]) only [up_ne, show 20 * 0 = 0 from rfl, Nat.zero_add, Nat.sub_zero, Nat.zero_le, true_and]
    have q6 : ∀ x, I2 206 x = if x = 0 then I 206 (n + 1) else I 206 x := fun x => by
      rw [e2, up_ne (by omega), p5 x, e1]; simp (disch := first | omega | decide | assumption | simp only [List.length_cons, List.length_nil, Nat.reduceAdd, Nat.reduceLeDiff]) only [up_ne]
    have q8 : ∀ x, I2 208 x = if x = 0 then I 208 (n + 1) else I 208 x := fun x => by
      rw [e2, up_ne (by omega), p6 x, e1]; simp (disch := first | omega | decide | assumption | simp only [List.length_cons, List.length_nil, Nat.reduceAdd, Nat.reduceLeDiff]) only [up_ne]
    have q0 : ∀ x, I2 210 x = if x = 0 then I 210 (n + 1) else I 210 x := fun x => by
      rw [e2, up_ne (by omega), p7 x, e1]; simp (disch := first | omega | decide | assumption | simp only [List.length_cons, List.length_nil, Nat.reduceAdd, Nat.reduceLeDiff]) only [up_ne]
    have q23 : ∀ x, I2 23 x = if x = 10 then nI (c 2 (n + 1)) else if x = 4 then nI (c 1 (n + 1)) else if x = 0 then nI (c 0 (n + 1)) else if x = 12 then nI n else I 23 x := fun x => by
      rw [e2, up_ne (by omega), p8 23 (by omega), e1]; simp (disch := first | omega | decide | assumption | simp only [List.length_cons, List.length_nil, Nat.reduceAdd, Nat.reduceLeDiff]) only [up_ne, up_same]; rfl
    have q190 : ∀ x, I2 190 x = if x = 18 then nI n else I 190 x := fun x => by
      rw [e2, up_same, p8 190 (by omega), g190]; rfl
    have qf : ∀ a, a ≠ 23 → a ≠ 190 → ¬ (206 ≤ a ∧ a ≤ 211) → I2 a = I a := fun a a1 a3 a4 => by
      rw [e2, up_ne a3, p8 a a4, e1]; simp (disch := first | omega | decide | assumption | simp only [List.length_cons, List.length_nil, Nat.reduceAdd, Nat.reduceLeDiff]) only [up_ne]
    have hbk : ∀ m, c m (n + 1) ≤ c m 0 := fun m => m1 m (n + 1) (by omega)
    have hb0 := hbk 0
    have hb1 := hbk 1
    have hb2 := hbk 2
    refine ⟨nI n, I1, I2, n, fun m l => if l = 0 then c m (n + 1) else c m l, ?_, ?_, ⟨⟨by omega, ?_, ?_⟩, ⟨?_, ?_, ?_⟩, ?_, ?_, ⟨?_, ?_, ?_⟩, ?_, ?_, ?_, ?_, ?_⟩, ?_, ?_, ?_, fun a a1 _ a3 a4 => qf a a1 a3 a4⟩
    · rw [cl_GB_back]
      have hs : gb_call 46 [.ref (23 : Nat)] gb_pG (gS I J q X) = some (.int (nI n), gb_pG, gS I1 J q X) := by
        rw [cl_SH_goBack, e1]
        simp (disch := first | omega | decide | assumption | simp only [List.length_cons, List.length_nil, Nat.reduceAdd, Nat.reduceLeDiff]) only [x_aload_0, x_dup_i, x_dup_r, x_get_396, x_c_1, x_isub, x_put_396, x_get_397, x_iald, x_put_384, x_get_398, x_put_388, x_get_399, x_put_394, x_iret, bk_SH_goBack_0, kil_int, kil_ref, kil_null, kil_long, kil_rA, psh_int, psh_long, psh_null, gI_gS, gL_gS, gR_gS, sI_gS, sL_gS, orf_some, Option.bind_some, List.length_cons, List.length_nil, Nat.reduceAdd, Nat.reduceLeDiff, if_true, if_false, Nat.zero_le, at_23, at_33, at_34, at_35, al_33, al_34, al_35, rw_23_13, rw_23_14, rw_23_15, k2, nI_pred, nI_ltI, nI_leI, nI_eq, nI_ltL, nI_leL, L_ltI, L_leI, nI_eqL, L_eqI, oob_nI, ix_nI, oob_L, ix_L, nI_1, nI_add, nI_z, z_nI, nI_lt0, nI_ge0, nI_gt0, nI_le0, ne_eq, Nat.le_zero_eq, Nat.not_lt_zero, Nat.lt_irrefl, Nat.le_refl, up_ne, up_same, upd_same, upd_ne, hkn.1, hkn.2.1, hkn.2.2, i10, ne_eq, not_true_eq_false, not_false_eq_true, Bool.false_eq_true, true_and, and_true, and_self, if_true, if_false]
      simp (disch := first | omega | decide | assumption | simp only [List.length_cons, List.length_nil, Nat.reduceAdd, Nat.reduceLeDiff]) only [x_aload_0, x_get_578, x_get_396, x_c_1, x_ic_ge, x_c_m2, x_iret, xc_SH_goBack, tg_GB_back_7, bk_GB_back_0, bk_GB_back_7, kil_int, kil_ref, kil_null, kil_long, kil_rA, psh_int, psh_long, psh_null, gI_gS, gL_gS, gR_gS, sI_gS, sL_gS, orf_some, Option.bind_some, List.length_cons, List.length_nil, Nat.reduceAdd, Nat.reduceLeDiff, if_true, if_false, Nat.zero_le, at_0, at_23, rw_0_2, k2, nI_ltI, nI_leI, nI_eq, nI_ltL, nI_leL, L_ltI, L_leI, nI_eqL, L_eqI, oob_nI, ix_nI, oob_L, ix_L, nI_1, nI_add, nI_z, z_nI, nI_lt0, nI_ge0, nI_gt0, nI_le0, ne_eq, Nat.le_zero_eq, Nat.not_lt_zero, Nat.lt_irrefl, Nat.le_refl, i10, ne_eq, not_true_eq_false, not_false_eq_true, Bool.false_eq_true, true_and, and_true, and_self, if_true, if_false, hs, if_pos (show 1 ≤ n + 1 by omega)]
    · rw [cl_RM_back]
      have g3 : I3 190 18 = nI (n + 1) := by rw [p8 190 (by omega), g190]; exact k3
      have g4 : I1 190 18 = nI (n + 1) := by rw [g190]; exact k3
      rw [nI_0] at p1
      rw [e2]
      simp (disch := first | omega | decide | assumption | simp only [List.length_cons, List.length_nil, Nat.reduceAdd, Nat.reduceLeDiff]) only [x_aload_0, x_get_658, x_if_ne, x_c_m2, x_iret, x_c_0, xc_RM_copies, x_dup_i, x_dup_r, x_c_1, x_isub, x_put_658, tg_RM_back_5, bk_RM_back_0, bk_RM_back_5, kil_int, kil_ref, kil_null, kil_long, kil_rA, psh_int, psh_long, psh_null, gI_gS, gL_gS, gR_gS, sI_gS, sL_gS, orf_some, Option.bind_some, List.length_cons, List.length_nil, Nat.reduceAdd, Nat.reduceLeDiff, if_true, if_false, Nat.zero_le, at_190, g4, nI_ltI, nI_leI, nI_eq, nI_ltL, nI_leL, L_ltI, L_leI, nI_eqL, L_eqI, oob_nI, ix_nI, oob_L, ix_L, nI_1, nI_add, nI_z, z_nI, nI_lt0, nI_ge0, nI_gt0, nI_le0, ne_eq, Nat.le_zero_eq, Nat.not_lt_zero, Nat.lt_irrefl, Nat.le_refl, i10, ne_eq, not_true_eq_false, not_false_eq_true, Bool.false_eq_true, true_and, and_true, and_self, if_true, if_false, g3, nI_pred, p1, psh_null, up_same, upd_same]
      simp
    · rw [q23, if_neg (by omega), if_neg (by omega), if_neg (by omega), if_pos rfl]
    · rw [q190, if_pos rfl]
    · rw [q23, if_neg (by omega), if_neg (by omega), if_pos rfl]; rfl
    · rw [q23, if_neg (by omega), if_pos rfl]; rfl
    · rw [q23, if_pos rfl]; rfl
    · intro j hj
      rw [qf 33 (by omega) (by omega) (by omega), qf 34 (by omega) (by omega) (by omega), qf 35 (by omega) (by omega) (by omega)]
      exact hk j (by omega)
    · intro l hl2
      rw [q6, q8, q0]
      by_cases e : l = 0
      · subst e
        simp only [if_true]
        exact hl (n + 1) (by omega)
      · simp only [if_neg e]
        exact hl l (by omega)
    · dsimp only; rw [if_pos rfl]; omega
    · dsimp only; rw [if_pos rfl]; omega
    · dsimp only; rw [if_pos rfl]; omega
    · intro m l hl2
      dsimp only
      rw [if_pos rfl]
      split
      · exact Nat.le_refl _
      · have a1 : ∀ d l, l + d = n + 1 → 1 ≤ l → c m l ≤ c m (n + 1) := by
          intro d
          induction d with
          | zero => intro l e _; rw [show l = n + 1 by omega]; exact Nat.le_refl _
          | succ d ih => intro l e e3; exact Nat.le_trans (m2 m l e3 (by omega)) (ih (l + 1) (by omega) (by omega))
        exact a1 (n + 1 - l) l (by omega) (by omega)
    · intro m l hl1 hl2
      dsimp only
      rw [if_neg (by omega), if_neg (by omega)]
      exact m2 m l hl1 (by omega)
    · intro l i hl2 hi
      dsimp only at hi
      rw [q7, q7, q7, qf 24 (by omega) (by omega) (by omega), qf 25 (by omega) (by omega) (by omega), qf 26 (by omega) (by omega) (by omega)]
      by_cases e : l = 0
      · subst e
        rw [if_pos rfl] at hi
        have := f1 (n + 1) i (by omega) hi
        rw [if_pos (by omega), if_pos (by omega), if_pos (by omega)]
        rw [show 36 * 0 + 3 * i + 36 * (n + 1) = 36 * (n + 1) + 3 * i by omega, show 36 * 0 + (3 * i + 1) + 36 * (n + 1) = 36 * (n + 1) + (3 * i + 1) by omega, show 36 * 0 + (3 * i + 2) + 36 * (n + 1) = 36 * (n + 1) + (3 * i + 2) by omega]
        exact this
      · rw [if_neg e] at hi
        rw [if_neg (by omega), if_neg (by omega), if_neg (by omega)]
        exact f1 l i (by omega) hi
    · intro l i hl2 hi
      dsimp only at hi
      rw [q9, q9, q9, q9, q9, qf 27 (by omega) (by omega) (by omega), qf 28 (by omega) (by omega) (by omega), qf 29 (by omega) (by omega) (by omega), qf 30 (by omega) (by omega) (by omega), qf 31 (by omega) (by omega) (by omega)]
      by_cases e : l = 0
      · subst e
        rw [if_pos rfl] at hi
        have := f2 (n + 1) i (by omega) hi
        rw [if_pos (by omega), if_pos (by omega), if_pos (by omega), if_pos (by omega), if_pos (by omega)]
        rw [show 120 * 0 + 5 * i + 120 * (n + 1) = 120 * (n + 1) + 5 * i by omega, show 120 * 0 + (5 * i + 1) + 120 * (n + 1) = 120 * (n + 1) + (5 * i + 1) by omega, show 120 * 0 + (5 * i + 2) + 120 * (n + 1) = 120 * (n + 1) + (5 * i + 2) by omega, show 120 * 0 + (5 * i + 3) + 120 * (n + 1) = 120 * (n + 1) + (5 * i + 3) by omega, show 120 * 0 + (5 * i + 4) + 120 * (n + 1) = 120 * (n + 1) + (5 * i + 4) by omega]
        exact this
      · rw [if_neg e] at hi
        rw [if_neg (by omega), if_neg (by omega), if_neg (by omega), if_neg (by omega), if_neg (by omega)]
        exact f2 l i (by omega) hi
    · intro l i hl2 hi
      dsimp only at hi
      rw [q1, qf 32 (by omega) (by omega) (by omega)]
      by_cases e : l = 0
      · subst e
        rw [if_pos rfl] at hi
        have := f3 (n + 1) i (by omega) hi
        rw [if_pos (by omega), show 20 * 0 + i + 20 * (n + 1) = 20 * (n + 1) + i by omega]
        exact this
      · rw [if_neg e] at hi
        rw [if_neg (by omega)]
        exact f3 l i (by omega) hi
    · intro m
      dsimp only
      rw [if_pos rfl]
      exact hbk m
    · intro k x1 x2 x3 x4
      rw [q23, if_neg x3, if_neg x2, if_neg x1, if_neg x4]
    · intro k x1
      rw [q190, if_neg x1]
