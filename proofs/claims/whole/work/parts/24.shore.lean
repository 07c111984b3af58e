/-! what was found, and what was kept of it -/
theorem l_RM_copies (J : Nat → Nat → Int64) (q : Bool × Bool) (X : Nat × (Nat → Int32)) {a b : Nat} (ha : a ≤ 2) (hb : b ≤ 2) (hab : a ≠ b) : ∀ d i I, d + i = 120 → ∃ I', gb_ex 181 bk_RM_copies_26 [.ref (190 : Nat), .int (nI a), .int (nI b), .int (nI i)] [] gb_pG (gS I J q X) = some (.null, gb_pG, gS I' J q X) ∧
    (∀ x, I' 209 x = if 120 * b + i ≤ x ∧ x < 120 * b + 120 then I 209 (x - 120 * b + 120 * a) else I 209 x) ∧
    (∀ x, I' 207 x = if 36 * b + i ≤ x ∧ x < 36 * b + 36 then I 207 (x - 36 * b + 36 * a) else I 207 x) ∧
    (∀ x, I' 211 x = if 20 * b + i ≤ x ∧ x < 20 * b + 20 then I 211 (x - 20 * b + 20 * a) else I 211 x) ∧
    ∀ y, y ≠ 207 → y ≠ 209 → y ≠ 211 → I' y = I y
  | 0, i, I, e => by
    refine ⟨I, ?_, fun x => ?_, fun x => ?_, fun x => ?_, fun _ _ _ _ => rfl⟩
    · rw [bk_RM_copies_26]
      simp (disch := first | omega | decide | assumption | simp only [List.length_cons, List.length_nil, Nat.reduceAdd, Nat.reduceLeDiff]) only [x_aload_0, x_get_659, x_iload_2, x_iload_1, x_iald, x_iast, x_get_661, x_get_663, x_c_0, x_istore_3, x_iload_3, x_c_120, x_ic_ge, x_get_662, x_imul, x_iadd, x_c_36, x_get_660, x_c_20, x_get_664, x_iinc_3_1, x_goto, x_vret, tg_RM_copies_26, tg_RM_copies_64, tg_RM_copies_83, tg_RM_copies_85, bk_RM_copies_0, bk_RM_copies_64, bk_RM_copies_83, bk_RM_copies_85, kil_int, kil_ref, kil_null, kil_long, kil_rA, psh_int, psh_long, psh_null, gI_gS, gL_gS, gR_gS, sI_gS, sL_gS, orf_some, Option.bind_some, List.length_cons, List.length_nil, Nat.reduceAdd, Nat.reduceLeDiff, if_true, if_false, Nat.zero_le, nI_ltI, nI_leI, nI_eq, nI_ltL, nI_leL, L_ltI, L_leI, nI_eqL, L_eqI, oob_nI, ix_nI, oob_L, ix_L, nI_1, nI_add, nI_z, z_nI, nI_lt0, nI_ge0, nI_gt0, nI_le0, ne_eq, Nat.le_zero_eq, Nat.not_lt_zero, Nat.lt_irrefl, Nat.le_refl, if_pos (show 120 ≤ i by omega)]
    · rw [if_neg (by omega)]
    · rw [if_neg (by omega)]
    · rw [if_neg (by omega)]
  | d + 1, i, I, e => by
    have e1 : (120 : Int32) * nI a = nI (120 * a) := by rw [fa_lit, pk_mul]
    have e2 : (120 : Int32) * nI b = nI (120 * b) := by rw [fa_lit, pk_mul]
    have e3 : (36 : Int32) * nI a = nI (36 * a) := by rw [fa_lit, pk_mul]
    have e4 : (36 : Int32) * nI b = nI (36 * b) := by rw [fa_lit, pk_mul]
    have e5 : (20 : Int32) * nI a = nI (20 * a) := by rw [fa_lit, pk_mul]
    have e6 : (20 : Int32) * nI b = nI (20 * b) := by rw [fa_lit, pk_mul]
    obtain ⟨I1, f1⟩ : ∃ I1, I1 = up I 209 (120 * b + i) (I 209 (120 * a + i)) := ⟨_, rfl⟩
    obtain ⟨I2, f2⟩ : ∃ I2, I2 = if 36 ≤ i then I1 else up I1 207 (36 * b + i) (I 207 (36 * a + i)) := ⟨_, rfl⟩
    obtain ⟨I3, f3⟩ : ∃ I3, I3 = if 20 ≤ i then I2 else up I2 211 (20 * b + i) (I 211 (20 * a + i)) := ⟨_, rfl⟩
    have g9 : ∀ x, I3 209 x = if x = 120 * b + i then I 209 (120 * a + i) else I 209 x := fun x => by
      have : I3 209 = I1 209 := by
        rw [f3, f2]
        by_cases c1 : 20 ≤ i <;> by_cases c2 : 36 ≤ i <;> simp only [c1, c2, if_true, if_false] <;> simp (disch := first | omega | decide | assumption | simp only [List.length_cons, List.length_nil, Nat.reduceAdd, Nat.reduceLeDiff]) only [up_ne]
      rw [this, f1, up_same]
      rfl
    have g7 : ∀ x, I3 207 x = if i < 36 ∧ x = 36 * b + i then I 207 (36 * a + i) else I 207 x := fun x => by
      have : I3 207 = I2 207 := by
        rw [f3]
        by_cases c1 : 20 ≤ i <;> simp only [c1, if_true, if_false]
        simp (disch := first | omega | decide | assumption | simp only [List.length_cons, List.length_nil, Nat.reduceAdd, Nat.reduceLeDiff]) only [up_ne]
      rw [this, f2]
      by_cases c2 : 36 ≤ i
      · rw [if_pos c2, if_neg (by omega), f1, up_ne (by omega)]
      · rw [if_neg c2, up_same, f1, up_ne (by omega)]
        simp only [show i < 36 by omega, true_and]
        rfl
    have g1 : ∀ x, I3 211 x = if i < 20 ∧ x = 20 * b + i then I 211 (20 * a + i) else I 211 x := fun x => by
      have h2 : I2 211 = I 211 := by
        rw [f2, f1]
        by_cases c2 : 36 ≤ i <;> simp only [c2, if_true, if_false] <;> simp (disch := first | omega | decide | assumption | simp only [List.length_cons, List.length_nil, Nat.reduceAdd, Nat.reduceLeDiff]) only [up_ne]
      rw [f3]
      by_cases c2 : 20 ≤ i
      · rw [if_pos c2, if_neg (by omega), h2]
      · rw [if_neg c2, up_same, h2]
        simp only [show i < 20 by omega, true_and]
        rfl
    have gf : ∀ y, y ≠ 207 → y ≠ 209 → y ≠ 211 → I3 y = I y := fun y y1 y2 y3 => by
      rw [f3, f2, f1]
      by_cases c1 : 20 ≤ i <;> by_cases c2 : 36 ≤ i <;> simp only [c1, c2, if_true, if_false] <;> simp (disch := first | omega | decide | assumption | simp only [List.length_cons, List.length_nil, Nat.reduceAdd, Nat.reduceLeDiff]) only [up_ne]
    obtain ⟨I', p1, p2, p3, p4, p5⟩ := l_RM_copies J q X ha hb hab d (i + 1) I3 (by omega)
    refine ⟨I', ?_, fun x => ?_, fun x => ?_, fun x => ?_, fun y y1 y2 y3 => by rw [p5 y y1 y2 y3, gf y y1 y2 y3]⟩
    · rw [bk_RM_copies_26, ← p1]
      simp (disch := first | omega | decide | assumption | simp only [List.length_cons, List.length_nil, Nat.reduceAdd, Nat.reduceLeDiff]) only [x_aload_0, x_get_659, x_iload_2, x_iload_1, x_iald, x_iast, x_get_661, x_get_663, x_c_0, x_istore_3, x_iload_3, x_c_120, x_ic_ge, x_get_662, x_imul, x_iadd, x_c_36, x_get_660, x_c_20, x_get_664, x_iinc_3_1, x_goto, x_vret, tg_RM_copies_26, tg_RM_copies_64, tg_RM_copies_83, tg_RM_copies_85, bk_RM_copies_0, bk_RM_copies_64, bk_RM_copies_83, bk_RM_copies_85, kil_int, kil_ref, kil_null, kil_long, kil_rA, psh_int, psh_long, psh_null, gI_gS, gL_gS, gR_gS, sI_gS, sL_gS, orf_some, Option.bind_some, List.length_cons, List.length_nil, Nat.reduceAdd, Nat.reduceLeDiff, if_true, if_false, Nat.zero_le, nI_ltI, nI_leI, nI_eq, nI_ltL, nI_leL, L_ltI, L_leI, nI_eqL, L_eqI, oob_nI, ix_nI, oob_L, ix_L, nI_1, nI_add, nI_z, z_nI, nI_lt0, nI_ge0, nI_gt0, nI_le0, ne_eq, Nat.le_zero_eq, Nat.not_lt_zero, Nat.lt_irrefl, Nat.le_refl, if_neg (show ¬ 120 ≤ i by omega), at_190, at_207, at_209, at_211, al_207, al_209, al_211, rw_190_20, rw_190_22, rw_190_24, e1, e2, e3, e4, e5, e6, i10, ne_eq, not_true_eq_false, not_false_eq_true, Bool.false_eq_true, true_and, and_true, and_self, if_true, if_false, up_ne]
      rw [f3, f2, f1]
      by_cases c1 : 20 ≤ i <;> by_cases c2 : 36 ≤ i <;> simp only [c1, c2, if_true, if_false] <;> simp (disch := first | omega | decide | assumption | simp only [List.length_cons, List.length_nil, Nat.reduceAdd, Nat.reduceLeDiff]) only [nI_ltI, nI_leI, nI_eq, nI_ltL, nI_leL, L_ltI, L_leI, nI_eqL, L_eqI, oob_nI, ix_nI, oob_L, ix_L, nI_1, nI_add, nI_z, z_nI, nI_lt0, nI_ge0, nI_gt0, nI_le0, ne_eq, Nat.le_zero_eq, Nat.not_lt_zero, Nat.lt_irrefl, Nat.le_refl, at_207, at_211, al_207, al_211, i10, ne_eq, not_true_eq_false, not_false_eq_true, Bool.false_eq_true, true_and, and_true, and_self, if_true, if_false, up_ne]
    · rw [p2 x]
      by_cases c : 120 * b + (i + 1) ≤ x ∧ x < 120 * b + 120
      · rw [if_pos c, g9, if_neg (by omega), if_pos (by omega)]
      · rw [if_neg c, g9]
        by_cases c2 : x = 120 * b + i
        · rw [if_pos c2, if_pos (by omega)]
          congr 1
          omega
        · rw [if_neg c2, if_neg (by omega)]
    · rw [p3 x]
      by_cases c : 36 * b + (i + 1) ≤ x ∧ x < 36 * b + 36
      · rw [if_pos c, g7, if_neg (by omega), if_pos (by omega)]
      · rw [if_neg c, g7]
        by_cases c2 : i < 36 ∧ x = 36 * b + i
        · rw [if_pos c2, if_pos (by omega)]
          congr 1
          omega
        · rw [if_neg c2, if_neg (by omega)]
    · rw [p4 x]
      by_cases c : 20 * b + (i + 1) ≤ x ∧ x < 20 * b + 20
      · rw [if_pos c, g1, if_neg (by omega), if_pos (by omega)]
      · rw [if_neg c, g1]
        by_cases c2 : i < 20 ∧ x = 20 * b + i
        · rw [if_pos c2, if_pos (by omega)]
          congr 1
          omega
        · rw [if_neg c2, if_neg (by omega)]
