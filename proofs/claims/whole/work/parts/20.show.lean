theorem i10 : ((1 : Int32) = 0) = False := by decide
theorem up_same (I : Nat → Nat → Int32) (a k : Nat) (v : Int32) : up I a k v a = upd (I a) k v := if_pos rfl
theorem up_ne {I : Nat → Nat → Int32} {a k : Nat} {v : Int32} {x : Nat} (h : x ≠ a) : up I a k v x = I x := if_neg h
theorem upd_same (f : Nat → Int32) (k : Nat) (v : Int32) : upd f k v k = v := if_pos rfl
theorem upd_ne {f : Nat → Int32} {k : Nat} {v : Int32} {x : Nat} (h : x ≠ k) : upd f k v x = f x := if_neg h
theorem d_shown (I : Nat → Nat → Int32) (J : Nat → Nat → Int64) (q : Bool × Bool) (X : Nat × (Nat → Int32)) {S : Nat → Nat → Nat} {C : Nat → Nat} (h : stf I S C) (A t v : Int32) : ∃ r, gb_call 103 [.ref (0 : Nat), .int A, .int t, .int v] gb_pG (gS I J q X) = some (r, gb_pG, gS I J q X) ∧ gb_call 180 [.ref (190 : Nat), .int A, .int t, .int v] gb_pG (gS I J q X) = some (r, gb_pG, gS I J q X) := by
  rw [cl_GB_shown, cl_RM_shown]
  simp (disch := first | omega | decide | assumption) only [x_iload_1, xc_GB_isSet, x_if_eq, x_iload_2, xc_GB_isTest, x_iload_3, xc_GB_isShown, x_if_ne, x_c_m1, x_iret, x_aload_0, x_get_581, xc_SU_part, tg_GB_shown_9, tg_GB_shown_11, bk_GB_shown_0, bk_GB_shown_9, bk_GB_shown_11, kil_int, kil_ref, kil_null, kil_long, kil_rA, psh_int, psh_long, psh_null, gI_gS, gL_gS, gR_gS, sI_gS, sL_gS, orf_some, Option.bind_some, List.length_cons, List.length_nil, Nat.reduceAdd, Nat.reduceLeDiff, if_true, if_false, Nat.zero_le, x_iload_1, x_i2l, x_l_1, x_l_255, xc_RM_in, x_if_eq, x_iload_2, xc_RM_isTest, x_iload_3, x_l_0, x_l_3, x_aload_0, xc_RM_shownOf, x_goto, x_c_m1, x_iret, tg_RM_shown_21, tg_RM_shown_22, bk_RM_shown_0, bk_RM_shown_21, bk_RM_shown_22, kil_int, kil_ref, kil_null, kil_long, kil_rA, psh_int, psh_long, psh_null, gI_gS, gL_gS, gR_gS, sI_gS, sL_gS, orf_some, Option.bind_some, List.length_cons, List.length_nil, Nat.reduceAdd, Nat.reduceLeDiff, if_true, if_false, Nat.zero_le, s_GB_isSet, s_GB_isTest, s_GB_isShown, s_RM_isTest, s_RM_in, w_Lle, w_leL, ite_b1, ite_b2, at_0, at_190, rw_0_5]
  by_cases c1 : ¬ (1 ≤ A ∧ A ≤ 255)
  · simp only [if_pos c1]
    exact ⟨_, rfl, rfl⟩
  replace c1 := Decidable.not_not.mp c1
  by_cases c2 : ¬ (0 ≤ t ∧ t ≤ 5)
  · simp only [if_neg (not_not_intro c1), if_pos c2]
    exact ⟨_, rfl, rfl⟩
  replace c2 := Decidable.not_not.mp c2
  by_cases c3 : ¬ (0 ≤ v ∧ v ≤ 3)
  · simp only [if_neg (not_not_intro c1), if_neg (not_not_intro c2), if_neg c3, if_pos c3]
    exact ⟨_, rfl, rfl⟩
  replace c3 := Decidable.not_not.mp c3
  simp only [if_neg (not_not_intro c1), if_neg (not_not_intro c2), if_neg (not_not_intro c3), if_pos c3]
  obtain ⟨A', x1, x2, rfl⟩ := nI_rng (by decide) (by decide) c1
  obtain ⟨t', y1, y2, rfl⟩ := nI_rng (by decide) (by decide) c2
  obtain ⟨v', z1, z2, rfl⟩ := nI_rng (by decide) (by decide) c3
  have a1 := s_SU_part I J q X h (Nat.lt_succ_of_le x2) (Nat.lt_succ_of_le y2) (Nat.lt_succ_of_le z2)
  have a2 := s_RM_shownOf I J q X h (Nat.lt_succ_of_le x2) (Nat.lt_succ_of_le y2) (Nat.lt_succ_of_le z2)
  simp only [a1, a2, Option.bind_some, psh_int, x_iret]
  exact ⟨_, rfl, rfl⟩
theorem d_cost (I : Nat → Nat → Int32) (J : Nat → Nat → Int64) (q : Bool × Bool) (X : Nat × (Nat → Int32)) {S : Nat → Nat → Nat} {C : Nat → Nat} (h : stf I S C) (t c : Int32) : ∃ r I1 I2 C', gb_call 101 [.ref (0 : Nat), .int t, .int c] gb_pG (gS I J q X) = some (.int r, gb_pG, gS I1 J q X) ∧ gb_call 176 [.ref (190 : Nat), .int t, .int c] gb_pG (gS I1 J q X) = some (.int r, gb_pG, gS I2 J q X) ∧ stf I2 S C' ∧ ∀ a, a ≠ 78 → a ≠ 213 → I2 a = I a := by
  rw [cl_GB_cost]
  by_cases c1 : ¬ (0 ≤ t ∧ t ≤ 5)
  · refine ⟨-1, I, I, C, ?_, ?_, h, fun a _ _ => rfl⟩
    · simp only [x_iload_1, xc_GB_isTest, x_if_eq, x_iload_2, x_c_1, x_c_99, xc_GB_within, x_if_ne, x_c_m1, x_iret, x_aload_0, x_get_581, x_get_450, x_iald, x_istore_3, x_iast, x_iload_3, tg_GB_cost_8, tg_GB_cost_10, bk_GB_cost_0, bk_GB_cost_8, bk_GB_cost_10, kil_int, kil_ref, kil_null, kil_long, kil_rA, psh_int, psh_long, psh_null, gI_gS, gL_gS, gR_gS, sI_gS, sL_gS, orf_some, Option.bind_some, List.length_cons, List.length_nil, Nat.reduceAdd, Nat.reduceLeDiff, if_true, if_false, Nat.zero_le, s_GB_isTest, s_GB_within, ite_b1, if_pos c1]
    · rw [cl_RM_cost]
      simp only [x_iload_1, xc_RM_isTest, x_if_eq, x_iload_2, x_i2l, x_l_1, x_l_99, xc_RM_in, x_if_ne, x_c_m1, x_iret, x_aload_0, x_get_666, x_iald, x_istore_3, x_iast, x_iload_3, tg_RM_cost_9, tg_RM_cost_11, bk_RM_cost_0, bk_RM_cost_9, bk_RM_cost_11, kil_int, kil_ref, kil_null, kil_long, kil_rA, psh_int, psh_long, psh_null, gI_gS, gL_gS, gR_gS, sI_gS, sL_gS, orf_some, Option.bind_some, List.length_cons, List.length_nil, Nat.reduceAdd, Nat.reduceLeDiff, if_true, if_false, Nat.zero_le, s_RM_isTest, s_RM_in, ite_b1, if_pos c1]
  replace c1 := Decidable.not_not.mp c1
  by_cases c2 : ¬ (1 ≤ c ∧ c ≤ 99)
  · refine ⟨-1, I, I, C, ?_, ?_, h, fun a _ _ => rfl⟩
    · simp only [x_iload_1, xc_GB_isTest, x_if_eq, x_iload_2, x_c_1, x_c_99, xc_GB_within, x_if_ne, x_c_m1, x_iret, x_aload_0, x_get_581, x_get_450, x_iald, x_istore_3, x_iast, x_iload_3, tg_GB_cost_8, tg_GB_cost_10, bk_GB_cost_0, bk_GB_cost_8, bk_GB_cost_10, kil_int, kil_ref, kil_null, kil_long, kil_rA, psh_int, psh_long, psh_null, gI_gS, gL_gS, gR_gS, sI_gS, sL_gS, orf_some, Option.bind_some, List.length_cons, List.length_nil, Nat.reduceAdd, Nat.reduceLeDiff, if_true, if_false, Nat.zero_le, s_GB_isTest, s_GB_within, ite_b1, ite_b2, if_neg (not_not_intro c1), if_neg c2, i10, ne_eq, not_true_eq_false, not_false_eq_true, Bool.false_eq_true, true_and, and_true, and_self, if_true, if_false]
    · rw [cl_RM_cost]
      simp (disch := first | omega | decide | assumption) only [x_iload_1, xc_RM_isTest, x_if_eq, x_iload_2, x_i2l, x_l_1, x_l_99, xc_RM_in, x_if_ne, x_c_m1, x_iret, x_aload_0, x_get_666, x_iald, x_istore_3, x_iast, x_iload_3, tg_RM_cost_9, tg_RM_cost_11, bk_RM_cost_0, bk_RM_cost_9, bk_RM_cost_11, kil_int, kil_ref, kil_null, kil_long, kil_rA, psh_int, psh_long, psh_null, gI_gS, gL_gS, gR_gS, sI_gS, sL_gS, orf_some, Option.bind_some, List.length_cons, List.length_nil, Nat.reduceAdd, Nat.reduceLeDiff, if_true, if_false, Nat.zero_le, s_RM_isTest, s_RM_in, ite_b1, ite_b2, w_Lle, w_leL, if_neg (not_not_intro c1), if_neg c2, i10, ne_eq, not_true_eq_false, not_false_eq_true, Bool.false_eq_true, true_and, and_true, and_self, if_true, if_false]
  replace c2 := Decidable.not_not.mp c2
  obtain ⟨t', y1, y2, rfl⟩ := nI_rng (by decide) (by decide) c1
  obtain ⟨c', z1, z2, rfl⟩ := nI_rng (by decide) (by decide) c2
  replace y2 : t' ≤ 5 := y2
  replace z1 : 1 ≤ c' := z1
  replace z2 : c' ≤ 99 := z2
  have h3 := h.2.2 t' (by omega)
  refine ⟨nI (C t'), up I 78 t' (nI c'), up (up I 78 t' (nI c')) 213 t' (nI c'), fun j => if j = t' then c' else C j, ?_, ?_, ?_, ?_⟩
  · simp (disch := first | omega | decide | assumption) only [x_iload_1, xc_GB_isTest, x_if_eq, x_iload_2, x_c_1, x_c_99, xc_GB_within, x_if_ne, x_c_m1, x_iret, x_aload_0, x_get_581, x_get_450, x_iald, x_istore_3, x_iast, x_iload_3, tg_GB_cost_8, tg_GB_cost_10, bk_GB_cost_0, bk_GB_cost_8, bk_GB_cost_10, kil_int, kil_ref, kil_null, kil_long, kil_rA, psh_int, psh_long, psh_null, gI_gS, gL_gS, gR_gS, sI_gS, sL_gS, orf_some, Option.bind_some, List.length_cons, List.length_nil, Nat.reduceAdd, Nat.reduceLeDiff, if_true, if_false, Nat.zero_le, s_GB_isTest, s_GB_within, ite_b1, ite_b2, y2, z1, z2, i10, ne_eq, not_true_eq_false, not_false_eq_true, Bool.false_eq_true, true_and, and_true, and_self, if_true, if_false, at_0, at_63, at_78, al_78, rw_0_5, rw_63_2, nI_ltI, nI_leI, nI_eq, nI_ltL, nI_leL, L_ltI, L_leI, nI_eqL, L_eqI, oob_nI, ix_nI, oob_L, ix_L, nI_1, nI_add, nI_z, z_nI, nI_lt0, nI_ge0, nI_gt0, nI_le0, ne_eq, Nat.le_zero_eq, Nat.not_lt_zero, Nat.lt_irrefl, Nat.le_refl, Bool.false_eq_true, h3.1]
  · rw [cl_RM_cost]
    simp (disch := first | omega | decide | assumption) only [x_iload_1, xc_RM_isTest, x_if_eq, x_iload_2, x_i2l, x_l_1, x_l_99, xc_RM_in, x_if_ne, x_c_m1, x_iret, x_aload_0, x_get_666, x_iald, x_istore_3, x_iast, x_iload_3, tg_RM_cost_9, tg_RM_cost_11, bk_RM_cost_0, bk_RM_cost_9, bk_RM_cost_11, kil_int, kil_ref, kil_null, kil_long, kil_rA, psh_int, psh_long, psh_null, gI_gS, gL_gS, gR_gS, sI_gS, sL_gS, orf_some, Option.bind_some, List.length_cons, List.length_nil, Nat.reduceAdd, Nat.reduceLeDiff, if_true, if_false, Nat.zero_le, s_RM_isTest, s_RM_in, ite_b1, ite_b2, w_Lle, w_leL, y2, z1, z2, i10, ne_eq, not_true_eq_false, not_false_eq_true, Bool.false_eq_true, true_and, and_true, and_self, if_true, if_false, at_190, at_213, al_213, rw_190_26, nI_ltI, nI_leI, nI_eq, nI_ltL, nI_leL, L_ltI, L_leI, nI_eqL, L_eqI, oob_nI, ix_nI, oob_L, ix_L, nI_1, nI_add, nI_z, z_nI, nI_lt0, nI_ge0, nI_gt0, nI_le0, ne_eq, Nat.le_zero_eq, Nat.not_lt_zero, Nat.lt_irrefl, Nat.le_refl, Bool.false_eq_true, up_ne, h3.2.1]
  · refine ⟨fun a k ha hk => ?_, fun a v ha hv => ?_, fun a ha => ?_⟩
    · simp (disch := first | omega | decide | assumption) only [up_ne]
      exact h.1 a k ha hk
    · simp (disch := first | omega | decide | assumption) only [up_ne]
      exact h.2.1 a v ha hv
    · simp (disch := first | omega | decide | assumption) only [up_same, up_ne]
      by_cases e : a = t'
      · subst e
        simp only [upd_same, if_true]
        exact ⟨trivial, trivial, z1, z2⟩
      · simp only [upd_ne e, if_neg e]
        exact h.2.2 a ha
  · intro a h1 h2
    rw [up_ne h2, up_ne h1]
theorem m1_tb {m : Nat} (hm : m < 256) (k j : Nat) : (m &&& (2 ^ k ^^^ 4294967295)).testBit j = (m.testBit j && decide (k ≠ j)) := by
  rw [Nat.testBit_and, Nat.testBit_xor, Nat.testBit_two_pow]
  by_cases hj : j < 8
  · rw [show (4294967295 : Nat) = 2 ^ 32 - 1 from rfl, Nat.testBit_two_pow_sub_one, decide_eq_true (show j < 32 by omega)]
    by_cases e : k = j <;> simp [e]
  · rw [tb_256 hm (by omega)]
    simp
theorem s_SU_setShown (I : Nat → Nat → Int32) (J : Nat → Nat → Int64) (q : Bool × Bool) (X : Nat × (Nat → Int32)) {S : Nat → Nat → Nat} {C : Nat → Nat} (h : stf I S C) {t k v : Nat} (ht : t < 6) (hk : k < 8) (hv : v < 4) : ∃ I1, gb_call 55 [.ref (63 : Nat), .int (nI t), .int (nI k), .int (nI v)] gb_pG (gS I J q X) = some (.int (nI (S t k)), gb_pG, gS I1 J q X) ∧ stf (up I1 212 (8 * t + k) (nI v)) (fun a b => if a = t ∧ b = k then v else S a b) C ∧ ∀ a, ¬ (65 ≤ a ∧ a < 71) → ¬ (72 ≤ a ∧ a < 78) → I1 a = I a := by
  obtain ⟨h1, h2, h3⟩ := h
  have b1 := h1 t k ht hk
  have b2 := h2 t (S t k) ht (by omega)
  have b3 := h2 t v ht hv
  have t1 := atr_64 ht
  have t2 := alr_64 ht
  have t3 := atr_71 ht
  have t4 := alr_71 ht
  obtain ⟨o, ho⟩ : ∃ o, o = S t k := ⟨_, rfl⟩
  rw [← ho] at b1 b2
  obtain ⟨M1, e1⟩ : ∃ m, m = pt S 255 t o &&& (2 ^ k ^^^ 4294967295) := ⟨_, rfl⟩
  obtain ⟨M2, e2⟩ : ∃ m, m = (if v = o then M1 else pt S 255 t v) ||| 2 ^ k := ⟨_, rfl⟩
  rw [← ho]
  have q1 : ∀ j, M1.testBit j = decide (j < 8 ∧ S t j = o ∧ k ≠ j) := fun j => by
    rw [e1, m1_tb (pt_lt S 255 t o), pt_tb]
    by_cases hj : j < 8
    · simp only [hj, tb_255 hj, true_and]
      by_cases c1 : S t j = o <;> by_cases c2 : k = j <;> simp [c1, c2]
    · simp [hj]
  have q2 : ∀ j, M2.testBit j = decide (j < 8 ∧ (S t j = v ∨ k = j)) := fun j => by
    rw [e2, Nat.testBit_or, Nat.testBit_two_pow]
    by_cases hj : j < 8
    · by_cases c1 : v = o
      · rw [if_pos c1, q1, ← c1]
        by_cases c2 : k = j <;> simp [c2, hj]
      · rw [if_neg c1, pt_tb]
        by_cases c2 : k = j <;> simp [c2, hj, tb_255 hj]
    · have hk2 : k ≠ j := by omega
      by_cases c1 : v = o
      · rw [if_pos c1, q1]
        simp [hj, hk2]
      · rw [if_neg c1, pt_tb]
        simp [hj, hk2]
  refine ⟨up (up (up I (72 + t) o (nI M1)) (72 + t) v (nI M2)) (65 + t) k (nI v), ?_, ⟨?_, ?_, ?_⟩, ?_⟩
  · rw [cl_SU_setShown]
    simp (disch := first | omega | decide | assumption) only [x_aload_0, x_get_448, x_iload_1, x_aald, x_aaldJ, x_iload_2, x_iald, x_istore_4, x_get_449, x_iload_4, x_dup2, x_c_1, x_ishl, x_c_m1, x_ixor, x_iand, x_iast, x_iload_3, x_ior, x_iret, bk_SU_setShown_0, kil_int, kil_ref, kil_null, kil_long, kil_rA, psh_int, psh_long, psh_null, gI_gS, gL_gS, gR_gS, sI_gS, sL_gS, orf_some, Option.bind_some, List.length_cons, List.length_nil, Nat.reduceAdd, Nat.reduceLeDiff, if_true, if_false, Nat.zero_le, at_63, at_64, at_71, al_64, al_71, rw_63_0, rw_63_1, rw_64, rw_71, t2, t4, nI_ltI, nI_leI, nI_eq, nI_ltL, nI_leL, L_ltI, L_leI, nI_eqL, L_eqI, oob_nI, ix_nI, oob_L, ix_L, nI_1, nI_add, nI_z, z_nI, nI_lt0, nI_ge0, nI_gt0, nI_le0, ne_eq, Nat.le_zero_eq, Nat.not_lt_zero, Nat.lt_irrefl, Nat.le_refl, Bool.false_eq_true, b1.1, b2, sh_1 hk, nI_m1, nI_xor, nI_and, ← e1, up_same]
    by_cases c1 : v = o
    · subst c1
      rw [upd_same, nI_or, e2, if_pos rfl]
    · rw [upd_ne c1, b3, nI_or, e2, if_neg c1]
  · intro a b ha hb
    have := h1 a b ha hb
    by_cases e : a = t
    · subst e
      by_cases e' : b = k
      · subst e'
        simp (disch := first | omega | decide | assumption) only [up_same, up_ne, upd_same, and_self, if_true]
        exact ⟨trivial, trivial, by omega⟩
      · have e3 : ¬ (8 * a + b = 8 * a + k) := by omega
        simp (disch := first | omega | decide | assumption) only [up_same, up_ne, upd_ne, e', and_false, if_false]
        exact this
    · have e3 : ¬ (8 * a + b = 8 * t + k) := by omega
      simp (disch := first | omega | decide | assumption) only [up_same, up_ne, upd_ne, e, false_and, if_false]
      exact this
  · intro a u ha hu
    by_cases e : a = t
    · subst e
      simp (disch := first | omega | decide | assumption) only [up_same, up_ne]
      by_cases c1 : u = v
      · subst c1
        rw [upd_same]
        congr 1
        apply Nat.eq_of_testBit_eq
        intro j
        rw [q2, pt_tb]
        by_cases hj : j < 8
        · simp only [hj, tb_255 hj, true_and]
          by_cases c2 : j = k
          · subst c2; simp
          · have c3 : ¬ k = j := fun q => c2 q.symm
            simp [c2, c3]
        · simp [hj]
      · rw [upd_ne c1]
        by_cases c2 : u = o
        · subst c2
          rw [upd_same]
          congr 1
          apply Nat.eq_of_testBit_eq
          intro j
          rw [q1, pt_tb]
          by_cases hj : j < 8
          · simp only [hj, tb_255 hj, true_and]
            by_cases c2 : j = k
            · subst c2
              have : ¬ v = u := fun q => c1 q.symm
              simp [this]
            · have c3 : ¬ k = j := fun q => c2 q.symm
              simp [c2, c3]
          · simp [hj]
        · rw [upd_ne c2, h2 a u ha hu]
          congr 1
          apply Nat.eq_of_testBit_eq
          intro j
          rw [pt_tb, pt_tb]
          by_cases hj : j = k
          · subst hj
            have k1 : ¬ v = u := fun q => c1 q.symm
            have k2 : ¬ S a j = u := fun q => c2 (by rw [ho, q])
            simp [k1, k2]
          · simp [hj]
    · simp (disch := first | omega | decide | assumption) only [up_ne]
      rw [h2 a u ha hu]
      congr 1
      apply Nat.eq_of_testBit_eq
      intro j
      rw [pt_tb, pt_tb]
      simp [e]
  · intro a ha
    simp (disch := first | omega | decide | assumption) only [up_ne]
    exact h3 a ha
  · intro a h4 h5
    rw [up_ne (by omega), up_ne (by omega), up_ne (by omega)]
theorem d_show (I : Nat → Nat → Int32) (J : Nat → Nat → Int64) (q : Bool × Bool) (X : Nat × (Nat → Int32)) {S : Nat → Nat → Nat} {C : Nat → Nat} (h : stf I S C) (t k v : Int32) : ∃ r I1 I2 S', gb_call 100 [.ref (0 : Nat), .int t, .int k, .int v] gb_pG (gS I J q X) = some (.int r, gb_pG, gS I1 J q X) ∧ gb_call 175 [.ref (190 : Nat), .int t, .int k, .int v] gb_pG (gS I1 J q X) = some (.int r, gb_pG, gS I2 J q X) ∧ stf I2 S' C ∧ ∀ a, ¬ (65 ≤ a ∧ a < 71) → ¬ (72 ≤ a ∧ a < 78) → a ≠ 212 → I2 a = I a := by
  rw [cl_GB_show]
  by_cases c1 : ¬ (0 ≤ t ∧ t ≤ 5)
  · refine ⟨-1, I, I, S, ?_, ?_, h, fun a _ _ _ => rfl⟩
    · simp only [x_iload_1, xc_GB_isTest, x_if_eq, x_iload_2, x_c_0, x_c_7, xc_GB_within, x_iload_3, xc_GB_isShown, x_if_ne, x_c_m1, x_iret, x_aload_0, x_get_581, xc_SU_setShown, tg_GB_show_11, tg_GB_show_13, bk_GB_show_0, bk_GB_show_11, bk_GB_show_13, kil_int, kil_ref, kil_null, kil_long, kil_rA, psh_int, psh_long, psh_null, gI_gS, gL_gS, gR_gS, sI_gS, sL_gS, orf_some, Option.bind_some, List.length_cons, List.length_nil, Nat.reduceAdd, Nat.reduceLeDiff, if_true, if_false, Nat.zero_le, s_GB_isTest, s_GB_within, ite_b1, if_pos c1]
    · rw [cl_RM_show]
      simp only [x_iload_1, xc_RM_isTest, x_if_eq, x_iload_2, x_i2l, x_l_0, x_l_7, xc_RM_in, x_iload_3, x_l_3, x_if_ne, x_c_m1, x_iret, x_aload_0, x_get_665, x_c_8, x_imul, x_iadd, x_iald, x_istore_4, x_iast, x_iload_4, tg_RM_show_15, tg_RM_show_17, bk_RM_show_0, bk_RM_show_15, bk_RM_show_17, kil_int, kil_ref, kil_null, kil_long, kil_rA, psh_int, psh_long, psh_null, gI_gS, gL_gS, gR_gS, sI_gS, sL_gS, orf_some, Option.bind_some, List.length_cons, List.length_nil, Nat.reduceAdd, Nat.reduceLeDiff, if_true, if_false, Nat.zero_le, s_RM_isTest, s_RM_in, ite_b1, if_pos c1]
  replace c1 := Decidable.not_not.mp c1
  by_cases c2 : ¬ (0 ≤ k ∧ k ≤ 7)
  · refine ⟨-1, I, I, S, ?_, ?_, h, fun a _ _ _ => rfl⟩
    · simp only [x_iload_1, xc_GB_isTest, x_if_eq, x_iload_2, x_c_0, x_c_7, xc_GB_within, x_iload_3, xc_GB_isShown, x_if_ne, x_c_m1, x_iret, x_aload_0, x_get_581, xc_SU_setShown, tg_GB_show_11, tg_GB_show_13, bk_GB_show_0, bk_GB_show_11, bk_GB_show_13, kil_int, kil_ref, kil_null, kil_long, kil_rA, psh_int, psh_long, psh_null, gI_gS, gL_gS, gR_gS, sI_gS, sL_gS, orf_some, Option.bind_some, List.length_cons, List.length_nil, Nat.reduceAdd, Nat.reduceLeDiff, if_true, if_false, Nat.zero_le, s_GB_isTest, s_GB_within, ite_b1, ite_b2, if_neg (not_not_intro c1), if_pos c2]
    · rw [cl_RM_show]
      simp (disch := first | omega | decide | assumption) only [x_iload_1, xc_RM_isTest, x_if_eq, x_iload_2, x_i2l, x_l_0, x_l_7, xc_RM_in, x_iload_3, x_l_3, x_if_ne, x_c_m1, x_iret, x_aload_0, x_get_665, x_c_8, x_imul, x_iadd, x_iald, x_istore_4, x_iast, x_iload_4, tg_RM_show_15, tg_RM_show_17, bk_RM_show_0, bk_RM_show_15, bk_RM_show_17, kil_int, kil_ref, kil_null, kil_long, kil_rA, psh_int, psh_long, psh_null, gI_gS, gL_gS, gR_gS, sI_gS, sL_gS, orf_some, Option.bind_some, List.length_cons, List.length_nil, Nat.reduceAdd, Nat.reduceLeDiff, if_true, if_false, Nat.zero_le, s_RM_isTest, s_RM_in, ite_b1, ite_b2, w_Lle, w_leL, if_neg (not_not_intro c1), if_pos c2]
  replace c2 := Decidable.not_not.mp c2
  by_cases c3 : ¬ (0 ≤ v ∧ v ≤ 3)
  · refine ⟨-1, I, I, S, ?_, ?_, h, fun a _ _ _ => rfl⟩
    · simp only [x_iload_1, xc_GB_isTest, x_if_eq, x_iload_2, x_c_0, x_c_7, xc_GB_within, x_iload_3, xc_GB_isShown, x_if_ne, x_c_m1, x_iret, x_aload_0, x_get_581, xc_SU_setShown, tg_GB_show_11, tg_GB_show_13, bk_GB_show_0, bk_GB_show_11, bk_GB_show_13, kil_int, kil_ref, kil_null, kil_long, kil_rA, psh_int, psh_long, psh_null, gI_gS, gL_gS, gR_gS, sI_gS, sL_gS, orf_some, Option.bind_some, List.length_cons, List.length_nil, Nat.reduceAdd, Nat.reduceLeDiff, if_true, if_false, Nat.zero_le, s_GB_isTest, s_GB_isShown, s_GB_within, ite_b1, ite_b2, if_neg (not_not_intro c1), if_neg (not_not_intro c2), if_neg c3, i10, ne_eq, not_true_eq_false, not_false_eq_true, Bool.false_eq_true, true_and, and_true, and_self, if_true, if_false]
    · rw [cl_RM_show]
      simp (disch := first | omega | decide | assumption) only [x_iload_1, xc_RM_isTest, x_if_eq, x_iload_2, x_i2l, x_l_0, x_l_7, xc_RM_in, x_iload_3, x_l_3, x_if_ne, x_c_m1, x_iret, x_aload_0, x_get_665, x_c_8, x_imul, x_iadd, x_iald, x_istore_4, x_iast, x_iload_4, tg_RM_show_15, tg_RM_show_17, bk_RM_show_0, bk_RM_show_15, bk_RM_show_17, kil_int, kil_ref, kil_null, kil_long, kil_rA, psh_int, psh_long, psh_null, gI_gS, gL_gS, gR_gS, sI_gS, sL_gS, orf_some, Option.bind_some, List.length_cons, List.length_nil, Nat.reduceAdd, Nat.reduceLeDiff, if_true, if_false, Nat.zero_le, s_RM_isTest, s_RM_in, ite_b1, ite_b2, w_Lle, w_leL, if_neg (not_not_intro c1), if_neg (not_not_intro c2), if_neg c3, i10, ne_eq, not_true_eq_false, not_false_eq_true, Bool.false_eq_true, true_and, and_true, and_self, if_true, if_false]
  replace c3 := Decidable.not_not.mp c3
  obtain ⟨t', x1, x2, rfl⟩ := nI_rng (by decide) (by decide) c1
  obtain ⟨k', y1, y2, rfl⟩ := nI_rng (by decide) (by decide) c2
  obtain ⟨v', z1, z2, rfl⟩ := nI_rng (by decide) (by decide) c3
  replace x2 : t' ≤ 5 := x2
  replace y2 : k' ≤ 7 := y2
  replace z2 : v' ≤ 3 := z2
  obtain ⟨I1, p1, p2, p3⟩ := s_SU_setShown I J q X h (show t' < 6 by omega) (show k' < 8 by omega) (show v' < 4 by omega)
  have h3 := h.1 t' k' (by omega) (by omega)
  have e8 : (8 : Int32) * nI t' = nI (8 * t') := by rw [fa_lit, pk_mul]
  have h4 : I1 212 = I 212 := p3 212 (by omega) (by omega)
  refine ⟨nI (S t' k'), I1, _, _, ?_, ?_, p2, ?_⟩
  · simp (disch := first | omega | decide | assumption) only [x_iload_1, xc_GB_isTest, x_if_eq, x_iload_2, x_c_0, x_c_7, xc_GB_within, x_iload_3, xc_GB_isShown, x_if_ne, x_c_m1, x_iret, x_aload_0, x_get_581, xc_SU_setShown, tg_GB_show_11, tg_GB_show_13, bk_GB_show_0, bk_GB_show_11, bk_GB_show_13, kil_int, kil_ref, kil_null, kil_long, kil_rA, psh_int, psh_long, psh_null, gI_gS, gL_gS, gR_gS, sI_gS, sL_gS, orf_some, Option.bind_some, List.length_cons, List.length_nil, Nat.reduceAdd, Nat.reduceLeDiff, if_true, if_false, Nat.zero_le, s_GB_isTest, s_GB_isShown, s_GB_within, ite_b1, ite_b2, x2, y2, z2, i10, ne_eq, not_true_eq_false, not_false_eq_true, Bool.false_eq_true, true_and, and_true, and_self, if_true, if_false, at_0, at_63, at_78, rw_0_5, nI_ltI, nI_leI, nI_eq, nI_ltL, nI_leL, L_ltI, L_leI, nI_eqL, L_eqI, oob_nI, ix_nI, oob_L, ix_L, nI_1, nI_add, nI_z, z_nI, nI_lt0, nI_ge0, nI_gt0, nI_le0, ne_eq, Nat.le_zero_eq, Nat.not_lt_zero, Nat.lt_irrefl, Nat.le_refl, p1]
  · rw [cl_RM_show]
    simp (disch := first | omega | decide | assumption) only [x_iload_1, xc_RM_isTest, x_if_eq, x_iload_2, x_i2l, x_l_0, x_l_7, xc_RM_in, x_iload_3, x_l_3, x_if_ne, x_c_m1, x_iret, x_aload_0, x_get_665, x_c_8, x_imul, x_iadd, x_iald, x_istore_4, x_iast, x_iload_4, tg_RM_show_15, tg_RM_show_17, bk_RM_show_0, bk_RM_show_15, bk_RM_show_17, kil_int, kil_ref, kil_null, kil_long, kil_rA, psh_int, psh_long, psh_null, gI_gS, gL_gS, gR_gS, sI_gS, sL_gS, orf_some, Option.bind_some, List.length_cons, List.length_nil, Nat.reduceAdd, Nat.reduceLeDiff, if_true, if_false, Nat.zero_le, s_RM_isTest, s_RM_in, ite_b1, ite_b2, w_Lle, w_leL, x2, y2, z2, i10, ne_eq, not_true_eq_false, not_false_eq_true, Bool.false_eq_true, true_and, and_true, and_self, if_true, if_false, at_190, at_212, al_212, rw_190_25, nI_ltI, nI_leI, nI_eq, nI_ltL, nI_leL, L_ltI, L_leI, nI_eqL, L_eqI, oob_nI, ix_nI, oob_L, ix_L, nI_1, nI_add, nI_z, z_nI, nI_lt0, nI_ge0, nI_gt0, nI_le0, ne_eq, Nat.le_zero_eq, Nat.not_lt_zero, Nat.lt_irrefl, Nat.le_refl, Bool.false_eq_true, e8, h4, h3.2.1]
  · intro a a1 a2 a3
    rw [up_ne a3, p3 a a1 a2]
