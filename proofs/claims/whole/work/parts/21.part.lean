theorem pt_le (S : Nat → Nat → Nat) (A t v : Nat) : pt S A t v ≤ A := by
  rw [← pt_sub S (A := A) t v]
  exact Nat.and_le_left
/-! parting -/
def bw (S : Nat → Nat → Nat) (f : Nat → Nat) (A t : Nat) : Nat → Nat → Nat → Option Nat
  | 0, _, a => some a
  | d + 1, v, a => if pt S A t v = A then none else bw S f A t d (v + 1) (if pt S A t v = 0 then a else if a < f (pt S A t v) then f (pt S A t v) else a)
def bf (c : Nat) : Option Nat → Nat
  | none => 1000000
  | some m => if m = 1000000 then 1000000 else m + c
def bt (S : Nat → Nat → Nat) (C f : Nat → Nat) (A t : Nat) : Nat := bf (C t) (bw S f A t 4 0 0)
theorem bw_le {S : Nat → Nat → Nat} {f : Nat → Nat} {A t : Nat} (hf : ∀ B, 0 < B → B < A → A &&& B = B → f B ≤ 1000000) : ∀ d v a, a ≤ 1000000 → ∀ m, bw S f A t d v a = some m → m ≤ 1000000
  | 0, v, a, ha, m, e => by
    simp only [bw, Option.some.injEq] at e
    omega
  | d + 1, v, a, ha, m, e => by
    rw [bw] at e
    by_cases c : pt S A t v = A
    · rw [if_pos c] at e
      cases e
    · rw [if_neg c] at e
      refine bw_le hf d (v + 1) _ ?_ m e
      by_cases c2 : pt S A t v = 0
      · rw [if_pos c2]; exact ha
      · rw [if_neg c2]
        have := pt_le S A t v
        have := hf (pt S A t v) (by omega) (by omega) (pt_sub S t v)
        split <;> omega
theorem l_SU_costThrough (I : Nat → Nat → Int32) (J : Nat → Nat → Int64) (q : Bool × Bool) (X : Nat × (Nat → Int32)) {S : Nat → Nat → Nat} {C f : Nat → Nat} (h : stf I S C) {A t : Nat} (hA : A < 256) (ht : t < 6) (hf : ∀ B, 0 < B → B < A → A &&& B = B → I 79 B = nI (f B) ∧ f B ≤ 1000000) : ∀ (d v a : Nat) (z : Value), d + v = 4 → a ≤ 1000000 → gb_ex 59 bk_SU_costThrough_4 [.ref (63 : Nat), .int (nI A), .int (nI t), .int (nI a), .int (nI v), z] [] gb_pG (gS I J q X) = some (.int (nI (bf (C t) (bw S f A t d v a))), gb_pG, gS I J q X)
  | 0, v, a, z, e, ha => by
    have h3 := h.2.2 t ht
    rw [bk_SU_costThrough_4]
    simp (disch := first | omega | decide | assumption | simp only [List.length_cons, List.length_nil, Nat.reduceAdd, Nat.reduceLeDiff]) only [x_c_0, x_istore_3, x_istore_4, x_iload_4, x_c_4, x_ic_ge, x_aload_0, x_iload_1, x_iload_2, xc_SU_part, x_istore_5, x_iload_5, x_ic_ne, x_c_1000000, x_iret, x_if_eq, x_iload_3, x_get_451, x_iald, x_max, x_iinc_4_1, x_goto, x_get_450, x_iadd, tg_SU_costThrough_4, tg_SU_costThrough_18, tg_SU_costThrough_27, tg_SU_costThrough_29, tg_SU_costThrough_34, tg_SU_costThrough_40, bk_SU_costThrough_0, bk_SU_costThrough_18, bk_SU_costThrough_27, bk_SU_costThrough_29, bk_SU_costThrough_34, bk_SU_costThrough_40, kil_int, kil_ref, kil_null, kil_long, kil_rA, psh_int, psh_long, psh_null, gI_gS, gL_gS, gR_gS, sI_gS, sL_gS, orf_some, Option.bind_some, List.length_cons, List.length_nil, Nat.reduceAdd, Nat.reduceLeDiff, if_true, if_false, Nat.zero_le, nI_ltI, nI_leI, nI_eq, nI_ltL, nI_leL, L_ltI, L_leI, nI_eqL, L_eqI, oob_nI, ix_nI, oob_L, ix_L, nI_1, nI_add, nI_z, z_nI, nI_lt0, nI_ge0, nI_gt0, nI_le0, ne_eq, Nat.le_zero_eq, Nat.not_lt_zero, Nat.lt_irrefl, Nat.le_refl, if_pos (show 4 ≤ v by omega), at_63, at_78, al_78, rw_63_2, h3.1, i10, ne_eq, not_true_eq_false, not_false_eq_true, Bool.false_eq_true, true_and, and_true, and_self, if_true, if_false]
    rw [bw, bf]
    by_cases c : a = 1000000
    · simp [c]
      rfl
    · simp [c]
  | d + 1, v, a, z, e, ha => by
    have hp := s_SU_part I J q X h hA ht (show v < 4 by omega)
    have hl := pt_lt S A t v
    have hl2 := pt_le S A t v
    have hs := pt_sub S (A := A) t v
    have hfp := hf (pt S A t v)
    rw [bk_SU_costThrough_4, bw]
    generalize pt S A t v = B at hp hl hl2 hs hfp ⊢
    simp (disch := first | omega | decide | assumption | simp only [List.length_cons, List.length_nil, Nat.reduceAdd, Nat.reduceLeDiff]) only [x_c_0, x_istore_3, x_istore_4, x_iload_4, x_c_4, x_ic_ge, x_aload_0, x_iload_1, x_iload_2, xc_SU_part, x_istore_5, x_iload_5, x_ic_ne, x_c_1000000, x_iret, x_if_eq, x_iload_3, x_get_451, x_iald, x_max, x_iinc_4_1, x_goto, x_get_450, x_iadd, tg_SU_costThrough_4, tg_SU_costThrough_18, tg_SU_costThrough_27, tg_SU_costThrough_29, tg_SU_costThrough_34, tg_SU_costThrough_40, bk_SU_costThrough_0, bk_SU_costThrough_18, bk_SU_costThrough_27, bk_SU_costThrough_29, bk_SU_costThrough_34, bk_SU_costThrough_40, kil_int, kil_ref, kil_null, kil_long, kil_rA, psh_int, psh_long, psh_null, gI_gS, gL_gS, gR_gS, sI_gS, sL_gS, orf_some, Option.bind_some, List.length_cons, List.length_nil, Nat.reduceAdd, Nat.reduceLeDiff, if_true, if_false, Nat.zero_le, nI_ltI, nI_leI, nI_eq, nI_ltL, nI_leL, L_ltI, L_leI, nI_eqL, L_eqI, oob_nI, ix_nI, oob_L, ix_L, nI_1, nI_add, nI_z, z_nI, nI_lt0, nI_ge0, nI_gt0, nI_le0, ne_eq, Nat.le_zero_eq, Nat.not_lt_zero, Nat.lt_irrefl, Nat.le_refl, if_neg (show ¬ 4 ≤ v by omega), at_63, at_79, al_79, rw_63_3, hp, i10, ne_eq, not_true_eq_false, not_false_eq_true, Bool.false_eq_true, true_and, and_true, and_self, if_true, if_false]
    by_cases c1 : B = A
    · simp only [c1, if_true, not_true_eq_false, if_false]
      rfl
    · simp only [c1, if_false, not_false_eq_true, if_true]
      by_cases c2 : B = 0
      · simp only [c2, if_true]
        exact l_SU_costThrough I J q X h hA ht hf d (v + 1) a _ (by omega) ha
      · have := hfp (by omega) (by omega) hs
        simp (disch := first | omega | decide | assumption | simp only [List.length_cons, List.length_nil, Nat.reduceAdd, Nat.reduceLeDiff]) only [c2, if_false, this.1, nI_ltI, nI_leI, nI_eq, nI_ltL, nI_leL, L_ltI, L_leI, nI_eqL, L_eqI, oob_nI, ix_nI, oob_L, ix_L, nI_1, nI_add, nI_z, z_nI, nI_lt0, nI_ge0, nI_gt0, nI_le0, ne_eq, Nat.le_zero_eq, Nat.not_lt_zero, Nat.lt_irrefl, Nat.le_refl]
        rw [← l_SU_costThrough I J q X h hA ht hf d (v + 1) _ (.int (nI B)) (by omega) (show (if a < f B then f B else a) ≤ 1000000 by split <;> omega)]
        by_cases c3 : a < f B <;> simp [c3]
theorem s_SU_costThrough (I : Nat → Nat → Int32) (J : Nat → Nat → Int64) (q : Bool × Bool) (X : Nat × (Nat → Int32)) {S : Nat → Nat → Nat} {C f : Nat → Nat} (h : stf I S C) {A t : Nat} (hA : A < 256) (ht : t < 6) (hf : ∀ B, 0 < B → B < A → A &&& B = B → I 79 B = nI (f B) ∧ f B ≤ 1000000) : gb_call 59 [.ref (63 : Nat), .int (nI A), .int (nI t)] gb_pG (gS I J q X) = some (.int (nI (bt S C f A t)), gb_pG, gS I J q X) := by
  rw [cl_SU_costThrough]
  simp only [x_c_0, x_istore_3, x_istore_4, x_iload_4, x_c_4, x_ic_ge, x_aload_0, x_iload_1, x_iload_2, xc_SU_part, x_istore_5, x_iload_5, x_ic_ne, x_c_1000000, x_iret, x_if_eq, x_iload_3, x_get_451, x_iald, x_max, x_iinc_4_1, x_goto, x_get_450, x_iadd, tg_SU_costThrough_4, tg_SU_costThrough_18, tg_SU_costThrough_27, tg_SU_costThrough_29, tg_SU_costThrough_34, tg_SU_costThrough_40, bk_SU_costThrough_0, bk_SU_costThrough_18, bk_SU_costThrough_27, bk_SU_costThrough_29, bk_SU_costThrough_34, bk_SU_costThrough_40, kil_int, kil_ref, kil_null, kil_long, kil_rA, psh_int, psh_long, psh_null, gI_gS, gL_gS, gR_gS, sI_gS, sL_gS, orf_some, Option.bind_some, List.length_cons, List.length_nil, Nat.reduceAdd, Nat.reduceLeDiff, if_true, if_false, Nat.zero_le]
  exact l_SU_costThrough I J q X h hA ht hf 4 0 0 _ (by omega) (by omega)
theorem l_RM_byTest (I : Nat → Nat → Int32) (J : Nat → Nat → Int64) (q : Bool × Bool) (X : Nat × (Nat → Int32)) {S : Nat → Nat → Nat} {C f : Nat → Nat} (h : stf I S C) {A t : Nat} (hA : A < 256) (ht : t < 6) (hf : ∀ B, 0 < B → B < A → A &&& B = B → I 217 B = nI (f B) ∧ f B ≤ 1000000) : ∀ (d v a : Nat) (z : Value), d + v = 4 → a ≤ 1000000 → gb_ex 178 bk_RM_byTest_4 [.ref (190 : Nat), .int (nI A), .int (nI t), .int (nI a), .int (nI v), z] [] gb_pG (gS I J q X) = some (.int (nI (bf (C t) (bw S f A t d v a))), gb_pG, gS I J q X)
  | 0, v, a, z, e, ha => by
    have h3 := h.2.2 t ht
    rw [bk_RM_byTest_4]
    simp (disch := first | omega | decide | assumption | simp only [List.length_cons, List.length_nil, Nat.reduceAdd, Nat.reduceLeDiff]) only [x_c_0, x_istore_3, x_istore_4, x_iload_4, x_c_4, x_ic_ge, x_aload_0, x_iload_1, x_iload_2, xc_RM_shownOf, x_istore_5, x_iload_5, x_ic_ne, x_c_1000000, x_iret, x_if_eq, x_get_670, x_iald, x_iload_3, x_ic_le, x_goto, x_iinc_4_1, x_get_666, x_iadd, tg_RM_byTest_4, tg_RM_byTest_18, tg_RM_byTest_31, tg_RM_byTest_32, tg_RM_byTest_35, tg_RM_byTest_40, tg_RM_byTest_46, bk_RM_byTest_0, bk_RM_byTest_18, bk_RM_byTest_31, bk_RM_byTest_32, bk_RM_byTest_35, bk_RM_byTest_40, bk_RM_byTest_46, kil_int, kil_ref, kil_null, kil_long, kil_rA, psh_int, psh_long, psh_null, gI_gS, gL_gS, gR_gS, sI_gS, sL_gS, orf_some, Option.bind_some, List.length_cons, List.length_nil, Nat.reduceAdd, Nat.reduceLeDiff, if_true, if_false, Nat.zero_le, nI_ltI, nI_leI, nI_eq, nI_ltL, nI_leL, L_ltI, L_leI, nI_eqL, L_eqI, oob_nI, ix_nI, oob_L, ix_L, nI_1, nI_add, nI_z, z_nI, nI_lt0, nI_ge0, nI_gt0, nI_le0, ne_eq, Nat.le_zero_eq, Nat.not_lt_zero, Nat.lt_irrefl, Nat.le_refl, if_pos (show 4 ≤ v by omega), at_190, at_213, al_213, rw_190_26, h3.2.1, i10, ne_eq, not_true_eq_false, not_false_eq_true, Bool.false_eq_true, true_and, and_true, and_self, if_true, if_false]
    rw [bw, bf]
    by_cases c : a = 1000000
    · simp [c]
      rfl
    · simp [c, Nat.add_comm]
  | d + 1, v, a, z, e, ha => by
    have hp := s_RM_shownOf I J q X h hA ht (show v < 4 by omega)
    have hl := pt_lt S A t v
    have hl2 := pt_le S A t v
    have hs := pt_sub S (A := A) t v
    have hfp := hf (pt S A t v)
    rw [bk_RM_byTest_4, bw]
    generalize pt S A t v = B at hp hl hl2 hs hfp ⊢
    simp (disch := first | omega | decide | assumption | simp only [List.length_cons, List.length_nil, Nat.reduceAdd, Nat.reduceLeDiff]) only [x_c_0, x_istore_3, x_istore_4, x_iload_4, x_c_4, x_ic_ge, x_aload_0, x_iload_1, x_iload_2, xc_RM_shownOf, x_istore_5, x_iload_5, x_ic_ne, x_c_1000000, x_iret, x_if_eq, x_get_670, x_iald, x_iload_3, x_ic_le, x_goto, x_iinc_4_1, x_get_666, x_iadd, tg_RM_byTest_4, tg_RM_byTest_18, tg_RM_byTest_31, tg_RM_byTest_32, tg_RM_byTest_35, tg_RM_byTest_40, tg_RM_byTest_46, bk_RM_byTest_0, bk_RM_byTest_18, bk_RM_byTest_31, bk_RM_byTest_32, bk_RM_byTest_35, bk_RM_byTest_40, bk_RM_byTest_46, kil_int, kil_ref, kil_null, kil_long, kil_rA, psh_int, psh_long, psh_null, gI_gS, gL_gS, gR_gS, sI_gS, sL_gS, orf_some, Option.bind_some, List.length_cons, List.length_nil, Nat.reduceAdd, Nat.reduceLeDiff, if_true, if_false, Nat.zero_le, nI_ltI, nI_leI, nI_eq, nI_ltL, nI_leL, L_ltI, L_leI, nI_eqL, L_eqI, oob_nI, ix_nI, oob_L, ix_L, nI_1, nI_add, nI_z, z_nI, nI_lt0, nI_ge0, nI_gt0, nI_le0, ne_eq, Nat.le_zero_eq, Nat.not_lt_zero, Nat.lt_irrefl, Nat.le_refl, if_neg (show ¬ 4 ≤ v by omega), at_190, at_217, al_217, rw_190_30, hp, i10, ne_eq, not_true_eq_false, not_false_eq_true, Bool.false_eq_true, true_and, and_true, and_self, if_true, if_false]
    by_cases c1 : B = A
    · simp only [c1, if_true, not_true_eq_false, if_false]
      rfl
    · simp only [c1, if_false, not_false_eq_true, if_true]
      by_cases c2 : B = 0
      · simp only [c2, if_true]
        exact l_RM_byTest I J q X h hA ht hf d (v + 1) a _ (by omega) ha
      · have := hfp (by omega) (by omega) hs
        simp (disch := first | omega | decide | assumption | simp only [List.length_cons, List.length_nil, Nat.reduceAdd, Nat.reduceLeDiff]) only [c2, if_false, this.1, nI_ltI, nI_leI, nI_eq, nI_ltL, nI_leL, L_ltI, L_leI, nI_eqL, L_eqI, oob_nI, ix_nI, oob_L, ix_L, nI_1, nI_add, nI_z, z_nI, nI_lt0, nI_ge0, nI_gt0, nI_le0, ne_eq, Nat.le_zero_eq, Nat.not_lt_zero, Nat.lt_irrefl, Nat.le_refl]
        rw [← l_RM_byTest I J q X h hA ht hf d (v + 1) _ (.int (nI B)) (by omega) (show (if a < f B then f B else a) ≤ 1000000 by split <;> omega)]
        by_cases c3 : a < f B
        · simp [c3, if_neg (show ¬ f B ≤ a by omega)]
        · simp [c3, if_pos (show f B ≤ a by omega)]
theorem s_RM_byTest (I : Nat → Nat → Int32) (J : Nat → Nat → Int64) (q : Bool × Bool) (X : Nat × (Nat → Int32)) {S : Nat → Nat → Nat} {C f : Nat → Nat} (h : stf I S C) {A t : Nat} (hA : A < 256) (ht : t < 6) (hf : ∀ B, 0 < B → B < A → A &&& B = B → I 217 B = nI (f B) ∧ f B ≤ 1000000) : gb_call 178 [.ref (190 : Nat), .int (nI A), .int (nI t)] gb_pG (gS I J q X) = some (.int (nI (bt S C f A t)), gb_pG, gS I J q X) := by
  rw [cl_RM_byTest]
  simp only [x_c_0, x_istore_3, x_istore_4, x_iload_4, x_c_4, x_ic_ge, x_aload_0, x_iload_1, x_iload_2, xc_RM_shownOf, x_istore_5, x_iload_5, x_ic_ne, x_c_1000000, x_iret, x_if_eq, x_get_670, x_iald, x_iload_3, x_ic_le, x_goto, x_iinc_4_1, x_get_666, x_iadd, tg_RM_byTest_4, tg_RM_byTest_18, tg_RM_byTest_31, tg_RM_byTest_32, tg_RM_byTest_35, tg_RM_byTest_40, tg_RM_byTest_46, bk_RM_byTest_0, bk_RM_byTest_18, bk_RM_byTest_31, bk_RM_byTest_32, bk_RM_byTest_35, bk_RM_byTest_40, bk_RM_byTest_46, kil_int, kil_ref, kil_null, kil_long, kil_rA, psh_int, psh_long, psh_null, gI_gS, gL_gS, gR_gS, sI_gS, sL_gS, orf_some, Option.bind_some, List.length_cons, List.length_nil, Nat.reduceAdd, Nat.reduceLeDiff, if_true, if_false, Nat.zero_le]
  exact l_RM_byTest I J q X h hA ht hf 4 0 0 _ (by omega) (by omega)
theorem bt_le {S : Nat → Nat → Nat} {C f : Nat → Nat} {A t : Nat} (hf : ∀ B, 0 < B → B < A → A &&& B = B → f B ≤ 1000000) (hC : C t ≤ 99) : bt S C f A t ≤ 1000099 := by
  unfold bt
  cases e : bw S f A t 4 0 0 with
  | none => simp [bf]
  | some m =>
    have := bw_le hf 4 0 0 (by omega) m e
    simp only [bf]
    split <;> omega
/-- the least over the tests -/
def mt (b : Nat → Nat) (d i a : Nat) : Nat := lp (fun t a => if b t < a then b t else a) d i a
theorem mt_le (b : Nat → Nat) : ∀ d i a, mt b d i a ≤ a
  | 0, _, a => Nat.le_refl a
  | d + 1, i, a => by
    refine Nat.le_trans (mt_le b d (i + 1) _) ?_
    dsimp only
    split <;> omega
theorem l_SU_leastCost (I : Nat → Nat → Int32) (J : Nat → Nat → Int64) (q : Bool × Bool) (X : Nat × (Nat → Int32)) {S : Nat → Nat → Nat} {C f : Nat → Nat} (h : stf I S C) {A : Nat} (hA : A < 256) (hf : ∀ B, 0 < B → B < A → A &&& B = B → I 79 B = nI (f B) ∧ f B ≤ 1000000) : ∀ (d t a : Nat), d + t = 6 → a ≤ 1000000 → gb_ex 58 bk_SU_leastCost_4 [.ref (63 : Nat), .int (nI A), .int (nI a), .int (nI t)] [] gb_pG (gS I J q X) = some (.int (nI (mt (bt S C f A) d t a)), gb_pG, gS I J q X)
  | 0, t, a, e, ha => by
    rw [bk_SU_leastCost_4]
    simp (disch := first | omega | decide | assumption | simp only [List.length_cons, List.length_nil, Nat.reduceAdd, Nat.reduceLeDiff]) only [x_c_1000000, x_istore_2, x_c_0, x_istore_3, x_iload_3, x_c_6, x_ic_ge, x_iload_2, x_aload_0, x_iload_1, xc_SU_costThrough, x_min, x_iinc_3_1, x_goto, x_iret, tg_SU_leastCost_4, tg_SU_leastCost_16, bk_SU_leastCost_0, bk_SU_leastCost_16, kil_int, kil_ref, kil_null, kil_long, kil_rA, psh_int, psh_long, psh_null, gI_gS, gL_gS, gR_gS, sI_gS, sL_gS, orf_some, Option.bind_some, List.length_cons, List.length_nil, Nat.reduceAdd, Nat.reduceLeDiff, if_true, if_false, Nat.zero_le, nI_ltI, nI_leI, nI_eq, nI_ltL, nI_leL, L_ltI, L_leI, nI_eqL, L_eqI, oob_nI, ix_nI, oob_L, ix_L, nI_1, nI_add, nI_z, z_nI, nI_lt0, nI_ge0, nI_gt0, nI_le0, ne_eq, Nat.le_zero_eq, Nat.not_lt_zero, Nat.lt_irrefl, Nat.le_refl, if_pos (show 6 ≤ t by omega)]
    rfl
  | d + 1, t, a, e, ha => by
    have hb := bt_le (S := S) (C := C) (f := f) (A := A) (t := t) (fun B x y z => (hf B x y z).2) (h.2.2 t (by omega)).2.2.2
    have hc := s_SU_costThrough I J q X h hA (show t < 6 by omega) hf
    rw [bk_SU_leastCost_4]
    simp (disch := first | omega | decide | assumption | simp only [List.length_cons, List.length_nil, Nat.reduceAdd, Nat.reduceLeDiff]) only [x_c_1000000, x_istore_2, x_c_0, x_istore_3, x_iload_3, x_c_6, x_ic_ge, x_iload_2, x_aload_0, x_iload_1, xc_SU_costThrough, x_min, x_iinc_3_1, x_goto, x_iret, tg_SU_leastCost_4, tg_SU_leastCost_16, bk_SU_leastCost_0, bk_SU_leastCost_16, kil_int, kil_ref, kil_null, kil_long, kil_rA, psh_int, psh_long, psh_null, gI_gS, gL_gS, gR_gS, sI_gS, sL_gS, orf_some, Option.bind_some, List.length_cons, List.length_nil, Nat.reduceAdd, Nat.reduceLeDiff, if_true, if_false, Nat.zero_le, nI_ltI, nI_leI, nI_eq, nI_ltL, nI_leL, L_ltI, L_leI, nI_eqL, L_eqI, oob_nI, ix_nI, oob_L, ix_L, nI_1, nI_add, nI_z, z_nI, nI_lt0, nI_ge0, nI_gt0, nI_le0, ne_eq, Nat.le_zero_eq, Nat.not_lt_zero, Nat.lt_irrefl, Nat.le_refl, if_neg (show ¬ 6 ≤ t by omega), at_63, hc]
    rw [show (if bt S C f A t < a then nI (bt S C f A t) else nI a) = nI (if bt S C f A t < a then bt S C f A t else a) by split <;> rfl]
    exact l_SU_leastCost I J q X h hA hf d (t + 1) _ (by omega) (by split <;> omega)
theorem s_SU_leastCost (I : Nat → Nat → Int32) (J : Nat → Nat → Int64) (q : Bool × Bool) (X : Nat × (Nat → Int32)) {S : Nat → Nat → Nat} {C f : Nat → Nat} (h : stf I S C) {A : Nat} (hA : A < 256) (hf : ∀ B, 0 < B → B < A → A &&& B = B → I 79 B = nI (f B) ∧ f B ≤ 1000000) : gb_call 58 [.ref (63 : Nat), .int (nI A)] gb_pG (gS I J q X) = some (.int (nI (mt (bt S C f A) 6 0 1000000)), gb_pG, gS I J q X) := by
  rw [cl_SU_leastCost]
  simp only [x_c_1000000, x_istore_2, x_c_0, x_istore_3, x_iload_3, x_c_6, x_ic_ge, x_iload_2, x_aload_0, x_iload_1, xc_SU_costThrough, x_min, x_iinc_3_1, x_goto, x_iret, tg_SU_leastCost_4, tg_SU_leastCost_16, bk_SU_leastCost_0, bk_SU_leastCost_16, kil_int, kil_ref, kil_null, kil_long, kil_rA, psh_int, psh_long, psh_null, gI_gS, gL_gS, gR_gS, sI_gS, sL_gS, orf_some, Option.bind_some, List.length_cons, List.length_nil, Nat.reduceAdd, Nat.reduceLeDiff, if_true, if_false, Nat.zero_le]
  exact l_SU_leastCost I J q X h hA hf 6 0 1000000 (by omega) (by omega)
