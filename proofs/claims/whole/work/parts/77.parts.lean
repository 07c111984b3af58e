/-! the model parts the finds -/
theorem l_p52 (I : Nat → Nat → Int32) (J : Nat → Nat → Int64) (q : Bool × Bool) (X : Nat × (Nat → Int32)) {n f u m : Nat} (hm : m < 256) (v3 : Int32) : ∀ e l, e + l = 8 → gb_ex 144 bk_RM_parts_52 [.ref (190 : Nat), .int (nI n), .int (nI f), .int v3, .int (nI l), .int (nI m)] [] gb_pG (gS I J q X) = gb_ex 144 bk_RM_parts_63 [.ref (190 : Nat), .int (nI n), .int (nI f), .int v3, .int (nI ((fst1 (fun j => m.testBit j) e l).getD 8)), .int (nI m)] [] gb_pG (gS I J q X)
  | 0, l, e => by
    have e2 : l = 8 := by omega
    subst e2
    rw [bk_RM_parts_52]
    simp (disch := first | omega | decide | assumption | simp only [List.length_cons, List.length_nil, Nat.reduceAdd, Nat.reduceLeDiff]) only [x_aload_0, x_get_659, x_c_0, x_iald, x_istore_1, x_istore_2, x_istore_3, x_get_667, x_c_m1, x_iast, x_iload_2, x_if_lt, x_iload_1, x_ic_ge, x_iload_3, x_c_1, x_ishl, x_ixor, x_goto, x_iand, x_iadd, x_istore_4, xc_RM_fromOf, x_istore_5, x_iload_4, x_c_8, x_iload_5, x_ishr, x_if_ne, x_iinc_4_1, x_ic_ne, x_iinc_2_m1, x_ior, x_iinc_2_1, x_zret, tg_RM_parts_14, tg_RM_parts_34, tg_RM_parts_35, tg_RM_parts_52, tg_RM_parts_63, tg_RM_parts_68, tg_RM_parts_88, tg_RM_parts_89, tg_RM_parts_94, tg_RM_parts_95, bk_RM_parts_0, bk_RM_parts_14, bk_RM_parts_34, bk_RM_parts_35, bk_RM_parts_68, bk_RM_parts_88, bk_RM_parts_89, bk_RM_parts_94, bk_RM_parts_95, kil_int, kil_ref, kil_null, kil_long, kil_rA, psh_int, psh_long, psh_null, gI_gS, gL_gS, gR_gS, sI_gS, sL_gS, orf_some, Option.bind_some, List.length_cons, List.length_nil, Nat.reduceAdd, Nat.reduceLeDiff, if_true, if_false, Nat.zero_le, nI_ltI, nI_leI, nI_eq, nI_ltL, nI_leL, L_ltI, L_leI, nI_eqL, L_eqI, oob_nI, ix_nI, oob_L, ix_L, nI_1, nI_add, nI_z, z_nI, nI_lt0, nI_ge0, nI_gt0, nI_le0, ne_eq, Nat.le_zero_eq, Nat.not_lt_zero, Nat.lt_irrefl, Nat.le_refl, i10, true_or, ne_eq, not_true_eq_false, not_false_eq_true, Bool.false_eq_true, true_and, and_true, and_self, if_true, if_false, or_true, false_or, or_false, or_self, false_and, and_false, Nat.one_ne_zero, n01, Nat.reduceEqDiff]
    rfl
  | e + 1, l, el => by
    have ih := l_p52 I J q X (n := n) (f := f) (u := u) hm v3 e (l + 1) (by omega)
    have hb := sh_b (A := m) (k := l) (by omega) hm
    have hm2 : m / 2 ^ l % 2 < 2 := Nat.mod_lt _ (by omega)
    rw [bk_RM_parts_52, fst1]
    have ht := tb_dm m l
    by_cases c : m / 2 ^ l % 2 = 1
    · have ht : m.testBit l = true := by rw [ht, decide_eq_true c]
      rw [if_pos ht]
      have k : ¬ (nI 1 : Int32) = 0 := by decide
      simp (disch := first | omega | decide | assumption | simp only [List.length_cons, List.length_nil, Nat.reduceAdd, Nat.reduceLeDiff]) only [x_aload_0, x_get_659, x_c_0, x_iald, x_istore_1, x_istore_2, x_istore_3, x_get_667, x_c_m1, x_iast, x_iload_2, x_if_lt, x_iload_1, x_ic_ge, x_iload_3, x_c_1, x_ishl, x_ixor, x_goto, x_iand, x_iadd, x_istore_4, xc_RM_fromOf, x_istore_5, x_iload_4, x_c_8, x_iload_5, x_ishr, x_if_ne, x_iinc_4_1, x_ic_ne, x_iinc_2_m1, x_ior, x_iinc_2_1, x_zret, tg_RM_parts_14, tg_RM_parts_34, tg_RM_parts_35, tg_RM_parts_52, tg_RM_parts_63, tg_RM_parts_68, tg_RM_parts_88, tg_RM_parts_89, tg_RM_parts_94, tg_RM_parts_95, bk_RM_parts_0, bk_RM_parts_14, bk_RM_parts_34, bk_RM_parts_35, bk_RM_parts_68, bk_RM_parts_88, bk_RM_parts_89, bk_RM_parts_94, bk_RM_parts_95, kil_int, kil_ref, kil_null, kil_long, kil_rA, psh_int, psh_long, psh_null, gI_gS, gL_gS, gR_gS, sI_gS, sL_gS, orf_some, Option.bind_some, List.length_cons, List.length_nil, Nat.reduceAdd, Nat.reduceLeDiff, if_true, if_false, Nat.zero_le, hb, c, k, nI_leL, L_leI, i10, true_or, ne_eq, not_true_eq_false, not_false_eq_true, Bool.false_eq_true, true_and, and_true, and_self, if_true, if_false, or_true, false_or, or_false, or_self, false_and, and_false, Nat.one_ne_zero, n01, Nat.reduceEqDiff, if_neg (show ¬ 8 ≤ l by omega)]
      rfl
    · have ht : ¬ m.testBit l = true := by rw [ht, decide_eq_false c]; decide
      have c0 : m / 2 ^ l % 2 = 0 := by omega
      rw [if_neg ht, ← ih]
      simp (disch := first | omega | decide | assumption | simp only [List.length_cons, List.length_nil, Nat.reduceAdd, Nat.reduceLeDiff]) only [x_aload_0, x_get_659, x_c_0, x_iald, x_istore_1, x_istore_2, x_istore_3, x_get_667, x_c_m1, x_iast, x_iload_2, x_if_lt, x_iload_1, x_ic_ge, x_iload_3, x_c_1, x_ishl, x_ixor, x_goto, x_iand, x_iadd, x_istore_4, xc_RM_fromOf, x_istore_5, x_iload_4, x_c_8, x_iload_5, x_ishr, x_if_ne, x_iinc_4_1, x_ic_ne, x_iinc_2_m1, x_ior, x_iinc_2_1, x_zret, tg_RM_parts_14, tg_RM_parts_34, tg_RM_parts_35, tg_RM_parts_52, tg_RM_parts_63, tg_RM_parts_68, tg_RM_parts_88, tg_RM_parts_89, tg_RM_parts_94, tg_RM_parts_95, bk_RM_parts_0, bk_RM_parts_14, bk_RM_parts_34, bk_RM_parts_35, bk_RM_parts_68, bk_RM_parts_88, bk_RM_parts_89, bk_RM_parts_94, bk_RM_parts_95, kil_int, kil_ref, kil_null, kil_long, kil_rA, psh_int, psh_long, psh_null, gI_gS, gL_gS, gR_gS, sI_gS, sL_gS, orf_some, Option.bind_some, List.length_cons, List.length_nil, Nat.reduceAdd, Nat.reduceLeDiff, if_true, if_false, Nat.zero_le, hb, c0, nI_0, nI_1, nI_leL, L_leI, i10, true_or, ne_eq, not_true_eq_false, not_false_eq_true, Bool.false_eq_true, true_and, and_true, and_self, if_true, if_false, or_true, false_or, or_false, or_self, false_and, and_false, Nat.one_ne_zero, n01, Nat.reduceEqDiff, if_neg (show ¬ 8 ≤ l by omega)]
/-- what the loop knows of a find that is tried from loss l on -/
def tri (I : Nat → Nat → Int32) (f u U l : Nat) : Prop := I 214 f = dn l ∧ u < 256 ∧ l ≤ 8 ∧ (l = 0 → U = u) ∧ ∀ k, l = k + 1 → U = u ||| 2 ^ k ∧ u.testBit k = false
theorem x_14_63 (I : Nat → Nat → Int32) (J : Nat → Nat → Int64) (q : Bool × Bool) (X : Nat × (Nat → Int32)) {c : Nat → Nat} {n f u U l : Nat} (hn : n ≤ 12) (hf : f < n) (hc : c f < 256) (hfr : gb_call 142 [.ref (190 : Nat), .int (nI f)] gb_pG (gS I J q X) = some (.int (nI (c f)), gb_pG, gS I J q X)) (h : tri I f u U l) (z4 z5 : Value) : gb_ex 144 bk_RM_parts_14 [.ref (190 : Nat), .int (nI n), .int (nI f), .int (nI U), z4, z5] [] gb_pG (gS I J q X) = gb_ex 144 bk_RM_parts_63 [.ref (190 : Nat), .int (nI n), .int (nI f), .int (nI u), .int (nI ((fst1 (fun j => (c f &&& (255 - u)).testBit j) (8 - l) l).getD 8)), .int (nI (c f &&& (255 - u)))] [] gb_pG (gS I J q X) := by
  obtain ⟨h1, h2, h3, h4, h5⟩ := h
  have e := (nb_tb (c f) hc u h2).1
  have hm := (nb_tb (c f) hc u h2).2
  rw [← l_p52 I J q X (n := n) (f := f) (u := u) hm (nI u) (8 - l) l (by omega), bk_RM_parts_14]
  cases l with
  | zero =>
    have hU := h4 rfl
    subst hU
    have h1 : I 214 f = -1 := h1
    have k1 : (-1 : Int32) + 1 = 0 := by decide
    have k2 : nI U &&& (-1 : Int32) = nI U := by
      rw [nI_m1, nI_and]
      congr 1
      have : ∀ A, A < 256 → A &&& 4294967295 = A := by decide +kernel
      exact this U h2
    have k3 : nI U ^^^ (-1 : Int32) = nI (U ^^^ 4294967295) := by rw [nI_m1, nI_xor]
    simp (disch := first | omega | decide | assumption | simp only [List.length_cons, List.length_nil, Nat.reduceAdd, Nat.reduceLeDiff]) only [x_aload_0, x_get_659, x_c_0, x_iald, x_istore_1, x_istore_2, x_istore_3, x_get_667, x_c_m1, x_iast, x_iload_2, x_if_lt, x_iload_1, x_ic_ge, x_iload_3, x_c_1, x_ishl, x_ixor, x_goto, x_iand, x_iadd, x_istore_4, xc_RM_fromOf, x_istore_5, x_iload_4, x_c_8, x_iload_5, x_ishr, x_if_ne, x_iinc_4_1, x_ic_ne, x_iinc_2_m1, x_ior, x_iinc_2_1, x_zret, tg_RM_parts_14, tg_RM_parts_34, tg_RM_parts_35, tg_RM_parts_52, tg_RM_parts_63, tg_RM_parts_68, tg_RM_parts_88, tg_RM_parts_89, tg_RM_parts_94, tg_RM_parts_95, bk_RM_parts_0, bk_RM_parts_34, bk_RM_parts_35, bk_RM_parts_63, bk_RM_parts_68, bk_RM_parts_88, bk_RM_parts_89, bk_RM_parts_94, bk_RM_parts_95, kil_int, kil_ref, kil_null, kil_long, kil_rA, psh_int, psh_long, psh_null, gI_gS, gL_gS, gR_gS, sI_gS, sL_gS, orf_some, Option.bind_some, List.length_cons, List.length_nil, Nat.reduceAdd, Nat.reduceLeDiff, if_true, if_false, Nat.zero_le, at_190, at_214, al_214, rw_190_27, oob_nI, ix_nI, nI_lt0, nI_leI, i10, true_or, ne_eq, not_true_eq_false, not_false_eq_true, Bool.false_eq_true, true_and, and_true, and_self, if_true, if_false, or_true, false_or, or_false, or_self, false_and, and_false, Nat.one_ne_zero, n01, Nat.reduceEqDiff, if_neg (show ¬ n ≤ f by omega), h1, show ((-1 : Int32) < 0) = True from by decide, k1, k2, hfr, k3, nI_and, e]
    rfl
  | succ k =>
    obtain ⟨hU, hb⟩ := h5 k rfl
    subst hU
    have h1 : I 214 f = nI k := h1
    have hsh := sh_1 (k := k) (by omega)
    have k2 : nI (u ||| 2 ^ k) &&& nI (2 ^ k ^^^ 4294967295) = nI u := by
      rw [nI_and, or_and u h2 k (by omega) hb]
    have k4 : nI (2 ^ k) ^^^ (-1 : Int32) = nI (2 ^ k ^^^ 4294967295) := by rw [nI_m1, nI_xor]
    have k3 : nI u ^^^ (-1 : Int32) = nI (u ^^^ 4294967295) := by rw [nI_m1, nI_xor]
    simp (disch := first | omega | decide | assumption | simp only [List.length_cons, List.length_nil, Nat.reduceAdd, Nat.reduceLeDiff]) only [x_aload_0, x_get_659, x_c_0, x_iald, x_istore_1, x_istore_2, x_istore_3, x_get_667, x_c_m1, x_iast, x_iload_2, x_if_lt, x_iload_1, x_ic_ge, x_iload_3, x_c_1, x_ishl, x_ixor, x_goto, x_iand, x_iadd, x_istore_4, xc_RM_fromOf, x_istore_5, x_iload_4, x_c_8, x_iload_5, x_ishr, x_if_ne, x_iinc_4_1, x_ic_ne, x_iinc_2_m1, x_ior, x_iinc_2_1, x_zret, tg_RM_parts_14, tg_RM_parts_34, tg_RM_parts_35, tg_RM_parts_52, tg_RM_parts_63, tg_RM_parts_68, tg_RM_parts_88, tg_RM_parts_89, tg_RM_parts_94, tg_RM_parts_95, bk_RM_parts_0, bk_RM_parts_34, bk_RM_parts_35, bk_RM_parts_63, bk_RM_parts_68, bk_RM_parts_88, bk_RM_parts_89, bk_RM_parts_94, bk_RM_parts_95, kil_int, kil_ref, kil_null, kil_long, kil_rA, psh_int, psh_long, psh_null, gI_gS, gL_gS, gR_gS, sI_gS, sL_gS, orf_some, Option.bind_some, List.length_cons, List.length_nil, Nat.reduceAdd, Nat.reduceLeDiff, if_true, if_false, Nat.zero_le, at_190, at_214, al_214, rw_190_27, oob_nI, ix_nI, nI_lt0, nI_leI, nI_1, i10, true_or, ne_eq, not_true_eq_false, not_false_eq_true, Bool.false_eq_true, true_and, and_true, and_self, if_true, if_false, or_true, false_or, or_false, or_self, false_and, and_false, Nat.one_ne_zero, n01, Nat.reduceEqDiff, if_neg (show ¬ n ≤ f by omega), h1, hsh, k4, k2, hfr, k3, nI_and, e]
/-- how the search goes on from a find -/
theorem p_bt {c : Nat → Nat} {f u j : Nat} (hu : u < 256) (hj : j < 8) : (c f &&& (255 - u)).testBit j = ((c f).testBit j && !u.testBit j) := by rw [Nat.testBit_and, nb_bt u hu j hj]
theorem l_parts (J : Nat → Nat → Int64) (q : Bool × Bool) (X : Nat × (Nat → Int32)) {I0 : Nat → Nat → Int32} {c : Nat → Nat} {n : Nat} (hn : n ≤ 12) (hc : ∀ i, i < n → c i < 256) (hfr : ∀ I, (∀ a, a ≠ 214 → I a = I0 a) → ∀ i, i < n → gb_call 142 [.ref (190 : Nat), .int (nI i)] gb_pG (gS I J q X) = some (.int (nI (c i)), gb_pG, gS I J q X)) : ∀ d e f u U l I (z4 z5 : Value), f + (d + 1) = n → e + l = 8 → (∀ a, a ≠ 214 → I a = I0 a) → tri I f u U l →
    (fst1 (cnp c d f u) e l = none → ∃ I' y4 y5, gb_ex 144 bk_RM_parts_14 [.ref (190 : Nat), .int (nI n), .int (nI f), .int (nI U), z4, z5] [] gb_pG (gS I J q X) = gb_ex 144 bk_RM_parts_14 [.ref (190 : Nat), .int (nI n), .int (dn f), .int (nI u), y4, y5] [] gb_pG (gS I' J q X) ∧ (∀ j, j < f → I' 214 j = I 214 j) ∧ ∀ a, a ≠ 214 → I' a = I0 a) ∧
    (∀ k, fst1 (cnp c d f u) e l = some k → ∃ I' U' y4 y5, gb_ex 144 bk_RM_parts_14 [.ref (190 : Nat), .int (nI n), .int (nI f), .int (nI U), z4, z5] [] gb_pG (gS I J q X) = gb_ex 144 bk_RM_parts_14 [.ref (190 : Nat), .int (nI n), .int (nI n), .int (nI U'), y4, y5] [] gb_pG (gS I' J q X) ∧ (∀ j, j < f → I' 214 j = I 214 j) ∧ I' 214 f = nI k ∧ (∀ j, j < d → I' 214 (f + 1 + j) = nI (sq c d (f + 1) (u ||| 2 ^ k) j)) ∧ ∀ a, a ≠ 214 → I' a = I0 a) := by
  intro d
  induction d with
  | zero =>
    intro e f u U l I z4 z5 hfd hel hI htri
    have run := x_14_63 I J q X hn (show f < n by omega) (hc f (by omega)) (hfr I hI f (by omega)) htri z4 z5
    obtain ⟨h1, h2, h3, h4, h5⟩ := htri
    rw [show 8 - l = e by omega] at run
    have heq : fst1 (cnp c 0 f u) e l = fst1 (fun j => (c f &&& (255 - u)).testBit j) e l := by
      have key : ∀ e l, e + l = 8 → fst1 (cnp c 0 f u) e l = fst1 (fun j => (c f &&& (255 - u)).testBit j) e l := by
        intro e
        induction e with
        | zero => intro l _; rfl
        | succ e ih =>
          intro l hl
          rw [fst1, fst1, ih (l + 1) (by omega)]
          have : cnp c 0 f u l = (c f &&& (255 - u)).testBit l := by
            rw [p_bt h2 (by omega)]
            unfold cnp can
            rw [Bool.and_true]
          rw [this]
      exact key e l hel
    rw [← heq] at run
    constructor
    · intro ho
      rw [ho] at run
      refine ⟨I, .int (nI 8), .int (nI (c f &&& (255 - u))), ?_, fun _ _ => rfl, hI⟩
      rw [run, bk_RM_parts_63]
      have e1 : nI f + -1 = dn f := dn_add f
      simp (disch := first | omega | decide | assumption | simp only [List.length_cons, List.length_nil, Nat.reduceAdd, Nat.reduceLeDiff]) only [x_aload_0, x_get_659, x_c_0, x_iald, x_istore_1, x_istore_2, x_istore_3, x_get_667, x_c_m1, x_iast, x_iload_2, x_if_lt, x_iload_1, x_ic_ge, x_iload_3, x_c_1, x_ishl, x_ixor, x_goto, x_iand, x_iadd, x_istore_4, xc_RM_fromOf, x_istore_5, x_iload_4, x_c_8, x_iload_5, x_ishr, x_if_ne, x_iinc_4_1, x_ic_ne, x_iinc_2_m1, x_ior, x_iinc_2_1, x_zret, tg_RM_parts_14, tg_RM_parts_34, tg_RM_parts_35, tg_RM_parts_52, tg_RM_parts_63, tg_RM_parts_68, tg_RM_parts_88, tg_RM_parts_89, tg_RM_parts_94, tg_RM_parts_95, bk_RM_parts_0, bk_RM_parts_34, bk_RM_parts_35, bk_RM_parts_68, bk_RM_parts_88, bk_RM_parts_89, bk_RM_parts_94, bk_RM_parts_95, kil_int, kil_ref, kil_null, kil_long, kil_rA, psh_int, psh_long, psh_null, gI_gS, gL_gS, gR_gS, sI_gS, sL_gS, orf_some, Option.bind_some, List.length_cons, List.length_nil, Nat.reduceAdd, Nat.reduceLeDiff, if_true, if_false, Nat.zero_le, Option.getD_none, nI_ltI, nI_leI, nI_eq, nI_ltL, nI_leL, L_ltI, L_leI, nI_eqL, L_eqI, oob_nI, ix_nI, oob_L, ix_L, nI_1, nI_add, nI_z, z_nI, nI_lt0, nI_ge0, nI_gt0, nI_le0, ne_eq, Nat.le_zero_eq, Nat.not_lt_zero, Nat.lt_irrefl, Nat.le_refl, i10, true_or, ne_eq, not_true_eq_false, not_false_eq_true, Bool.false_eq_true, true_and, and_true, and_self, if_true, if_false, or_true, false_or, or_false, or_self, false_and, and_false, Nat.one_ne_zero, n01, Nat.reduceEqDiff, e1]
    · intro k ho
      rw [ho] at run
      have hk := fst1_lt ho
      have hsh := sh_1 (k := k) (by omega)
      refine ⟨up I 214 f (nI k), u ||| 2 ^ k, .int (nI k), .int (nI (c f &&& (255 - u))), ?_, fun j hj => by rw [up_same, upd_ne (by omega)], by rw [up_same, upd_same], fun j hj => by omega, fun a ha => by rw [up_ne ha]; exact hI a ha⟩
      have hfn : f + 1 = n := by omega
      rw [run, bk_RM_parts_63]
      simp (disch := first | omega | decide | assumption | simp only [List.length_cons, List.length_nil, Nat.reduceAdd, Nat.reduceLeDiff]) only [x_aload_0, x_get_659, x_c_0, x_iald, x_istore_1, x_istore_2, x_istore_3, x_get_667, x_c_m1, x_iast, x_iload_2, x_if_lt, x_iload_1, x_ic_ge, x_iload_3, x_c_1, x_ishl, x_ixor, x_goto, x_iand, x_iadd, x_istore_4, xc_RM_fromOf, x_istore_5, x_iload_4, x_c_8, x_iload_5, x_ishr, x_if_ne, x_iinc_4_1, x_ic_ne, x_iinc_2_m1, x_ior, x_iinc_2_1, x_zret, tg_RM_parts_14, tg_RM_parts_34, tg_RM_parts_35, tg_RM_parts_52, tg_RM_parts_63, tg_RM_parts_68, tg_RM_parts_88, tg_RM_parts_89, tg_RM_parts_94, tg_RM_parts_95, bk_RM_parts_0, bk_RM_parts_34, bk_RM_parts_35, bk_RM_parts_68, bk_RM_parts_88, bk_RM_parts_89, bk_RM_parts_94, bk_RM_parts_95, kil_int, kil_ref, kil_null, kil_long, kil_rA, psh_int, psh_long, psh_null, gI_gS, gL_gS, gR_gS, sI_gS, sL_gS, orf_some, Option.bind_some, List.length_cons, List.length_nil, Nat.reduceAdd, Nat.reduceLeDiff, if_true, if_false, Nat.zero_le, at_190, at_214, al_214, rw_190_27, Option.getD_some, hsh, nI_or, nI_ltI, nI_leI, nI_eq, nI_ltL, nI_leL, L_ltI, L_leI, nI_eqL, L_eqI, oob_nI, ix_nI, oob_L, ix_L, nI_1, nI_add, nI_z, z_nI, nI_lt0, nI_ge0, nI_gt0, nI_le0, ne_eq, Nat.le_zero_eq, Nat.not_lt_zero, Nat.lt_irrefl, Nat.le_refl, i10, true_or, ne_eq, not_true_eq_false, not_false_eq_true, Bool.false_eq_true, true_and, and_true, and_self, if_true, if_false, or_true, false_or, or_false, or_self, false_and, and_false, Nat.one_ne_zero, n01, Nat.reduceEqDiff, if_pos (show ¬ k = 8 by omega), hfn]
  | succ d ihd =>
    have hz : ∀ f u U l I (z4 z5 : Value), f + (d + 1 + 1) = n → 0 + l = 8 → (∀ a, a ≠ 214 → I a = I0 a) → tri I f u U l → (fst1 (cnp c (d + 1) f u) 0 l = none → ∃ I' y4 y5, gb_ex 144 bk_RM_parts_14 [.ref (190 : Nat), .int (nI n), .int (nI f), .int (nI U), z4, z5] [] gb_pG (gS I J q X) = gb_ex 144 bk_RM_parts_14 [.ref (190 : Nat), .int (nI n), .int (dn f), .int (nI u), y4, y5] [] gb_pG (gS I' J q X) ∧ (∀ j, j < f → I' 214 j = I 214 j) ∧ ∀ a, a ≠ 214 → I' a = I0 a) ∧ (∀ k, fst1 (cnp c (d + 1) f u) 0 l = some k → ∃ I' U' y4 y5, gb_ex 144 bk_RM_parts_14 [.ref (190 : Nat), .int (nI n), .int (nI f), .int (nI U), z4, z5] [] gb_pG (gS I J q X) = gb_ex 144 bk_RM_parts_14 [.ref (190 : Nat), .int (nI n), .int (nI n), .int (nI U'), y4, y5] [] gb_pG (gS I' J q X) ∧ (∀ j, j < f → I' 214 j = I 214 j) ∧ I' 214 f = nI k ∧ (∀ j, j < d + 1 → I' 214 (f + 1 + j) = nI (sq c (d + 1) (f + 1) (u ||| 2 ^ k) j)) ∧ ∀ a, a ≠ 214 → I' a = I0 a) := by
      intro f u U l I z4 z5 hfd hel hI htri
      have run := x_14_63 I J q X hn (show f < n by omega) (hc f (by omega)) (hfr I hI f (by omega)) htri z4 z5
      rw [show 8 - l = 0 by omega] at run
      refine ⟨fun _ => ?_, fun k ho => by cases ho⟩
      refine ⟨I, .int (nI 8), .int (nI (c f &&& (255 - u))), ?_, fun _ _ => rfl, hI⟩
      rw [run, bk_RM_parts_63]
      have e1 : nI f + -1 = dn f := dn_add f
      simp (disch := first | omega | decide | assumption | simp only [List.length_cons, List.length_nil, Nat.reduceAdd, Nat.reduceLeDiff]) only [x_aload_0, x_get_659, x_c_0, x_iald, x_istore_1, x_istore_2, x_istore_3, x_get_667, x_c_m1, x_iast, x_iload_2, x_if_lt, x_iload_1, x_ic_ge, x_iload_3, x_c_1, x_ishl, x_ixor, x_goto, x_iand, x_iadd, x_istore_4, xc_RM_fromOf, x_istore_5, x_iload_4, x_c_8, x_iload_5, x_ishr, x_if_ne, x_iinc_4_1, x_ic_ne, x_iinc_2_m1, x_ior, x_iinc_2_1, x_zret, tg_RM_parts_14, tg_RM_parts_34, tg_RM_parts_35, tg_RM_parts_52, tg_RM_parts_63, tg_RM_parts_68, tg_RM_parts_88, tg_RM_parts_89, tg_RM_parts_94, tg_RM_parts_95, bk_RM_parts_0, bk_RM_parts_34, bk_RM_parts_35, bk_RM_parts_68, bk_RM_parts_88, bk_RM_parts_89, bk_RM_parts_94, bk_RM_parts_95, kil_int, kil_ref, kil_null, kil_long, kil_rA, psh_int, psh_long, psh_null, gI_gS, gL_gS, gR_gS, sI_gS, sL_gS, orf_some, Option.bind_some, List.length_cons, List.length_nil, Nat.reduceAdd, Nat.reduceLeDiff, if_true, if_false, Nat.zero_le, fst1, Option.getD_none, nI_ltI, nI_leI, nI_eq, nI_ltL, nI_leL, L_ltI, L_leI, nI_eqL, L_eqI, oob_nI, ix_nI, oob_L, ix_L, nI_1, nI_add, nI_z, z_nI, nI_lt0, nI_ge0, nI_gt0, nI_le0, ne_eq, Nat.le_zero_eq, Nat.not_lt_zero, Nat.lt_irrefl, Nat.le_refl, i10, true_or, ne_eq, not_true_eq_false, not_false_eq_true, Bool.false_eq_true, true_and, and_true, and_self, if_true, if_false, or_true, false_or, or_false, or_self, false_and, and_false, Nat.one_ne_zero, n01, Nat.reduceEqDiff, e1]
    suffices H : ∀ E e, e ≤ E → ∀ f u U l I (z4 z5 : Value), f + (d + 1 + 1) = n → e + l = 8 → (∀ a, a ≠ 214 → I a = I0 a) → tri I f u U l → (fst1 (cnp c (d + 1) f u) e l = none → ∃ I' y4 y5, gb_ex 144 bk_RM_parts_14 [.ref (190 : Nat), .int (nI n), .int (nI f), .int (nI U), z4, z5] [] gb_pG (gS I J q X) = gb_ex 144 bk_RM_parts_14 [.ref (190 : Nat), .int (nI n), .int (dn f), .int (nI u), y4, y5] [] gb_pG (gS I' J q X) ∧ (∀ j, j < f → I' 214 j = I 214 j) ∧ ∀ a, a ≠ 214 → I' a = I0 a) ∧ (∀ k, fst1 (cnp c (d + 1) f u) e l = some k → ∃ I' U' y4 y5, gb_ex 144 bk_RM_parts_14 [.ref (190 : Nat), .int (nI n), .int (nI f), .int (nI U), z4, z5] [] gb_pG (gS I J q X) = gb_ex 144 bk_RM_parts_14 [.ref (190 : Nat), .int (nI n), .int (nI n), .int (nI U'), y4, y5] [] gb_pG (gS I' J q X) ∧ (∀ j, j < f → I' 214 j = I 214 j) ∧ I' 214 f = nI k ∧ (∀ j, j < d + 1 → I' 214 (f + 1 + j) = nI (sq c (d + 1) (f + 1) (u ||| 2 ^ k) j)) ∧ ∀ a, a ≠ 214 → I' a = I0 a) by
      intro e
      exact H e e (Nat.le_refl e)
    intro E
    induction E with
    | zero =>
      intro e he
      have e0 : e = 0 := by omega
      subst e0
      exact hz
    | succ E ihE =>
      intro e he
      cases e with
      | zero => exact hz
      | succ e =>
        intro f u U l I z4 z5 hfd hel hI htri
        have run := x_14_63 I J q X hn (show f < n by omega) (hc f (by omega)) (hfr I hI f (by omega)) htri z4 z5
        obtain ⟨h1, h2, h3, h4, h5⟩ := id htri
        rw [show 8 - l = e + 1 by omega] at run
        cases hfs : fst1 (fun j => (c f &&& (255 - u)).testBit j) (e + 1) l with
        | none =>
          rw [hfs] at run
          have hno := fst1_n hfs
          have hnone : fst1 (cnp c (d + 1) f u) (e + 1) l = none := by
            have key : ∀ e l, e + l = 8 → (∀ i, l ≤ i → i < l + e → (c f &&& (255 - u)).testBit i = false) → fst1 (cnp c (d + 1) f u) e l = none := by
              intro e
              induction e with
              | zero => intro l _ _; rfl
              | succ e ih =>
                intro l hl hx
                have hx0 := hx l (by omega) (by omega)
                rw [p_bt h2 (by omega)] at hx0
                have : ¬ cnp c (d + 1) f u l = true := by unfold cnp; rw [hx0, Bool.false_and]; decide
                rw [fst1, if_neg this]
                exact ih (l + 1) (by omega) (fun i h1 h2 => hx i (by omega) (by omega))
            exact key (e + 1) l hel hno
          refine ⟨fun _ => ?_, fun k ho => by rw [hnone] at ho; cases ho⟩
          refine ⟨I, .int (nI 8), .int (nI (c f &&& (255 - u))), ?_, fun _ _ => rfl, hI⟩
          rw [run, bk_RM_parts_63]
          have e1 : nI f + -1 = dn f := dn_add f
          simp (disch := first | omega | decide | assumption | simp only [List.length_cons, List.length_nil, Nat.reduceAdd, Nat.reduceLeDiff]) only [x_aload_0, x_get_659, x_c_0, x_iald, x_istore_1, x_istore_2, x_istore_3, x_get_667, x_c_m1, x_iast, x_iload_2, x_if_lt, x_iload_1, x_ic_ge, x_iload_3, x_c_1, x_ishl, x_ixor, x_goto, x_iand, x_iadd, x_istore_4, xc_RM_fromOf, x_istore_5, x_iload_4, x_c_8, x_iload_5, x_ishr, x_if_ne, x_iinc_4_1, x_ic_ne, x_iinc_2_m1, x_ior, x_iinc_2_1, x_zret, tg_RM_parts_14, tg_RM_parts_34, tg_RM_parts_35, tg_RM_parts_52, tg_RM_parts_63, tg_RM_parts_68, tg_RM_parts_88, tg_RM_parts_89, tg_RM_parts_94, tg_RM_parts_95, bk_RM_parts_0, bk_RM_parts_34, bk_RM_parts_35, bk_RM_parts_68, bk_RM_parts_88, bk_RM_parts_89, bk_RM_parts_94, bk_RM_parts_95, kil_int, kil_ref, kil_null, kil_long, kil_rA, psh_int, psh_long, psh_null, gI_gS, gL_gS, gR_gS, sI_gS, sL_gS, orf_some, Option.bind_some, List.length_cons, List.length_nil, Nat.reduceAdd, Nat.reduceLeDiff, if_true, if_false, Nat.zero_le, Option.getD_none, nI_ltI, nI_leI, nI_eq, nI_ltL, nI_leL, L_ltI, L_leI, nI_eqL, L_eqI, oob_nI, ix_nI, oob_L, ix_L, nI_1, nI_add, nI_z, z_nI, nI_lt0, nI_ge0, nI_gt0, nI_le0, ne_eq, Nat.le_zero_eq, Nat.not_lt_zero, Nat.lt_irrefl, Nat.le_refl, i10, true_or, ne_eq, not_true_eq_false, not_false_eq_true, Bool.false_eq_true, true_and, and_true, and_self, if_true, if_false, or_true, false_or, or_false, or_self, false_and, and_false, Nat.one_ne_zero, n01, Nat.reduceEqDiff, e1]
        | some k =>
          rw [hfs] at run
          have hk := fst1_lt hfs
          obtain ⟨hk1, hk2⟩ := fst1_p hfs
          rw [p_bt h2 (by omega)] at hk1
          have hb0 : u.testBit k = false := by
            rw [Bool.and_eq_true] at hk1
            cases hx : u.testBit k with
            | true => rw [hx] at hk1; exact absurd hk1.2 (by decide)
            | false => rfl
          obtain ⟨o1, o2⟩ := or_lt u h2 k (by omega) hb0
          have hsh := sh_1 (k := k) (by omega)
          have skip : fst1 (cnp c (d + 1) f u) (e + 1) l = fst1 (cnp c (d + 1) f u) (8 - k) k := by
            have key : ∀ m l, l + m = k → (∀ i, l ≤ i → i < k → (c f &&& (255 - u)).testBit i = false) → fst1 (cnp c (d + 1) f u) (8 - l) l = fst1 (cnp c (d + 1) f u) (8 - k) k := by
              intro m
              induction m with
              | zero => intro l hl _; rw [show l = k by omega]
              | succ m ih =>
                intro l hl hx
                have hx0 := hx l (by omega) (by omega)
                rw [p_bt h2 (by omega)] at hx0
                have : ¬ cnp c (d + 1) f u l = true := by unfold cnp; rw [hx0, Bool.false_and]; decide
                rw [show 8 - l = (8 - (l + 1)) + 1 by omega, fst1, if_neg this]
                exact ih (l + 1) (by omega) (fun i h1 h2 => hx i (by omega) (by omega))
            rw [show e + 1 = 8 - l by omega]
            exact key (k - l) l (by omega) hk2
          obtain ⟨I1, f1⟩ : ∃ I1, I1 = up (up I 214 f (nI k)) 214 (f + 1) (-1) := ⟨_, rfl⟩
          have hI1 : ∀ a, a ≠ 214 → I1 a = I0 a := fun a ha => by rw [f1, up_ne ha, up_ne ha]; exact hI a ha
          have g1 : ∀ j, j < f → I1 214 j = I 214 j := fun j hj => by rw [f1, up_same, upd_ne (by omega), up_same, upd_ne (by omega)]
          have g2 : I1 214 f = nI k := by rw [f1, up_same, upd_ne (by omega), up_same, upd_same]
          have g3 : I1 214 (f + 1) = -1 := by rw [f1, up_same, upd_same]
          have step : gb_ex 144 bk_RM_parts_14 [.ref (190 : Nat), .int (nI n), .int (nI f), .int (nI U), z4, z5] [] gb_pG (gS I J q X) = gb_ex 144 bk_RM_parts_14 [.ref (190 : Nat), .int (nI n), .int (nI (f + 1)), .int (nI (u ||| 2 ^ k)), .int (nI k), .int (nI (c f &&& (255 - u)))] [] gb_pG (gS I1 J q X) := by
            rw [run, bk_RM_parts_63, f1]
            simp (disch := first | omega | decide | assumption | simp only [List.length_cons, List.length_nil, Nat.reduceAdd, Nat.reduceLeDiff]) only [x_aload_0, x_get_659, x_c_0, x_iald, x_istore_1, x_istore_2, x_istore_3, x_get_667, x_c_m1, x_iast, x_iload_2, x_if_lt, x_iload_1, x_ic_ge, x_iload_3, x_c_1, x_ishl, x_ixor, x_goto, x_iand, x_iadd, x_istore_4, xc_RM_fromOf, x_istore_5, x_iload_4, x_c_8, x_iload_5, x_ishr, x_if_ne, x_iinc_4_1, x_ic_ne, x_iinc_2_m1, x_ior, x_iinc_2_1, x_zret, tg_RM_parts_14, tg_RM_parts_34, tg_RM_parts_35, tg_RM_parts_52, tg_RM_parts_63, tg_RM_parts_68, tg_RM_parts_88, tg_RM_parts_89, tg_RM_parts_94, tg_RM_parts_95, bk_RM_parts_0, bk_RM_parts_34, bk_RM_parts_35, bk_RM_parts_68, bk_RM_parts_88, bk_RM_parts_89, bk_RM_parts_94, bk_RM_parts_95, kil_int, kil_ref, kil_null, kil_long, kil_rA, psh_int, psh_long, psh_null, gI_gS, gL_gS, gR_gS, sI_gS, sL_gS, orf_some, Option.bind_some, List.length_cons, List.length_nil, Nat.reduceAdd, Nat.reduceLeDiff, if_true, if_false, Nat.zero_le, at_190, at_214, al_214, rw_190_27, Option.getD_some, hsh, nI_or, nI_ltI, nI_leI, nI_eq, nI_ltL, nI_leL, L_ltI, L_leI, nI_eqL, L_eqI, oob_nI, ix_nI, oob_L, ix_L, nI_1, nI_add, nI_z, z_nI, nI_lt0, nI_ge0, nI_gt0, nI_le0, ne_eq, Nat.le_zero_eq, Nat.not_lt_zero, Nat.lt_irrefl, Nat.le_refl, i10, true_or, ne_eq, not_true_eq_false, not_false_eq_true, Bool.false_eq_true, true_and, and_true, and_self, if_true, if_false, or_true, false_or, or_false, or_self, false_and, and_false, Nat.one_ne_zero, n01, Nat.reduceEqDiff, if_pos (show ¬ k = 8 by omega), if_neg (show ¬ n ≤ f + 1 by omega)]
          have ih1 := ihd 8 (f + 1) (u ||| 2 ^ k) (u ||| 2 ^ k) 0 I1 (.int (nI k)) (.int (nI (c f &&& (255 - u)))) (by omega) (by omega) hI1 ⟨g3, o2, by omega, fun _ => rfl, fun k h => by omega⟩
          obtain ⟨m, hm⟩ : ∃ m, 8 - k = m + 1 := ⟨7 - k, by omega⟩
          have hck : cnp c (d + 1) f u k = can c (d + 1) (f + 1) (u ||| 2 ^ k) := by unfold cnp; rw [hk1, Bool.true_and]
          have hcs : can c (d + 1) (f + 1) (u ||| 2 ^ k) = (fst1 (cnp c d (f + 1) (u ||| 2 ^ k)) 8 0).isSome := by rw [can_s, fst1_some]
          cases hnx : fst1 (cnp c d (f + 1) (u ||| 2 ^ k)) 8 0 with
          | some x =>
            obtain ⟨I', U', y4, y5, r1, r2, r3, r4, r5⟩ := ih1.2 x hnx
            have hres : fst1 (cnp c (d + 1) f u) (e + 1) l = some k := by
              rw [skip, hm, fst1, if_pos (by rw [hck, hcs, hnx]; rfl)]
            refine ⟨fun ho => (by rw [hres] at ho; cases ho), fun k' ho => ?_⟩
            rw [hres] at ho
            cases ho
            refine ⟨I', U', y4, y5, by rw [step, r1], fun j hj => by rw [r2 j (by omega), g1 j hj], by rw [r2 f (by omega), g2], fun j hj => ?_, r5⟩
            rw [sq_s hnx]
            by_cases ej : j = 0
            · rw [ej, if_pos rfl, Nat.add_zero]; exact r3
            · rw [if_neg ej]
              have := r4 (j - 1) (by omega)
              rw [show f + 1 + 1 + (j - 1) = f + 1 + j by omega] at this
              exact this
          | none =>
            obtain ⟨I', y4, y5, r1, r2, r3⟩ := ih1.1 hnx
            have hcf : ¬ cnp c (d + 1) f u k = true := by rw [hck, hcs, hnx]; decide
            have hres : fst1 (cnp c (d + 1) f u) (e + 1) l = fst1 (cnp c (d + 1) f u) (8 - (k + 1)) (k + 1) := by
              rw [skip, hm, fst1, if_neg hcf, show 8 - (k + 1) = m by omega]
            have hdn : dn (f + 1) = nI f := rfl
            rw [hdn] at r1
            have htri' : tri I' f u (u ||| 2 ^ k) (k + 1) := ⟨by rw [r2 f (by omega), g2]; rfl, h2, by omega, fun h => by omega, fun k' hk' => by
              have : k' = k := by omega
              subst this
              exact ⟨rfl, hb0⟩⟩
            have nxt := ihE (8 - (k + 1)) (by omega) f u (u ||| 2 ^ k) (k + 1) I' y4 y5 hfd (by omega) r3 htri'
            rw [hres, step, r1]
            constructor
            · intro ho
              obtain ⟨I2, x4, x5, s1, s2, s3⟩ := nxt.1 ho
              exact ⟨I2, x4, x5, s1, fun j hj => by rw [s2 j hj, r2 j (by omega), g1 j hj], s3⟩
            · intro k' ho
              obtain ⟨I2, U2, x4, x5, s1, s2, s3, s4, s5⟩ := nxt.2 k' ho
              exact ⟨I2, U2, x4, x5, s1, fun j hj => by rw [s2 j hj, r2 j (by omega), g1 j hj], s3, s4, s5⟩
