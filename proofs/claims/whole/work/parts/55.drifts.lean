/-! the model's drift -/
theorem m_t0 {I : Nat → Nat → Int32} {N : Nat → Nat} {D : Nat → Nat → Int} (h : mR I 0 N D) {r j : Nat} (hr : r < 2) (hj : j < N 1) : I 194 (2 * j + r) = zI (D r j) := by
  have := h.2.1 r j hr hj
  rw [show 24 * 0 + 2 * j + r = 2 * j + r by omega] at this
  exact this
theorem m_w0 {I : Nat → Nat → Int32} {N : Nat → Nat} {D : Nat → Nat → Int} (h : mR I 0 N D) {r j : Nat} (hr : r < 3) (hj : j < N 2) : I 196 (3 * j + r) = zI (D (2 + r) j) := by
  have := h.2.2.1 r j hr hj
  rw [show 36 * 0 + 3 * j + r = 3 * j + r by omega] at this
  exact this
theorem m_k0 {I : Nat → Nat → Int32} {N : Nat → Nat} {D : Nat → Nat → Int} (h : mR I 0 N D) {r j : Nat} (hr : r < 4) (hj : j < N 3) : I 198 (4 * j + r) = zI (D (5 + r) j) := by
  have := h.2.2.2.1 r j hr hj
  rw [show 24 * 0 + 4 * j + r = 4 * j + r by omega] at this
  exact this
theorem m_l0 {I : Nat → Nat → Int32} {N : Nat → Nat} {D : Nat → Nat → Int} (h : mR I 0 N D) {r j : Nat} (hr : r < 5) (hj : j < N 4) : I 200 (5 * j + r) = zI (D (9 + r) j) := by
  have := h.2.2.2.2 r j hr hj
  rw [show 40 * 0 + 5 * j + r = 5 * j + r by omega] at this
  exact this
def fo : Option Nat → Int32
  | none => -1
  | some f => nI f
theorem l_blows (I : Nat → Nat → Int32) (J : Nat → Nat → Int64) (q : Bool × Bool) (X : Nat × (Nat → Int32)) {N : Nat → Nat} {D : Nat → Nat → Int} (ho : oB N D) (hM : mR I 0 N D) {h : Nat} (hh : h ≤ 999) (w : Int32) : ∀ d k (a : Option Nat), d + k = N 2 → (∀ f, a = some f → f < k) → gb_ex 134 bk_RM_blows_4 [.ref (190 : Nat), .int (nI h), .int w, .int (fo a), .int (nI k)] [] gb_pG (gS I J q X) = gb_ex 134 bk_RM_blows_39 [.ref (190 : Nat), .int (nI h), .int w, .int (fo (bl D h d k a)), .int (nI (N 2))] [] gb_pG (gS I J q X)
  | 0, k, a, e, ha => by
    have e2 : k = N 2 := by omega
    subst e2
    have hn := hM.1.2.2.1
    obtain ⟨⟨o1, o2, o3, o4, o5, o6⟩, -⟩ := ho
    rw [bk_RM_blows_4, bl]
    simp (disch := first | omega | decide | assumption | simp only [List.length_cons, List.length_nil, Nat.reduceAdd, Nat.reduceLeDiff]) only [x_c_m1, x_istore_3, x_c_0, x_istore_4, x_iload_4, x_aload_0, x_get_646, x_iald, x_ic_ge, x_get_647, x_c_3, x_imul, x_iload_1, x_ic_gt, x_iload_3, x_if_lt, x_ic_lt, x_goto, x_iinc_4_1, x_if_ge, x_iload_2, x_iadd, x_iret, tg_RM_blows_4, tg_RM_blows_33, tg_RM_blows_35, tg_RM_blows_36, tg_RM_blows_39, tg_RM_blows_43, tg_RM_blows_51, bk_RM_blows_0, bk_RM_blows_33, bk_RM_blows_35, bk_RM_blows_36, bk_RM_blows_43, bk_RM_blows_51, kil_int, kil_ref, kil_null, kil_long, kil_rA, psh_int, psh_long, psh_null, gI_gS, gL_gS, gR_gS, sI_gS, sL_gS, orf_some, Option.bind_some, List.length_cons, List.length_nil, Nat.reduceAdd, Nat.reduceLeDiff, if_true, if_false, Nat.zero_le, at_190, at_195, al_195, rw_190_6, nI_ltI, nI_leI, nI_eq, nI_ltL, nI_leL, L_ltI, L_leI, nI_eqL, L_eqI, oob_nI, ix_nI, oob_L, ix_L, nI_1, nI_add, nI_z, z_nI, nI_lt0, nI_ge0, nI_gt0, nI_le0, ne_eq, Nat.le_zero_eq, Nat.not_lt_zero, Nat.lt_irrefl, Nat.le_refl, i10, true_or, ne_eq, not_true_eq_false, not_false_eq_true, Bool.false_eq_true, true_and, and_true, and_self, if_true, if_false, or_true, false_or, or_false, or_self, false_and, and_false, Nat.one_ne_zero, n01, Nat.reduceEqDiff, hn]
  | d + 1, k, a, e, ha => by
    have hn := hM.1.2.2.1
    have hk := m_w0 hM (r := 0) (j := k) (by omega) (by omega)
    rw [Nat.add_zero] at hk
    have hb := (ho.2.2.1 k (by omega)).1
    obtain ⟨⟨o1, o2, o3, o4, o5, o6⟩, -⟩ := id ho
    have ih := l_blows I J q X ho hM hh w d (k + 1) (bls D h k a) (by omega) (fun f hf => by
      cases a with
      | none =>
        dsimp only [bls] at hf
        split at hf
        · cases hf; omega
        · cases hf
      | some f0 =>
        have := ha f0 rfl
        dsimp only [bls] at hf
        split at hf <;> cases hf <;> omega)
    have k1 : (nI h < zI (D 2 k)) ↔ ¬ D 2 k ≤ (h : Int) := by rw [zI_nI, zI_ltI (by omega) (by omega) (by omega) (by omega)]; omega
    rw [bk_RM_blows_4, bl, ← ih]
    cases a with
    | none =>
      simp (disch := first | omega | decide | assumption | simp only [List.length_cons, List.length_nil, Nat.reduceAdd, Nat.reduceLeDiff]) only [x_c_m1, x_istore_3, x_c_0, x_istore_4, x_iload_4, x_aload_0, x_get_646, x_iald, x_ic_ge, x_get_647, x_c_3, x_imul, x_iload_1, x_ic_gt, x_iload_3, x_if_lt, x_ic_lt, x_goto, x_iinc_4_1, x_if_ge, x_iload_2, x_iadd, x_iret, tg_RM_blows_4, tg_RM_blows_33, tg_RM_blows_35, tg_RM_blows_36, tg_RM_blows_39, tg_RM_blows_43, tg_RM_blows_51, bk_RM_blows_0, bk_RM_blows_33, bk_RM_blows_35, bk_RM_blows_36, bk_RM_blows_43, bk_RM_blows_51, kil_int, kil_ref, kil_null, kil_long, kil_rA, psh_int, psh_long, psh_null, gI_gS, gL_gS, gR_gS, sI_gS, sL_gS, orf_some, Option.bind_some, List.length_cons, List.length_nil, Nat.reduceAdd, Nat.reduceLeDiff, if_true, if_false, Nat.zero_le, at_190, at_195, at_196, al_195, al_196, rw_190_6, rw_190_7, nI_ltI, nI_leI, nI_eq, nI_ltL, nI_leL, L_ltI, L_leI, nI_eqL, L_eqI, oob_nI, ix_nI, oob_L, ix_L, nI_1, nI_add, nI_z, z_nI, nI_lt0, nI_ge0, nI_gt0, nI_le0, ne_eq, Nat.le_zero_eq, Nat.not_lt_zero, Nat.lt_irrefl, Nat.le_refl, nI_mL, i10, true_or, ne_eq, not_true_eq_false, not_false_eq_true, Bool.false_eq_true, true_and, and_true, and_self, if_true, if_false, or_true, false_or, or_false, or_self, false_and, and_false, Nat.one_ne_zero, n01, Nat.reduceEqDiff, hn, if_neg (show ¬ N 2 ≤ k by omega), hk, k1, fo, bls, show ((-1 : Int32) < 0) = True from by decide]
      by_cases c : D 2 k ≤ (h : Int)
      · simp only [c, i10, true_or, ne_eq, not_true_eq_false, not_false_eq_true, Bool.false_eq_true, true_and, and_true, and_self, if_true, if_false, or_true, false_or, or_false, or_self, false_and, and_false, Nat.one_ne_zero, n01, Nat.reduceEqDiff, if_true]
      · simp only [c, i10, true_or, ne_eq, not_true_eq_false, not_false_eq_true, Bool.false_eq_true, true_and, and_true, and_self, if_true, if_false, or_true, false_or, or_false, or_self, false_and, and_false, Nat.one_ne_zero, n01, Nat.reduceEqDiff, if_false]
    | some f =>
      have hf := ha f rfl
      have hf2 := m_w0 hM (r := 0) (j := f) (by omega) (by omega)
      rw [Nat.add_zero] at hf2
      have hfb := (ho.2.2.1 f (by omega)).1
      have k2 : (zI (D 2 k) < zI (D 2 f)) ↔ ¬ D 2 f ≤ D 2 k := by rw [zI_ltI (by omega) (by omega) (by omega) (by omega)]; omega
      simp (disch := first | omega | decide | assumption | simp only [List.length_cons, List.length_nil, Nat.reduceAdd, Nat.reduceLeDiff]) only [x_c_m1, x_istore_3, x_c_0, x_istore_4, x_iload_4, x_aload_0, x_get_646, x_iald, x_ic_ge, x_get_647, x_c_3, x_imul, x_iload_1, x_ic_gt, x_iload_3, x_if_lt, x_ic_lt, x_goto, x_iinc_4_1, x_if_ge, x_iload_2, x_iadd, x_iret, tg_RM_blows_4, tg_RM_blows_33, tg_RM_blows_35, tg_RM_blows_36, tg_RM_blows_39, tg_RM_blows_43, tg_RM_blows_51, bk_RM_blows_0, bk_RM_blows_33, bk_RM_blows_35, bk_RM_blows_36, bk_RM_blows_43, bk_RM_blows_51, kil_int, kil_ref, kil_null, kil_long, kil_rA, psh_int, psh_long, psh_null, gI_gS, gL_gS, gR_gS, sI_gS, sL_gS, orf_some, Option.bind_some, List.length_cons, List.length_nil, Nat.reduceAdd, Nat.reduceLeDiff, if_true, if_false, Nat.zero_le, at_190, at_195, at_196, al_195, al_196, rw_190_6, rw_190_7, nI_ltI, nI_leI, nI_eq, nI_ltL, nI_leL, L_ltI, L_leI, nI_eqL, L_eqI, oob_nI, ix_nI, oob_L, ix_L, nI_1, nI_add, nI_z, z_nI, nI_lt0, nI_ge0, nI_gt0, nI_le0, ne_eq, Nat.le_zero_eq, Nat.not_lt_zero, Nat.lt_irrefl, Nat.le_refl, nI_mL, i10, true_or, ne_eq, not_true_eq_false, not_false_eq_true, Bool.false_eq_true, true_and, and_true, and_self, if_true, if_false, or_true, false_or, or_false, or_self, false_and, and_false, Nat.one_ne_zero, n01, Nat.reduceEqDiff, hn, if_neg (show ¬ N 2 ≤ k by omega), hk, hf2, k1, k2, fo, bls]
      by_cases c : D 2 k ≤ (h : Int)
      · by_cases c2 : D 2 f ≤ D 2 k
        · simp only [c, c2, i10, true_or, ne_eq, not_true_eq_false, not_false_eq_true, Bool.false_eq_true, true_and, and_true, and_self, if_true, if_false, or_true, false_or, or_false, or_self, false_and, and_false, Nat.one_ne_zero, n01, Nat.reduceEqDiff, if_true]
        · simp only [c, c2, i10, true_or, ne_eq, not_true_eq_false, not_false_eq_true, Bool.false_eq_true, true_and, and_true, and_self, if_true, if_false, or_true, false_or, or_false, or_self, false_and, and_false, Nat.one_ne_zero, n01, Nat.reduceEqDiff, if_false]
      · simp only [c, i10, true_or, ne_eq, not_true_eq_false, not_false_eq_true, Bool.false_eq_true, true_and, and_true, and_self, if_true, if_false, or_true, false_or, or_false, or_self, false_and, and_false, Nat.one_ne_zero, n01, Nat.reduceEqDiff, if_false, false_and]
theorem s_blows (I : Nat → Nat → Int32) (J : Nat → Nat → Int64) (q : Bool × Bool) (X : Nat × (Nat → Int32)) {N : Nat → Nat} {D : Nat → Nat → Int} (ho : oB N D) (hM : mR I 0 N D) {h w : Nat} (hh : h ≤ 999) (hw : w = 1 ∨ w = 2) : gb_call 134 [.ref (190 : Nat), .int (nI h), .int (nI w)] gb_pG (gS I J q X) = some (.int (zI (wX N D (2 + w) h)), gb_pG, gS I J q X) := by
  have key := l_blows I J q X ho hM hh (nI w) (N 2) 0 none (by omega) (fun f hf => by cases hf)
  obtain ⟨a, b⟩ := bl_ok (D := D) (h := h) (n := N 2) (N 2) 0 none (by omega) (fun _ j hj => by omega) (fun f hf => by cases hf)
  obtain ⟨⟨o1, o2, o3, o4, o5, o6⟩, -⟩ := id ho
  have st : gb_call 134 [.ref (190 : Nat), .int (nI h), .int (nI w)] gb_pG (gS I J q X) = gb_ex 134 bk_RM_blows_4 [.ref (190 : Nat), .int (nI h), .int (nI w), .int (fo none), .int (nI 0)] [] gb_pG (gS I J q X) := by
    rw [cl_RM_blows]
    simp only [x_c_m1, x_istore_3, x_c_0, x_istore_4, x_iload_4, x_aload_0, x_get_646, x_iald, x_ic_ge, x_get_647, x_c_3, x_imul, x_iload_1, x_ic_gt, x_iload_3, x_if_lt, x_ic_lt, x_goto, x_iinc_4_1, x_if_ge, x_iload_2, x_iadd, x_iret, tg_RM_blows_4, tg_RM_blows_33, tg_RM_blows_35, tg_RM_blows_36, tg_RM_blows_39, tg_RM_blows_43, tg_RM_blows_51, bk_RM_blows_0, bk_RM_blows_33, bk_RM_blows_35, bk_RM_blows_36, bk_RM_blows_39, bk_RM_blows_43, bk_RM_blows_51, kil_int, kil_ref, kil_null, kil_long, kil_rA, psh_int, psh_long, psh_null, gI_gS, gL_gS, gR_gS, sI_gS, sL_gS, orf_some, Option.bind_some, List.length_cons, List.length_nil, Nat.reduceAdd, Nat.reduceLeDiff, if_true, if_false, Nat.zero_le]
    rfl
  rw [st, key, bk_RM_blows_39]
  unfold wX
  cases e : bl D h (N 2) 0 none with
  | none =>
    simp (disch := first | omega | decide | assumption | simp only [List.length_cons, List.length_nil, Nat.reduceAdd, Nat.reduceLeDiff]) only [x_c_m1, x_istore_3, x_c_0, x_istore_4, x_iload_4, x_aload_0, x_get_646, x_iald, x_ic_ge, x_get_647, x_c_3, x_imul, x_iload_1, x_ic_gt, x_iload_3, x_if_lt, x_ic_lt, x_goto, x_iinc_4_1, x_if_ge, x_iload_2, x_iadd, x_iret, tg_RM_blows_4, tg_RM_blows_33, tg_RM_blows_35, tg_RM_blows_36, tg_RM_blows_39, tg_RM_blows_43, tg_RM_blows_51, bk_RM_blows_0, bk_RM_blows_33, bk_RM_blows_35, bk_RM_blows_36, bk_RM_blows_43, bk_RM_blows_51, kil_int, kil_ref, kil_null, kil_long, kil_rA, psh_int, psh_long, psh_null, gI_gS, gL_gS, gR_gS, sI_gS, sL_gS, orf_some, Option.bind_some, List.length_cons, List.length_nil, Nat.reduceAdd, Nat.reduceLeDiff, if_true, if_false, Nat.zero_le, fo, show ((0 : Int32) ≤ -1) = False from by decide, i10, true_or, ne_eq, not_true_eq_false, not_false_eq_true, Bool.false_eq_true, true_and, and_true, and_self, if_true, if_false, or_true, false_or, or_false, or_self, false_and, and_false, Nat.one_ne_zero, n01, Nat.reduceEqDiff]
    rfl
  | some f =>
    have hf := (b f e).1
    have hf2 := m_w0 hM (r := w) (j := f) (by omega) hf
    simp (disch := first | omega | decide | assumption | simp only [List.length_cons, List.length_nil, Nat.reduceAdd, Nat.reduceLeDiff]) only [x_c_m1, x_istore_3, x_c_0, x_istore_4, x_iload_4, x_aload_0, x_get_646, x_iald, x_ic_ge, x_get_647, x_c_3, x_imul, x_iload_1, x_ic_gt, x_iload_3, x_if_lt, x_ic_lt, x_goto, x_iinc_4_1, x_if_ge, x_iload_2, x_iadd, x_iret, tg_RM_blows_4, tg_RM_blows_33, tg_RM_blows_35, tg_RM_blows_36, tg_RM_blows_39, tg_RM_blows_43, tg_RM_blows_51, bk_RM_blows_0, bk_RM_blows_33, bk_RM_blows_35, bk_RM_blows_36, bk_RM_blows_43, bk_RM_blows_51, kil_int, kil_ref, kil_null, kil_long, kil_rA, psh_int, psh_long, psh_null, gI_gS, gL_gS, gR_gS, sI_gS, sL_gS, orf_some, Option.bind_some, List.length_cons, List.length_nil, Nat.reduceAdd, Nat.reduceLeDiff, if_true, if_false, Nat.zero_le, fo, nI_ltI, nI_leI, nI_eq, nI_ltL, nI_leL, L_ltI, L_leI, nI_eqL, L_eqI, oob_nI, ix_nI, oob_L, ix_L, nI_1, nI_add, nI_z, z_nI, nI_lt0, nI_ge0, nI_gt0, nI_le0, ne_eq, Nat.le_zero_eq, Nat.not_lt_zero, Nat.lt_irrefl, Nat.le_refl, i10, true_or, ne_eq, not_true_eq_false, not_false_eq_true, Bool.false_eq_true, true_and, and_true, and_self, if_true, if_false, or_true, false_or, or_false, or_self, false_and, and_false, Nat.one_ne_zero, n01, Nat.reduceEqDiff, at_190, at_196, al_196, rw_190_7, nI_mL, hf2]
def dh (I : Nat → Nat → Int32) : Option (Nat × Nat) → Nat → Nat → Int32
  | none => I
  | some (_, t) => up I 190 17 (nI t)
theorem x_6_37 (I : Nat → Nat → Int32) (J : Nat → Nat → Int64) (q : Bool × Bool) (X : Nat × (Nat → Int32)) {N : Nat → Nat} {D : Nat → Nat → Int} (ho : oB N D) (hM : mR I 0 N D) {h : Nat} (hh : h ≤ 998) (v1 v2 v3 v4 v5 v6 : Int32) (z8 : Value) : gb_ex 135 bk_RM_drifts_6 [.ref (190 : Nat), .int v1, .int v2, .int v3, .int v4, .int v5, .int v6, .int (nI h), z8] [] gb_pG (gS I J q X) = gb_ex 135 bk_RM_drifts_37 [.ref (190 : Nat), .int v1, .int v2, .int v3, .int v4, .int v5, .int v6, .int (nI h), .int (nI (if N 1 = 0 then 0 else h % N 1))] [.int (zI (tX N D 0 h)), .int v5] gb_pG (gS I J q X) := by
  have hn := hM.1.2.1
  obtain ⟨⟨o1, o2, o3, o4, o5, o6⟩, -⟩ := id ho
  unfold tX
  rw [bk_RM_drifts_6]
  by_cases c : N 1 = 0
  · rw [if_pos c, if_pos c]
    simp (disch := first | omega | decide | assumption | simp only [List.length_cons, List.length_nil, Nat.reduceAdd, Nat.reduceLeDiff]) only [x_iload_1, x_istore_5, x_iload_2, x_istore_6, x_iload_3, x_istore_7, x_iload_7, x_c_999, x_ic_ge, x_aload_0, x_get_644, x_c_0, x_iald, x_if_ne, x_goto, x_irem, x_istore_8, x_iload_5, x_get_645, x_c_2, x_iload_8, x_imul, x_iload_4, x_c_1, xc_RM_blows, x_c_10, x_idiv, x_iadd, x_iload_6, x_i2l, x_l_0, x_get_643, x_isub, xc_RM_in, x_if_eq, x_c_99, x_ic_le, x_c_m1, x_iret, x_if_gt, x_put_657, x_iinc_7_1, tg_RM_drifts_6, tg_RM_drifts_16, tg_RM_drifts_22, tg_RM_drifts_31, tg_RM_drifts_37, tg_RM_drifts_56, tg_RM_drifts_64, tg_RM_drifts_92, tg_RM_drifts_94, tg_RM_drifts_105, tg_RM_drifts_107, bk_RM_drifts_0, bk_RM_drifts_16, bk_RM_drifts_22, bk_RM_drifts_31, bk_RM_drifts_56, bk_RM_drifts_64, bk_RM_drifts_92, bk_RM_drifts_94, bk_RM_drifts_105, bk_RM_drifts_107, kil_int, kil_ref, kil_null, kil_long, kil_rA, psh_int, psh_long, psh_null, gI_gS, gL_gS, gR_gS, sI_gS, sL_gS, orf_some, Option.bind_some, List.length_cons, List.length_nil, Nat.reduceAdd, Nat.reduceLeDiff, if_true, if_false, Nat.zero_le, at_190, at_193, al_193, rw_190_4, nI_ltI, nI_leI, nI_eq, nI_ltL, nI_leL, L_ltI, L_leI, nI_eqL, L_eqI, oob_nI, ix_nI, oob_L, ix_L, nI_1, nI_add, nI_z, z_nI, nI_lt0, nI_ge0, nI_gt0, nI_le0, ne_eq, Nat.le_zero_eq, Nat.not_lt_zero, Nat.lt_irrefl, Nat.le_refl, i10, true_or, ne_eq, not_true_eq_false, not_false_eq_true, Bool.false_eq_true, true_and, and_true, and_self, if_true, if_false, or_true, false_or, or_false, or_self, false_and, and_false, Nat.one_ne_zero, n01, Nat.reduceEqDiff, hn, c, if_neg (show ¬ 999 ≤ h by omega)]
    rfl
  · have hm : h % N 1 < N 1 := Nat.mod_lt _ (by omega)
    have ht := m_t0 hM (r := 0) (j := h % N 1) (by omega) hm
    rw [Nat.add_zero] at ht
    have e1 : nI h - nI h / nI (N 1) * nI (N 1) = nI (h % N 1) := pk_rem (by omega) (by omega) (by omega)
    have k1 : ¬ nI (N 1) = 0 := by rw [nI_z (by omega)]; exact c
    rw [if_neg c, if_neg c]
    simp (disch := first | omega | decide | assumption | simp only [List.length_cons, List.length_nil, Nat.reduceAdd, Nat.reduceLeDiff]) only [x_iload_1, x_istore_5, x_iload_2, x_istore_6, x_iload_3, x_istore_7, x_iload_7, x_c_999, x_ic_ge, x_aload_0, x_get_644, x_c_0, x_iald, x_if_ne, x_goto, x_irem, x_istore_8, x_iload_5, x_get_645, x_c_2, x_iload_8, x_imul, x_iload_4, x_c_1, xc_RM_blows, x_c_10, x_idiv, x_iadd, x_iload_6, x_i2l, x_l_0, x_get_643, x_isub, xc_RM_in, x_if_eq, x_c_99, x_ic_le, x_c_m1, x_iret, x_if_gt, x_put_657, x_iinc_7_1, tg_RM_drifts_6, tg_RM_drifts_16, tg_RM_drifts_22, tg_RM_drifts_31, tg_RM_drifts_37, tg_RM_drifts_56, tg_RM_drifts_64, tg_RM_drifts_92, tg_RM_drifts_94, tg_RM_drifts_105, tg_RM_drifts_107, bk_RM_drifts_0, bk_RM_drifts_16, bk_RM_drifts_22, bk_RM_drifts_31, bk_RM_drifts_56, bk_RM_drifts_64, bk_RM_drifts_92, bk_RM_drifts_94, bk_RM_drifts_105, bk_RM_drifts_107, kil_int, kil_ref, kil_null, kil_long, kil_rA, psh_int, psh_long, psh_null, gI_gS, gL_gS, gR_gS, sI_gS, sL_gS, orf_some, Option.bind_some, List.length_cons, List.length_nil, Nat.reduceAdd, Nat.reduceLeDiff, if_true, if_false, Nat.zero_le, at_190, at_193, at_194, al_193, al_194, rw_190_4, rw_190_5, nI_leI, L_leI, nI_leL, oob_nI, ix_nI, oob_L, ix_L, nI_mL, i10, true_or, ne_eq, not_true_eq_false, not_false_eq_true, Bool.false_eq_true, true_and, and_true, and_self, if_true, if_false, or_true, false_or, or_false, or_self, false_and, and_false, Nat.one_ne_zero, n01, Nat.reduceEqDiff, hn, k1, e1, if_neg (show ¬ 999 ≤ h by omega), ht]
theorem x_37_64 (I : Nat → Nat → Int32) (J : Nat → Nat → Int64) (q : Bool × Bool) (X : Nat × (Nat → Int32)) {N : Nat → Nat} {D : Nat → Nat → Int} (ho : oB N D) (hM : mR I 0 N D) {h s : Nat} (hh : h ≤ 998) (hs : s ≤ 10) (v1 v2 v3 : Int32) (x y : Int) : gb_ex 135 bk_RM_drifts_37 [.ref (190 : Nat), .int v1, .int v2, .int v3, .int (nI s), .int (zI x), .int (zI y), .int (nI h), .int (nI (if N 1 = 0 then 0 else h % N 1))] [.int (zI (tX N D 0 h)), .int (zI x)] gb_pG (gS I J q X) = gb_ex 135 bk_RM_drifts_64 [.ref (190 : Nat), .int v1, .int v2, .int v3, .int (nI s), .int (zI (x + sx N D s 0 h)), .int (zI y), .int (nI h), .int (nI (if N 1 = 0 then 0 else h % N 1))] [.int (zI (tX N D 1 h)), .int (zI y)] gb_pG (gS I J q X) := by
  have hn := hM.1.2.1
  have b3 := wX_b ho (r := 3) (h := h) (Or.inl rfl)
  have hb : gb_call 134 [.ref (190 : Nat), .int (nI h), .int 1] gb_pG (gS I J q X) = some (.int (zI (wX N D 3 h)), gb_pG, gS I J q X) := s_blows I J q X ho hM (w := 1) (by omega) (Or.inl rfl)
  have eq := qd_I hs b3.1 b3.2
  have e10 : ¬ (10 : Int32) = 0 := by decide
  obtain ⟨⟨o1, o2, o3, o4, o5, o6⟩, -⟩ := id ho
  have es : sx N D s 0 h = tX N D 0 h + qd s (wX N D 3 h) := rfl
  rw [bk_RM_drifts_37, es]
  by_cases c : N 1 = 0
  · have e1 : tX N D 1 h = 0 := if_pos c
    rw [e1, if_pos c]
    simp (disch := first | omega | decide | assumption | simp only [List.length_cons, List.length_nil, Nat.reduceAdd, Nat.reduceLeDiff]) only [x_iload_1, x_istore_5, x_iload_2, x_istore_6, x_iload_3, x_istore_7, x_iload_7, x_c_999, x_ic_ge, x_aload_0, x_get_644, x_c_0, x_iald, x_if_ne, x_goto, x_irem, x_istore_8, x_iload_5, x_get_645, x_c_2, x_iload_8, x_imul, x_iload_4, x_c_1, xc_RM_blows, x_c_10, x_idiv, x_iadd, x_iload_6, x_i2l, x_l_0, x_get_643, x_isub, xc_RM_in, x_if_eq, x_c_99, x_ic_le, x_c_m1, x_iret, x_if_gt, x_put_657, x_iinc_7_1, tg_RM_drifts_6, tg_RM_drifts_16, tg_RM_drifts_22, tg_RM_drifts_31, tg_RM_drifts_37, tg_RM_drifts_56, tg_RM_drifts_64, tg_RM_drifts_92, tg_RM_drifts_94, tg_RM_drifts_105, tg_RM_drifts_107, bk_RM_drifts_0, bk_RM_drifts_6, bk_RM_drifts_16, bk_RM_drifts_22, bk_RM_drifts_31, bk_RM_drifts_56, bk_RM_drifts_92, bk_RM_drifts_94, bk_RM_drifts_105, bk_RM_drifts_107, kil_int, kil_ref, kil_null, kil_long, kil_rA, psh_int, psh_long, psh_null, gI_gS, gL_gS, gR_gS, sI_gS, sL_gS, orf_some, Option.bind_some, List.length_cons, List.length_nil, Nat.reduceAdd, Nat.reduceLeDiff, if_true, if_false, Nat.zero_le, at_190, at_193, al_193, rw_190_4, nI_ltI, nI_leI, nI_eq, nI_ltL, nI_leL, L_ltI, L_leI, nI_eqL, L_eqI, oob_nI, ix_nI, oob_L, ix_L, nI_1, nI_add, nI_z, z_nI, nI_lt0, nI_ge0, nI_gt0, nI_le0, ne_eq, Nat.le_zero_eq, Nat.not_lt_zero, Nat.lt_irrefl, Nat.le_refl, i10, true_or, ne_eq, not_true_eq_false, not_false_eq_true, Bool.false_eq_true, true_and, and_true, and_self, if_true, if_false, or_true, false_or, or_false, or_self, false_and, and_false, Nat.one_ne_zero, n01, Nat.reduceEqDiff, hn, c, hb, eq, e10, zI_add]
    rfl
  · have hm : h % N 1 < N 1 := Nat.mod_lt _ (by omega)
    have ht := m_t0 hM (r := 1) (j := h % N 1) (by omega) hm
    have k1 : ¬ nI (N 1) = 0 := by rw [nI_z (by omega)]; exact c
    have e1 : tX N D 1 h = D 1 (h % N 1) := if_neg c
    rw [e1, if_neg c]
    simp (disch := first | omega | decide | assumption | simp only [List.length_cons, List.length_nil, Nat.reduceAdd, Nat.reduceLeDiff]) only [x_iload_1, x_istore_5, x_iload_2, x_istore_6, x_iload_3, x_istore_7, x_iload_7, x_c_999, x_ic_ge, x_aload_0, x_get_644, x_c_0, x_iald, x_if_ne, x_goto, x_irem, x_istore_8, x_iload_5, x_get_645, x_c_2, x_iload_8, x_imul, x_iload_4, x_c_1, xc_RM_blows, x_c_10, x_idiv, x_iadd, x_iload_6, x_i2l, x_l_0, x_get_643, x_isub, xc_RM_in, x_if_eq, x_c_99, x_ic_le, x_c_m1, x_iret, x_if_gt, x_put_657, x_iinc_7_1, tg_RM_drifts_6, tg_RM_drifts_16, tg_RM_drifts_22, tg_RM_drifts_31, tg_RM_drifts_37, tg_RM_drifts_56, tg_RM_drifts_64, tg_RM_drifts_92, tg_RM_drifts_94, tg_RM_drifts_105, tg_RM_drifts_107, bk_RM_drifts_0, bk_RM_drifts_6, bk_RM_drifts_16, bk_RM_drifts_22, bk_RM_drifts_31, bk_RM_drifts_56, bk_RM_drifts_92, bk_RM_drifts_94, bk_RM_drifts_105, bk_RM_drifts_107, kil_int, kil_ref, kil_null, kil_long, kil_rA, psh_int, psh_long, psh_null, gI_gS, gL_gS, gR_gS, sI_gS, sL_gS, orf_some, Option.bind_some, List.length_cons, List.length_nil, Nat.reduceAdd, Nat.reduceLeDiff, if_true, if_false, Nat.zero_le, at_190, at_193, at_194, al_193, al_194, rw_190_4, rw_190_5, nI_ltI, nI_leI, nI_eq, nI_ltL, nI_leL, L_ltI, L_leI, nI_eqL, L_eqI, oob_nI, ix_nI, oob_L, ix_L, nI_1, nI_add, nI_z, z_nI, nI_lt0, nI_ge0, nI_gt0, nI_le0, ne_eq, Nat.le_zero_eq, Nat.not_lt_zero, Nat.lt_irrefl, Nat.le_refl, nI_mL, nI_aL, i10, true_or, ne_eq, not_true_eq_false, not_false_eq_true, Bool.false_eq_true, true_and, and_true, and_self, if_true, if_false, or_true, false_or, or_false, or_self, false_and, and_false, Nat.one_ne_zero, n01, Nat.reduceEqDiff, hn, c, hb, eq, e10, zI_add, ht]
theorem x_64 (I : Nat → Nat → Int32) (J : Nat → Nat → Int64) (q : Bool × Bool) (X : Nat × (Nat → Int32)) {N : Nat → Nat} {D : Nat → Nat → Int} (ho : oB N D) (hM : mR I 0 N D) {h s : Nat} (hh : h ≤ 998) (hs : s ≤ 10) (v1 v2 v3 : Int32) {x' y : Int} (hx : -1000 ≤ x' ∧ x' ≤ 1000) (hy : 0 ≤ y ∧ y ≤ 99) (z8 : Value) : gb_ex 135 bk_RM_drifts_64 [.ref (190 : Nat), .int v1, .int v2, .int v3, .int (nI s), .int (zI x'), .int (zI y), .int (nI h), z8] [.int (zI (tX N D 1 h)), .int (zI y)] gb_pG (gS I J q X) =
    if x' < 0 ∨ (10 * N 0 : Int) - 1 < x' ∨ 99 < y + sx N D s 1 h then some (.int (-1), gb_pG, gS I J q X) else if y + sx N D s 1 h ≤ 0 then some (.int (nI (x'.toNat / 10)), gb_pG, gS (up I 190 17 (nI (h + 1))) J q X) else
    gb_ex 135 bk_RM_drifts_6 [.ref (190 : Nat), .int v1, .int v2, .int v3, .int (nI s), .int (zI x'), .int (zI (y + sx N D s 1 h)), .int (nI (h + 1)), z8] [] gb_pG (gS I J q X) := by
  have hc := hM.1.1
  have b4 := wX_b ho (r := 4) (h := h) (Or.inr rfl)
  have hb : gb_call 134 [.ref (190 : Nat), .int (nI h), .int 2] gb_pG (gS I J q X) = some (.int (zI (wX N D 4 h)), gb_pG, gS I J q X) := s_blows I J q X ho hM (w := 2) (by omega) (Or.inr rfl)
  have eq := qd_I hs b4.1 b4.2
  have hsx := sx_b ho (s := s) (r := 1) (h := h) hs (by omega)
  have e10 : ¬ (10 : Int32) = 0 := by decide
  obtain ⟨⟨o1, o2, o3, o4, o5, o6⟩, -⟩ := id ho
  have es : tX N D 1 h + qd s (wX N D 4 h) = sx N D s 1 h := rfl
  have e9 : (10 : Int32) * nI (N 0) - 1 = nI (10 * N 0 - 1) := by rw [show (10 : Int32) * nI (N 0) = nI (10 * N 0) from (by rw [fa_lit 10, pk_mul]), nI_pred' (by omega)]
  have k1 : (0 ≤ zI x' ∧ zI x' ≤ nI (10 * N 0 - 1)) ↔ (0 ≤ x' ∧ x' ≤ (10 * N 0 : Int) - 1) := by
    rw [show (0 : Int32) = zI 0 from rfl, zI_nI, zI_leI (by omega) (by omega) (by omega) (by omega), zI_leI (by omega) (by omega) (by omega) (by omega)]
    omega
  have k3 : (zI (y + sx N D s 1 h) ≤ 99) ↔ y + sx N D s 1 h ≤ 99 := by rw [show (99 : Int32) = zI 99 from rfl, zI_leI (by omega) (by omega) (by omega) (by omega)]
  have k4 : (0 < zI (y + sx N D s 1 h)) ↔ 0 < y + sx N D s 1 h := by rw [show (0 : Int32) = zI 0 from rfl, zI_ltI (by omega) (by omega) (by omega) (by omega)]
  rw [bk_RM_drifts_64]
  simp (disch := first | omega | decide | assumption | simp only [List.length_cons, List.length_nil, Nat.reduceAdd, Nat.reduceLeDiff]) only [x_iload_1, x_istore_5, x_iload_2, x_istore_6, x_iload_3, x_istore_7, x_iload_7, x_c_999, x_ic_ge, x_aload_0, x_get_644, x_c_0, x_iald, x_if_ne, x_goto, x_irem, x_istore_8, x_iload_5, x_get_645, x_c_2, x_iload_8, x_imul, x_iload_4, x_c_1, xc_RM_blows, x_c_10, x_idiv, x_iadd, x_iload_6, x_i2l, x_l_0, x_get_643, x_isub, xc_RM_in, x_if_eq, x_c_99, x_ic_le, x_c_m1, x_iret, x_if_gt, x_put_657, x_iinc_7_1, tg_RM_drifts_6, tg_RM_drifts_16, tg_RM_drifts_22, tg_RM_drifts_31, tg_RM_drifts_37, tg_RM_drifts_56, tg_RM_drifts_64, tg_RM_drifts_92, tg_RM_drifts_94, tg_RM_drifts_105, tg_RM_drifts_107, bk_RM_drifts_0, bk_RM_drifts_16, bk_RM_drifts_22, bk_RM_drifts_31, bk_RM_drifts_37, bk_RM_drifts_56, bk_RM_drifts_92, bk_RM_drifts_94, bk_RM_drifts_105, bk_RM_drifts_107, kil_int, kil_ref, kil_null, kil_long, kil_rA, psh_int, psh_long, psh_null, gI_gS, gL_gS, gR_gS, sI_gS, sL_gS, orf_some, Option.bind_some, List.length_cons, List.length_nil, Nat.reduceAdd, Nat.reduceLeDiff, if_true, if_false, Nat.zero_le, at_190, at_192, al_192, rw_190_3, oob_L, ix_L, nI_1, i10, true_or, ne_eq, not_true_eq_false, not_false_eq_true, Bool.false_eq_true, true_and, and_true, and_self, if_true, if_false, or_true, false_or, or_false, or_self, false_and, and_false, Nat.one_ne_zero, n01, Nat.reduceEqDiff, hc, hb, eq, e10, zI_add, es, s_RM_in, w_Lle, w_le, e9, k1, k3, k4, ite_b1]
  by_cases c1 : 0 ≤ x' ∧ x' ≤ (10 * N 0 : Int) - 1
  · rw [if_neg (not_not_intro c1)]
    by_cases c3 : y + sx N D s 1 h ≤ 99
    · rw [if_pos c3, if_neg (show ¬ (x' < 0 ∨ (10 * N 0 : Int) - 1 < x' ∨ 99 < y + sx N D s 1 h) by omega)]
      by_cases c4 : 0 < y + sx N D s 1 h
      · rw [if_pos c4, if_neg (show ¬ y + sx N D s 1 h ≤ 0 by omega)]
      · rw [if_neg c4, if_pos (show y + sx N D s 1 h ≤ 0 by omega)]
        have e : zI x' / 10 = nI (x'.toNat / 10) := by
          rw [zI_toNat (by omega), fa_lit]
          exact pk_div (by omega) (by decide) (by decide)
        rw [e]
    · rw [if_neg c3, if_pos (show (x' < 0 ∨ (10 * N 0 : Int) - 1 < x' ∨ 99 < y + sx N D s 1 h) by omega)]
  · rw [if_pos c1, if_pos (show (x' < 0 ∨ (10 * N 0 : Int) - 1 < x' ∨ 99 < y + sx N D s 1 h) by omega)]
theorem l_drifts (I : Nat → Nat → Int32) (J : Nat → Nat → Int64) (q : Bool × Bool) (X : Nat × (Nat → Int32)) {N : Nat → Nat} {D : Nat → Nat → Int} (ho : oB N D) (hM : mR I 0 N D) {s : Nat} (hs : s ≤ 10) (v1 v2 v3 : Int32) : ∀ (d h : Nat) (x y : Int) (z8 : Value), d + h = 999 → (0 ≤ x ∧ x ≤ 159) → (1 ≤ y ∧ y ≤ 99) → gb_ex 135 bk_RM_drifts_6 [.ref (190 : Nat), .int v1, .int v2, .int v3, .int (nI s), .int (zI x), .int (zI y), .int (nI h), z8] [] gb_pG (gS I J q X) = some (.int (rC (dr N D s d h x y)), gb_pG, gS (dh I (dr N D s d h x y)) J q X)
  | 0, h, x, y, z8, e, hx, hy => by
    have : h = 999 := by omega
    subst this
    rw [bk_RM_drifts_6]
    simp (disch := first | omega | decide | assumption | simp only [List.length_cons, List.length_nil, Nat.reduceAdd, Nat.reduceLeDiff]) only [x_iload_1, x_istore_5, x_iload_2, x_istore_6, x_iload_3, x_istore_7, x_iload_7, x_c_999, x_ic_ge, x_aload_0, x_get_644, x_c_0, x_iald, x_if_ne, x_goto, x_irem, x_istore_8, x_iload_5, x_get_645, x_c_2, x_iload_8, x_imul, x_iload_4, x_c_1, xc_RM_blows, x_c_10, x_idiv, x_iadd, x_iload_6, x_i2l, x_l_0, x_get_643, x_isub, xc_RM_in, x_if_eq, x_c_99, x_ic_le, x_c_m1, x_iret, x_if_gt, x_put_657, x_iinc_7_1, tg_RM_drifts_6, tg_RM_drifts_16, tg_RM_drifts_22, tg_RM_drifts_31, tg_RM_drifts_37, tg_RM_drifts_56, tg_RM_drifts_64, tg_RM_drifts_92, tg_RM_drifts_94, tg_RM_drifts_105, tg_RM_drifts_107, bk_RM_drifts_0, bk_RM_drifts_31, bk_RM_drifts_37, bk_RM_drifts_56, bk_RM_drifts_64, bk_RM_drifts_92, bk_RM_drifts_94, bk_RM_drifts_105, bk_RM_drifts_107, kil_int, kil_ref, kil_null, kil_long, kil_rA, psh_int, psh_long, psh_null, gI_gS, gL_gS, gR_gS, sI_gS, sL_gS, orf_some, Option.bind_some, List.length_cons, List.length_nil, Nat.reduceAdd, Nat.reduceLeDiff, if_true, if_false, Nat.zero_le, nI_ltI, nI_leI, nI_eq, nI_ltL, nI_leL, L_ltI, L_leI, nI_eqL, L_eqI, oob_nI, ix_nI, oob_L, ix_L, nI_1, nI_add, nI_z, z_nI, nI_lt0, nI_ge0, nI_gt0, nI_le0, ne_eq, Nat.le_zero_eq, Nat.not_lt_zero, Nat.lt_irrefl, Nat.le_refl, i10, true_or, ne_eq, not_true_eq_false, not_false_eq_true, Bool.false_eq_true, true_and, and_true, and_self, if_true, if_false, or_true, false_or, or_false, or_self, false_and, and_false, Nat.one_ne_zero, n01, Nat.reduceEqDiff]
    rfl
  | d + 1, h, x, y, z8, e, hx, hy => by
    have hsx := sx_b ho (s := s) (r := 0) (h := h) hs (by omega)
    obtain ⟨⟨o1, o2, o3, o4, o5, o6⟩, -⟩ := id ho
    rw [x_6_37 I J q X ho hM (by omega), x_37_64 I J q X ho hM (by omega) hs, x_64 I J q X ho hM (by omega) hs v1 v2 v3 (by omega) (by omega), dr]
    by_cases c1 : x + sx N D s 0 h < 0 ∨ (10 * N 0 : Int) - 1 < x + sx N D s 0 h ∨ 99 < y + sx N D s 1 h
    · rw [if_pos c1, if_pos c1]
      rfl
    · rw [if_neg c1, if_neg c1]
      by_cases c2 : y + sx N D s 1 h ≤ 0
      · rw [if_pos c2, if_pos c2]
        rfl
      · rw [if_neg c2, if_neg c2]
        exact l_drifts I J q X ho hM hs v1 v2 v3 d (h + 1) _ _ _ (by omega) (by omega) (by omega)
theorem s_drifts (I : Nat → Nat → Int32) (J : Nat → Nat → Int64) (q : Bool × Bool) (X : Nat × (Nat → Int32)) {N : Nat → Nat} {D : Nat → Nat → Int} (ho : oB N D) (hM : mR I 0 N D) {s h : Nat} {x y : Int} (hs : s ≤ 10) (hh : h ≤ 999) (hx : 0 ≤ x ∧ x ≤ 159) (hy : 1 ≤ y ∧ y ≤ 99) : gb_call 135 [.ref (190 : Nat), .int (zI x), .int (zI y), .int (nI h), .int (nI s)] gb_pG (gS I J q X) = some (.int (rC (dr N D s (999 - h) h x y)), gb_pG, gS (dh I (dr N D s (999 - h) h x y)) J q X) := by
  rw [cl_RM_drifts]
  simp only [x_iload_1, x_istore_5, x_iload_2, x_istore_6, x_iload_3, x_istore_7, x_iload_7, x_c_999, x_ic_ge, x_aload_0, x_get_644, x_c_0, x_iald, x_if_ne, x_goto, x_irem, x_istore_8, x_iload_5, x_get_645, x_c_2, x_iload_8, x_imul, x_iload_4, x_c_1, xc_RM_blows, x_c_10, x_idiv, x_iadd, x_iload_6, x_i2l, x_l_0, x_get_643, x_isub, xc_RM_in, x_if_eq, x_c_99, x_ic_le, x_c_m1, x_iret, x_if_gt, x_put_657, x_iinc_7_1, tg_RM_drifts_6, tg_RM_drifts_16, tg_RM_drifts_22, tg_RM_drifts_31, tg_RM_drifts_37, tg_RM_drifts_56, tg_RM_drifts_64, tg_RM_drifts_92, tg_RM_drifts_94, tg_RM_drifts_105, tg_RM_drifts_107, bk_RM_drifts_0, bk_RM_drifts_16, bk_RM_drifts_22, bk_RM_drifts_31, bk_RM_drifts_37, bk_RM_drifts_56, bk_RM_drifts_64, bk_RM_drifts_92, bk_RM_drifts_94, bk_RM_drifts_105, bk_RM_drifts_107, kil_int, kil_ref, kil_null, kil_long, kil_rA, psh_int, psh_long, psh_null, gI_gS, gL_gS, gR_gS, sI_gS, sL_gS, orf_some, Option.bind_some, List.length_cons, List.length_nil, Nat.reduceAdd, Nat.reduceLeDiff, if_true, if_false, Nat.zero_le]
  exact l_drifts I J q X ho hM hs _ _ _ (999 - h) h x y _ (by omega) hx hy
