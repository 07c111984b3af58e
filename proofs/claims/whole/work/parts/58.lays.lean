/-! the model's worlds -/
def mwn (I : Nat → Nat → Int32) (N : Nat → Nat) (D : Nat → Nat → Int) (l : Nat) : Nat → Nat → Nat → Int32
  | 0 => I
  | n + 1 => up (up (dh (mwn I N D l n) (wo N D l n)) 204 (110 * l + n) (rC (wo N D l n))) 205 (110 * l + n) (dh (mwn I N D l n) (wo N D l n) 190 17)
theorem mwn_n {I : Nat → Nat → Int32} {N : Nat → Nat} {D : Nat → Nat → Int} {l a : Nat} (h0 : a ≠ 190) (h1 : a ≠ 204) (h2 : a ≠ 205) : ∀ n, mwn I N D l n a = I a
  | 0 => rfl
  | n + 1 => by rw [mwn, up_ne h2, up_ne h1, dh_n h0, mwn_n h0 h1 h2 n]
theorem mwn_k {I : Nat → Nat → Int32} {N : Nat → Nat} {D : Nat → Nat → Int} {l k : Nat} (h : k ≠ 17) : ∀ n, mwn I N D l n 190 k = I 190 k
  | 0 => rfl
  | n + 1 => by rw [mwn, up_ne (by omega), up_ne (by omega), dh_k h, mwn_k h n]
theorem mwn_o {I : Nat → Nat → Int32} {N : Nat → Nat} {D : Nat → Nat → Int} {l a x : Nat} (ha : a = 204 ∨ a = 205) : ∀ n, (x < 110 * l ∨ 110 * l + n ≤ x) → mwn I N D l n a x = I a x
  | 0, _ => rfl
  | n + 1, h => by
    have ih := mwn_o (I := I) (N := N) (D := D) (l := l) (x := x) ha n (by omega)
    rw [mwn]
    rcases ha with rfl | rfl
    · rw [up_ne (by omega), up_same, upd_ne (by omega), dh_n (by omega), ih]
    · rw [up_same, upd_ne (by omega), up_ne (by omega), dh_n (by omega), ih]
theorem mwn_v {I : Nat → Nat → Int32} {N : Nat → Nat} {D : Nat → Nat → Int} {l : Nat} : ∀ n w, w < n → mwn I N D l n 204 (110 * l + w) = rC (wo N D l w) ∧ ∀ c t, wo N D l w = some (c, t) → mwn I N D l n 205 (110 * l + w) = nI t
  | 0, w, h => by omega
  | n + 1, w, h => by
    rw [mwn]
    by_cases e : w = n
    · subst e
      refine ⟨by rw [up_ne (by omega), up_same, upd_same], fun c t hw => ?_⟩
      rw [up_same, upd_same, hw]
      show up _ 190 17 (nI t) 190 17 = nI t
      rw [up_same, upd_same]
    · have ih := mwn_v (I := I) (N := N) (D := D) (l := l) n w (by omega)
      refine ⟨?_, fun c t hw => ?_⟩
      · rw [up_ne (by omega), up_same, upd_ne (by omega), dh_n (by omega)]
        exact ih.1
      · rw [up_same, upd_ne (by omega), up_ne (by omega), dh_n (by omega)]
        exact ih.2 c t hw
theorem l_lays2 (I : Nat → Nat → Int32) (J : Nat → Nat → Int64) (q : Bool × Bool) (X : Nat × (Nat → Int32)) {N : Nat → Nat} {D : Nat → Nat → Int} (ho : oB N D) (hM : mR I 0 N D) {l i : Nat} (hl : l < N 4) (hi : i < Sn D l) : ∀ d j, d + j = Hn D l → gb_ex 137 bk_RM_laysWorlds_35 [.ref (190 : Nat), .int (nI l), .int (nI (kl D l)), .int (nI (i * Hn D l + j)), .int (nI (slo D l + i)), .int (nI (hfi D l + j))] [] gb_pG (gS (mwn I N D l (i * Hn D l + j)) J q X) = gb_ex 137 bk_RM_laysWorlds_86 [.ref (190 : Nat), .int (nI l), .int (nI (kl D l)), .int (nI ((i + 1) * Hn D l)), .int (nI (slo D l + i)), .int (nI (hfi D l + Hn D l))] [] gb_pG (gS (mwn I N D l ((i + 1) * Hn D l)) J q X)
  | 0, j, e => by
    obtain ⟨-, -, ⟨b1, b2, b3, b4, b5⟩, -⟩ := lfa ho hl
    have hl8 : l < 8 := by have := ho.1.2.2.2.2.2; omega
    have ej : j = Hn D l := by omega
    have hH : Hn D l = hla D l - hfi D l + 1 := rfl
    have h13 := m_l0 (mR_fr hM (fun a a1 a2 => mwn_n (by omega) (by omega) (by omega) (i * Hn D l + j)) : mR (mwn I N D l (i * Hn D l + j)) 0 N D) (r := 4) (by omega) hl
    rw [b2, ← zI_nI, ← ej] at h13
    rw [show (i + 1) * Hn D l = i * Hn D l + Hn D l from Nat.succ_mul _ _, ← ej, bk_RM_laysWorlds_35]
    simp (disch := first | omega | decide | assumption | simp only [List.length_cons, List.length_nil, Nat.reduceAdd, Nat.reduceLeDiff]) only [x_aload_0, x_get_651, x_c_5, x_iload_1, x_imul, x_iald, x_istore_2, x_c_0, x_istore_3, x_get_649, x_c_4, x_iload_2, x_istore_4, x_iload_4, x_c_1, x_iadd, x_ic_gt, x_c_3, x_istore_5, x_iload_5, x_get_655, x_c_110, x_iload_3, x_c_2, xc_RM_drifts, x_iast, x_get_656, x_get_657, x_iinc_3_1, x_iinc_5_1, x_goto, x_iinc_4_1, x_get_654, x_vret, tg_RM_laysWorlds_16, tg_RM_laysWorlds_35, tg_RM_laysWorlds_86, tg_RM_laysWorlds_88, bk_RM_laysWorlds_0, bk_RM_laysWorlds_16, bk_RM_laysWorlds_88, kil_int, kil_ref, kil_null, kil_long, kil_rA, psh_int, psh_long, psh_null, gI_gS, gL_gS, gR_gS, sI_gS, sL_gS, orf_some, Option.bind_some, List.length_cons, List.length_nil, Nat.reduceAdd, Nat.reduceLeDiff, if_true, if_false, Nat.zero_le, at_190, at_200, al_200, rw_190_11, nI_mL, nI_aL, nI_ltI, nI_leI, nI_eq, nI_ltL, nI_leL, L_ltI, L_leI, nI_eqL, L_eqI, oob_nI, ix_nI, oob_L, ix_L, nI_1, nI_add, nI_z, z_nI, nI_lt0, nI_ge0, nI_gt0, nI_le0, ne_eq, Nat.le_zero_eq, Nat.not_lt_zero, Nat.lt_irrefl, Nat.le_refl, i10, true_or, ne_eq, not_true_eq_false, not_false_eq_true, Bool.false_eq_true, true_and, and_true, and_self, if_true, if_false, or_true, false_or, or_false, or_self, false_and, and_false, Nat.one_ne_zero, n01, Nat.reduceEqDiff, h13, if_pos (show hla D l < hfi D l + j by omega)]
  | d + 1, j, e => by
    obtain ⟨⟨k1, k2⟩, ⟨a1, a2, a3, a4⟩, ⟨b1, b2, b3, b4, b5⟩, hx, hy⟩ := lfa ho hl
    obtain ⟨w1, w2, w3, w4, w5, w6⟩ := Wn_b ho hl
    have hl8 : l < 8 := by have := ho.1.2.2.2.2.2; omega
    have hH : Hn D l = hla D l - hfi D l + 1 := rfl
    have hS : Sn D l = shi D l - slo D l + 1 := rfl
    obtain ⟨n, hn⟩ : ∃ n, n = i * Hn D l + j := ⟨_, rfl⟩
    have hlt : n < 110 := by
      have x1 : (i + 1) * Hn D l ≤ Sn D l * Hn D l := Nat.mul_le_mul_right _ (by omega)
      have x2 : (i + 1) * Hn D l = i * Hn D l + Hn D l := Nat.succ_mul _ _
      have x3 : Sn D l * Hn D l ≤ 110 := w5
      omega
    have hMn : mR (mwn I N D l n) 0 N D := mR_fr hM (fun a a1 a2 => mwn_n (by omega) (by omega) (by omega) n)
    have f10 := m_l0 hMn (r := 1) (by omega) hl
    have f11 := m_l0 hMn (r := 2) (by omega) hl
    have f13 := m_l0 hMn (r := 4) (by omega) hl
    rw [b2, ← zI_nI] at f13
    have hdm := dm_ij (i := i) (show j < Hn D l by omega)
    have rel := s_drifts _ J q X ho hMn (s := slo D l + i) (h := hfi D l + j) (x := D 10 l) (y := D 11 l) (by omega) (by omega) hx hy
    have ew : dr N D (slo D l + i) (999 - (hfi D l + j)) (hfi D l + j) (D 10 l) (D 11 l) = wo N D l n := by
      unfold wo
      rw [hn, hdm.1, hdm.2]
    rw [ew] at rel
    have ih := l_lays2 I J q X ho hM (i := i) hl hi d (j + 1) (by omega)
    rw [show i * Hn D l + (j + 1) = n + 1 by omega, show hfi D l + (j + 1) = hfi D l + j + 1 by omega] at ih
    rw [bk_RM_laysWorlds_35, ← ih, ← hn, mwn]
    clear ih hdm ew hn w5 hMn
    simp (disch := first | omega | decide | assumption | simp only [List.length_cons, List.length_nil, Nat.reduceAdd, Nat.reduceLeDiff]) only [x_aload_0, x_get_651, x_c_5, x_iload_1, x_imul, x_iald, x_istore_2, x_c_0, x_istore_3, x_get_649, x_c_4, x_iload_2, x_istore_4, x_iload_4, x_c_1, x_iadd, x_ic_gt, x_c_3, x_istore_5, x_iload_5, x_get_655, x_c_110, x_iload_3, x_c_2, xc_RM_drifts, x_iast, x_get_656, x_get_657, x_iinc_3_1, x_iinc_5_1, x_goto, x_iinc_4_1, x_get_654, x_vret, tg_RM_laysWorlds_16, tg_RM_laysWorlds_35, tg_RM_laysWorlds_86, tg_RM_laysWorlds_88, bk_RM_laysWorlds_0, bk_RM_laysWorlds_16, bk_RM_laysWorlds_88, kil_int, kil_ref, kil_null, kil_long, kil_rA, psh_int, psh_long, psh_null, gI_gS, gL_gS, gR_gS, sI_gS, sL_gS, orf_some, Option.bind_some, List.length_cons, List.length_nil, Nat.reduceAdd, Nat.reduceLeDiff, if_true, if_false, Nat.zero_le, at_190, at_200, at_204, at_205, al_200, al_204, al_205, rw_190_11, rw_190_15, rw_190_16, nI_mL, nI_aL, nI_ltI, nI_leI, nI_eq, nI_ltL, nI_leL, L_ltI, L_leI, nI_eqL, L_eqI, oob_nI, ix_nI, oob_L, ix_L, nI_1, nI_add, nI_z, z_nI, nI_lt0, nI_ge0, nI_gt0, nI_le0, ne_eq, Nat.le_zero_eq, Nat.not_lt_zero, Nat.lt_irrefl, Nat.le_refl, i10, true_or, ne_eq, not_true_eq_false, not_false_eq_true, Bool.false_eq_true, true_and, and_true, and_self, if_true, if_false, or_true, false_or, or_false, or_self, false_and, and_false, Nat.one_ne_zero, n01, Nat.reduceEqDiff, f13, if_neg (show ¬ hla D l < hfi D l + j by omega), f10, f11, rel, up_ne]
theorem l_lays1 (I : Nat → Nat → Int32) (J : Nat → Nat → Int64) (q : Bool × Bool) (X : Nat × (Nat → Int32)) {N : Nat → Nat} {D : Nat → Nat → Int} (ho : oB N D) (hM : mR I 0 N D) {l : Nat} (hl : l < N 4) : ∀ d i (z5 : Value), d + i = Sn D l → gb_ex 137 bk_RM_laysWorlds_16 [.ref (190 : Nat), .int (nI l), .int (nI (kl D l)), .int (nI (i * Hn D l)), .int (nI (slo D l + i)), z5] [] gb_pG (gS (mwn I N D l (i * Hn D l)) J q X) = some (.null, gb_pG, gS (up (mwn I N D l (Wn D l)) 203 l (nI (Wn D l))) J q X)
  | 0, i, z5, e => by
    obtain ⟨⟨k1, k2⟩, ⟨a1, a2, a3, a4⟩, -⟩ := lfa ho hl
    have hl8 : l < 8 := by have := ho.1.2.2.2.2.2; omega
    have hk6 : kl D l < 6 := by have := ho.1.2.2.2.2.1; omega
    have ei : i = Sn D l := by omega
    subst ei
    have f6 := m_k0 (mR_fr hM (fun a a1 a2 => mwn_n (by omega) (by omega) (by omega) (Sn D l * Hn D l)) : mR (mwn I N D l (Sn D l * Hn D l)) 0 N D) (r := 1) (by omega) k2
    rw [a2, ← zI_nI] at f6
    have hS : Sn D l = shi D l - slo D l + 1 := rfl
    rw [bk_RM_laysWorlds_16]
    simp (disch := first | omega | decide | assumption | simp only [List.length_cons, List.length_nil, Nat.reduceAdd, Nat.reduceLeDiff]) only [x_aload_0, x_get_651, x_c_5, x_iload_1, x_imul, x_iald, x_istore_2, x_c_0, x_istore_3, x_get_649, x_c_4, x_iload_2, x_istore_4, x_iload_4, x_c_1, x_iadd, x_ic_gt, x_c_3, x_istore_5, x_iload_5, x_get_655, x_c_110, x_iload_3, x_c_2, xc_RM_drifts, x_iast, x_get_656, x_get_657, x_iinc_3_1, x_iinc_5_1, x_goto, x_iinc_4_1, x_get_654, x_vret, tg_RM_laysWorlds_16, tg_RM_laysWorlds_35, tg_RM_laysWorlds_86, tg_RM_laysWorlds_88, bk_RM_laysWorlds_0, bk_RM_laysWorlds_86, bk_RM_laysWorlds_88, kil_int, kil_ref, kil_null, kil_long, kil_rA, psh_int, psh_long, psh_null, gI_gS, gL_gS, gR_gS, sI_gS, sL_gS, orf_some, Option.bind_some, List.length_cons, List.length_nil, Nat.reduceAdd, Nat.reduceLeDiff, if_true, if_false, Nat.zero_le, at_190, at_198, at_203, al_198, al_203, rw_190_9, rw_190_14, nI_mL, nI_aL, nI_ltI, nI_leI, nI_eq, nI_ltL, nI_leL, L_ltI, L_leI, nI_eqL, L_eqI, oob_nI, ix_nI, oob_L, ix_L, nI_1, nI_add, nI_z, z_nI, nI_lt0, nI_ge0, nI_gt0, nI_le0, ne_eq, Nat.le_zero_eq, Nat.not_lt_zero, Nat.lt_irrefl, Nat.le_refl, i10, true_or, ne_eq, not_true_eq_false, not_false_eq_true, Bool.false_eq_true, true_and, and_true, and_self, if_true, if_false, or_true, false_or, or_false, or_self, false_and, and_false, Nat.one_ne_zero, n01, Nat.reduceEqDiff, f6, if_pos (show shi D l < slo D l + Sn D l by omega)]
    rfl
  | d + 1, i, z5, e => by
    obtain ⟨⟨k1, k2⟩, ⟨a1, a2, a3, a4⟩, ⟨b1, b2, b3, b4, b5⟩, -⟩ := lfa ho hl
    have hl8 : l < 8 := by have := ho.1.2.2.2.2.2; omega
    have hk6 : kl D l < 6 := by have := ho.1.2.2.2.2.1; omega
    have hMn : mR (mwn I N D l (i * Hn D l)) 0 N D := mR_fr hM (fun a a1 a2 => mwn_n (by omega) (by omega) (by omega) (i * Hn D l))
    have f6 := m_k0 hMn (r := 1) (by omega) k2
    rw [a2, ← zI_nI] at f6
    have f12 := m_l0 hMn (r := 3) (by omega) hl
    rw [b1, ← zI_nI] at f12
    have hS : Sn D l = shi D l - slo D l + 1 := rfl
    have h2 := l_lays2 I J q X ho hM (i := i) hl (by omega) (Hn D l) 0 (by omega)
    have ih := l_lays1 I J q X ho hM hl d (i + 1) (.int (nI (hfi D l + Hn D l))) (by omega)
    rw [Nat.add_zero, Nat.add_zero] at h2
    rw [← ih]
    have st : gb_ex 137 bk_RM_laysWorlds_16 [.ref (190 : Nat), .int (nI l), .int (nI (kl D l)), .int (nI (i * Hn D l)), .int (nI (slo D l + i)), z5] [] gb_pG (gS (mwn I N D l (i * Hn D l)) J q X) = gb_ex 137 bk_RM_laysWorlds_35 [.ref (190 : Nat), .int (nI l), .int (nI (kl D l)), .int (nI (i * Hn D l)), .int (nI (slo D l + i)), .int (nI (hfi D l))] [] gb_pG (gS (mwn I N D l (i * Hn D l)) J q X) := by
      rw [bk_RM_laysWorlds_16]
      simp (disch := first | omega | decide | assumption | simp only [List.length_cons, List.length_nil, Nat.reduceAdd, Nat.reduceLeDiff]) only [x_aload_0, x_get_651, x_c_5, x_iload_1, x_imul, x_iald, x_istore_2, x_c_0, x_istore_3, x_get_649, x_c_4, x_iload_2, x_istore_4, x_iload_4, x_c_1, x_iadd, x_ic_gt, x_c_3, x_istore_5, x_iload_5, x_get_655, x_c_110, x_iload_3, x_c_2, xc_RM_drifts, x_iast, x_get_656, x_get_657, x_iinc_3_1, x_iinc_5_1, x_goto, x_iinc_4_1, x_get_654, x_vret, tg_RM_laysWorlds_16, tg_RM_laysWorlds_35, tg_RM_laysWorlds_86, tg_RM_laysWorlds_88, bk_RM_laysWorlds_0, bk_RM_laysWorlds_86, bk_RM_laysWorlds_88, kil_int, kil_ref, kil_null, kil_long, kil_rA, psh_int, psh_long, psh_null, gI_gS, gL_gS, gR_gS, sI_gS, sL_gS, orf_some, Option.bind_some, List.length_cons, List.length_nil, Nat.reduceAdd, Nat.reduceLeDiff, if_true, if_false, Nat.zero_le, at_190, at_198, at_200, al_198, al_200, rw_190_9, rw_190_11, nI_mL, nI_aL, nI_ltI, nI_leI, nI_eq, nI_ltL, nI_leL, L_ltI, L_leI, nI_eqL, L_eqI, oob_nI, ix_nI, oob_L, ix_L, nI_1, nI_add, nI_z, z_nI, nI_lt0, nI_ge0, nI_gt0, nI_le0, ne_eq, Nat.le_zero_eq, Nat.not_lt_zero, Nat.lt_irrefl, Nat.le_refl, i10, true_or, ne_eq, not_true_eq_false, not_false_eq_true, Bool.false_eq_true, true_and, and_true, and_self, if_true, if_false, or_true, false_or, or_false, or_self, false_and, and_false, Nat.one_ne_zero, n01, Nat.reduceEqDiff, f6, f12, if_neg (show ¬ shi D l < slo D l + i by omega)]
    rw [st, h2, bk_RM_laysWorlds_86]
    simp (disch := first | omega | decide | assumption | simp only [List.length_cons, List.length_nil, Nat.reduceAdd, Nat.reduceLeDiff]) only [x_aload_0, x_get_651, x_c_5, x_iload_1, x_imul, x_iald, x_istore_2, x_c_0, x_istore_3, x_get_649, x_c_4, x_iload_2, x_istore_4, x_iload_4, x_c_1, x_iadd, x_ic_gt, x_c_3, x_istore_5, x_iload_5, x_get_655, x_c_110, x_iload_3, x_c_2, xc_RM_drifts, x_iast, x_get_656, x_get_657, x_iinc_3_1, x_iinc_5_1, x_goto, x_iinc_4_1, x_get_654, x_vret, tg_RM_laysWorlds_16, tg_RM_laysWorlds_35, tg_RM_laysWorlds_86, tg_RM_laysWorlds_88, bk_RM_laysWorlds_0, bk_RM_laysWorlds_35, bk_RM_laysWorlds_86, bk_RM_laysWorlds_88, kil_int, kil_ref, kil_null, kil_long, kil_rA, psh_int, psh_long, psh_null, gI_gS, gL_gS, gR_gS, sI_gS, sL_gS, orf_some, Option.bind_some, List.length_cons, List.length_nil, Nat.reduceAdd, Nat.reduceLeDiff, if_true, if_false, Nat.zero_le, nI_ltI, nI_leI, nI_eq, nI_ltL, nI_leL, L_ltI, L_leI, nI_eqL, L_eqI, oob_nI, ix_nI, oob_L, ix_L, nI_1, nI_add, nI_z, z_nI, nI_lt0, nI_ge0, nI_gt0, nI_le0, ne_eq, Nat.le_zero_eq, Nat.not_lt_zero, Nat.lt_irrefl, Nat.le_refl, i10, true_or, ne_eq, not_true_eq_false, not_false_eq_true, Bool.false_eq_true, true_and, and_true, and_self, if_true, if_false, or_true, false_or, or_false, or_self, false_and, and_false, Nat.one_ne_zero, n01, Nat.reduceEqDiff]
    rfl
def mW (I : Nat → Nat → Int32) (N : Nat → Nat) (D : Nat → Nat → Int) (l : Nat) : Prop := I 203 l = nI (Wn D l) ∧ ∀ w, w < Wn D l → I 204 (110 * l + w) = rC (wo N D l w) ∧ ∀ c t, wo N D l w = some (c, t) → I 205 (110 * l + w) = nI t
theorem s_lays (I : Nat → Nat → Int32) (J : Nat → Nat → Int64) (q : Bool × Bool) (X : Nat × (Nat → Int32)) {N : Nat → Nat} {D : Nat → Nat → Int} (ho : oB N D) (hM : mR I 0 N D) {l : Nat} (hl : l < N 4) : ∃ I', gb_call 137 [.ref (190 : Nat), .int (nI l)] gb_pG (gS I J q X) = some (.null, gb_pG, gS I' J q X) ∧ mW I' N D l ∧ (∀ l', l' < N 4 → l' ≠ l → mW I N D l' → mW I' N D l') ∧ (∀ a, a ≠ 190 → ¬ (203 ≤ a ∧ a ≤ 205) → I' a = I a) ∧ ∀ k, k ≠ 17 → I' 190 k = I 190 k := by
  have hl8 : l < 8 := by have := ho.1.2.2.2.2.2; omega
  obtain ⟨⟨k1, k2⟩, ⟨a1, a2, a3, a4⟩, ⟨b1, b2, b3, b4, b5⟩, -⟩ := lfa ho hl
  have hk6 : kl D l < 6 := by have := ho.1.2.2.2.2.1; omega
  have hwb := Wn_b ho hl
  have run := l_lays1 I J q X ho hM hl (Sn D l) 0 .null (by omega)
  have f9 := m_l0 hM (r := 0) (by omega) hl
  rw [k1, ← zI_nI, Nat.add_zero] at f9
  have f5 := m_k0 hM (r := 0) (by omega) k2
  rw [a1, ← zI_nI, Nat.add_zero] at f5
  have e0 : mwn I N D l (0 * Hn D l) = I := by rw [Nat.zero_mul]; rfl
  rw [e0, Nat.zero_mul, Nat.add_zero] at run
  refine ⟨_, (?_ : _ = _).trans run, ⟨by rw [up_same, upd_same], fun w hw => ?_⟩, fun l' hl' hne hw => ⟨?_, fun w hw' => ?_⟩, fun a x1 x2 => ?_, fun k hk => ?_⟩
  · rw [cl_RM_laysWorlds]
    simp (disch := first | omega | decide | assumption | simp only [List.length_cons, List.length_nil, Nat.reduceAdd, Nat.reduceLeDiff]) only [x_aload_0, x_get_651, x_c_5, x_iload_1, x_imul, x_iald, x_istore_2, x_c_0, x_istore_3, x_get_649, x_c_4, x_iload_2, x_istore_4, x_iload_4, x_c_1, x_iadd, x_ic_gt, x_c_3, x_istore_5, x_iload_5, x_get_655, x_c_110, x_iload_3, x_c_2, xc_RM_drifts, x_iast, x_get_656, x_get_657, x_iinc_3_1, x_iinc_5_1, x_goto, x_iinc_4_1, x_get_654, x_vret, tg_RM_laysWorlds_16, tg_RM_laysWorlds_35, tg_RM_laysWorlds_86, tg_RM_laysWorlds_88, bk_RM_laysWorlds_0, bk_RM_laysWorlds_35, bk_RM_laysWorlds_86, bk_RM_laysWorlds_88, kil_int, kil_ref, kil_null, kil_long, kil_rA, psh_int, psh_long, psh_null, gI_gS, gL_gS, gR_gS, sI_gS, sL_gS, orf_some, Option.bind_some, List.length_cons, List.length_nil, Nat.reduceAdd, Nat.reduceLeDiff, if_true, if_false, Nat.zero_le, at_190, at_198, at_200, al_198, al_200, rw_190_9, rw_190_11, nI_mL, nI_ltI, nI_leI, nI_eq, nI_ltL, nI_leL, L_ltI, L_leI, nI_eqL, L_eqI, oob_nI, ix_nI, oob_L, ix_L, nI_1, nI_add, nI_z, z_nI, nI_lt0, nI_ge0, nI_gt0, nI_le0, ne_eq, Nat.le_zero_eq, Nat.not_lt_zero, Nat.lt_irrefl, Nat.le_refl, i10, true_or, ne_eq, not_true_eq_false, not_false_eq_true, Bool.false_eq_true, true_and, and_true, and_self, if_true, if_false, or_true, false_or, or_false, or_self, false_and, and_false, Nat.one_ne_zero, n01, Nat.reduceEqDiff, f9, f5]
    rfl
  · rw [up_ne (by omega), up_ne (by omega)]
    exact mwn_v _ w hw
  · rw [up_same, upd_ne hne, mwn_n (by omega) (by omega) (by omega)]
    exact hw.1
  · have hwb' := Wn_b ho hl'
    rw [up_ne (by omega), up_ne (by omega), mwn_o (Or.inl rfl) _ (by omega), mwn_o (Or.inr rfl) _ (by omega)]
    exact hw.2 w hw'
  · rw [up_ne (by omega), mwn_n x1 (by omega) (by omega)]
  · rw [up_ne (by omega), mwn_k hk]
