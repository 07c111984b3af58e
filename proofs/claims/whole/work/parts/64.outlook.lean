/-! what the reports leave -/
theorem l_fill (J : Nat → Nat → Int64) (q : Bool × Bool) (X : Nat × (Nat → Int32)) {a n : Nat} (ha : atag gb_pG a = 0) (hn : alen gb_pG a = n) (hn2 : n ≤ 1000) (v : Int32) : ∀ d i I, d + i = n → ∃ I', gb_ex 187 bk_JA_fill_53178_5 [.ref a, .int v, .int (nI i), .int (nI n)] [] gb_pG (gS I J q X) = some (.null, gb_pG, gS I' J q X) ∧ (∀ j, I' a j = if i ≤ j ∧ j < n then v else I a j) ∧ ∀ y, y ≠ a → I' y = I y
  | 0, i, I, e => by
    refine ⟨I, ?_, fun j => by rw [if_neg (by omega)], fun _ _ => rfl⟩
    rw [bk_JA_fill_53178_5]
    simp (disch := first | omega | decide | assumption | simp only [List.length_cons, List.length_nil, Nat.reduceAdd, Nat.reduceLeDiff]) only [x_c_0, x_istore_2, x_aload_0, x_alen, x_istore_3, x_iload_2, x_iload_3, x_ic_ge, x_iload_1, x_iast, x_iinc_2_1, x_goto, x_vret, tg_JA_fill_53178_5, tg_JA_fill_53178_14, bk_JA_fill_53178_0, bk_JA_fill_53178_14, kil_int, kil_ref, kil_null, kil_long, kil_rA, psh_int, psh_long, psh_null, gI_gS, gL_gS, gR_gS, sI_gS, sL_gS, orf_some, Option.bind_some, List.length_cons, List.length_nil, Nat.reduceAdd, Nat.reduceLeDiff, if_true, if_false, Nat.zero_le, nI_ltI, nI_leI, nI_eq, nI_ltL, nI_leL, L_ltI, L_leI, nI_eqL, L_eqI, oob_nI, ix_nI, oob_L, ix_L, nI_1, nI_add, nI_z, z_nI, nI_lt0, nI_ge0, nI_gt0, nI_le0, ne_eq, Nat.le_zero_eq, Nat.not_lt_zero, Nat.lt_irrefl, Nat.le_refl, i10, true_or, ne_eq, not_true_eq_false, not_false_eq_true, Bool.false_eq_true, true_and, and_true, and_self, if_true, if_false, or_true, false_or, or_false, or_self, false_and, and_false, Nat.one_ne_zero, n01, Nat.reduceEqDiff, if_pos (show n ≤ i by omega)]
  | d + 1, i, I, e => by
    obtain ⟨I', p1, p2, p3⟩ := l_fill J q X ha hn hn2 v d (i + 1) (up I a i v) (by omega)
    refine ⟨I', ?_, fun j => ?_, fun y hy => by rw [p3 y hy, up_ne hy]⟩
    · rw [bk_JA_fill_53178_5, ← p1]
      simp (disch := first | omega | decide | assumption | simp only [List.length_cons, List.length_nil, Nat.reduceAdd, Nat.reduceLeDiff]) only [x_c_0, x_istore_2, x_aload_0, x_alen, x_istore_3, x_iload_2, x_iload_3, x_ic_ge, x_iload_1, x_iast, x_iinc_2_1, x_goto, x_vret, tg_JA_fill_53178_5, tg_JA_fill_53178_14, bk_JA_fill_53178_0, bk_JA_fill_53178_14, kil_int, kil_ref, kil_null, kil_long, kil_rA, psh_int, psh_long, psh_null, gI_gS, gL_gS, gR_gS, sI_gS, sL_gS, orf_some, Option.bind_some, List.length_cons, List.length_nil, Nat.reduceAdd, Nat.reduceLeDiff, if_true, if_false, Nat.zero_le, nI_ltI, nI_leI, nI_eq, nI_ltL, nI_leL, L_ltI, L_leI, nI_eqL, L_eqI, oob_nI, ix_nI, oob_L, ix_L, nI_1, nI_add, nI_z, z_nI, nI_lt0, nI_ge0, nI_gt0, nI_le0, ne_eq, Nat.le_zero_eq, Nat.not_lt_zero, Nat.lt_irrefl, Nat.le_refl, i10, true_or, ne_eq, not_true_eq_false, not_false_eq_true, Bool.false_eq_true, true_and, and_true, and_self, if_true, if_false, or_true, false_or, or_false, or_self, false_and, and_false, Nat.one_ne_zero, n01, Nat.reduceEqDiff, if_neg (show ¬ n ≤ i by omega), hn]
    · rw [p2 j, up_same, upd_at]
      by_cases c : i + 1 ≤ j ∧ j < n
      · rw [if_pos c, if_pos (by omega)]
      · rw [if_neg c]
        by_cases ej : j = i
        · rw [if_pos ej, if_pos (by omega)]
        · rw [if_neg ej, if_neg (by omega)]
theorem s_fill (I : Nat → Nat → Int32) (J : Nat → Nat → Int64) (q : Bool × Bool) (X : Nat × (Nat → Int32)) {a n : Nat} (ha : atag gb_pG a = 0) (hn : alen gb_pG a = n) (hn2 : n ≤ 1000) (v : Int32) : ∃ I', gb_call 187 [.ref a, .int v] gb_pG (gS I J q X) = some (.null, gb_pG, gS I' J q X) ∧ (∀ j, I' a j = if j < n then v else I a j) ∧ ∀ y, y ≠ a → I' y = I y := by
  obtain ⟨I', p1, p2, p3⟩ := l_fill J q X ha hn hn2 v n 0 I (by omega)
  refine ⟨I', ?_, fun j => ?_, p3⟩
  · have h5 : atag gb_pG a ≤ 5 := by omega
    rw [cl_JA_fill_53178, ← p1]
    simp (disch := first | omega | decide | assumption | simp only [List.length_cons, List.length_nil, Nat.reduceAdd, Nat.reduceLeDiff]) only [x_c_0, x_istore_2, x_aload_0, x_alen, x_istore_3, x_iload_2, x_iload_3, x_ic_ge, x_iload_1, x_iast, x_iinc_2_1, x_goto, x_vret, tg_JA_fill_53178_5, tg_JA_fill_53178_14, bk_JA_fill_53178_0, bk_JA_fill_53178_14, kil_int, kil_ref, kil_null, kil_long, kil_rA, psh_int, psh_long, psh_null, gI_gS, gL_gS, gR_gS, sI_gS, sL_gS, orf_some, Option.bind_some, List.length_cons, List.length_nil, Nat.reduceAdd, Nat.reduceLeDiff, if_true, if_false, Nat.zero_le, hn]
    rfl
  · rw [p2 j]
    simp only [Nat.zero_le, true_and]
theorem l_never (J : Nat → Nat → Int64) (q : Bool × Bool) (X : Nat × (Nat → Int32)) (b : Nat) : ∀ d k I, d + k = 6 → ∃ I', gb_ex 28 bk_OU_readReports_2 [.ref (39 : Nat), .ref b, .ref (23 : Nat), .int (nI k), .null, .null] [] gb_pG (gS I J q X) = gb_ex 28 bk_OU_readReports_13 [.ref (39 : Nat), .ref b, .ref (23 : Nat), .int (nI 6), .null, .null] [] gb_pG (gS I' J q X) ∧ (∀ j c, k ≤ j → j < 6 → c < 16 → I' (41 + j) c = -1) ∧ ∀ y, (y < 41 + k ∨ 46 < y) → I' y = I y
  | 0, k, I, e => by
    have e2 : k = 6 := by omega
    subst e2
    refine ⟨I, ?_, fun j c h1 h2 => by omega, fun _ _ => rfl⟩
    rw [bk_OU_readReports_2]
    simp (disch := first | omega | decide | assumption | simp only [List.length_cons, List.length_nil, Nat.reduceAdd, Nat.reduceLeDiff]) only [x_c_0, x_istore_3, x_iload_3, x_c_6, x_ic_ge, x_aload_0, x_get_256, x_aald, x_aaldJ, x_c_m1, xc_JA_fill_53178, x_iinc_3_1, x_goto, x_aload_2, x_get_388, x_get_392, x_iald, x_istore_4, x_get_389, x_istore_5, x_get_393, x_bald, x_zald, x_if_ne, x_get_391, x_aload_1, x_get_6, x_iload_4, x_ic_lt, x_iload_5, x_get_390, x_max, x_iast, x_vret, tg_OU_readReports_2, tg_OU_readReports_13, tg_OU_readReports_15, tg_OU_readReports_60, tg_OU_readReports_62, bk_OU_readReports_0, bk_OU_readReports_15, bk_OU_readReports_60, bk_OU_readReports_62, kil_int, kil_ref, kil_null, kil_long, kil_rA, psh_int, psh_long, psh_null, gI_gS, gL_gS, gR_gS, sI_gS, sL_gS, orf_some, Option.bind_some, List.length_cons, List.length_nil, Nat.reduceAdd, Nat.reduceLeDiff, if_true, if_false, Nat.zero_le, nI_ltI, nI_leI, nI_eq, nI_ltL, nI_leL, L_ltI, L_leI, nI_eqL, L_eqI, oob_nI, ix_nI, oob_L, ix_L, nI_1, nI_add, nI_z, z_nI, nI_lt0, nI_ge0, nI_gt0, nI_le0, ne_eq, Nat.le_zero_eq, Nat.not_lt_zero, Nat.lt_irrefl, Nat.le_refl, i10, true_or, ne_eq, not_true_eq_false, not_false_eq_true, Bool.false_eq_true, true_and, and_true, and_self, if_true, if_false, or_true, false_or, or_false, or_self, false_and, and_false, Nat.one_ne_zero, n01, Nat.reduceEqDiff]
  | d + 1, k, I, e => by
    obtain ⟨I1, p1, p2, p3⟩ := s_fill I J q X (a := 41 + k) (n := 16) (atr_40 (by omega)) (alr_40 (by omega)) (by omega) (-1)
    obtain ⟨I', r1, r2, r3⟩ := l_never J q X b d (k + 1) I1 (by omega)
    refine ⟨I', ?_, fun j c h1 h2 hc => ?_, fun y hy => by rw [r3 y (by omega), p3 y (by omega)]⟩
    · rw [bk_OU_readReports_2, ← r1]
      simp (disch := first | omega | decide | assumption | simp only [List.length_cons, List.length_nil, Nat.reduceAdd, Nat.reduceLeDiff]) only [x_c_0, x_istore_3, x_iload_3, x_c_6, x_ic_ge, x_aload_0, x_get_256, x_aald, x_aaldJ, x_c_m1, xc_JA_fill_53178, x_iinc_3_1, x_goto, x_aload_2, x_get_388, x_get_392, x_iald, x_istore_4, x_get_389, x_istore_5, x_get_393, x_bald, x_zald, x_if_ne, x_get_391, x_aload_1, x_get_6, x_iload_4, x_ic_lt, x_iload_5, x_get_390, x_max, x_iast, x_vret, tg_OU_readReports_2, tg_OU_readReports_13, tg_OU_readReports_15, tg_OU_readReports_60, tg_OU_readReports_62, bk_OU_readReports_0, bk_OU_readReports_15, bk_OU_readReports_60, bk_OU_readReports_62, kil_int, kil_ref, kil_null, kil_long, kil_rA, psh_int, psh_long, psh_null, gI_gS, gL_gS, gR_gS, sI_gS, sL_gS, orf_some, Option.bind_some, List.length_cons, List.length_nil, Nat.reduceAdd, Nat.reduceLeDiff, if_true, if_false, Nat.zero_le, at_39, at_40, al_40, rw_39_0, rw_40, nI_ltI, nI_leI, nI_eq, nI_ltL, nI_leL, L_ltI, L_leI, nI_eqL, L_eqI, oob_nI, ix_nI, oob_L, ix_L, nI_1, nI_add, nI_z, z_nI, nI_lt0, nI_ge0, nI_gt0, nI_le0, ne_eq, Nat.le_zero_eq, Nat.not_lt_zero, Nat.lt_irrefl, Nat.le_refl, i10, true_or, ne_eq, not_true_eq_false, not_false_eq_true, Bool.false_eq_true, true_and, and_true, and_self, if_true, if_false, or_true, false_or, or_false, or_self, false_and, and_false, Nat.one_ne_zero, n01, Nat.reduceEqDiff, if_neg (show ¬ 6 ≤ k by omega), p1]
    · by_cases ej : j = k
      · subst ej
        rw [r3 (41 + j) (by omega), p2, if_pos hc]
      · exact r2 j c (by omega) h2 hc
/-- the latest hour at which good eyes saw none of a kind in a cell, by the first n reports -/
def clr (I : Nat → Nat → Int32) (q : Bool × Bool) (R : Nat → Nat → Int32) (nk n : Nat) : Prop := ∀ k c, k < nk → c < 16 → ∃ m : Int, I (41 + k) c = zI m ∧ -1 ≤ m ∧ m ≤ 999 ∧ ∀ t : Nat, t ≤ 999 → ((t : Int) ≤ m ↔ ∃ j, j < n ∧ sn R (nI k) (nI c) (nI t) (R (gb_bb q + 10) k) j = true)
theorem l_reports (J : Nat → Nat → Int64) (q : Bool × Bool) (X : Nat × (Nat → Int32)) {N : Nat → Nat} {D : Nat → Nat → Int} {R : Nat → Nat → Int32} {cc : Nat → Nat → Nat} (hL : lay R q N D) (hn : cc 1 0 ≤ 24) (hc : R 23 4 = nI (cc 1 0)) (hrp : rpt R cc (N 3) (N 0)) : ∀ d i I (z4 z5 : Value), d + i = cc 1 0 → (∀ y, ¬ (41 ≤ y ∧ y ≤ 46) → I y = R y) → clr I q R (N 3) i → ∃ I', gb_ex 28 bk_OU_readReports_15 [.ref (39 : Nat), .ref (gb_bb q), .ref (23 : Nat), .int (nI i), z4, z5] [] gb_pG (gS I J q X) = some (.null, gb_pG, gS I' J q X) ∧ clr I' q R (N 3) (cc 1 0) ∧ ∀ y, ¬ (41 ≤ y ∧ y ≤ 46) → I' y = R y
  | 0, i, I, z4, z5, e, hf, hcl => by
    have e2 : i = cc 1 0 := by omega
    have h4 : I 23 4 = nI (cc 1 0) := by rw [hf 23 (by omega)]; exact hc
    rw [e2] at hcl
    refine ⟨I, ?_, hcl, hf⟩
    rw [bk_OU_readReports_15]
    simp (disch := first | omega | decide | assumption | simp only [List.length_cons, List.length_nil, Nat.reduceAdd, Nat.reduceLeDiff]) only [x_c_0, x_istore_3, x_iload_3, x_c_6, x_ic_ge, x_aload_0, x_get_256, x_aald, x_aaldJ, x_c_m1, xc_JA_fill_53178, x_iinc_3_1, x_goto, x_aload_2, x_get_388, x_get_392, x_iald, x_istore_4, x_get_389, x_istore_5, x_get_393, x_bald, x_zald, x_if_ne, x_get_391, x_aload_1, x_get_6, x_iload_4, x_ic_lt, x_iload_5, x_get_390, x_max, x_iast, x_vret, tg_OU_readReports_2, tg_OU_readReports_13, tg_OU_readReports_15, tg_OU_readReports_60, tg_OU_readReports_62, bk_OU_readReports_0, bk_OU_readReports_2, bk_OU_readReports_13, bk_OU_readReports_60, bk_OU_readReports_62, kil_int, kil_ref, kil_null, kil_long, kil_rA, psh_int, psh_long, psh_null, gI_gS, gL_gS, gR_gS, sI_gS, sL_gS, orf_some, Option.bind_some, List.length_cons, List.length_nil, Nat.reduceAdd, Nat.reduceLeDiff, if_true, if_false, Nat.zero_le, at_23, h4, nI_ltI, nI_leI, nI_eq, nI_ltL, nI_leL, L_ltI, L_leI, nI_eqL, L_eqI, oob_nI, ix_nI, oob_L, ix_L, nI_1, nI_add, nI_z, z_nI, nI_lt0, nI_ge0, nI_gt0, nI_le0, ne_eq, Nat.le_zero_eq, Nat.not_lt_zero, Nat.lt_irrefl, Nat.le_refl, i10, true_or, ne_eq, not_true_eq_false, not_false_eq_true, Bool.false_eq_true, true_and, and_true, and_self, if_true, if_false, or_true, false_or, or_false, or_self, false_and, and_false, Nat.one_ne_zero, n01, Nat.reduceEqDiff, if_pos (show cc 1 0 ≤ i by omega)]
  | d + 1, i, I, z4, z5, e, hf, hcl => by
    have hbb := gb_bb_r q
    obtain ⟨⟨o1, o2, o3, o4, o5, o6⟩, -⟩ := id hL.2.2
    have h4 : I 23 4 = nI (cc 1 0) := by rw [hf 23 (by omega)]; exact hc
    obtain ⟨x, t, e', k, s, x1, x2, x3, x4, x5, y1, y2, y3, y4, y5⟩ := hrp i (by omega)
    have g27 : I 27 i = nI x := by rw [hf 27 (by omega)]; exact y1
    have g28 : I 28 i = nI t := by rw [hf 28 (by omega)]; exact y2
    have g29 : I 29 i = nI e' := by rw [hf 29 (by omega)]; exact y3
    have g30 : I 30 i = nI k := by rw [hf 30 (by omega)]; exact y4
    have g31 : I 31 i = nI s := by rw [hf 31 (by omega)]; exact y5
    have gE : I (gb_bb q + 10) k = R (gb_bb q + 10) k := by rw [hf _ (by omega)]
    have tk := atr_40 (k := k) (by omega)
    obtain ⟨m, m1, m2, m3, m4⟩ := hcl k x x4 (by omega)
    have snf : ∀ k' c' t', ¬ (k' = k ∧ c' = x) → k' < N 3 → c' < 16 → sn R (nI k') (nI c') (nI t') (R (gb_bb q + 10) k') i = false := by
      intro k' c' t' hne hk' hc'
      unfold sn
      rw [decide_eq_false_iff_not]
      rintro ⟨-, q1, q2, -⟩
      rw [y4, nI_eq (by omega) (by omega)] at q1
      rw [y1, nI_eq (by omega) (by omega)] at q2
      exact hne ⟨q1.symm, q2.symm⟩
    have ext : ∀ k' c' t', (∃ j, j < i + 1 ∧ sn R (nI k') (nI c') (nI t') (R (gb_bb q + 10) k') j = true) ↔ (∃ j, j < i ∧ sn R (nI k') (nI c') (nI t') (R (gb_bb q + 10) k') j = true) ∨ sn R (nI k') (nI c') (nI t') (R (gb_bb q + 10) k') i = true := by
      intro k' c' t'
      constructor
      · rintro ⟨j, j1, j2⟩
        by_cases ej : j = i
        · subst ej; exact Or.inr j2
        · exact Or.inl ⟨j, by omega, j2⟩
      · rintro (⟨j, j1, j2⟩ | j2)
        · exact ⟨j, by omega, j2⟩
        · exact ⟨i, by omega, j2⟩
    by_cases cg : s = 0 ∧ R (gb_bb q + 10) k ≤ nI e'
    · obtain ⟨I1, f1⟩ : ∃ I1, I1 = up I (41 + k) x (zI (if m < (t : Int) then (t : Int) else m)) := ⟨_, rfl⟩
      have hcl1 : clr I1 q R (N 3) (i + 1) := by
        intro k' c' hk' hc'
        by_cases ek : k' = k ∧ c' = x
        · obtain ⟨rfl, rfl⟩ := ek
          refine ⟨if m < (t : Int) then (t : Int) else m, by rw [f1, up_same, upd_same], by split <;> omega, by split <;> omega, fun t' ht' => ?_⟩
          rw [ext, ← m4 t' ht']
          have : sn R (nI k') (nI c') (nI t') (R (gb_bb q + 10) k') i = true ↔ t' ≤ t := by
            unfold sn
            rw [decide_eq_true_eq, y5, y4, y1, y2, y3]
            constructor
            · rintro ⟨-, -, -, q1, -⟩
              rw [nI_leI (by omega) (by omega)] at q1
              exact q1
            · intro q1
              exact ⟨by rw [cg.1]; rfl, rfl, rfl, (nI_leI (by omega) (by omega)).mpr q1, cg.2⟩
          rw [this]
          split <;> omega
        · obtain ⟨m', n1, n2, n3, n4⟩ := hcl k' c' hk' hc'
          refine ⟨m', ?_, n2, n3, fun t' ht' => ?_⟩
          · rw [f1]
            by_cases e2 : 41 + k' = 41 + k
            · rw [e2, up_same, upd_ne (by omega), ← e2]; exact n1
            · rw [up_ne e2]; exact n1
          · rw [ext, snf k' c' t' ek hk' hc', n4 t' ht']
            simp
      obtain ⟨I', r1, r2, r3⟩ := l_reports J q X hL hn hc hrp d (i + 1) I1 (.int (nI k)) (.int (nI x)) (by omega) (fun y hy => by rw [f1, up_ne (by omega)]; exact hf y hy) hcl1
      refine ⟨I', ?_, r2, r3⟩
      have cgE : I (gb_bb q + 10) k ≤ nI e' := by rw [gE]; exact cg.2
      have k1 : ¬ nI e' < I (gb_bb q + 10) k := Int32.not_lt.mpr cgE
      have emx : (if zI m < nI t then nI t else zI m) = zI (if m < (t : Int) then (t : Int) else m) := by
        have : zI m < nI t ↔ m < (t : Int) := by rw [zI_nI, zI_ltI (by omega) (by omega) (by omega) (by omega)]
        by_cases c : m < (t : Int)
        · rw [if_pos (this.mpr c), if_pos c, zI_nI]
        · rw [if_neg (fun h => c (this.mp h)), if_neg c]
      have e31 : I 31 i = 0 := by rw [g31, cg.1]; rfl
      rw [bk_OU_readReports_15, ← r1, f1]
      clear r1 r2 r3 hcl1 snf ext hcl m4 hf hrp
      simp (disch := first | omega | decide | assumption | simp only [List.length_cons, List.length_nil, Nat.reduceAdd, Nat.reduceLeDiff, bb_at, bb_t1, bb_t2, bb_t3, bb_t4, bb_t5, bb_t6, bb_t7, bb_t8, bb_t9, bb_t10, bb_t11, bb_t12, bb_t13, bb_t14, bb_t15, bb_t16, bs_at, bs_t1, bs_t2, bs_t3, bs_t4, bs_t5, bs_t6, bs_t7, bs_t8, bs_t9, bs_t10, bs_t11, bs_t12, bs_t13, bs_t14, bs_t15, bs_t16, lb_at, lb_t1, lb_t2, lb_t13, lb_t24, lb_t35, lb_t36, lb_t37, lq_at, lq_t1, lq_t2, lq_t13, lq_t24, lq_t35, lq_t36, lq_t37]) only [x_c_0, x_istore_3, x_iload_3, x_c_6, x_ic_ge, x_aload_0, x_get_256, x_aald, x_aaldJ, x_c_m1, xc_JA_fill_53178, x_iinc_3_1, x_goto, x_aload_2, x_get_388, x_get_392, x_iald, x_istore_4, x_get_389, x_istore_5, x_get_393, x_bald, x_zald, x_if_ne, x_get_391, x_aload_1, x_get_6, x_iload_4, x_ic_lt, x_iload_5, x_get_390, x_max, x_iast, x_vret, tg_OU_readReports_2, tg_OU_readReports_13, tg_OU_readReports_15, tg_OU_readReports_60, tg_OU_readReports_62, bk_OU_readReports_0, bk_OU_readReports_2, bk_OU_readReports_13, bk_OU_readReports_60, bk_OU_readReports_62, kil_int, kil_ref, kil_null, kil_long, kil_rA, psh_int, psh_long, psh_null, gI_gS, gL_gS, gR_gS, sI_gS, sL_gS, orf_some, Option.bind_some, List.length_cons, List.length_nil, Nat.reduceAdd, Nat.reduceLeDiff, if_true, if_false, Nat.zero_le, at_23, at_27, at_28, at_29, at_30, at_31, at_39, at_40, al_27, al_28, al_29, al_30, al_31, al_40, rw_23_5, rw_23_6, rw_23_7, rw_23_8, rw_23_9, rw_39_0, rw_40, alr_40, bb_r0, bb_r2, bb_r4, bb_r5, bb_r6, bb_r7, bb_r9, bb_r10, bb_r11, bb_r12, bb_r13, bb_w1, bb_w2, bb_w5, bb_w6, bb_w7, bs_r0, bs_r2, bs_r4, bs_r5, bs_r6, bs_r7, bs_r9, bs_r10, bs_r11, bs_r12, bs_r13, bs_w1, bs_w2, bs_w5, bs_w6, bs_w7, lb_r1, lb_r2, lb_r3, lb_r4, lb_r5, lb_r6, lb_r7, lq_r1, lq_r2, lq_r3, lq_r4, lq_r5, lq_r6, lq_r7, bb_l1, bb_l3, bb_l4, bb_l5, bb_l6, bb_l7, bb_l8, bb_l9, bb_l10, bb_l11, bb_l12, bb_l13, bb_l14, bb_l15, bb_l16, bs_l1, bs_l3, bs_l4, bs_l5, bs_l6, bs_l7, bs_l8, bs_l9, bs_l10, bs_l11, bs_l12, bs_l13, bs_l14, bs_l15, bs_l16, lb_l1, lb_l2, lb_l13, lb_l24, lb_l35, lb_l36, lb_l37, lq_l1, lq_l2, lq_l13, lq_l24, lq_l35, lq_l36, lq_l37, h4, oob_nI, ix_nI, nI_1, nI_leI, i10, true_or, ne_eq, not_true_eq_false, not_false_eq_true, Bool.false_eq_true, true_and, and_true, and_self, if_true, if_false, or_true, false_or, or_false, or_self, false_and, and_false, Nat.one_ne_zero, n01, Nat.reduceEqDiff, if_neg (show ¬ cc 1 0 ≤ i by omega), g27, g28, g29, g30, e31, k1, m1, emx]
    · obtain ⟨I', r1, r2, r3⟩ := l_reports J q X hL hn hc hrp d (i + 1) I (.int (nI k)) (.int (nI x)) (by omega) hf (by
        intro k' c' hk' hc'
        obtain ⟨m', n1, n2, n3, n4⟩ := hcl k' c' hk' hc'
        refine ⟨m', n1, n2, n3, fun t' ht' => ?_⟩
        have hx : sn R (nI k') (nI c') (nI t') (R (gb_bb q + 10) k') i = false := by
          by_cases ek : k' = k ∧ c' = x
          · obtain ⟨rfl, rfl⟩ := ek
            unfold sn
            rw [decide_eq_false_iff_not, y5, y3, nI_z (by omega)]
            rintro ⟨q1, -, -, -, q5⟩
            exact cg ⟨q1, q5⟩
          · exact snf k' c' t' ek hk' hc'
        rw [ext, hx, n4 t' ht']
        simp)
      refine ⟨I', ?_, r2, r3⟩
      rw [bk_OU_readReports_15, ← r1]
      clear r1 r2 r3 snf ext hcl m4 hf hrp
      by_cases cs : s = 0
      · have e31 : I 31 i = 0 := by rw [g31, cs]; rfl
        have k1 : nI e' < I (gb_bb q + 10) k := by rw [gE]; exact Int32.not_le.mp (fun h => cg ⟨cs, h⟩)
        simp (disch := first | omega | decide | assumption | simp only [List.length_cons, List.length_nil, Nat.reduceAdd, Nat.reduceLeDiff, bb_at, bb_t1, bb_t2, bb_t3, bb_t4, bb_t5, bb_t6, bb_t7, bb_t8, bb_t9, bb_t10, bb_t11, bb_t12, bb_t13, bb_t14, bb_t15, bb_t16, bs_at, bs_t1, bs_t2, bs_t3, bs_t4, bs_t5, bs_t6, bs_t7, bs_t8, bs_t9, bs_t10, bs_t11, bs_t12, bs_t13, bs_t14, bs_t15, bs_t16, lb_at, lb_t1, lb_t2, lb_t13, lb_t24, lb_t35, lb_t36, lb_t37, lq_at, lq_t1, lq_t2, lq_t13, lq_t24, lq_t35, lq_t36, lq_t37]) only [x_c_0, x_istore_3, x_iload_3, x_c_6, x_ic_ge, x_aload_0, x_get_256, x_aald, x_aaldJ, x_c_m1, xc_JA_fill_53178, x_iinc_3_1, x_goto, x_aload_2, x_get_388, x_get_392, x_iald, x_istore_4, x_get_389, x_istore_5, x_get_393, x_bald, x_zald, x_if_ne, x_get_391, x_aload_1, x_get_6, x_iload_4, x_ic_lt, x_iload_5, x_get_390, x_max, x_iast, x_vret, tg_OU_readReports_2, tg_OU_readReports_13, tg_OU_readReports_15, tg_OU_readReports_60, tg_OU_readReports_62, bk_OU_readReports_0, bk_OU_readReports_2, bk_OU_readReports_13, bk_OU_readReports_60, bk_OU_readReports_62, kil_int, kil_ref, kil_null, kil_long, kil_rA, psh_int, psh_long, psh_null, gI_gS, gL_gS, gR_gS, sI_gS, sL_gS, orf_some, Option.bind_some, List.length_cons, List.length_nil, Nat.reduceAdd, Nat.reduceLeDiff, if_true, if_false, Nat.zero_le, at_23, at_27, at_28, at_29, at_30, at_31, al_27, al_28, al_29, al_30, al_31, rw_23_5, rw_23_6, rw_23_7, rw_23_8, rw_23_9, bb_r0, bb_r2, bb_r4, bb_r5, bb_r6, bb_r7, bb_r9, bb_r10, bb_r11, bb_r12, bb_r13, bb_w1, bb_w2, bb_w5, bb_w6, bb_w7, bs_r0, bs_r2, bs_r4, bs_r5, bs_r6, bs_r7, bs_r9, bs_r10, bs_r11, bs_r12, bs_r13, bs_w1, bs_w2, bs_w5, bs_w6, bs_w7, lb_r1, lb_r2, lb_r3, lb_r4, lb_r5, lb_r6, lb_r7, lq_r1, lq_r2, lq_r3, lq_r4, lq_r5, lq_r6, lq_r7, bb_l1, bb_l3, bb_l4, bb_l5, bb_l6, bb_l7, bb_l8, bb_l9, bb_l10, bb_l11, bb_l12, bb_l13, bb_l14, bb_l15, bb_l16, bs_l1, bs_l3, bs_l4, bs_l5, bs_l6, bs_l7, bs_l8, bs_l9, bs_l10, bs_l11, bs_l12, bs_l13, bs_l14, bs_l15, bs_l16, lb_l1, lb_l2, lb_l13, lb_l24, lb_l35, lb_l36, lb_l37, lq_l1, lq_l2, lq_l13, lq_l24, lq_l35, lq_l36, lq_l37, h4, oob_nI, ix_nI, nI_1, nI_leI, i10, true_or, ne_eq, not_true_eq_false, not_false_eq_true, Bool.false_eq_true, true_and, and_true, and_self, if_true, if_false, or_true, false_or, or_false, or_self, false_and, and_false, Nat.one_ne_zero, n01, Nat.reduceEqDiff, if_neg (show ¬ cc 1 0 ≤ i by omega), g27, g28, g29, g30, e31, k1]
      · have e31 : ¬ I 31 i = 0 := by rw [g31, nI_z (by omega)]; exact cs
        simp (disch := first | omega | decide | assumption | simp only [List.length_cons, List.length_nil, Nat.reduceAdd, Nat.reduceLeDiff, bb_at, bb_t1, bb_t2, bb_t3, bb_t4, bb_t5, bb_t6, bb_t7, bb_t8, bb_t9, bb_t10, bb_t11, bb_t12, bb_t13, bb_t14, bb_t15, bb_t16, bs_at, bs_t1, bs_t2, bs_t3, bs_t4, bs_t5, bs_t6, bs_t7, bs_t8, bs_t9, bs_t10, bs_t11, bs_t12, bs_t13, bs_t14, bs_t15, bs_t16, lb_at, lb_t1, lb_t2, lb_t13, lb_t24, lb_t35, lb_t36, lb_t37, lq_at, lq_t1, lq_t2, lq_t13, lq_t24, lq_t35, lq_t36, lq_t37]) only [x_c_0, x_istore_3, x_iload_3, x_c_6, x_ic_ge, x_aload_0, x_get_256, x_aald, x_aaldJ, x_c_m1, xc_JA_fill_53178, x_iinc_3_1, x_goto, x_aload_2, x_get_388, x_get_392, x_iald, x_istore_4, x_get_389, x_istore_5, x_get_393, x_bald, x_zald, x_if_ne, x_get_391, x_aload_1, x_get_6, x_iload_4, x_ic_lt, x_iload_5, x_get_390, x_max, x_iast, x_vret, tg_OU_readReports_2, tg_OU_readReports_13, tg_OU_readReports_15, tg_OU_readReports_60, tg_OU_readReports_62, bk_OU_readReports_0, bk_OU_readReports_2, bk_OU_readReports_13, bk_OU_readReports_60, bk_OU_readReports_62, kil_int, kil_ref, kil_null, kil_long, kil_rA, psh_int, psh_long, psh_null, gI_gS, gL_gS, gR_gS, sI_gS, sL_gS, orf_some, Option.bind_some, List.length_cons, List.length_nil, Nat.reduceAdd, Nat.reduceLeDiff, if_true, if_false, Nat.zero_le, at_23, at_27, at_28, at_29, at_30, at_31, al_27, al_28, al_29, al_30, al_31, rw_23_5, rw_23_6, rw_23_7, rw_23_8, rw_23_9, bb_r0, bb_r2, bb_r4, bb_r5, bb_r6, bb_r7, bb_r9, bb_r10, bb_r11, bb_r12, bb_r13, bb_w1, bb_w2, bb_w5, bb_w6, bb_w7, bs_r0, bs_r2, bs_r4, bs_r5, bs_r6, bs_r7, bs_r9, bs_r10, bs_r11, bs_r12, bs_r13, bs_w1, bs_w2, bs_w5, bs_w6, bs_w7, lb_r1, lb_r2, lb_r3, lb_r4, lb_r5, lb_r6, lb_r7, lq_r1, lq_r2, lq_r3, lq_r4, lq_r5, lq_r6, lq_r7, bb_l1, bb_l3, bb_l4, bb_l5, bb_l6, bb_l7, bb_l8, bb_l9, bb_l10, bb_l11, bb_l12, bb_l13, bb_l14, bb_l15, bb_l16, bs_l1, bs_l3, bs_l4, bs_l5, bs_l6, bs_l7, bs_l8, bs_l9, bs_l10, bs_l11, bs_l12, bs_l13, bs_l14, bs_l15, bs_l16, lb_l1, lb_l2, lb_l13, lb_l24, lb_l35, lb_l36, lb_l37, lq_l1, lq_l2, lq_l13, lq_l24, lq_l35, lq_l36, lq_l37, h4, oob_nI, ix_nI, nI_1, nI_leI, i10, true_or, ne_eq, not_true_eq_false, not_false_eq_true, Bool.false_eq_true, true_and, and_true, and_self, if_true, if_false, or_true, false_or, or_false, or_self, false_and, and_false, Nat.one_ne_zero, n01, Nat.reduceEqDiff, if_neg (show ¬ cc 1 0 ≤ i by omega), g27, g30, e31]
theorem s_reports (I : Nat → Nat → Int32) (J : Nat → Nat → Int64) (q : Bool × Bool) (X : Nat × (Nat → Int32)) {N : Nat → Nat} {D : Nat → Nat → Int} {cc : Nat → Nat → Nat} (hL : lay I q N D) (hn : cc 1 0 ≤ 24) (hc : I 23 4 = nI (cc 1 0)) (hrp : rpt I cc (N 3) (N 0)) : ∃ I', gb_call 28 [.ref (39 : Nat), .ref (gb_bb q), .ref (23 : Nat)] gb_pG (gS I J q X) = some (.null, gb_pG, gS I' J q X) ∧ clr I' q I (N 3) (cc 1 0) ∧ ∀ y, ¬ (41 ≤ y ∧ y ≤ 46) → I' y = I y := by
  obtain ⟨⟨o1, o2, o3, o4, o5, o6⟩, -⟩ := id hL.2.2
  obtain ⟨I1, p1, p2, p3⟩ := l_never J q X (gb_bb q) 6 0 I (by omega)
  obtain ⟨I', r1, r2, r3⟩ := l_reports J q X hL hn hc hrp (cc 1 0) 0 I1 .null .null (by omega) (fun y hy => p3 y (by omega)) (fun k c hk hc' => ⟨-1, by rw [p2 k c (by omega) (by omega) hc']; rfl, by omega, by omega, fun t ht => ⟨fun h => by omega, fun ⟨j, h, _⟩ => by omega⟩⟩)
  refine ⟨I', ?_, r2, r3⟩
  have st : gb_call 28 [.ref (39 : Nat), .ref (gb_bb q), .ref (23 : Nat)] gb_pG (gS I J q X) = gb_ex 28 bk_OU_readReports_2 [.ref (39 : Nat), .ref (gb_bb q), .ref (23 : Nat), .int (nI 0), .null, .null] [] gb_pG (gS I J q X) := by
    rw [cl_OU_readReports]
    simp only [x_c_0, x_istore_3, x_iload_3, x_c_6, x_ic_ge, x_aload_0, x_get_256, x_aald, x_aaldJ, x_c_m1, xc_JA_fill_53178, x_iinc_3_1, x_goto, x_aload_2, x_get_388, x_get_392, x_iald, x_istore_4, x_get_389, x_istore_5, x_get_393, x_bald, x_zald, x_if_ne, x_get_391, x_aload_1, x_get_6, x_iload_4, x_ic_lt, x_iload_5, x_get_390, x_max, x_iast, x_vret, tg_OU_readReports_2, tg_OU_readReports_13, tg_OU_readReports_15, tg_OU_readReports_60, tg_OU_readReports_62, bk_OU_readReports_0, bk_OU_readReports_13, bk_OU_readReports_15, bk_OU_readReports_60, bk_OU_readReports_62, kil_int, kil_ref, kil_null, kil_long, kil_rA, psh_int, psh_long, psh_null, gI_gS, gL_gS, gR_gS, sI_gS, sL_gS, orf_some, Option.bind_some, List.length_cons, List.length_nil, Nat.reduceAdd, Nat.reduceLeDiff, if_true, if_false, Nat.zero_le]
    rfl
  rw [st, p1, ← r1, bk_OU_readReports_13]
  simp only [x_c_0, x_istore_3, x_iload_3, x_c_6, x_ic_ge, x_aload_0, x_get_256, x_aald, x_aaldJ, x_c_m1, xc_JA_fill_53178, x_iinc_3_1, x_goto, x_aload_2, x_get_388, x_get_392, x_iald, x_istore_4, x_get_389, x_istore_5, x_get_393, x_bald, x_zald, x_if_ne, x_get_391, x_aload_1, x_get_6, x_iload_4, x_ic_lt, x_iload_5, x_get_390, x_max, x_iast, x_vret, tg_OU_readReports_2, tg_OU_readReports_13, tg_OU_readReports_15, tg_OU_readReports_60, tg_OU_readReports_62, bk_OU_readReports_0, bk_OU_readReports_2, bk_OU_readReports_13, bk_OU_readReports_60, bk_OU_readReports_62, kil_int, kil_ref, kil_null, kil_long, kil_rA, psh_int, psh_long, psh_null, gI_gS, gL_gS, gR_gS, sI_gS, sL_gS, orf_some, Option.bind_some, List.length_cons, List.length_nil, Nat.reduceAdd, Nat.reduceLeDiff, if_true, if_false, Nat.zero_le]
  rfl
