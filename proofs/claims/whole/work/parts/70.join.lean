/-! walks one behind another: the class -/
def vl : Option (Nat × Nat × Nat × Nat) → Int64
  | none => -1
  | some x => lN x.1
theorem vl_t {o : Option (Nat × Nat × Nat × Nat)} (h : ∀ x, o = some x → x.1 ≤ 4000000000000) : (vl o).toInt = ov o := by
  cases o with
  | none => decide
  | some x =>
    have := h x rfl
    exact pk_lT (by omega)
theorem vl_lt {s x : Option (Nat × Nat × Nat × Nat)} (hs : ∀ y, s = some y → y.1 ≤ 4000000000000) (hx : ∀ y, x = some y → y.1 ≤ 4000000000000) : vl s < vl x ↔ ov s < ov x := by rw [Int64.lt_iff_toInt_lt, vl_t hs, vl_t hx]
theorem vl_eq {s x : Option (Nat × Nat × Nat × Nat)} (hs : ∀ y, s = some y → y.1 ≤ 4000000000000) (hx : ∀ y, x = some y → y.1 ≤ 4000000000000) : vl s = vl x ↔ ov s = ov x := by rw [← Int64.toInt_inj, vl_t hs, vl_t hx]
theorem vl_cmb {s x : Option (Nat × Nat × Nat × Nat)} (hs : ∀ y, s = some y → y.1 ≤ 4000000000000) (hx : ∀ y, x = some y → y.1 ≤ 4000000000000) : (if vl s < vl x then vl x else vl s) = vl (cmb s x) := by
  have hc : ∀ y, cmb s x = some y → y.1 ≤ 4000000000000 := by
    intro y hy
    cases x with
    | none => exact hs y hy
    | some x =>
      cases s with
      | none => exact hx y hy
      | some s =>
        rw [cmb_s] at hy
        split at hy
        · exact hx y hy
        · exact hs y hy
  apply Int64.toInt_inj.mp
  rw [vl_t hc, ov_cmb]
  by_cases c : ov s < ov x
  · rw [if_pos ((vl_lt hs hx).mpr c), if_pos c, vl_t hx]
  · rw [if_neg (fun h => c ((vl_lt hs hx).mp h)), if_neg c, vl_t hs]
theorem l_fillJ (I : Nat → Nat → Int32) (q : Bool × Bool) (X : Nat × (Nat → Int32)) {a n : Nat} (ha : atag gb_pG a = 3) (hn : alen gb_pG a = n) (hn2 : n ≤ 1000) (v : Int64) : ∀ d i J, d + i = n → ∃ J', gb_ex 186 bk_JA_fill_d0a16_5 [.ref a, .long v, .null, .int (nI i), .int (nI n)] [] gb_pG (gS I J q X) = some (.null, gb_pG, gS I J' q X) ∧ (∀ j, J' a j = if i ≤ j ∧ j < n then v else J a j) ∧ ∀ y, y ≠ a → J' y = J y
  | 0, i, J, e => by
    refine ⟨J, ?_, fun j => by rw [if_neg (by omega)], fun _ _ => rfl⟩
    rw [bk_JA_fill_d0a16_5]
    simp (disch := first | omega | decide | assumption | simp only [List.length_cons, List.length_nil, Nat.reduceAdd, Nat.reduceLeDiff]) only [x_c_0, x_istore_3, x_aload_0, x_alen, x_istore_4, x_iload_3, x_iload_4, x_ic_ge, x_lload_1, x_last, x_iinc_3_1, x_goto, x_vret, tg_JA_fill_d0a16_5, tg_JA_fill_d0a16_14, bk_JA_fill_d0a16_0, bk_JA_fill_d0a16_14, kil_int, kil_ref, kil_null, kil_long, kil_rA, psh_int, psh_long, psh_null, gI_gS, gL_gS, gR_gS, sI_gS, sL_gS, orf_some, Option.bind_some, List.length_cons, List.length_nil, Nat.reduceAdd, Nat.reduceLeDiff, if_true, if_false, Nat.zero_le, nI_ltI, nI_leI, nI_eq, nI_ltL, nI_leL, L_ltI, L_leI, nI_eqL, L_eqI, oob_nI, ix_nI, oob_L, ix_L, nI_1, nI_add, nI_z, z_nI, nI_lt0, nI_ge0, nI_gt0, nI_le0, ne_eq, Nat.le_zero_eq, Nat.not_lt_zero, Nat.lt_irrefl, Nat.le_refl, i10, true_or, ne_eq, not_true_eq_false, not_false_eq_true, Bool.false_eq_true, true_and, and_true, and_self, if_true, if_false, or_true, false_or, or_false, or_self, false_and, and_false, Nat.one_ne_zero, n01, Nat.reduceEqDiff, if_pos (show n ≤ i by omega)]
  | d + 1, i, J, e => by
    obtain ⟨J', p1, p2, p3⟩ := l_fillJ I q X ha hn hn2 v d (i + 1) (upJ J a i v) (by omega)
    refine ⟨J', ?_, fun j => ?_, fun y hy => by rw [p3 y hy, upJ_ne hy]⟩
    · rw [bk_JA_fill_d0a16_5, ← p1]
      simp (disch := first | omega | decide | assumption | simp only [List.length_cons, List.length_nil, Nat.reduceAdd, Nat.reduceLeDiff]) only [x_c_0, x_istore_3, x_aload_0, x_alen, x_istore_4, x_iload_3, x_iload_4, x_ic_ge, x_lload_1, x_last, x_iinc_3_1, x_goto, x_vret, tg_JA_fill_d0a16_5, tg_JA_fill_d0a16_14, bk_JA_fill_d0a16_0, bk_JA_fill_d0a16_14, kil_int, kil_ref, kil_null, kil_long, kil_rA, psh_int, psh_long, psh_null, gI_gS, gL_gS, gR_gS, sI_gS, sL_gS, orf_some, Option.bind_some, List.length_cons, List.length_nil, Nat.reduceAdd, Nat.reduceLeDiff, if_true, if_false, Nat.zero_le, nI_ltI, nI_leI, nI_eq, nI_ltL, nI_leL, L_ltI, L_leI, nI_eqL, L_eqI, oob_nI, ix_nI, oob_L, ix_L, nI_1, nI_add, nI_z, z_nI, nI_lt0, nI_ge0, nI_gt0, nI_le0, ne_eq, Nat.le_zero_eq, Nat.not_lt_zero, Nat.lt_irrefl, Nat.le_refl, i10, true_or, ne_eq, not_true_eq_false, not_false_eq_true, Bool.false_eq_true, true_and, and_true, and_self, if_true, if_false, or_true, false_or, or_false, or_self, false_and, and_false, Nat.one_ne_zero, n01, Nat.reduceEqDiff, if_neg (show ¬ n ≤ i by omega), hn]
    · rw [p2 j, upJ_same, updL_at]
      by_cases c : i + 1 ≤ j ∧ j < n
      · rw [if_pos c, if_pos (by omega)]
      · rw [if_neg c]
        by_cases ej : j = i
        · rw [if_pos ej, if_pos (by omega)]
        · rw [if_neg ej, if_neg (by omega)]
theorem s_fillJ (I : Nat → Nat → Int32) (J : Nat → Nat → Int64) (q : Bool × Bool) (X : Nat × (Nat → Int32)) {a n : Nat} (ha : atag gb_pG a = 3) (hn : alen gb_pG a = n) (hn2 : n ≤ 1000) (v : Int64) : ∃ J', gb_call 186 [.ref a, .long v] gb_pG (gS I J q X) = some (.null, gb_pG, gS I J' q X) ∧ (∀ j, j < n → J' a j = v) ∧ ∀ y, y ≠ a → J' y = J y := by
  obtain ⟨J', p1, p2, p3⟩ := l_fillJ I q X ha hn hn2 v n 0 J (by omega)
  refine ⟨J', ?_, fun j hj => by rw [p2 j, if_pos (by omega)], p3⟩
  have h5 : atag gb_pG a ≤ 5 := by omega
  rw [cl_JA_fill_d0a16, ← p1]
  simp (disch := first | omega | decide | assumption | simp only [List.length_cons, List.length_nil, Nat.reduceAdd, Nat.reduceLeDiff]) only [x_c_0, x_istore_3, x_aload_0, x_alen, x_istore_4, x_iload_3, x_iload_4, x_ic_ge, x_lload_1, x_last, x_iinc_3_1, x_goto, x_vret, tg_JA_fill_d0a16_5, tg_JA_fill_d0a16_14, bk_JA_fill_d0a16_0, bk_JA_fill_d0a16_14, kil_int, kil_ref, kil_null, kil_long, kil_rA, psh_int, psh_long, psh_null, gI_gS, gL_gS, gR_gS, sI_gS, sL_gS, orf_some, Option.bind_some, List.length_cons, List.length_nil, Nat.reduceAdd, Nat.reduceLeDiff, if_true, if_false, Nat.zero_le, hn]
  rfl
theorem bwg_le {f : Nat → Nat} {n L w p : Nat} (hf : ∀ j, f j ≤ 900000000000) (hw : w ≤ 2) : ∀ y, bwg f n L w p = some y → y.1 ≤ 4000000000000 := by
  intro y hy
  unfold bwg at hy
  cases hb : bwk f n L w (p + n) with
  | none => rw [hb] at hy; cases hy
  | some x =>
    rw [hb] at hy
    cases hy
    have := bwk_le hf w _ _ hb
    have := hf p
    show f p + x.1 ≤ _
    omega
theorem bwk_le' {f : Nat → Nat} {n L w p : Nat} (hf : ∀ j, f j ≤ 900000000000) (hw : w ≤ 3) : ∀ y, bwk f n L w p = some y → y.1 ≤ 4000000000000 := by
  intro y hy
  have := bwk_le hf w _ _ hy
  omega
theorem s_sumFrom (I : Nat → Nat → Int32) (J : Nat → Nat → Int64) (q : Bool × Bool) (X : Nat × (Nat → Int32)) {f : Nat → Nat} {n L w p : Nat} (hf : ∀ j, f j ≤ 900000000000) (hw : w ≤ 2) (hp : p + n ≤ 16) (hn : 1 ≤ n) (hJ : J (59 + w) (p + n) = vl (bwk f n L w (p + n))) (h57 : J 57 p = lN (f p)) : gb_call 34 [.ref (39 : Nat), .int (nI p), .int (nI n), .int (nI (w + 1))] gb_pG (gS I J q X) = some (.long (vl (bwg f n L w p)), gb_pG, gS I J q X) := by
  have t := atr_58 (k := w) (by omega)
  have hf0 := hf p
  rw [cl_OU_sumFrom]
  unfold bwg
  cases hb : bwk f n L w (p + n) with
  | none =>
    rw [hb] at hJ
    have hJ : J (59 + w) (p + n) = -1 := hJ
    simp (disch := first | omega | decide | assumption | simp only [List.length_cons, List.length_nil, Nat.reduceAdd, Nat.reduceLeDiff]) only [x_aload_0, x_get_260, x_iload_3, x_c_1, x_isub, x_aald, x_aaldJ, x_iload_1, x_iload_2, x_iadd, x_lald, x_lstore_4, x_lload_4, x_l_0, x_lc_ge, x_l_m1, x_goto, x_get_259, x_ladd, x_lret, tg_OU_sumFrom_17, tg_OU_sumFrom_23, bk_OU_sumFrom_0, bk_OU_sumFrom_17, bk_OU_sumFrom_23, kil_int, kil_ref, kil_null, kil_long, kil_rA, psh_int, psh_long, psh_null, gI_gS, gL_gS, gR_gS, sI_gS, sL_gS, orf_some, Option.bind_some, List.length_cons, List.length_nil, Nat.reduceAdd, Nat.reduceLeDiff, if_true, if_false, Nat.zero_le, at_39, at_58, al_58, rw_39_4, rw_58, alr_58, nI_pred, nI_ltI, nI_leI, nI_eq, nI_ltL, nI_leL, L_ltI, L_leI, nI_eqL, L_eqI, oob_nI, ix_nI, oob_L, ix_L, nI_1, nI_add, nI_z, z_nI, nI_lt0, nI_ge0, nI_gt0, nI_le0, ne_eq, Nat.le_zero_eq, Nat.not_lt_zero, Nat.lt_irrefl, Nat.le_refl, i10, true_or, ne_eq, not_true_eq_false, not_false_eq_true, Bool.false_eq_true, true_and, and_true, and_self, if_true, if_false, or_true, false_or, or_false, or_self, false_and, and_false, Nat.one_ne_zero, n01, Nat.reduceEqDiff, hJ, show ((0 : Int64) ≤ -1) = False from by decide]
    rfl
  | some x =>
    rw [hb] at hJ
    have hx := bwk_le hf w _ _ hb
    have hJ : J (59 + w) (p + n) = lN x.1 := hJ
    have k : (0 : Int64) ≤ lN x.1 := by
      rw [show (0 : Int64) = lN 0 from rfl, pk_lLE (by decide) (by omega)]
      omega
    simp (disch := first | omega | decide | assumption | simp only [List.length_cons, List.length_nil, Nat.reduceAdd, Nat.reduceLeDiff]) only [x_aload_0, x_get_260, x_iload_3, x_c_1, x_isub, x_aald, x_aaldJ, x_iload_1, x_iload_2, x_iadd, x_lald, x_lstore_4, x_lload_4, x_l_0, x_lc_ge, x_l_m1, x_goto, x_get_259, x_ladd, x_lret, tg_OU_sumFrom_17, tg_OU_sumFrom_23, bk_OU_sumFrom_0, bk_OU_sumFrom_17, bk_OU_sumFrom_23, kil_int, kil_ref, kil_null, kil_long, kil_rA, psh_int, psh_long, psh_null, gI_gS, gL_gS, gR_gS, sI_gS, sL_gS, orf_some, Option.bind_some, List.length_cons, List.length_nil, Nat.reduceAdd, Nat.reduceLeDiff, if_true, if_false, Nat.zero_le, at_39, at_57, at_58, al_57, al_58, rw_39_3, rw_39_4, rw_58, alr_58, nI_pred, nI_ltI, nI_leI, nI_eq, nI_ltL, nI_leL, L_ltI, L_leI, nI_eqL, L_eqI, oob_nI, ix_nI, oob_L, ix_L, nI_1, nI_add, nI_z, z_nI, nI_lt0, nI_ge0, nI_gt0, nI_le0, ne_eq, Nat.le_zero_eq, Nat.not_lt_zero, Nat.lt_irrefl, Nat.le_refl, i10, true_or, ne_eq, not_true_eq_false, not_false_eq_true, Bool.false_eq_true, true_and, and_true, and_self, if_true, if_false, or_true, false_or, or_false, or_self, false_and, and_false, Nat.one_ne_zero, n01, Nat.reduceEqDiff, hJ, k, h57, lN_add]
    rfl
theorem l_join18 (I : Nat → Nat → Int32) (q : Bool × Bool) (X : Nat × (Nat → Int32)) {f : Nat → Nat} {C n m L w : Nat} (hf : ∀ j, f j ≤ 900000000000) (hw : w ≤ 2) (hn : 1 ≤ n) (hC : C ≤ 16) (hL : L + n = C) : ∀ d J, d ≤ L + 1 → (∀ p, d ≤ p → p ≤ 16 → J (59 + (w + 1)) p = vl (bwk f n L (w + 1) p)) → (∀ p, p ≤ 16 → J (59 + w) p = vl (bwk f n L w p)) → (∀ p, p ≤ L → J 57 p = lN (f p)) → ∃ J', gb_ex 33 bk_OU_joinStretches_18 [.ref (39 : Nat), .int (nI C), .int (nI n), .int (nI m), .int (nI (w + 1)), .int (dn d)] [] gb_pG (gS I J q X) = gb_ex 33 bk_OU_joinStretches_42 [.ref (39 : Nat), .int (nI C), .int (nI n), .int (nI m), .int (nI (w + 1)), .int (dn 0)] [] gb_pG (gS I J' q X) ∧ (∀ p, p ≤ 16 → J' (59 + (w + 1)) p = vl (bwk f n L (w + 1) p)) ∧ ∀ y, y ≠ 59 + (w + 1) → J' y = J y
  | 0, J, hd, h1, h2, h3 => by
    refine ⟨J, ?_, fun p hp => h1 p (by omega) hp, fun _ _ => rfl⟩
    rw [bk_OU_joinStretches_18]
    simp (disch := first | omega | decide | assumption | simp only [List.length_cons, List.length_nil, Nat.reduceAdd, Nat.reduceLeDiff]) only [x_c_1, x_istore_4, x_iload_4, x_iload_3, x_ic_gt, x_c_3, x_aload_0, x_get_260, x_aald, x_aaldJ, x_l_m1, xc_JA_fill_d0a16, x_iload_1, x_iload_2, x_isub, x_istore_5, x_iload_5, x_if_lt, x_iadd, x_lald, xc_OU_sumFrom, x_maxl, x_last, x_iinc_5_m1, x_goto, x_iinc_4_1, x_vret, tg_OU_joinStretches_2, tg_OU_joinStretches_18, tg_OU_joinStretches_42, tg_OU_joinStretches_44, bk_OU_joinStretches_0, bk_OU_joinStretches_2, bk_OU_joinStretches_44, kil_int, kil_ref, kil_null, kil_long, kil_rA, psh_int, psh_long, psh_null, gI_gS, gL_gS, gR_gS, sI_gS, sL_gS, orf_some, Option.bind_some, List.length_cons, List.length_nil, Nat.reduceAdd, Nat.reduceLeDiff, if_true, if_false, Nat.zero_le, if_pos dn_lt0]
  | d + 1, J, hd, h1, h2, h3 => by
    have t := atr_58 (k := w + 1) (by omega)
    have hsf := s_sumFrom I J q X (f := f) (n := n) (L := L) (w := w) (p := d) hf hw (by omega) hn (h2 _ (by omega)) (h3 d (by omega))
    have g1 := h1 (d + 1) (Nat.le_refl _) (by omega)
    have hmx := vl_cmb (s := bwg f n L w d) (x := bwk f n L (w + 1) (d + 1)) (bwg_le hf hw) (bwk_le' hf (by omega))
    rw [← bwk_s (by omega)] at hmx
    obtain ⟨J', r1, r2, r3⟩ := l_join18 I q X (m := m) hf hw hn hC hL d (upJ J (59 + (w + 1)) d (vl (bwk f n L (w + 1) d))) (by omega) (fun p p1 p2 => by
      rw [upJ_same, updL_at]
      by_cases e : p = d
      · rw [if_pos e, e]
      · rw [if_neg e]; exact h1 p (by omega) p2) (fun p hp => by rw [upJ_ne (by omega)]; exact h2 p hp) (fun p hp => by rw [upJ_ne (by omega)]; exact h3 p hp)
    refine ⟨J', ?_, r2, fun y hy => by rw [r3 y hy, upJ_ne hy]⟩
    have e1 : dn (d + 1) = nI d := rfl
    have e2 : nI d + -1 = dn d := dn_add d
    rw [bk_OU_joinStretches_18, ← r1, e1]
    clear r1 r2 r3 h1 h2 h3
    simp (disch := first | omega | decide | assumption | simp only [List.length_cons, List.length_nil, Nat.reduceAdd, Nat.reduceLeDiff]) only [x_c_1, x_istore_4, x_iload_4, x_iload_3, x_ic_gt, x_c_3, x_aload_0, x_get_260, x_aald, x_aaldJ, x_l_m1, xc_JA_fill_d0a16, x_iload_1, x_iload_2, x_isub, x_istore_5, x_iload_5, x_if_lt, x_iadd, x_lald, xc_OU_sumFrom, x_maxl, x_last, x_iinc_5_m1, x_goto, x_iinc_4_1, x_vret, tg_OU_joinStretches_2, tg_OU_joinStretches_18, tg_OU_joinStretches_42, tg_OU_joinStretches_44, bk_OU_joinStretches_0, bk_OU_joinStretches_2, bk_OU_joinStretches_44, kil_int, kil_ref, kil_null, kil_long, kil_rA, psh_int, psh_long, psh_null, gI_gS, gL_gS, gR_gS, sI_gS, sL_gS, orf_some, Option.bind_some, List.length_cons, List.length_nil, Nat.reduceAdd, Nat.reduceLeDiff, if_true, if_false, Nat.zero_le, at_39, at_58, al_58, rw_39_4, rw_58, alr_58, e2, nI_ltI, nI_leI, nI_eq, nI_ltL, nI_leL, L_ltI, L_leI, nI_eqL, L_eqI, oob_nI, ix_nI, oob_L, ix_L, nI_1, nI_add, nI_z, z_nI, nI_lt0, nI_ge0, nI_gt0, nI_le0, ne_eq, Nat.le_zero_eq, Nat.not_lt_zero, Nat.lt_irrefl, Nat.le_refl, i10, true_or, ne_eq, not_true_eq_false, not_false_eq_true, Bool.false_eq_true, true_and, and_true, and_self, if_true, if_false, or_true, false_or, or_false, or_self, false_and, and_false, Nat.one_ne_zero, n01, Nat.reduceEqDiff, g1, hsf, hmx]
theorem l_join2 (I : Nat → Nat → Int32) (q : Bool × Bool) (X : Nat × (Nat → Int32)) {f : Nat → Nat} {C n m L : Nat} (hf : ∀ j, f j ≤ 900000000000) (hm : m ≤ 3) (hn : 1 ≤ n) (hC : C ≤ 16) (hL : L + n = C) : ∀ d w J (z : Value), d + w = m → (∀ w', w' ≤ w → ∀ p, p ≤ 16 → J (59 + w') p = vl (bwk f n L w' p)) → (∀ p, p ≤ L → J 57 p = lN (f p)) → ∃ J', gb_ex 33 bk_OU_joinStretches_2 [.ref (39 : Nat), .int (nI C), .int (nI n), .int (nI m), .int (nI (w + 1)), z] [] gb_pG (gS I J q X) = some (.null, gb_pG, gS I J' q X) ∧ (∀ w', w' ≤ m → ∀ p, p ≤ 16 → J' (59 + w') p = vl (bwk f n L w' p)) ∧ ∀ y, ¬ (60 ≤ y ∧ y ≤ 62) → J' y = J y
  | 0, w, J, z, e, h1, h2 => by
    have e2 : w = m := by omega
    subst e2
    refine ⟨J, ?_, h1, fun _ _ => rfl⟩
    rw [bk_OU_joinStretches_2]
    simp (disch := first | omega | decide | assumption | simp only [List.length_cons, List.length_nil, Nat.reduceAdd, Nat.reduceLeDiff]) only [x_c_1, x_istore_4, x_iload_4, x_iload_3, x_ic_gt, x_c_3, x_aload_0, x_get_260, x_aald, x_aaldJ, x_l_m1, xc_JA_fill_d0a16, x_iload_1, x_iload_2, x_isub, x_istore_5, x_iload_5, x_if_lt, x_iadd, x_lald, xc_OU_sumFrom, x_maxl, x_last, x_iinc_5_m1, x_goto, x_iinc_4_1, x_vret, tg_OU_joinStretches_2, tg_OU_joinStretches_18, tg_OU_joinStretches_42, tg_OU_joinStretches_44, bk_OU_joinStretches_0, bk_OU_joinStretches_42, bk_OU_joinStretches_44, kil_int, kil_ref, kil_null, kil_long, kil_rA, psh_int, psh_long, psh_null, gI_gS, gL_gS, gR_gS, sI_gS, sL_gS, orf_some, Option.bind_some, List.length_cons, List.length_nil, Nat.reduceAdd, Nat.reduceLeDiff, if_true, if_false, Nat.zero_le, nI_ltI, nI_leI, nI_eq, nI_ltL, nI_leL, L_ltI, L_leI, nI_eqL, L_eqI, oob_nI, ix_nI, oob_L, ix_L, nI_1, nI_add, nI_z, z_nI, nI_lt0, nI_ge0, nI_gt0, nI_le0, ne_eq, Nat.le_zero_eq, Nat.not_lt_zero, Nat.lt_irrefl, Nat.le_refl, i10, true_or, ne_eq, not_true_eq_false, not_false_eq_true, Bool.false_eq_true, true_and, and_true, and_self, if_true, if_false, or_true, false_or, or_false, or_self, false_and, and_false, Nat.one_ne_zero, n01, Nat.reduceEqDiff, if_pos (show w < w + 1 by omega)]
  | d + 1, w, J, z, e, h1, h2 => by
    have t := atr_58 (k := w + 1) (by omega)
    obtain ⟨J1, p1, p2, p3⟩ := s_fillJ I J q X (a := 59 + (w + 1)) (n := 17) t (alr_58 (by omega)) (by omega) (-1)
    obtain ⟨J2, r1, r2, r3⟩ := l_join18 I q X (C := C) (m := m) (w := w) hf (by omega) hn hC hL (L + 1) J1 (Nat.le_refl _) (fun p x1 x2 => by rw [p2 p (by omega), bwk_n (by omega)]; rfl) (fun p hp => by rw [p3 _ (by omega)]; exact h1 w (by omega) p hp) (fun p hp => by rw [p3 _ (by omega)]; exact h2 p hp)
    obtain ⟨J', u1, u2, u3⟩ := l_join2 I q X hf hm hn hC hL d (w + 1) J2 (.int (dn 0)) (by omega) (fun w' hw' p hp => by
      by_cases ew : w' = w + 1
      · rw [ew]; exact r2 p hp
      · rw [r3 _ (by omega), p3 _ (by omega)]; exact h1 w' (by omega) p hp) (fun p hp => by rw [r3 _ (by omega), p3 _ (by omega)]; exact h2 p hp)
    refine ⟨J', ?_, u2, fun y hy => by rw [u3 y hy, r3 y (by omega), p3 y (by omega)]⟩
    have st : gb_ex 33 bk_OU_joinStretches_2 [.ref (39 : Nat), .int (nI C), .int (nI n), .int (nI m), .int (nI (w + 1)), z] [] gb_pG (gS I J q X) = gb_ex 33 bk_OU_joinStretches_18 [.ref (39 : Nat), .int (nI C), .int (nI n), .int (nI m), .int (nI (w + 1)), .int (dn (L + 1))] [] gb_pG (gS I J1 q X) := by
      have e1 : nI C - nI n = dn (L + 1) := by rw [pk_sub (by omega)]; show nI _ = nI L; congr 1; omega
      rw [bk_OU_joinStretches_2]
      simp (disch := first | omega | decide | assumption | simp only [List.length_cons, List.length_nil, Nat.reduceAdd, Nat.reduceLeDiff]) only [x_c_1, x_istore_4, x_iload_4, x_iload_3, x_ic_gt, x_c_3, x_aload_0, x_get_260, x_aald, x_aaldJ, x_l_m1, xc_JA_fill_d0a16, x_iload_1, x_iload_2, x_isub, x_istore_5, x_iload_5, x_if_lt, x_iadd, x_lald, xc_OU_sumFrom, x_maxl, x_last, x_iinc_5_m1, x_goto, x_iinc_4_1, x_vret, tg_OU_joinStretches_2, tg_OU_joinStretches_18, tg_OU_joinStretches_42, tg_OU_joinStretches_44, bk_OU_joinStretches_0, bk_OU_joinStretches_42, bk_OU_joinStretches_44, kil_int, kil_ref, kil_null, kil_long, kil_rA, psh_int, psh_long, psh_null, gI_gS, gL_gS, gR_gS, sI_gS, sL_gS, orf_some, Option.bind_some, List.length_cons, List.length_nil, Nat.reduceAdd, Nat.reduceLeDiff, if_true, if_false, Nat.zero_le, at_39, at_58, al_58, rw_39_4, rw_58, nI_ltI, nI_leI, nI_eq, nI_ltL, nI_leL, L_ltI, L_leI, nI_eqL, L_eqI, oob_nI, ix_nI, oob_L, ix_L, nI_1, nI_add, nI_z, z_nI, nI_lt0, nI_ge0, nI_gt0, nI_le0, ne_eq, Nat.le_zero_eq, Nat.not_lt_zero, Nat.lt_irrefl, Nat.le_refl, i10, true_or, ne_eq, not_true_eq_false, not_false_eq_true, Bool.false_eq_true, true_and, and_true, and_self, if_true, if_false, or_true, false_or, or_false, or_self, false_and, and_false, Nat.one_ne_zero, n01, Nat.reduceEqDiff, if_neg (show ¬ m < w + 1 by omega), if_neg (show ¬ 3 < w + 1 by omega), p1, e1]
    rw [st, r1, ← u1, bk_OU_joinStretches_42]
    simp (disch := first | omega | decide | assumption | simp only [List.length_cons, List.length_nil, Nat.reduceAdd, Nat.reduceLeDiff]) only [x_c_1, x_istore_4, x_iload_4, x_iload_3, x_ic_gt, x_c_3, x_aload_0, x_get_260, x_aald, x_aaldJ, x_l_m1, xc_JA_fill_d0a16, x_iload_1, x_iload_2, x_isub, x_istore_5, x_iload_5, x_if_lt, x_iadd, x_lald, xc_OU_sumFrom, x_maxl, x_last, x_iinc_5_m1, x_goto, x_iinc_4_1, x_vret, tg_OU_joinStretches_2, tg_OU_joinStretches_18, tg_OU_joinStretches_42, tg_OU_joinStretches_44, bk_OU_joinStretches_0, bk_OU_joinStretches_18, bk_OU_joinStretches_42, bk_OU_joinStretches_44, kil_int, kil_ref, kil_null, kil_long, kil_rA, psh_int, psh_long, psh_null, gI_gS, gL_gS, gR_gS, sI_gS, sL_gS, orf_some, Option.bind_some, List.length_cons, List.length_nil, Nat.reduceAdd, Nat.reduceLeDiff, if_true, if_false, Nat.zero_le, nI_ltI, nI_leI, nI_eq, nI_ltL, nI_leL, L_ltI, L_leI, nI_eqL, L_eqI, oob_nI, ix_nI, oob_L, ix_L, nI_1, nI_add, nI_z, z_nI, nI_lt0, nI_ge0, nI_gt0, nI_le0, ne_eq, Nat.le_zero_eq, Nat.not_lt_zero, Nat.lt_irrefl, Nat.le_refl, i10, true_or, ne_eq, not_true_eq_false, not_false_eq_true, Bool.false_eq_true, true_and, and_true, and_self, if_true, if_false, or_true, false_or, or_false, or_self, false_and, and_false, Nat.one_ne_zero, n01, Nat.reduceEqDiff]
theorem s_join (I : Nat → Nat → Int32) (J : Nat → Nat → Int64) (q : Bool × Bool) (X : Nat × (Nat → Int32)) {f : Nat → Nat} {C n m L : Nat} (hf : ∀ j, f j ≤ 900000000000) (hm : m ≤ 3) (hn : 1 ≤ n) (hC : C ≤ 16) (hL : L + n = C) (h0 : ∀ p, p ≤ 16 → J 59 p = 0) (h2 : ∀ p, p ≤ L → J 57 p = lN (f p)) : ∃ J', gb_call 33 [.ref (39 : Nat), .int (nI C), .int (nI n), .int (nI m)] gb_pG (gS I J q X) = some (.null, gb_pG, gS I J' q X) ∧ (∀ w', w' ≤ m → ∀ p, p ≤ 16 → J' (59 + w') p = vl (bwk f n L w' p)) ∧ ∀ y, ¬ (60 ≤ y ∧ y ≤ 62) → J' y = J y := by
  obtain ⟨J', u1, u2, u3⟩ := l_join2 I q X hf hm hn hC hL m 0 J .null (by omega) (fun w' hw' p hp => by
    have : w' = 0 := by omega
    subst this
    rw [h0 p hp]
    rfl) h2
  refine ⟨J', ?_, u2, u3⟩
  rw [cl_OU_joinStretches, ← u1]
  simp only [x_c_1, x_istore_4, x_iload_4, x_iload_3, x_ic_gt, x_c_3, x_aload_0, x_get_260, x_aald, x_aaldJ, x_l_m1, xc_JA_fill_d0a16, x_iload_1, x_iload_2, x_isub, x_istore_5, x_iload_5, x_if_lt, x_iadd, x_lald, xc_OU_sumFrom, x_maxl, x_last, x_iinc_5_m1, x_goto, x_iinc_4_1, x_vret, tg_OU_joinStretches_2, tg_OU_joinStretches_18, tg_OU_joinStretches_42, tg_OU_joinStretches_44, bk_OU_joinStretches_0, bk_OU_joinStretches_18, bk_OU_joinStretches_42, bk_OU_joinStretches_44, kil_int, kil_ref, kil_null, kil_long, kil_rA, psh_int, psh_long, psh_null, gI_gS, gL_gS, gR_gS, sI_gS, sL_gS, orf_some, Option.bind_some, List.length_cons, List.length_nil, Nat.reduceAdd, Nat.reduceLeDiff, if_true, if_false, Nat.zero_le]
  rfl
def elt (k : Nat) (t : Nat × Nat × Nat) : Nat := if k = 0 then t.1 else if k = 1 then t.2.1 else t.2.2
theorem l_begin34 (I : Nat → Nat → Int32) (J : Nat → Nat → Int64) (q : Bool × Bool) (X : Nat × (Nat → Int32)) {f : Nat → Nat} {C n L w a : Nat} (hf : ∀ j, f j ≤ 900000000000) (hw : w ≤ 2) (hn : 1 ≤ n) (hC : C ≤ 16) (hL : L + n = C) (hJ : ∀ p, p ≤ 16 → J (59 + w) p = vl (bwk f n L w p)) (h57 : ∀ p, p ≤ L → J 57 p = lN (f p)) {x : Nat × Nat × Nat × Nat} (ha : a ≤ L) (hga : bwg f n L w a = some x) (v3 v4 v6 : Int32) {p : Nat} (hlt : ∀ j, p ≤ j → j < a → ov (bwg f n L w j) < ov (some x)) : ∀ d b, b + d = a → p ≤ b → gb_ex 35 bk_OU_beginOf_34 [.ref (39 : Nat), .int (nI C), .int (nI n), .int v3, .int v4, .int (nI b), .int v6, .int (nI (w + 1)), .long (vl (some x)), .null] [] gb_pG (gS I J q X) = gb_ex 35 bk_OU_beginOf_49 [.ref (39 : Nat), .int (nI C), .int (nI n), .int v3, .int v4, .int (nI a), .int v6, .int (nI (w + 1)), .long (vl (some x)), .null] [] gb_pG (gS I J q X)
  | 0, b, e, hb => by
    have e2 : b = a := by omega
    subst e2
    have hsf := s_sumFrom I J q X (f := f) (n := n) (L := L) (w := w) (p := b) hf hw (by omega) hn (hJ _ (by omega)) (h57 b ha)
    rw [hga] at hsf
    rw [bk_OU_beginOf_34]
    by_cases c : C ≤ b + n
    · simp (disch := first | omega | decide | assumption | simp only [List.length_cons, List.length_nil, Nat.reduceAdd, Nat.reduceLeDiff]) only [x_c_0, x_istore_5, x_istore_6, x_iload_6, x_iload_4, x_ic_gt, x_iload_3, x_ic_ge, x_isub, x_istore_7, x_iload_5, x_if_ne, x_goto, x_iload_2, x_iadd, x_iload_1, x_ic_le, x_c_m4, x_iret, x_aload_0, x_get_260, x_iload_7, x_aald, x_aaldJ, x_lald, x_lstore_8, xc_OU_sumFrom, x_lload_8, x_lc_eq, x_iinc_5_1, x_iinc_6_1, tg_OU_beginOf_4, tg_OU_beginOf_19, tg_OU_beginOf_20, tg_OU_beginOf_27, tg_OU_beginOf_34, tg_OU_beginOf_49, tg_OU_beginOf_51, bk_OU_beginOf_0, bk_OU_beginOf_4, bk_OU_beginOf_19, bk_OU_beginOf_20, bk_OU_beginOf_27, bk_OU_beginOf_51, kil_int, kil_ref, kil_null, kil_long, kil_rA, psh_int, psh_long, psh_null, gI_gS, gL_gS, gR_gS, sI_gS, sL_gS, orf_some, Option.bind_some, List.length_cons, List.length_nil, Nat.reduceAdd, Nat.reduceLeDiff, if_true, if_false, Nat.zero_le, nI_ltI, nI_leI, nI_eq, nI_ltL, nI_leL, L_ltI, L_leI, nI_eqL, L_eqI, oob_nI, ix_nI, oob_L, ix_L, nI_1, nI_add, nI_z, z_nI, nI_lt0, nI_ge0, nI_gt0, nI_le0, ne_eq, Nat.le_zero_eq, Nat.not_lt_zero, Nat.lt_irrefl, Nat.le_refl, i10, true_or, ne_eq, not_true_eq_false, not_false_eq_true, Bool.false_eq_true, true_and, and_true, and_self, if_true, if_false, or_true, false_or, or_false, or_self, false_and, and_false, Nat.one_ne_zero, n01, Nat.reduceEqDiff, if_pos c]
    · simp (disch := first | omega | decide | assumption | simp only [List.length_cons, List.length_nil, Nat.reduceAdd, Nat.reduceLeDiff]) only [x_c_0, x_istore_5, x_istore_6, x_iload_6, x_iload_4, x_ic_gt, x_iload_3, x_ic_ge, x_isub, x_istore_7, x_iload_5, x_if_ne, x_goto, x_iload_2, x_iadd, x_iload_1, x_ic_le, x_c_m4, x_iret, x_aload_0, x_get_260, x_iload_7, x_aald, x_aaldJ, x_lald, x_lstore_8, xc_OU_sumFrom, x_lload_8, x_lc_eq, x_iinc_5_1, x_iinc_6_1, tg_OU_beginOf_4, tg_OU_beginOf_19, tg_OU_beginOf_20, tg_OU_beginOf_27, tg_OU_beginOf_34, tg_OU_beginOf_49, tg_OU_beginOf_51, bk_OU_beginOf_0, bk_OU_beginOf_4, bk_OU_beginOf_19, bk_OU_beginOf_20, bk_OU_beginOf_27, bk_OU_beginOf_51, kil_int, kil_ref, kil_null, kil_long, kil_rA, psh_int, psh_long, psh_null, gI_gS, gL_gS, gR_gS, sI_gS, sL_gS, orf_some, Option.bind_some, List.length_cons, List.length_nil, Nat.reduceAdd, Nat.reduceLeDiff, if_true, if_false, Nat.zero_le, at_39, nI_ltI, nI_leI, nI_eq, nI_ltL, nI_leL, L_ltI, L_leI, nI_eqL, L_eqI, oob_nI, ix_nI, oob_L, ix_L, nI_1, nI_add, nI_z, z_nI, nI_lt0, nI_ge0, nI_gt0, nI_le0, ne_eq, Nat.le_zero_eq, Nat.not_lt_zero, Nat.lt_irrefl, Nat.le_refl, i10, true_or, ne_eq, not_true_eq_false, not_false_eq_true, Bool.false_eq_true, true_and, and_true, and_self, if_true, if_false, or_true, false_or, or_false, or_self, false_and, and_false, Nat.one_ne_zero, n01, Nat.reduceEqDiff, if_neg c, hsf]
  | d + 1, b, e, hb => by
    have hsf := s_sumFrom I J q X (f := f) (n := n) (L := L) (w := w) (p := b) hf hw (by omega) hn (hJ _ (by omega)) (h57 b (by omega))
    have ih := l_begin34 I J q X hf hw hn hC hL hJ h57 ha hga v3 v4 v6 hlt d (b + 1) (by omega) (by omega)
    have hne : ¬ vl (bwg f n L w b) = vl (some x) := fun h => by
      rw [vl_eq (bwg_le hf hw) (by rw [← hga]; exact bwg_le hf hw)] at h
      have := hlt b hb (by omega)
      omega
    rw [bk_OU_beginOf_34, ← ih]
    simp (disch := first | omega | decide | assumption | simp only [List.length_cons, List.length_nil, Nat.reduceAdd, Nat.reduceLeDiff]) only [x_c_0, x_istore_5, x_istore_6, x_iload_6, x_iload_4, x_ic_gt, x_iload_3, x_ic_ge, x_isub, x_istore_7, x_iload_5, x_if_ne, x_goto, x_iload_2, x_iadd, x_iload_1, x_ic_le, x_c_m4, x_iret, x_aload_0, x_get_260, x_iload_7, x_aald, x_aaldJ, x_lald, x_lstore_8, xc_OU_sumFrom, x_lload_8, x_lc_eq, x_iinc_5_1, x_iinc_6_1, tg_OU_beginOf_4, tg_OU_beginOf_19, tg_OU_beginOf_20, tg_OU_beginOf_27, tg_OU_beginOf_34, tg_OU_beginOf_49, tg_OU_beginOf_51, bk_OU_beginOf_0, bk_OU_beginOf_4, bk_OU_beginOf_19, bk_OU_beginOf_20, bk_OU_beginOf_27, bk_OU_beginOf_51, kil_int, kil_ref, kil_null, kil_long, kil_rA, psh_int, psh_long, psh_null, gI_gS, gL_gS, gR_gS, sI_gS, sL_gS, orf_some, Option.bind_some, List.length_cons, List.length_nil, Nat.reduceAdd, Nat.reduceLeDiff, if_true, if_false, Nat.zero_le, at_39, nI_ltI, nI_leI, nI_eq, nI_ltL, nI_leL, L_ltI, L_leI, nI_eqL, L_eqI, oob_nI, ix_nI, oob_L, ix_L, nI_1, nI_add, nI_z, z_nI, nI_lt0, nI_ge0, nI_gt0, nI_le0, ne_eq, Nat.le_zero_eq, Nat.not_lt_zero, Nat.lt_irrefl, Nat.le_refl, i10, true_or, ne_eq, not_true_eq_false, not_false_eq_true, Bool.false_eq_true, true_and, and_true, and_self, if_true, if_false, or_true, false_or, or_false, or_self, false_and, and_false, Nat.one_ne_zero, n01, Nat.reduceEqDiff, if_neg (show ¬ C ≤ b + n by omega), hsf, hne]
theorem l_begin (I : Nat → Nat → Int32) (J : Nat → Nat → Int64) (q : Bool × Bool) (X : Nat × (Nat → Int32)) {f : Nat → Nat} {C n m L i : Nat} (hf : ∀ j, f j ≤ 900000000000) (hm : m ≤ 3) (him : i < m) (hn : 1 ≤ n) (hC : C ≤ 16) (hL : L + n = C) (hJ : ∀ w', w' ≤ m → ∀ p, p ≤ 16 → J (59 + w') p = vl (bwk f n L w' p)) (h57 : ∀ p, p ≤ L → J 57 p = lN (f p)) : ∀ d w b (x : Nat × Nat × Nat × Nat) (z7 z8 z9 : Value), d + w = i → bwk f n L (m - w) (b + if w = 0 then 0 else n) = some x → gb_ex 35 bk_OU_beginOf_4 [.ref (39 : Nat), .int (nI C), .int (nI n), .int (nI m), .int (nI i), .int (nI b), .int (nI w), z7, z8, z9] [] gb_pG (gS I J q X) = some (.int (nI (elt d x.2)), gb_pG, gS I J q X)
  | d, w, b, x, z7, z8, z9, e, hx => by
    obtain ⟨w', hw'⟩ : ∃ w', m - w = w' + 1 := ⟨m - w - 1, by omega⟩
    obtain ⟨p, hp⟩ : ∃ p, p = b + if w = 0 then 0 else n := ⟨_, rfl⟩
    rw [hw', ← hp] at hx
    have hpL : p ≤ L := by
      by_cases c : p ≤ L
      · exact c
      · rw [bwk_n (by omega)] at hx; cases hx
    obtain ⟨a, a1, a2, a3, a4, a5⟩ := co_first (g := bwg f n L w') hx
    have a3 : bwg f n L w' a = some x := a3
    have t := atr_58 (k := w' + 1) (by omega)
    have g1 := hJ (w' + 1) (by omega) p (by omega)
    rw [hx] at g1
    have h34 := l_begin34 I J q X hf (show w' ≤ 2 by omega) hn hC hL (hJ w' (by omega)) h57 (show a ≤ L by omega) a3 (nI m) (nI i) (nI w) a4 (a - p) p (by omega) (Nat.le_refl _)
    have hbp : nI b + (if w = 0 then 0 else nI n) = nI p := by
      rw [hp]
      by_cases c : w = 0
      · rw [if_pos c, if_pos c, Int32.add_zero, Nat.add_zero]
      · rw [if_neg c, if_neg c, nI_add]
    have st : gb_ex 35 bk_OU_beginOf_4 [.ref (39 : Nat), .int (nI C), .int (nI n), .int (nI m), .int (nI i), .int (nI b), .int (nI w), z7, z8, z9] [] gb_pG (gS I J q X) = gb_ex 35 bk_OU_beginOf_34 [.ref (39 : Nat), .int (nI C), .int (nI n), .int (nI m), .int (nI i), .int (nI p), .int (nI w), .int (nI (w' + 1)), .long (vl (some x)), .null] [] gb_pG (gS I J q X) := by
      rw [bk_OU_beginOf_4]
      have ems : nI m - nI w = nI (w' + 1) := by rw [pk_sub (by omega), hw']
      clear h34 a5 a4
      by_cases c : w = 0
      · rw [if_pos c] at hbp
        simp (disch := first | omega | decide | assumption | simp only [List.length_cons, List.length_nil, Nat.reduceAdd, Nat.reduceLeDiff]) only [x_c_0, x_istore_5, x_istore_6, x_iload_6, x_iload_4, x_ic_gt, x_iload_3, x_ic_ge, x_isub, x_istore_7, x_iload_5, x_if_ne, x_goto, x_iload_2, x_iadd, x_iload_1, x_ic_le, x_c_m4, x_iret, x_aload_0, x_get_260, x_iload_7, x_aald, x_aaldJ, x_lald, x_lstore_8, xc_OU_sumFrom, x_lload_8, x_lc_eq, x_iinc_5_1, x_iinc_6_1, tg_OU_beginOf_4, tg_OU_beginOf_19, tg_OU_beginOf_20, tg_OU_beginOf_27, tg_OU_beginOf_34, tg_OU_beginOf_49, tg_OU_beginOf_51, bk_OU_beginOf_0, bk_OU_beginOf_19, bk_OU_beginOf_20, bk_OU_beginOf_27, bk_OU_beginOf_49, bk_OU_beginOf_51, kil_int, kil_ref, kil_null, kil_long, kil_rA, psh_int, psh_long, psh_null, gI_gS, gL_gS, gR_gS, sI_gS, sL_gS, orf_some, Option.bind_some, List.length_cons, List.length_nil, Nat.reduceAdd, Nat.reduceLeDiff, if_true, if_false, Nat.zero_le, at_39, at_58, al_58, rw_39_4, rw_58, alr_58, oob_nI, ix_nI, nI_ltI, nI_leI, nI_z, i10, true_or, ne_eq, not_true_eq_false, not_false_eq_true, Bool.false_eq_true, true_and, and_true, and_self, if_true, if_false, or_true, false_or, or_false, or_self, false_and, and_false, Nat.one_ne_zero, n01, Nat.reduceEqDiff, if_neg (show ¬ i < w by omega), if_neg (show ¬ m ≤ w by omega), ems, if_neg (show ¬ ¬ w = 0 from fun h => h c), hbp, if_pos (show p ≤ C by omega), g1]
      · rw [if_neg c] at hbp
        simp (disch := first | omega | decide | assumption | simp only [List.length_cons, List.length_nil, Nat.reduceAdd, Nat.reduceLeDiff]) only [x_c_0, x_istore_5, x_istore_6, x_iload_6, x_iload_4, x_ic_gt, x_iload_3, x_ic_ge, x_isub, x_istore_7, x_iload_5, x_if_ne, x_goto, x_iload_2, x_iadd, x_iload_1, x_ic_le, x_c_m4, x_iret, x_aload_0, x_get_260, x_iload_7, x_aald, x_aaldJ, x_lald, x_lstore_8, xc_OU_sumFrom, x_lload_8, x_lc_eq, x_iinc_5_1, x_iinc_6_1, tg_OU_beginOf_4, tg_OU_beginOf_19, tg_OU_beginOf_20, tg_OU_beginOf_27, tg_OU_beginOf_34, tg_OU_beginOf_49, tg_OU_beginOf_51, bk_OU_beginOf_0, bk_OU_beginOf_19, bk_OU_beginOf_20, bk_OU_beginOf_27, bk_OU_beginOf_49, bk_OU_beginOf_51, kil_int, kil_ref, kil_null, kil_long, kil_rA, psh_int, psh_long, psh_null, gI_gS, gL_gS, gR_gS, sI_gS, sL_gS, orf_some, Option.bind_some, List.length_cons, List.length_nil, Nat.reduceAdd, Nat.reduceLeDiff, if_true, if_false, Nat.zero_le, at_39, at_58, al_58, rw_39_4, rw_58, alr_58, oob_nI, ix_nI, nI_ltI, nI_leI, nI_z, i10, true_or, ne_eq, not_true_eq_false, not_false_eq_true, Bool.false_eq_true, true_and, and_true, and_self, if_true, if_false, or_true, false_or, or_false, or_self, false_and, and_false, Nat.one_ne_zero, n01, Nat.reduceEqDiff, if_neg (show ¬ i < w by omega), if_neg (show ¬ m ≤ w by omega), ems, if_pos (show ¬ w = 0 from c), c, hbp, if_pos (show p ≤ C by omega), g1]
    have hxa : ∃ y, bwk f n L w' (a + n) = some y ∧ x = (f a + y.1, a, y.2.1, y.2.2.1) := by
      unfold bwg at a3
      cases hb : bwk f n L w' (a + n) with
      | none => rw [hb] at a3; cases a3
      | some y => rw [hb] at a3; cases a3; exact ⟨y, rfl, rfl⟩
    obtain ⟨y, y1, rfl⟩ := hxa
    rw [st, h34]
    match d, e with
    | 0, e =>
      have ei : w = i := by omega
      have e49 : gb_ex 35 bk_OU_beginOf_49 [.ref (39 : Nat), .int (nI C), .int (nI n), .int (nI m), .int (nI i), .int (nI a), .int (nI w), .int (nI (w' + 1)), .long (vl (some (f a + y.1, a, y.2.1, y.2.2.1))), .null] [] gb_pG (gS I J q X) = gb_ex 35 bk_OU_beginOf_4 [.ref (39 : Nat), .int (nI C), .int (nI n), .int (nI m), .int (nI i), .int (nI a), .int (nI (w + 1)), .int (nI (w' + 1)), .long (vl (some (f a + y.1, a, y.2.1, y.2.2.1))), .null] [] gb_pG (gS I J q X) := by
        rw [bk_OU_beginOf_49]
        simp (disch := first | omega | decide | assumption | simp only [List.length_cons, List.length_nil, Nat.reduceAdd, Nat.reduceLeDiff]) only [x_c_0, x_istore_5, x_istore_6, x_iload_6, x_iload_4, x_ic_gt, x_iload_3, x_ic_ge, x_isub, x_istore_7, x_iload_5, x_if_ne, x_goto, x_iload_2, x_iadd, x_iload_1, x_ic_le, x_c_m4, x_iret, x_aload_0, x_get_260, x_iload_7, x_aald, x_aaldJ, x_lald, x_lstore_8, xc_OU_sumFrom, x_lload_8, x_lc_eq, x_iinc_5_1, x_iinc_6_1, tg_OU_beginOf_4, tg_OU_beginOf_19, tg_OU_beginOf_20, tg_OU_beginOf_27, tg_OU_beginOf_34, tg_OU_beginOf_49, tg_OU_beginOf_51, bk_OU_beginOf_0, bk_OU_beginOf_19, bk_OU_beginOf_20, bk_OU_beginOf_27, bk_OU_beginOf_34, bk_OU_beginOf_49, bk_OU_beginOf_51, kil_int, kil_ref, kil_null, kil_long, kil_rA, psh_int, psh_long, psh_null, gI_gS, gL_gS, gR_gS, sI_gS, sL_gS, orf_some, Option.bind_some, List.length_cons, List.length_nil, Nat.reduceAdd, Nat.reduceLeDiff, if_true, if_false, Nat.zero_le, nI_ltI, nI_leI, nI_eq, nI_ltL, nI_leL, L_ltI, L_leI, nI_eqL, L_eqI, oob_nI, ix_nI, oob_L, ix_L, nI_1, nI_add, nI_z, z_nI, nI_lt0, nI_ge0, nI_gt0, nI_le0, ne_eq, Nat.le_zero_eq, Nat.not_lt_zero, Nat.lt_irrefl, Nat.le_refl, i10, true_or, ne_eq, not_true_eq_false, not_false_eq_true, Bool.false_eq_true, true_and, and_true, and_self, if_true, if_false, or_true, false_or, or_false, or_self, false_and, and_false, Nat.one_ne_zero, n01, Nat.reduceEqDiff]
      rw [e49, bk_OU_beginOf_4]
      simp (disch := first | omega | decide | assumption | simp only [List.length_cons, List.length_nil, Nat.reduceAdd, Nat.reduceLeDiff]) only [x_c_0, x_istore_5, x_istore_6, x_iload_6, x_iload_4, x_ic_gt, x_iload_3, x_ic_ge, x_isub, x_istore_7, x_iload_5, x_if_ne, x_goto, x_iload_2, x_iadd, x_iload_1, x_ic_le, x_c_m4, x_iret, x_aload_0, x_get_260, x_iload_7, x_aald, x_aaldJ, x_lald, x_lstore_8, xc_OU_sumFrom, x_lload_8, x_lc_eq, x_iinc_5_1, x_iinc_6_1, tg_OU_beginOf_4, tg_OU_beginOf_19, tg_OU_beginOf_20, tg_OU_beginOf_27, tg_OU_beginOf_34, tg_OU_beginOf_49, tg_OU_beginOf_51, bk_OU_beginOf_0, bk_OU_beginOf_19, bk_OU_beginOf_20, bk_OU_beginOf_27, bk_OU_beginOf_49, bk_OU_beginOf_51, kil_int, kil_ref, kil_null, kil_long, kil_rA, psh_int, psh_long, psh_null, gI_gS, gL_gS, gR_gS, sI_gS, sL_gS, orf_some, Option.bind_some, List.length_cons, List.length_nil, Nat.reduceAdd, Nat.reduceLeDiff, if_true, if_false, Nat.zero_le, nI_ltI, nI_leI, nI_eq, nI_ltL, nI_leL, L_ltI, L_leI, nI_eqL, L_eqI, oob_nI, ix_nI, oob_L, ix_L, nI_1, nI_add, nI_z, z_nI, nI_lt0, nI_ge0, nI_gt0, nI_le0, ne_eq, Nat.le_zero_eq, Nat.not_lt_zero, Nat.lt_irrefl, Nat.le_refl, i10, true_or, ne_eq, not_true_eq_false, not_false_eq_true, Bool.false_eq_true, true_and, and_true, and_self, if_true, if_false, or_true, false_or, or_false, or_self, false_and, and_false, Nat.one_ne_zero, n01, Nat.reduceEqDiff, if_pos (show i < w + 1 by omega)]
      rfl
    | d + 1, e =>
      have ih := l_begin I J q X hf hm him hn hC hL hJ h57 d (w + 1) a y (.int (nI (w' + 1))) (.long (vl (some (f a + y.1, a, y.2.1, y.2.2.1)))) .null (by omega) (by rw [if_neg (by omega), show m - (w + 1) = w' by omega]; exact y1)
      have e49 : gb_ex 35 bk_OU_beginOf_49 [.ref (39 : Nat), .int (nI C), .int (nI n), .int (nI m), .int (nI i), .int (nI a), .int (nI w), .int (nI (w' + 1)), .long (vl (some (f a + y.1, a, y.2.1, y.2.2.1))), .null] [] gb_pG (gS I J q X) = gb_ex 35 bk_OU_beginOf_4 [.ref (39 : Nat), .int (nI C), .int (nI n), .int (nI m), .int (nI i), .int (nI a), .int (nI (w + 1)), .int (nI (w' + 1)), .long (vl (some (f a + y.1, a, y.2.1, y.2.2.1))), .null] [] gb_pG (gS I J q X) := by
        rw [bk_OU_beginOf_49]
        simp (disch := first | omega | decide | assumption | simp only [List.length_cons, List.length_nil, Nat.reduceAdd, Nat.reduceLeDiff]) only [x_c_0, x_istore_5, x_istore_6, x_iload_6, x_iload_4, x_ic_gt, x_iload_3, x_ic_ge, x_isub, x_istore_7, x_iload_5, x_if_ne, x_goto, x_iload_2, x_iadd, x_iload_1, x_ic_le, x_c_m4, x_iret, x_aload_0, x_get_260, x_iload_7, x_aald, x_aaldJ, x_lald, x_lstore_8, xc_OU_sumFrom, x_lload_8, x_lc_eq, x_iinc_5_1, x_iinc_6_1, tg_OU_beginOf_4, tg_OU_beginOf_19, tg_OU_beginOf_20, tg_OU_beginOf_27, tg_OU_beginOf_34, tg_OU_beginOf_49, tg_OU_beginOf_51, bk_OU_beginOf_0, bk_OU_beginOf_19, bk_OU_beginOf_20, bk_OU_beginOf_27, bk_OU_beginOf_34, bk_OU_beginOf_49, bk_OU_beginOf_51, kil_int, kil_ref, kil_null, kil_long, kil_rA, psh_int, psh_long, psh_null, gI_gS, gL_gS, gR_gS, sI_gS, sL_gS, orf_some, Option.bind_some, List.length_cons, List.length_nil, Nat.reduceAdd, Nat.reduceLeDiff, if_true, if_false, Nat.zero_le, nI_ltI, nI_leI, nI_eq, nI_ltL, nI_leL, L_ltI, L_leI, nI_eqL, L_eqI, oob_nI, ix_nI, oob_L, ix_L, nI_1, nI_add, nI_z, z_nI, nI_lt0, nI_ge0, nI_gt0, nI_le0, ne_eq, Nat.le_zero_eq, Nat.not_lt_zero, Nat.lt_irrefl, Nat.le_refl, i10, true_or, ne_eq, not_true_eq_false, not_false_eq_true, Bool.false_eq_true, true_and, and_true, and_self, if_true, if_false, or_true, false_or, or_false, or_self, false_and, and_false, Nat.one_ne_zero, n01, Nat.reduceEqDiff]
      rw [e49, ih]
      have : d = 0 ∨ d = 1 := by omega
      rcases this with rfl | rfl <;> rfl
theorem s_begin (I : Nat → Nat → Int32) (J : Nat → Nat → Int64) (q : Bool × Bool) (X : Nat × (Nat → Int32)) {f : Nat → Nat} {C n m L i : Nat} (hf : ∀ j, f j ≤ 900000000000) (hm : m ≤ 3) (him : i < m) (hn : 1 ≤ n) (hC : C ≤ 16) (hL : L + n = C) (hJ : ∀ w', w' ≤ m → ∀ p, p ≤ 16 → J (59 + w') p = vl (bwk f n L w' p)) (h57 : ∀ p, p ≤ L → J 57 p = lN (f p)) {x : Nat × Nat × Nat × Nat} (hx : bwk f n L m 0 = some x) : gb_call 35 [.ref (39 : Nat), .int (nI C), .int (nI n), .int (nI m), .int (nI i)] gb_pG (gS I J q X) = some (.int (nI (elt i x.2)), gb_pG, gS I J q X) := by
  rw [cl_OU_beginOf, ← l_begin I J q X hf hm him hn hC hL hJ h57 i 0 0 x .null .null .null (by omega) hx]
  simp only [x_c_0, x_istore_5, x_istore_6, x_iload_6, x_iload_4, x_ic_gt, x_iload_3, x_ic_ge, x_isub, x_istore_7, x_iload_5, x_if_ne, x_goto, x_iload_2, x_iadd, x_iload_1, x_ic_le, x_c_m4, x_iret, x_aload_0, x_get_260, x_iload_7, x_aald, x_aaldJ, x_lald, x_lstore_8, xc_OU_sumFrom, x_lload_8, x_lc_eq, x_iinc_5_1, x_iinc_6_1, tg_OU_beginOf_4, tg_OU_beginOf_19, tg_OU_beginOf_20, tg_OU_beginOf_27, tg_OU_beginOf_34, tg_OU_beginOf_49, tg_OU_beginOf_51, bk_OU_beginOf_0, bk_OU_beginOf_19, bk_OU_beginOf_20, bk_OU_beginOf_27, bk_OU_beginOf_34, bk_OU_beginOf_49, bk_OU_beginOf_51, kil_int, kil_ref, kil_null, kil_long, kil_rA, psh_int, psh_long, psh_null, gI_gS, gL_gS, gR_gS, sI_gS, sL_gS, orf_some, Option.bind_some, List.length_cons, List.length_nil, Nat.reduceAdd, Nat.reduceLeDiff, if_true, if_false, Nat.zero_le]
  rfl
