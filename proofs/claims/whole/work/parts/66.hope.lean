/-! hope -/
def lfn (N : Nat → Nat) (D : Nat → Nat → Int) (G : Nat → Option (Nat × Nat) → Bool) (l : Nat) : Nat := cn N D l (fun o _ => !G l o)
def mny (N : Nat → Nat) (D : Nat → Nat → Int) (G : Nat → Option (Nat × Nat) → Bool) (l a b h : Nat) : Nat := cn N D l (fun o _ => ash a b 0 h o && !G l o)
def hpt (N : Nat → Nat) (D : Nat → Nat → Int) (G : Nat → Option (Nat × Nat) → Bool) (a b h e l : Nat) : Nat := if D 7 (kl D l) ≤ (e : Int) ∧ 0 < lfn N D G l then (D 8 (kl D l)).toNat * mny N D G l a b h * 1000000 / lfn N D G l else 0
def hpe (N : Nat → Nat) (D : Nat → Nat → Int) (G : Nat → Option (Nat × Nat) → Bool) (a b h e : Nat) : Nat := sm (hpt N D G a b h e) (N 4) 0
theorem sm_snoc (f : Nat → Nat) : ∀ d i, sm f (d + 1) i = sm f d i + f (i + d)
  | 0, i => by simp [sm]
  | d + 1, i => by
    rw [sm, sm_snoc f d (i + 1), sm, show i + 1 + d = i + (d + 1) by omega]
    omega
theorem cb_and_or (x y z : Bool) (h : ¬ (x = true ∧ y = true)) : cb ((x || y) && z) = cb (x && z) + cb (y && z) := by
  cases x <;> cases y <;> cases z <;> simp [cb] at h ⊢
theorem mny_s (N : Nat → Nat) (D : Nat → Nat → Int) (G : Nat → Option (Nat × Nat) → Bool) (l a h d : Nat) : mny N D G l a (a + d + 1) h = mny N D G l a (a + d) h + mny N D G l (a + d + 1) (a + d + 1) h := by
  unfold mny cn
  rw [← sm_add]
  refine sm_congr fun w _ _ => ?_
  cases wo N D l w with
  | none => rfl
  | some p =>
    have e1 : ash a (a + d + 1) 0 h (some p) = (ash a (a + d) 0 h (some p) || ash (a + d + 1) (a + d + 1) 0 h (some p)) := by
      show decide _ = (decide _ || decide _)
      rw [← Bool.decide_or, decide_eq_decide]
      omega
    have e2 : ¬ (ash a (a + d) 0 h (some p) = true ∧ ash (a + d + 1) (a + d + 1) 0 h (some p) = true) := by
      rintro ⟨x, y⟩
      have x := of_decide_eq_true x
      have y := of_decide_eq_true y
      omega
    dsimp only
    rw [e1]
    exact cb_and_or _ _ _ e2
theorem mny_sum (N : Nat → Nat) (D : Nat → Nat → Int) (G : Nat → Option (Nat × Nat) → Bool) (l a h : Nat) : ∀ d, sm (fun c => mny N D G l c c h) (d + 1) a = mny N D G l a (a + d) h
  | 0 => by simp [sm]
  | d + 1 => by
    rw [sm_snoc, mny_sum N D G l a h d, show a + (d + 1) = a + d + 1 by omega]
    exact (mny_s N D G l a h d).symm
theorem mny_le {N : Nat → Nat} {D : Nat → Nat → Int} {G : Nat → Option (Nat × Nat) → Bool} (ho : oB N D) {l : Nat} (hl : l < N 4) (a b h : Nat) : mny N D G l a b h ≤ 110 := Nat.le_trans (cn_le N D l _) (Wn_b ho hl).2.2.2.2.1
theorem lfn_le {N : Nat → Nat} {D : Nat → Nat → Int} {G : Nat → Option (Nat × Nat) → Bool} (ho : oB N D) {l : Nat} (hl : l < N 4) : lfn N D G l ≤ 110 := Nat.le_trans (cn_le N D l _) (Wn_b ho hl).2.2.2.2.1
theorem kwo {N : Nat → Nat} {D : Nat → Nat → Int} (ho : oB N D) {l : Nat} (hl : l < N 4) : (D 7 (kl D l) = ((D 7 (kl D l)).toNat : Int) ∧ (D 7 (kl D l)).toNat ≤ 9) ∧ (D 8 (kl D l) = ((D 8 (kl D l)).toNat : Int) ∧ (D 8 (kl D l)).toNat ≤ 999) := by
  have := ho.2.2.2.1 (kl D l) (lfa ho hl).1.2
  exact ⟨⟨by omega, by omega⟩, by omega, by omega⟩
theorem hpt_m {N : Nat → Nat} {D : Nat → Nat → Int} {G : Nat → Option (Nat × Nat) → Bool} (ho : oB N D) {l : Nat} (hl : l < N 4) (a b h : Nat) : (D 8 (kl D l)).toNat * mny N D G l a b h * 1000000 ≤ 109890000000 := by
  have h1 := (kwo ho hl).2.2
  have h2 := mny_le (G := G) ho hl a b h
  have h3 : (D 8 (kl D l)).toNat * mny N D G l a b h ≤ 999 * 110 := Nat.mul_le_mul h1 h2
  omega
theorem hpt_le {N : Nat → Nat} {D : Nat → Nat → Int} {G : Nat → Option (Nat × Nat) → Bool} (ho : oB N D) {l : Nat} (hl : l < N 4) (a b h e : Nat) : hpt N D G a b h e l ≤ 109890000000 := by
  unfold hpt
  split
  · exact Nat.le_trans (Nat.div_le_self _ _) (hpt_m ho hl a b h)
  · omega
/-- what the class has weighed -/
def wgh (I : Nat → Nat → Int32) (N : Nat → Nat) (D : Nat → Nat → Int) (G : Nat → Option (Nat × Nat) → Bool) (h n : Nat) : Prop := ∀ l, l < n → I 47 l = nI (lfn N D G l) ∧ ∀ c, c < 16 → I (49 + l) c = nI (mny N D G l c c h)
theorem l_cells (I : Nat → Nat → Int32) (J : Nat → Nat → Int64) (q : Bool × Bool) (X : Nat × (Nat → Int32)) {l b bb k : Nat} {f : Nat → Nat} (hl : l < 8) (hb : b < 16) (hf : ∀ c, c < 16 → I (49 + l) c = nI (f c)) (hf2 : ∀ c, c < 16 → f c ≤ 110) (v2 v4 : Int32) (s : Int64) : ∀ d c m, d + c = b + 1 → m ≤ 1000000 - 110 * d → gb_ex 30 bk_OU_sumOver_28 [.ref (39 : Nat), .ref bb, .int v2, .int (nI b), .int v4, .long s, .null, .int (nI l), .int (nI k), .long (lN m), .null, .int (nI c)] [] gb_pG (gS I J q X) = gb_ex 30 bk_OU_sumOver_46 [.ref (39 : Nat), .ref bb, .int v2, .int (nI b), .int v4, .long s, .null, .int (nI l), .int (nI k), .long (lN (m + sm f d c)), .null, .int (nI (b + 1))] [] gb_pG (gS I J q X)
  | 0, c, m, e, hm => by
    have e2 : c = b + 1 := by omega
    subst e2
    rw [bk_OU_sumOver_28]
    simp (disch := first | omega | decide | assumption | simp only [List.length_cons, List.length_nil, Nat.reduceAdd, Nat.reduceLeDiff]) only [x_l_0, x_lstore_5, x_c_0, x_istore_7, x_iload_7, x_aload_1, x_get_8, x_ic_ge, x_get_9, x_iald, x_istore_8, x_get_6, x_iload_8, x_iload_4, x_ic_gt, x_aload_0, x_get_257, x_if_le, x_lstore_9, x_iload_2, x_istore_11, x_iload_11, x_iload_3, x_c_16, x_lload_9, x_get_258, x_aald, x_aaldJ, x_i2l, x_ladd, x_iinc_11_1, x_goto, x_lload_5, x_get_7, x_lmul, x_l_1000000, x_ldiv, x_iinc_7_1, x_lret, tg_OU_sumOver_4, tg_OU_sumOver_28, tg_OU_sumOver_46, tg_OU_sumOver_64, tg_OU_sumOver_66, bk_OU_sumOver_0, bk_OU_sumOver_4, bk_OU_sumOver_64, bk_OU_sumOver_66, kil_int, kil_ref, kil_null, kil_long, kil_rA, psh_int, psh_long, psh_null, gI_gS, gL_gS, gR_gS, sI_gS, sL_gS, orf_some, Option.bind_some, List.length_cons, List.length_nil, Nat.reduceAdd, Nat.reduceLeDiff, if_true, if_false, Nat.zero_le, nI_ltI, nI_leI, nI_eq, nI_ltL, nI_leL, L_ltI, L_leI, nI_eqL, L_eqI, oob_nI, ix_nI, oob_L, ix_L, nI_1, nI_add, nI_z, z_nI, nI_lt0, nI_ge0, nI_gt0, nI_le0, ne_eq, Nat.le_zero_eq, Nat.not_lt_zero, Nat.lt_irrefl, Nat.le_refl, i10, true_or, ne_eq, not_true_eq_false, not_false_eq_true, Bool.false_eq_true, true_and, and_true, and_self, if_true, if_false, or_true, false_or, or_false, or_self, false_and, and_false, Nat.one_ne_zero, n01, Nat.reduceEqDiff, if_pos (show b < b + 1 by omega), sm, Nat.add_zero]
  | d + 1, c, m, e, hm => by
    have h1 := hf c (by omega)
    have h2 := hf2 c (by omega)
    have t49 := atr_48 (k := l) hl
    have ih := l_cells I J q X (bb := bb) (k := k) hl hb hf hf2 v2 v4 s d (c + 1) (m + f c) (by omega) (by omega)
    rw [bk_OU_sumOver_28, sm, ← Nat.add_assoc, ← ih]
    simp (disch := first | omega | decide | assumption | simp only [List.length_cons, List.length_nil, Nat.reduceAdd, Nat.reduceLeDiff]) only [x_l_0, x_lstore_5, x_c_0, x_istore_7, x_iload_7, x_aload_1, x_get_8, x_ic_ge, x_get_9, x_iald, x_istore_8, x_get_6, x_iload_8, x_iload_4, x_ic_gt, x_aload_0, x_get_257, x_if_le, x_lstore_9, x_iload_2, x_istore_11, x_iload_11, x_iload_3, x_c_16, x_lload_9, x_get_258, x_aald, x_aaldJ, x_i2l, x_ladd, x_iinc_11_1, x_goto, x_lload_5, x_get_7, x_lmul, x_l_1000000, x_ldiv, x_iinc_7_1, x_lret, tg_OU_sumOver_4, tg_OU_sumOver_28, tg_OU_sumOver_46, tg_OU_sumOver_64, tg_OU_sumOver_66, bk_OU_sumOver_0, bk_OU_sumOver_4, bk_OU_sumOver_64, bk_OU_sumOver_66, kil_int, kil_ref, kil_null, kil_long, kil_rA, psh_int, psh_long, psh_null, gI_gS, gL_gS, gR_gS, sI_gS, sL_gS, orf_some, Option.bind_some, List.length_cons, List.length_nil, Nat.reduceAdd, Nat.reduceLeDiff, if_true, if_false, Nat.zero_le, at_39, at_48, al_48, rw_39_2, rw_48, alr_48, nI_ltI, nI_leI, nI_eq, nI_ltL, nI_leL, L_ltI, L_leI, nI_eqL, L_eqI, oob_nI, ix_nI, oob_L, ix_L, nI_1, nI_add, nI_z, z_nI, nI_lt0, nI_ge0, nI_gt0, nI_le0, ne_eq, Nat.le_zero_eq, Nat.not_lt_zero, Nat.lt_irrefl, Nat.le_refl, i10, true_or, ne_eq, not_true_eq_false, not_false_eq_true, Bool.false_eq_true, true_and, and_true, and_self, if_true, if_false, or_true, false_or, or_false, or_self, false_and, and_false, Nat.one_ne_zero, n01, Nat.reduceEqDiff, if_neg (show ¬ b < c by omega), if_neg (show ¬ 16 ≤ c by omega), h1, nI_l, lN_add]
theorem hdiv {W m r : Nat} (hW : W * m * 1000000 ≤ 109890000000) (hr : 0 < r) (hr2 : r ≤ 110) : lN W * lN m * 1000000 / lN r = lN (W * m * 1000000 / r) ∧ ¬ lN r = 0 := by
  have e0 : lN 0 = 0 := rfl
  refine ⟨?_, ?_⟩
  · rw [show (1000000 : Int64) = lN 1000000 from rfl, lN_mul, lN_mul]
    exact pk_lDiv (by omega) hr (by omega)
  · rw [← e0, pk_lEQ (by omega) (by decide)]
    omega
theorem l_sumOver (I : Nat → Nat → Int32) (J : Nat → Nat → Int64) (q : Bool × Bool) (X : Nat × (Nat → Int32)) {N : Nat → Nat} {D : Nat → Nat → Int} {G : Nat → Option (Nat × Nat) → Bool} {h a b e : Nat} (hL : lay I q N D) (hw : wgh I N D G h (N 4)) (hab : a ≤ b) (hb : b < 16) (he : e ≤ 9) : ∀ d l s (z8 z9 z10 z11 : Value), d + l = N 4 → s + 109890000000 * d ≤ 1000000000000 → gb_ex 30 bk_OU_sumOver_4 [.ref (39 : Nat), .ref (gb_bb q), .int (nI a), .int (nI b), .int (nI e), .long (lN s), .null, .int (nI l), z8, z9, z10, z11] [] gb_pG (gS I J q X) = some (.long (lN (s + sm (hpt N D G a b h e) d l)), gb_pG, gS I J q X)
  | 0, l, s, z8, z9, z10, z11, el, hs => by
    have e2 : l = N 4 := by omega
    subst e2
    have h8 := hL.1.1.2.2.2.2
    have o6 := hL.2.2.1.2.2.2.2.2
    rw [bk_OU_sumOver_4]
    simp (disch := first | omega | decide | assumption | simp only [List.length_cons, List.length_nil, Nat.reduceAdd, Nat.reduceLeDiff, bb_at, bb_t1, bb_t2, bb_t3, bb_t4, bb_t5, bb_t6, bb_t7, bb_t8, bb_t9, bb_t10, bb_t11, bb_t12, bb_t13, bb_t14, bb_t15, bb_t16, bs_at, bs_t1, bs_t2, bs_t3, bs_t4, bs_t5, bs_t6, bs_t7, bs_t8, bs_t9, bs_t10, bs_t11, bs_t12, bs_t13, bs_t14, bs_t15, bs_t16, lb_at, lb_t1, lb_t2, lb_t13, lb_t24, lb_t35, lb_t36, lb_t37, lq_at, lq_t1, lq_t2, lq_t13, lq_t24, lq_t35, lq_t36, lq_t37]) only [x_l_0, x_lstore_5, x_c_0, x_istore_7, x_iload_7, x_aload_1, x_get_8, x_ic_ge, x_get_9, x_iald, x_istore_8, x_get_6, x_iload_8, x_iload_4, x_ic_gt, x_aload_0, x_get_257, x_if_le, x_lstore_9, x_iload_2, x_istore_11, x_iload_11, x_iload_3, x_c_16, x_lload_9, x_get_258, x_aald, x_aaldJ, x_i2l, x_ladd, x_iinc_11_1, x_goto, x_lload_5, x_get_7, x_lmul, x_l_1000000, x_ldiv, x_iinc_7_1, x_lret, tg_OU_sumOver_4, tg_OU_sumOver_28, tg_OU_sumOver_46, tg_OU_sumOver_64, tg_OU_sumOver_66, bk_OU_sumOver_0, bk_OU_sumOver_46, bk_OU_sumOver_64, bk_OU_sumOver_66, kil_int, kil_ref, kil_null, kil_long, kil_rA, psh_int, psh_long, psh_null, gI_gS, gL_gS, gR_gS, sI_gS, sL_gS, orf_some, Option.bind_some, List.length_cons, List.length_nil, Nat.reduceAdd, Nat.reduceLeDiff, if_true, if_false, Nat.zero_le, h8, nI_ltI, nI_leI, nI_eq, nI_ltL, nI_leL, L_ltI, L_leI, nI_eqL, L_eqI, oob_nI, ix_nI, oob_L, ix_L, nI_1, nI_add, nI_z, z_nI, nI_lt0, nI_ge0, nI_gt0, nI_le0, ne_eq, Nat.le_zero_eq, Nat.not_lt_zero, Nat.lt_irrefl, Nat.le_refl, i10, true_or, ne_eq, not_true_eq_false, not_false_eq_true, Bool.false_eq_true, true_and, and_true, and_self, if_true, if_false, or_true, false_or, or_false, or_self, false_and, and_false, Nat.one_ne_zero, n01, Nat.reduceEqDiff, sm, Nat.add_zero]
  | d + 1, l, s, z8, z9, z10, z11, el, hs => by
    have hl : l < N 4 := by omega
    have h8 := hL.1.1.2.2.2.2
    have o6 := hL.2.2.1.2.2.2.2.2
    obtain ⟨⟨k1, k2⟩, -⟩ := lfa hL.2.2 hl
    have hk6 : kl D l < 6 := by have := hL.2.2.1.2.2.2.2.1; omega
    have f9 := (hL.1.2.2.2.2 l hl).1
    rw [k1, ← zI_nI] at f9
    obtain ⟨-, -, f7, f8⟩ := hL.1.2.2.2.1 (kl D l) k2
    obtain ⟨⟨w1, w2⟩, w3, w4⟩ := kwo hL.2.2 hl
    rw [w3, ← zI_nI] at f8
    have hle := hpt_le (G := G) hL.2.2 hl a b h e
    have ih := fun s z8 z9 z10 z11 => l_sumOver I J q X hL hw hab hb he d (l + 1) s z8 z9 z10 z11 (by omega)
    obtain ⟨r1, r2⟩ := hw l hl
    have hlf := lfn_le (G := G) hL.2.2 hl
    have ke : (nI e < zI (D 7 (kl D l))) ↔ ¬ D 7 (kl D l) ≤ (e : Int) := by rw [zI_nI, zI_ltI (by omega) (by omega) (by omega) (by omega)]; omega
    rw [bk_OU_sumOver_4, sm, ← Nat.add_assoc]
    by_cases c1 : D 7 (kl D l) ≤ (e : Int)
    · by_cases c2 : 0 < lfn N D G l
      · have hcells := l_cells I J q X (l := l) (b := b) (bb := gb_bb q) (k := kl D l) (f := fun c => mny N D G l c c h) (by omega) hb r2 (fun c _ => mny_le hL.2.2 hl c c h) (nI a) (nI e) (lN s) (b + 1 - a) a 0 (by omega) (by omega)
        rw [Nat.zero_add, show b + 1 - a = (b - a) + 1 by omega, mny_sum, show a + (b - a) = b by omega] at hcells
        have hm := hpt_m (G := G) hL.2.2 hl a b h
        obtain ⟨ed, en⟩ := hdiv hm c2 hlf
        have eh : hpt N D G a b h e l = (D 8 (kl D l)).toNat * mny N D G l a b h * 1000000 / lfn N D G l := if_pos ⟨c1, c2⟩
        rw [eh] at hle ⊢
        have ml := mny_le (G := G) hL.2.2 hl a b h
        have st : gb_ex 30 bk_OU_sumOver_4 [.ref (39 : Nat), .ref (gb_bb q), .int (nI a), .int (nI b), .int (nI e), .long (lN s), .null, .int (nI l), z8, z9, z10, z11] [] gb_pG (gS I J q X) = gb_ex 30 bk_OU_sumOver_28 [.ref (39 : Nat), .ref (gb_bb q), .int (nI a), .int (nI b), .int (nI e), .long (lN s), .null, .int (nI l), .int (nI (kl D l)), .long (lN 0), .null, .int (nI a)] [] gb_pG (gS I J q X) := by
          rw [bk_OU_sumOver_4]
          simp (disch := first | omega | decide | assumption | simp only [List.length_cons, List.length_nil, Nat.reduceAdd, Nat.reduceLeDiff, bb_at, bb_t1, bb_t2, bb_t3, bb_t4, bb_t5, bb_t6, bb_t7, bb_t8, bb_t9, bb_t10, bb_t11, bb_t12, bb_t13, bb_t14, bb_t15, bb_t16, bs_at, bs_t1, bs_t2, bs_t3, bs_t4, bs_t5, bs_t6, bs_t7, bs_t8, bs_t9, bs_t10, bs_t11, bs_t12, bs_t13, bs_t14, bs_t15, bs_t16, lb_at, lb_t1, lb_t2, lb_t13, lb_t24, lb_t35, lb_t36, lb_t37, lq_at, lq_t1, lq_t2, lq_t13, lq_t24, lq_t35, lq_t36, lq_t37]) only [x_l_0, x_lstore_5, x_c_0, x_istore_7, x_iload_7, x_aload_1, x_get_8, x_ic_ge, x_get_9, x_iald, x_istore_8, x_get_6, x_iload_8, x_iload_4, x_ic_gt, x_aload_0, x_get_257, x_if_le, x_lstore_9, x_iload_2, x_istore_11, x_iload_11, x_iload_3, x_c_16, x_lload_9, x_get_258, x_aald, x_aaldJ, x_i2l, x_ladd, x_iinc_11_1, x_goto, x_lload_5, x_get_7, x_lmul, x_l_1000000, x_ldiv, x_iinc_7_1, x_lret, tg_OU_sumOver_4, tg_OU_sumOver_28, tg_OU_sumOver_46, tg_OU_sumOver_64, tg_OU_sumOver_66, bk_OU_sumOver_0, bk_OU_sumOver_46, bk_OU_sumOver_64, bk_OU_sumOver_66, kil_int, kil_ref, kil_null, kil_long, kil_rA, psh_int, psh_long, psh_null, gI_gS, gL_gS, gR_gS, sI_gS, sL_gS, orf_some, Option.bind_some, List.length_cons, List.length_nil, Nat.reduceAdd, Nat.reduceLeDiff, if_true, if_false, Nat.zero_le, at_39, at_47, al_47, rw_39_1, bb_r0, bb_r2, bb_r4, bb_r5, bb_r6, bb_r7, bb_r9, bb_r10, bb_r11, bb_r12, bb_r13, bb_w1, bb_w2, bb_w5, bb_w6, bb_w7, bs_r0, bs_r2, bs_r4, bs_r5, bs_r6, bs_r7, bs_r9, bs_r10, bs_r11, bs_r12, bs_r13, bs_w1, bs_w2, bs_w5, bs_w6, bs_w7, lb_r1, lb_r2, lb_r3, lb_r4, lb_r5, lb_r6, lb_r7, lq_r1, lq_r2, lq_r3, lq_r4, lq_r5, lq_r6, lq_r7, bb_l1, bb_l3, bb_l4, bb_l5, bb_l6, bb_l7, bb_l8, bb_l9, bb_l10, bb_l11, bb_l12, bb_l13, bb_l14, bb_l15, bb_l16, bs_l1, bs_l3, bs_l4, bs_l5, bs_l6, bs_l7, bs_l8, bs_l9, bs_l10, bs_l11, bs_l12, bs_l13, bs_l14, bs_l15, bs_l16, lb_l1, lb_l2, lb_l13, lb_l24, lb_l35, lb_l36, lb_l37, lq_l1, lq_l2, lq_l13, lq_l24, lq_l35, lq_l36, lq_l37, h8, nI_ltI, nI_leI, nI_eq, nI_ltL, nI_leL, L_ltI, L_leI, nI_eqL, L_eqI, oob_nI, ix_nI, oob_L, ix_L, nI_1, nI_add, nI_z, z_nI, nI_lt0, nI_ge0, nI_gt0, nI_le0, ne_eq, Nat.le_zero_eq, Nat.not_lt_zero, Nat.lt_irrefl, Nat.le_refl, i10, true_or, ne_eq, not_true_eq_false, not_false_eq_true, Bool.false_eq_true, true_and, and_true, and_self, if_true, if_false, or_true, false_or, or_false, or_self, false_and, and_false, Nat.one_ne_zero, n01, Nat.reduceEqDiff, if_neg (show ¬ N 4 ≤ l by omega), f9, f7, ke, c1, r1, if_neg (show ¬ lfn N D G l = 0 by omega)]
          rfl
        rw [← bk_OU_sumOver_4, st, hcells, bk_OU_sumOver_46]
        simp (disch := first | omega | decide | assumption | simp only [List.length_cons, List.length_nil, Nat.reduceAdd, Nat.reduceLeDiff, bb_at, bb_t1, bb_t2, bb_t3, bb_t4, bb_t5, bb_t6, bb_t7, bb_t8, bb_t9, bb_t10, bb_t11, bb_t12, bb_t13, bb_t14, bb_t15, bb_t16, bs_at, bs_t1, bs_t2, bs_t3, bs_t4, bs_t5, bs_t6, bs_t7, bs_t8, bs_t9, bs_t10, bs_t11, bs_t12, bs_t13, bs_t14, bs_t15, bs_t16, lb_at, lb_t1, lb_t2, lb_t13, lb_t24, lb_t35, lb_t36, lb_t37, lq_at, lq_t1, lq_t2, lq_t13, lq_t24, lq_t35, lq_t36, lq_t37]) only [x_l_0, x_lstore_5, x_c_0, x_istore_7, x_iload_7, x_aload_1, x_get_8, x_ic_ge, x_get_9, x_iald, x_istore_8, x_get_6, x_iload_8, x_iload_4, x_ic_gt, x_aload_0, x_get_257, x_if_le, x_lstore_9, x_iload_2, x_istore_11, x_iload_11, x_iload_3, x_c_16, x_lload_9, x_get_258, x_aald, x_aaldJ, x_i2l, x_ladd, x_iinc_11_1, x_goto, x_lload_5, x_get_7, x_lmul, x_l_1000000, x_ldiv, x_iinc_7_1, x_lret, tg_OU_sumOver_4, tg_OU_sumOver_28, tg_OU_sumOver_46, tg_OU_sumOver_64, tg_OU_sumOver_66, bk_OU_sumOver_0, bk_OU_sumOver_46, bk_OU_sumOver_64, bk_OU_sumOver_66, kil_int, kil_ref, kil_null, kil_long, kil_rA, psh_int, psh_long, psh_null, gI_gS, gL_gS, gR_gS, sI_gS, sL_gS, orf_some, Option.bind_some, List.length_cons, List.length_nil, Nat.reduceAdd, Nat.reduceLeDiff, if_true, if_false, Nat.zero_le, at_39, at_47, al_47, rw_39_1, bb_r0, bb_r2, bb_r4, bb_r5, bb_r6, bb_r7, bb_r9, bb_r10, bb_r11, bb_r12, bb_r13, bb_w1, bb_w2, bb_w5, bb_w6, bb_w7, bs_r0, bs_r2, bs_r4, bs_r5, bs_r6, bs_r7, bs_r9, bs_r10, bs_r11, bs_r12, bs_r13, bs_w1, bs_w2, bs_w5, bs_w6, bs_w7, lb_r1, lb_r2, lb_r3, lb_r4, lb_r5, lb_r6, lb_r7, lq_r1, lq_r2, lq_r3, lq_r4, lq_r5, lq_r6, lq_r7, bb_l1, bb_l3, bb_l4, bb_l5, bb_l6, bb_l7, bb_l8, bb_l9, bb_l10, bb_l11, bb_l12, bb_l13, bb_l14, bb_l15, bb_l16, bs_l1, bs_l3, bs_l4, bs_l5, bs_l6, bs_l7, bs_l8, bs_l9, bs_l10, bs_l11, bs_l12, bs_l13, bs_l14, bs_l15, bs_l16, lb_l1, lb_l2, lb_l13, lb_l24, lb_l35, lb_l36, lb_l37, lq_l1, lq_l2, lq_l13, lq_l24, lq_l35, lq_l36, lq_l37, oob_nI, ix_nI, nI_1, i10, true_or, ne_eq, not_true_eq_false, not_false_eq_true, Bool.false_eq_true, true_and, and_true, and_self, if_true, if_false, or_true, false_or, or_false, or_self, false_and, and_false, Nat.one_ne_zero, n01, Nat.reduceEqDiff, f8, r1, nI_l, ed, en, lN_add, ih]
      · have eh : hpt N D G a b h e l = 0 := if_neg (fun x => c2 x.2)
        have c0 : lfn N D G l = 0 := by omega
        rw [eh, Nat.add_zero]
        rw [c0] at r1
        simp (disch := first | omega | decide | assumption | simp only [List.length_cons, List.length_nil, Nat.reduceAdd, Nat.reduceLeDiff, bb_at, bb_t1, bb_t2, bb_t3, bb_t4, bb_t5, bb_t6, bb_t7, bb_t8, bb_t9, bb_t10, bb_t11, bb_t12, bb_t13, bb_t14, bb_t15, bb_t16, bs_at, bs_t1, bs_t2, bs_t3, bs_t4, bs_t5, bs_t6, bs_t7, bs_t8, bs_t9, bs_t10, bs_t11, bs_t12, bs_t13, bs_t14, bs_t15, bs_t16, lb_at, lb_t1, lb_t2, lb_t13, lb_t24, lb_t35, lb_t36, lb_t37, lq_at, lq_t1, lq_t2, lq_t13, lq_t24, lq_t35, lq_t36, lq_t37]) only [x_l_0, x_lstore_5, x_c_0, x_istore_7, x_iload_7, x_aload_1, x_get_8, x_ic_ge, x_get_9, x_iald, x_istore_8, x_get_6, x_iload_8, x_iload_4, x_ic_gt, x_aload_0, x_get_257, x_if_le, x_lstore_9, x_iload_2, x_istore_11, x_iload_11, x_iload_3, x_c_16, x_lload_9, x_get_258, x_aald, x_aaldJ, x_i2l, x_ladd, x_iinc_11_1, x_goto, x_lload_5, x_get_7, x_lmul, x_l_1000000, x_ldiv, x_iinc_7_1, x_lret, tg_OU_sumOver_4, tg_OU_sumOver_28, tg_OU_sumOver_46, tg_OU_sumOver_64, tg_OU_sumOver_66, bk_OU_sumOver_0, bk_OU_sumOver_46, bk_OU_sumOver_64, bk_OU_sumOver_66, kil_int, kil_ref, kil_null, kil_long, kil_rA, psh_int, psh_long, psh_null, gI_gS, gL_gS, gR_gS, sI_gS, sL_gS, orf_some, Option.bind_some, List.length_cons, List.length_nil, Nat.reduceAdd, Nat.reduceLeDiff, if_true, if_false, Nat.zero_le, at_39, at_47, al_47, rw_39_1, bb_r0, bb_r2, bb_r4, bb_r5, bb_r6, bb_r7, bb_r9, bb_r10, bb_r11, bb_r12, bb_r13, bb_w1, bb_w2, bb_w5, bb_w6, bb_w7, bs_r0, bs_r2, bs_r4, bs_r5, bs_r6, bs_r7, bs_r9, bs_r10, bs_r11, bs_r12, bs_r13, bs_w1, bs_w2, bs_w5, bs_w6, bs_w7, lb_r1, lb_r2, lb_r3, lb_r4, lb_r5, lb_r6, lb_r7, lq_r1, lq_r2, lq_r3, lq_r4, lq_r5, lq_r6, lq_r7, bb_l1, bb_l3, bb_l4, bb_l5, bb_l6, bb_l7, bb_l8, bb_l9, bb_l10, bb_l11, bb_l12, bb_l13, bb_l14, bb_l15, bb_l16, bs_l1, bs_l3, bs_l4, bs_l5, bs_l6, bs_l7, bs_l8, bs_l9, bs_l10, bs_l11, bs_l12, bs_l13, bs_l14, bs_l15, bs_l16, lb_l1, lb_l2, lb_l13, lb_l24, lb_l35, lb_l36, lb_l37, lq_l1, lq_l2, lq_l13, lq_l24, lq_l35, lq_l36, lq_l37, h8, nI_ltI, nI_leI, nI_eq, nI_ltL, nI_leL, L_ltI, L_leI, nI_eqL, L_eqI, oob_nI, ix_nI, oob_L, ix_L, nI_1, nI_add, nI_z, z_nI, nI_lt0, nI_ge0, nI_gt0, nI_le0, ne_eq, Nat.le_zero_eq, Nat.not_lt_zero, Nat.lt_irrefl, Nat.le_refl, i10, true_or, ne_eq, not_true_eq_false, not_false_eq_true, Bool.false_eq_true, true_and, and_true, and_self, if_true, if_false, or_true, false_or, or_false, or_self, false_and, and_false, Nat.one_ne_zero, n01, Nat.reduceEqDiff, if_neg (show ¬ N 4 ≤ l by omega), f9, f7, ke, c1, r1, ih]
    · have eh : hpt N D G a b h e l = 0 := if_neg (fun x => c1 x.1)
      rw [eh, Nat.add_zero]
      simp (disch := first | omega | decide | assumption | simp only [List.length_cons, List.length_nil, Nat.reduceAdd, Nat.reduceLeDiff, bb_at, bb_t1, bb_t2, bb_t3, bb_t4, bb_t5, bb_t6, bb_t7, bb_t8, bb_t9, bb_t10, bb_t11, bb_t12, bb_t13, bb_t14, bb_t15, bb_t16, bs_at, bs_t1, bs_t2, bs_t3, bs_t4, bs_t5, bs_t6, bs_t7, bs_t8, bs_t9, bs_t10, bs_t11, bs_t12, bs_t13, bs_t14, bs_t15, bs_t16, lb_at, lb_t1, lb_t2, lb_t13, lb_t24, lb_t35, lb_t36, lb_t37, lq_at, lq_t1, lq_t2, lq_t13, lq_t24, lq_t35, lq_t36, lq_t37]) only [x_l_0, x_lstore_5, x_c_0, x_istore_7, x_iload_7, x_aload_1, x_get_8, x_ic_ge, x_get_9, x_iald, x_istore_8, x_get_6, x_iload_8, x_iload_4, x_ic_gt, x_aload_0, x_get_257, x_if_le, x_lstore_9, x_iload_2, x_istore_11, x_iload_11, x_iload_3, x_c_16, x_lload_9, x_get_258, x_aald, x_aaldJ, x_i2l, x_ladd, x_iinc_11_1, x_goto, x_lload_5, x_get_7, x_lmul, x_l_1000000, x_ldiv, x_iinc_7_1, x_lret, tg_OU_sumOver_4, tg_OU_sumOver_28, tg_OU_sumOver_46, tg_OU_sumOver_64, tg_OU_sumOver_66, bk_OU_sumOver_0, bk_OU_sumOver_46, bk_OU_sumOver_64, bk_OU_sumOver_66, kil_int, kil_ref, kil_null, kil_long, kil_rA, psh_int, psh_long, psh_null, gI_gS, gL_gS, gR_gS, sI_gS, sL_gS, orf_some, Option.bind_some, List.length_cons, List.length_nil, Nat.reduceAdd, Nat.reduceLeDiff, if_true, if_false, Nat.zero_le, at_39, at_47, al_47, rw_39_1, bb_r0, bb_r2, bb_r4, bb_r5, bb_r6, bb_r7, bb_r9, bb_r10, bb_r11, bb_r12, bb_r13, bb_w1, bb_w2, bb_w5, bb_w6, bb_w7, bs_r0, bs_r2, bs_r4, bs_r5, bs_r6, bs_r7, bs_r9, bs_r10, bs_r11, bs_r12, bs_r13, bs_w1, bs_w2, bs_w5, bs_w6, bs_w7, lb_r1, lb_r2, lb_r3, lb_r4, lb_r5, lb_r6, lb_r7, lq_r1, lq_r2, lq_r3, lq_r4, lq_r5, lq_r6, lq_r7, bb_l1, bb_l3, bb_l4, bb_l5, bb_l6, bb_l7, bb_l8, bb_l9, bb_l10, bb_l11, bb_l12, bb_l13, bb_l14, bb_l15, bb_l16, bs_l1, bs_l3, bs_l4, bs_l5, bs_l6, bs_l7, bs_l8, bs_l9, bs_l10, bs_l11, bs_l12, bs_l13, bs_l14, bs_l15, bs_l16, lb_l1, lb_l2, lb_l13, lb_l24, lb_l35, lb_l36, lb_l37, lq_l1, lq_l2, lq_l13, lq_l24, lq_l35, lq_l36, lq_l37, h8, nI_ltI, nI_leI, nI_eq, nI_ltL, nI_leL, L_ltI, L_leI, nI_eqL, L_eqI, oob_nI, ix_nI, oob_L, ix_L, nI_1, nI_add, nI_z, z_nI, nI_lt0, nI_ge0, nI_gt0, nI_le0, ne_eq, Nat.le_zero_eq, Nat.not_lt_zero, Nat.lt_irrefl, Nat.le_refl, i10, true_or, ne_eq, not_true_eq_false, not_false_eq_true, Bool.false_eq_true, true_and, and_true, and_self, if_true, if_false, or_true, false_or, or_false, or_self, false_and, and_false, Nat.one_ne_zero, n01, Nat.reduceEqDiff, if_neg (show ¬ N 4 ≤ l by omega), f9, f7, ke, c1, ih]
theorem s_sumOver (I : Nat → Nat → Int32) (J : Nat → Nat → Int64) (q : Bool × Bool) (X : Nat × (Nat → Int32)) {N : Nat → Nat} {D : Nat → Nat → Int} {G : Nat → Option (Nat × Nat) → Bool} {h a b e : Nat} (hL : lay I q N D) (hw : wgh I N D G h (N 4)) (hab : a ≤ b) (hb : b < 16) (he : e ≤ 9) : gb_call 30 [.ref (39 : Nat), .ref (gb_bb q), .int (nI a), .int (nI b), .int (nI e)] gb_pG (gS I J q X) = some (.long (lN (hpe N D G a b h e)), gb_pG, gS I J q X) := by
  have o6 := hL.2.2.1.2.2.2.2.2
  have := l_sumOver I J q X hL hw hab hb he (N 4) 0 0 .null .null .null .null (by omega) (by omega)
  rw [Nat.zero_add] at this
  unfold hpe
  rw [cl_OU_sumOver, ← this]
  simp only [x_l_0, x_lstore_5, x_c_0, x_istore_7, x_iload_7, x_aload_1, x_get_8, x_ic_ge, x_get_9, x_iald, x_istore_8, x_get_6, x_iload_8, x_iload_4, x_ic_gt, x_aload_0, x_get_257, x_if_le, x_lstore_9, x_iload_2, x_istore_11, x_iload_11, x_iload_3, x_c_16, x_lload_9, x_get_258, x_aald, x_aaldJ, x_i2l, x_ladd, x_iinc_11_1, x_goto, x_lload_5, x_get_7, x_lmul, x_l_1000000, x_ldiv, x_iinc_7_1, x_lret, tg_OU_sumOver_4, tg_OU_sumOver_28, tg_OU_sumOver_46, tg_OU_sumOver_64, tg_OU_sumOver_66, bk_OU_sumOver_0, bk_OU_sumOver_28, bk_OU_sumOver_46, bk_OU_sumOver_64, bk_OU_sumOver_66, kil_int, kil_ref, kil_null, kil_long, kil_rA, psh_int, psh_long, psh_null, gI_gS, gL_gS, gR_gS, sI_gS, sL_gS, orf_some, Option.bind_some, List.length_cons, List.length_nil, Nat.reduceAdd, Nat.reduceLeDiff, if_true, if_false, Nat.zero_le]
  rfl
theorem l_hopeOf (I : Nat → Nat → Int32) (J : Nat → Nat → Int64) (q : Bool × Bool) (X : Nat × (Nat → Int32)) {N : Nat → Nat} {D : Nat → Nat → Int} {nr h a b e : Nat} (hL : lay I q N D) (hr : rp0 I nr) (hW : ∀ l, l < N 4 → mW I N D l) (ha : a < 16) (hb : b < 16) (hh : h ≤ 999) (he : e ≤ 9) : ∀ d l s (z8 z9 z10 : Value), d + l = N 4 → s + 109890000000 * d ≤ 1000000000000 → gb_ex 156 bk_RM_hopeOf_4 [.ref (190 : Nat), .int (nI a), .int (nI b), .int (nI h), .int (nI e), .long (lN s), .null, .int (nI l), z8, z9, z10] [] gb_pG (gS I J q X) = some (.long (lN (s + sm (hpt N D (fun l => gs I q nr (kl D l)) a b h e) d l)), gb_pG, gS I J q X)
  | 0, l, s, z8, z9, z10, el, hs => by
    have e2 : l = N 4 := by omega
    subst e2
    have h8 := hL.2.1.1.2.2.2.2
    have o6 := hL.2.2.1.2.2.2.2.2
    rw [bk_RM_hopeOf_4]
    simp (disch := first | omega | decide | assumption | simp only [List.length_cons, List.length_nil, Nat.reduceAdd, Nat.reduceLeDiff]) only [x_l_0, x_lstore_5, x_c_0, x_istore_7, x_iload_7, x_aload_0, x_get_650, x_iald, x_ic_ge, x_get_651, x_c_5, x_imul, x_istore_8, x_iload_4, x_iload_8, xc_RM_sees, x_if_eq, xc_RM_leftOf, x_i2l, x_goto, x_lstore_9, x_lload_5, x_lload_9, x_lc_ne, x_get_649, x_c_4, x_c_3, x_iadd, x_iload_1, x_iload_2, x_iload_3, x_c_1, xc_RM_counts, x_lmul, x_l_1000000, x_ldiv, x_ladd, x_iinc_7_1, x_lret, tg_RM_hopeOf_4, tg_RM_hopeOf_27, tg_RM_hopeOf_28, tg_RM_hopeOf_36, tg_RM_hopeOf_59, tg_RM_hopeOf_63, bk_RM_hopeOf_0, bk_RM_hopeOf_27, bk_RM_hopeOf_28, bk_RM_hopeOf_36, bk_RM_hopeOf_59, bk_RM_hopeOf_63, kil_int, kil_ref, kil_null, kil_long, kil_rA, psh_int, psh_long, psh_null, gI_gS, gL_gS, gR_gS, sI_gS, sL_gS, orf_some, Option.bind_some, List.length_cons, List.length_nil, Nat.reduceAdd, Nat.reduceLeDiff, if_true, if_false, Nat.zero_le, at_190, at_199, al_199, rw_190_10, h8, nI_ltI, nI_leI, nI_eq, nI_ltL, nI_leL, L_ltI, L_leI, nI_eqL, L_eqI, oob_nI, ix_nI, oob_L, ix_L, nI_1, nI_add, nI_z, z_nI, nI_lt0, nI_ge0, nI_gt0, nI_le0, ne_eq, Nat.le_zero_eq, Nat.not_lt_zero, Nat.lt_irrefl, Nat.le_refl, i10, true_or, ne_eq, not_true_eq_false, not_false_eq_true, Bool.false_eq_true, true_and, and_true, and_self, if_true, if_false, or_true, false_or, or_false, or_self, false_and, and_false, Nat.one_ne_zero, n01, Nat.reduceEqDiff, sm, Nat.add_zero]
  | d + 1, l, s, z8, z9, z10, el, hs => by
    have hl : l < N 4 := by omega
    have h8 := hL.2.1.1.2.2.2.2
    have o6 := hL.2.2.1.2.2.2.2.2
    obtain ⟨⟨k1, k2⟩, -⟩ := lfa hL.2.2 hl
    have hk6 : kl D l < 6 := by have := hL.2.2.1.2.2.2.2.1; omega
    have f9 := m_l0 hL.2.1 (r := 0) (by omega) hl
    rw [k1, ← zI_nI, Nat.add_zero] at f9
    have f8 := m_k0 hL.2.1 (r := 3) (by omega) k2
    obtain ⟨⟨w1, w2⟩, w3, w4⟩ := kwo hL.2.2 hl
    rw [w3, ← zI_nI] at f8
    have f7 := (hL.1.2.2.2.1 (kl D l) k2).2.2.1
    have ke : (I (gb_bb q + 10) (kl D l) ≤ nI e) ↔ D 7 (kl D l) ≤ (e : Int) := by rw [f7, zI_nI, zI_leI (by omega) (by omega) (by omega) (by omega)]
    have hse := s_RM_sees I J q X (bkd_of hL) (by have := hL.2.2.1.2.2.2.2.1; omega) (nI e) k2
    have hle := hpt_le (G := fun l => gs I q nr (kl D l)) hL.2.2 hl a b h e
    have ih := fun s z8 z9 z10 => l_hopeOf I J q X hL hr hW ha hb hh he d (l + 1) s z8 z9 z10 (by omega)
    have hlf := lfn_le (G := fun l => gs I q nr (kl D l)) hL.2.2 hl
    have hlo : gb_call 154 [.ref (190 : Nat), .int (nI l)] gb_pG (gS I J q X) = some (.int (nI (lfn N D (fun l => gs I q nr (kl D l)) l)), gb_pG, gS I J q X) := s_leftOf I J q X hL hr hl (hW l hl)
    have hct := s_counts I J q X hL hr (a := a) (b := b) (f := 0) (t := h) (o := 1) hl (hW l hl) (by omega) (by omega) (by omega) hh (by omega)
    have ecn : cn N D l (fun u _ => ash a b 0 h u && (decide (1 = 0) || !gs I q nr (kl D l) u)) = mny N D (fun l => gs I q nr (kl D l)) l a b h := cn_congr fun w _ => by simp
    rw [ecn] at hct
    have hct : gb_call 138 [.ref (190 : Nat), .int (nI l), .int (nI a), .int (nI b), .int 0, .int (nI h), .int 1] gb_pG (gS I J q X) = _ := hct
    have e0 : (0 : Int64) = lN 0 := rfl
    have ml := mny_le (G := fun l => gs I q nr (kl D l)) hL.2.2 hl a b h
    have hm := hpt_m (G := fun l => gs I q nr (kl D l)) hL.2.2 hl a b h
    generalize hG : (fun l => gs I q nr (kl D l)) = G at *
    rw [bk_RM_hopeOf_4, sm, ← Nat.add_assoc]
    by_cases c1 : D 7 (kl D l) ≤ (e : Int)
    · by_cases c2 : 0 < lfn N D G l
      · obtain ⟨ed, en⟩ := hdiv hm c2 hlf
        have eh : hpt N D G a b h e l = (D 8 (kl D l)).toNat * mny N D G l a b h * 1000000 / lfn N D G l := if_pos ⟨c1, c2⟩
        rw [eh] at hle ⊢
        simp (disch := first | omega | decide | assumption | simp only [List.length_cons, List.length_nil, Nat.reduceAdd, Nat.reduceLeDiff]) only [x_l_0, x_lstore_5, x_c_0, x_istore_7, x_iload_7, x_aload_0, x_get_650, x_iald, x_ic_ge, x_get_651, x_c_5, x_imul, x_istore_8, x_iload_4, x_iload_8, xc_RM_sees, x_if_eq, xc_RM_leftOf, x_i2l, x_goto, x_lstore_9, x_lload_5, x_lload_9, x_lc_ne, x_get_649, x_c_4, x_c_3, x_iadd, x_iload_1, x_iload_2, x_iload_3, x_c_1, xc_RM_counts, x_lmul, x_l_1000000, x_ldiv, x_ladd, x_iinc_7_1, x_lret, tg_RM_hopeOf_4, tg_RM_hopeOf_27, tg_RM_hopeOf_28, tg_RM_hopeOf_36, tg_RM_hopeOf_59, tg_RM_hopeOf_63, bk_RM_hopeOf_0, bk_RM_hopeOf_27, bk_RM_hopeOf_28, bk_RM_hopeOf_36, bk_RM_hopeOf_59, bk_RM_hopeOf_63, kil_int, kil_ref, kil_null, kil_long, kil_rA, psh_int, psh_long, psh_null, gI_gS, gL_gS, gR_gS, sI_gS, sL_gS, orf_some, Option.bind_some, List.length_cons, List.length_nil, Nat.reduceAdd, Nat.reduceLeDiff, if_true, if_false, Nat.zero_le, at_190, at_198, at_199, at_200, al_198, al_199, al_200, rw_190_9, rw_190_10, rw_190_11, h8, oob_L, ix_L, oob_nI, ix_nI, nI_1, nI_leI, nI_mL, nI_aL, i10, true_or, ne_eq, not_true_eq_false, not_false_eq_true, Bool.false_eq_true, true_and, and_true, and_self, if_true, if_false, or_true, false_or, or_false, or_self, false_and, and_false, Nat.one_ne_zero, n01, Nat.reduceEqDiff, if_neg (show ¬ N 4 ≤ l by omega), f9, f8, hse, ke, c1, hlo, hct, nI_l, en, ed, lN_add, ih]
      · have eh : hpt N D G a b h e l = 0 := if_neg (fun x => c2 x.2)
        have c0 : lfn N D G l = 0 := by omega
        rw [eh, Nat.add_zero]
        rw [c0] at hlo
        have en : (lN 0 : Int64) = 0 := rfl
        simp (disch := first | omega | decide | assumption | simp only [List.length_cons, List.length_nil, Nat.reduceAdd, Nat.reduceLeDiff]) only [x_l_0, x_lstore_5, x_c_0, x_istore_7, x_iload_7, x_aload_0, x_get_650, x_iald, x_ic_ge, x_get_651, x_c_5, x_imul, x_istore_8, x_iload_4, x_iload_8, xc_RM_sees, x_if_eq, xc_RM_leftOf, x_i2l, x_goto, x_lstore_9, x_lload_5, x_lload_9, x_lc_ne, x_get_649, x_c_4, x_c_3, x_iadd, x_iload_1, x_iload_2, x_iload_3, x_c_1, xc_RM_counts, x_lmul, x_l_1000000, x_ldiv, x_ladd, x_iinc_7_1, x_lret, tg_RM_hopeOf_4, tg_RM_hopeOf_27, tg_RM_hopeOf_28, tg_RM_hopeOf_36, tg_RM_hopeOf_59, tg_RM_hopeOf_63, bk_RM_hopeOf_0, bk_RM_hopeOf_27, bk_RM_hopeOf_28, bk_RM_hopeOf_36, bk_RM_hopeOf_59, bk_RM_hopeOf_63, kil_int, kil_ref, kil_null, kil_long, kil_rA, psh_int, psh_long, psh_null, gI_gS, gL_gS, gR_gS, sI_gS, sL_gS, orf_some, Option.bind_some, List.length_cons, List.length_nil, Nat.reduceAdd, Nat.reduceLeDiff, if_true, if_false, Nat.zero_le, at_190, at_198, at_199, at_200, al_198, al_199, al_200, rw_190_9, rw_190_10, rw_190_11, h8, oob_L, ix_L, oob_nI, ix_nI, nI_1, nI_leI, nI_mL, nI_aL, i10, true_or, ne_eq, not_true_eq_false, not_false_eq_true, Bool.false_eq_true, true_and, and_true, and_self, if_true, if_false, or_true, false_or, or_false, or_self, false_and, and_false, Nat.one_ne_zero, n01, Nat.reduceEqDiff, if_neg (show ¬ N 4 ≤ l by omega), f9, hse, ke, c1, hlo, nI_l, en, Int64.add_zero, ih]
    · have eh : hpt N D G a b h e l = 0 := if_neg (fun x => c1 x.1)
      rw [eh, Nat.add_zero]
      simp (disch := first | omega | decide | assumption | simp only [List.length_cons, List.length_nil, Nat.reduceAdd, Nat.reduceLeDiff]) only [x_l_0, x_lstore_5, x_c_0, x_istore_7, x_iload_7, x_aload_0, x_get_650, x_iald, x_ic_ge, x_get_651, x_c_5, x_imul, x_istore_8, x_iload_4, x_iload_8, xc_RM_sees, x_if_eq, xc_RM_leftOf, x_i2l, x_goto, x_lstore_9, x_lload_5, x_lload_9, x_lc_ne, x_get_649, x_c_4, x_c_3, x_iadd, x_iload_1, x_iload_2, x_iload_3, x_c_1, xc_RM_counts, x_lmul, x_l_1000000, x_ldiv, x_ladd, x_iinc_7_1, x_lret, tg_RM_hopeOf_4, tg_RM_hopeOf_27, tg_RM_hopeOf_28, tg_RM_hopeOf_36, tg_RM_hopeOf_59, tg_RM_hopeOf_63, bk_RM_hopeOf_0, bk_RM_hopeOf_27, bk_RM_hopeOf_28, bk_RM_hopeOf_36, bk_RM_hopeOf_59, bk_RM_hopeOf_63, kil_int, kil_ref, kil_null, kil_long, kil_rA, psh_int, psh_long, psh_null, gI_gS, gL_gS, gR_gS, sI_gS, sL_gS, orf_some, Option.bind_some, List.length_cons, List.length_nil, Nat.reduceAdd, Nat.reduceLeDiff, if_true, if_false, Nat.zero_le, at_190, at_198, at_199, at_200, al_198, al_199, al_200, rw_190_9, rw_190_10, rw_190_11, h8, oob_L, ix_L, oob_nI, ix_nI, nI_1, nI_leI, nI_mL, nI_aL, i10, true_or, ne_eq, not_true_eq_false, not_false_eq_true, Bool.false_eq_true, true_and, and_true, and_self, if_true, if_false, or_true, false_or, or_false, or_self, false_and, and_false, Nat.one_ne_zero, n01, Nat.reduceEqDiff, if_neg (show ¬ N 4 ≤ l by omega), f9, hse, ke, c1, Int64.add_zero, ih]
theorem s_hopeOf (I : Nat → Nat → Int32) (J : Nat → Nat → Int64) (q : Bool × Bool) (X : Nat × (Nat → Int32)) {N : Nat → Nat} {D : Nat → Nat → Int} {nr h a b e : Nat} (hL : lay I q N D) (hr : rp0 I nr) (hW : ∀ l, l < N 4 → mW I N D l) (ha : a < 16) (hb : b < 16) (hh : h ≤ 999) (he : e ≤ 9) : gb_call 156 [.ref (190 : Nat), .int (nI a), .int (nI b), .int (nI h), .int (nI e)] gb_pG (gS I J q X) = some (.long (lN (hpe N D (fun l => gs I q nr (kl D l)) a b h e)), gb_pG, gS I J q X) := by
  have o6 := hL.2.2.1.2.2.2.2.2
  have := l_hopeOf I J q X hL hr hW ha hb hh he (N 4) 0 0 .null .null .null (by omega) (by omega)
  rw [Nat.zero_add] at this
  unfold hpe
  rw [cl_RM_hopeOf, ← this]
  simp only [x_l_0, x_lstore_5, x_c_0, x_istore_7, x_iload_7, x_aload_0, x_get_650, x_iald, x_ic_ge, x_get_651, x_c_5, x_imul, x_istore_8, x_iload_4, x_iload_8, xc_RM_sees, x_if_eq, xc_RM_leftOf, x_i2l, x_goto, x_lstore_9, x_lload_5, x_lload_9, x_lc_ne, x_get_649, x_c_4, x_c_3, x_iadd, x_iload_1, x_iload_2, x_iload_3, x_c_1, xc_RM_counts, x_lmul, x_l_1000000, x_ldiv, x_ladd, x_iinc_7_1, x_lret, tg_RM_hopeOf_4, tg_RM_hopeOf_27, tg_RM_hopeOf_28, tg_RM_hopeOf_36, tg_RM_hopeOf_59, tg_RM_hopeOf_63, bk_RM_hopeOf_0, bk_RM_hopeOf_27, bk_RM_hopeOf_28, bk_RM_hopeOf_36, bk_RM_hopeOf_59, bk_RM_hopeOf_63, kil_int, kil_ref, kil_null, kil_long, kil_rA, psh_int, psh_long, psh_null, gI_gS, gL_gS, gR_gS, sI_gS, sL_gS, orf_some, Option.bind_some, List.length_cons, List.length_nil, Nat.reduceAdd, Nat.reduceLeDiff, if_true, if_false, Nat.zero_le]
  rfl
