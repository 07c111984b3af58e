/-! the first fault of a beach -/
def fres (B : Nat → Nat) (L : Nat) : Nat → (Nat → Nat) → (Nat → Nat → Int) → Nat → Int32 → (Nat → Nat) → (Nat → Nat → Int) → Prop
  | 0, N, D, _, R, N', D' => R = -4 ∧ N' = N ∧ D' = D
  | f + 1, N, D, p, R, N', D' => (L ≤ p ∧ R = -4 ∧ N' = N ∧ D' = D) ∨ (p < L ∧ (∀ c, c < 5 → ¬ acc N B p c) ∧ R = nI p ∧ N' = N ∧ D' = D) ∨ (p < L ∧ ∃ c, c < 5 ∧ acc N B p c ∧ fres B L f (adN N c (nz B (p + 1))) (adD N D c (nz B (p + 1))) (pp B (p + 1) (c + 1)) R N' D')
theorem fres_det {B : Nat → Nat} {L : Nat} : ∀ {f : Nat} {N : Nat → Nat} {D : Nat → Nat → Int} {p : Nat} {R R2 : Int32} {N' N2 : Nat → Nat} {D' D2 : Nat → Nat → Int}, fres B L f N D p R N' D' → fres B L f N D p R2 N2 D2 → R = R2 ∧ N' = N2 ∧ D' = D2
  | 0, N, D, p, R, R2, N', N2, D', D2, h, h' => by
    obtain ⟨a, b, c⟩ := h
    obtain ⟨a', b', c'⟩ := h'
    exact ⟨a.trans a'.symm, b.trans b'.symm, c.trans c'.symm⟩
  | f + 1, N, D, p, R, R2, N', N2, D', D2, h, h' => by
    rcases h with ⟨h1, a, b, c⟩ | ⟨h1, h2, a, b, c⟩ | ⟨h1, c, hc, ha, h2⟩
    · rcases h' with ⟨k1, a', b', c'⟩ | ⟨k1, k2, a', b', c'⟩ | ⟨k1, c', hc', ha', k2⟩
      · exact ⟨a.trans a'.symm, b.trans b'.symm, c.trans c'.symm⟩
      · omega
      · omega
    · rcases h' with ⟨k1, a', b', c'⟩ | ⟨k1, k2, a', b', c'⟩ | ⟨k1, c', hc', ha', k2⟩
      · omega
      · exact ⟨a.trans a'.symm, b.trans b'.symm, c.trans c'.symm⟩
      · exact absurd ha' (h2 c' hc')
    · rcases h' with ⟨k1, a', b', c'⟩ | ⟨k1, k2, a', b', c'⟩ | ⟨k1, c', hc', ha', k2⟩
      · omega
      · exact absurd ha (k2 c hc)
      · have := lett_inj c hc c' hc' (by rw [← ha.1, ha'.1])
        subst this
        exact fres_det h2 k2
theorem fC_tr {b : Nat} {I I' I2 : Nat → Nat → Int32} (h : fC b I I') (h' : fC b I' I2) : fC b I I2 := ⟨fun k k1 k2 => by rw [h'.1 k k1 k2, h.1 k k1 k2], fun a a1 a2 => by rw [h'.2 a a1 a2, h.2 a a1 a2]⟩
theorem fC_s {b : Nat} (I : Nat → Nat → Int32) (p v : Int32) : fC b I (sc I p v) := ⟨fun _ k1 k2 => sc_1 k1 k2, fun _ a1 _ => sc_n a1⟩
theorem fC_s' {b : Nat} {I I' : Nat → Nat → Int32} {p v : Int32} (h : fC b (sc I p v) I') : fC b I I' := fC_tr (fC_s I p v) h
theorem rd_fC {I I' : Nat → Nat → Int32} {L : Nat} {B : Nat → Nat} {q : Bool × Bool} (h : rd I L B) (hf : fC (gb_bs q) I I') : rd I' L B := by
  have := gb_bs_r q
  exact rd_fr h (hf.1 1 (by decide) (by decide)) (hf.2 2 (by omega) (by omega)) (by rw [hf.2 190 (by omega) (by omega)]) (hf.2 191 (by omega) (by omega))
theorem rd_fM {I I' : Nat → Nat → Int32} {L : Nat} {B : Nat → Nat} (h : rd I L B) (hf : fM I I') : rd I' L B :=
  rd_fr h (by rw [hf.2.2 1 (by omega) (by omega)]) (hf.2.2 2 (by omega) (by omega)) (hf.1 0 (by decide) (by decide)) (hf.2.2 191 (by omega) (by omega))
theorem l_readFrom (J : Nat → Nat → Int64) (q : Bool × Bool) (X : Nat × (Nat → Int32)) {L : Nat} {B : Nat → Nat} : ∀ (f k p : Nat) (N : Nat → Nat) (D : Nat → Nat → Int) (I : Nat → Nat → Int32) (v : Int32) (z : Value), rd I L B → cR I (gb_bs q) N D → oB N D → L ≤ p + f → k ≤ p → p ≤ 1000 → ∃ R N' D' I', gb_ex 3 bk_BE_readFrom_17 [.ref (gb_bs q), .ref (1 : Nat), .int (nI k), z] [] gb_pG (gS (sc I (nI p) v) J q X) = some (.int R, gb_pG, gS I' J q X) ∧ fres B L f N D p R N' D' ∧ fC (gb_bs q) I I' ∧ (R = -4 → cR I' (gb_bs q) N' D' ∧ oB N' D')
  | f, k, p, N, D, I, v, z, h, hR, ho, h1, h2, h3 => by
    have hL := h.1.1
    have hm := s_SC_hasMore (sc I (nI p) v) J q X (rd_sc h (nI p) v).1 (sc_2 I (nI p) v) (by omega)
    have hbs := gb_bs_r q
    have hRs : cR (sc I (nI p) v) (gb_bs q) N D := cR_fr hR (fun a ha => sc_n (by omega))
    by_cases c : L ≤ p
    · refine ⟨-4, N, D, sc I (nI p) v, ?_, ?_, fC_s I _ _, fun _ => ⟨hRs, ho⟩⟩
      · rw [bk_BE_readFrom_17]
        simp (disch := first | omega | decide | assumption | simp only [List.length_cons, List.length_nil, Nat.reduceAdd, Nat.reduceLeDiff, bb_at, bb_t1, bb_t2, bb_t3, bb_t4, bb_t5, bb_t6, bb_t7, bb_t8, bb_t9, bb_t10, bb_t11, bb_t12, bb_t13, bb_t14, bb_t15, bb_t16, bs_at, bs_t1, bs_t2, bs_t3, bs_t4, bs_t5, bs_t6, bs_t7, bs_t8, bs_t9, bs_t10, bs_t11, bs_t12, bs_t13, bs_t14, bs_t15, bs_t16, lb_at, lb_t1, lb_t2, lb_t13, lb_t24, lb_t35, lb_t36, lb_t37, lq_at, lq_t1, lq_t2, lq_t13, lq_t24, lq_t35, lq_t36, lq_t37]) only [x_aload_0, x_c_8, x_put_1, x_get_2, xc_WE_clear, x_c_0, x_put_3, x_put_8, x_aload_1, x_put_322, x_istore_2, x_iload_2, x_c_400, x_ic_ge, xc_SC_hasMore, x_if_eq, x_get_322, x_istore_3, xc_BE_readItem, x_if_ne, x_iload_3, x_iret, x_iinc_2_1, x_goto, x_c_m4, tg_BE_readFrom_17, tg_BE_readFrom_32, tg_BE_readFrom_34, bk_BE_readFrom_0, bk_BE_readFrom_32, bk_BE_readFrom_34, kil_int, kil_ref, kil_null, kil_long, kil_rA, psh_int, psh_long, psh_null, gI_gS, gL_gS, gR_gS, sI_gS, sL_gS, orf_some, Option.bind_some, List.length_cons, List.length_nil, Nat.reduceAdd, Nat.reduceLeDiff, if_true, if_false, Nat.zero_le, at_1, hm, nI_ltI, nI_leI, nI_eq, nI_ltL, nI_leL, L_ltI, L_leI, nI_eqL, L_eqI, oob_nI, ix_nI, oob_L, ix_L, nI_1, nI_add, nI_z, z_nI, nI_lt0, nI_ge0, nI_gt0, nI_le0, ne_eq, Nat.le_zero_eq, Nat.not_lt_zero, Nat.lt_irrefl, Nat.le_refl, i10, true_or, ne_eq, not_true_eq_false, not_false_eq_true, Bool.false_eq_true, true_and, and_true, and_self, if_true, if_false, or_true, false_or, or_false, or_self, false_and, and_false, Nat.one_ne_zero, n01, Nat.reduceEqDiff, if_neg (show ¬ p < L by omega)]
        by_cases c2 : 400 ≤ k
        · rw [if_pos c2]
        · rw [if_neg c2]
      · cases f with
        | zero => exact ⟨rfl, rfl, rfl⟩
        | succ f => exact Or.inl ⟨c, rfl, rfl, rfl⟩
    · match f, h1 with
      | 0, h1 => omega
      | f + 1, h1 =>
        obtain ⟨r, I', e1, e2, e3, e4, e5⟩ := s_readItem I J q X h hR ho (p := p) (by omega) v
        by_cases cr : r = 1
        · obtain ⟨cc, hcc, ha, hR', hp'⟩ := e5 cr
          have hb := pp_b B (p + 1) (cc + 1)
          have hI' : I' = sc I' (nI (pp B (p + 1) (cc + 1))) (I' 1 3) := by
            conv => lhs; rw [← sc_id I']
            rw [hp']
          obtain ⟨R, N', D', I2, u1, u2, u3, u4⟩ := l_readFrom J q X f (k + 1) (pp B (p + 1) (cc + 1)) _ _ I' (I' 1 3) (.int (nI p)) (rd_fC h e3) hR' (oB_ad ho ha.2.2) (by omega) (by omega) (by omega)
          refine ⟨R, N', D', I2, ?_, Or.inr (Or.inr ⟨by omega, cc, hcc, ha, u2⟩), fC_tr e3 u3, u4⟩
          rw [← hI'] at u1
          rw [bk_BE_readFrom_17, ← u1]
          simp (disch := first | omega | decide | assumption | simp only [List.length_cons, List.length_nil, Nat.reduceAdd, Nat.reduceLeDiff, bb_at, bb_t1, bb_t2, bb_t3, bb_t4, bb_t5, bb_t6, bb_t7, bb_t8, bb_t9, bb_t10, bb_t11, bb_t12, bb_t13, bb_t14, bb_t15, bb_t16, bs_at, bs_t1, bs_t2, bs_t3, bs_t4, bs_t5, bs_t6, bs_t7, bs_t8, bs_t9, bs_t10, bs_t11, bs_t12, bs_t13, bs_t14, bs_t15, bs_t16, lb_at, lb_t1, lb_t2, lb_t13, lb_t24, lb_t35, lb_t36, lb_t37, lq_at, lq_t1, lq_t2, lq_t13, lq_t24, lq_t35, lq_t36, lq_t37]) only [x_aload_0, x_c_8, x_put_1, x_get_2, xc_WE_clear, x_c_0, x_put_3, x_put_8, x_aload_1, x_put_322, x_istore_2, x_iload_2, x_c_400, x_ic_ge, xc_SC_hasMore, x_if_eq, x_get_322, x_istore_3, xc_BE_readItem, x_if_ne, x_iload_3, x_iret, x_iinc_2_1, x_goto, x_c_m4, tg_BE_readFrom_17, tg_BE_readFrom_32, tg_BE_readFrom_34, bk_BE_readFrom_0, bk_BE_readFrom_32, bk_BE_readFrom_34, kil_int, kil_ref, kil_null, kil_long, kil_rA, psh_int, psh_long, psh_null, gI_gS, gL_gS, gR_gS, sI_gS, sL_gS, orf_some, Option.bind_some, List.length_cons, List.length_nil, Nat.reduceAdd, Nat.reduceLeDiff, if_true, if_false, Nat.zero_le, at_1, hm, nI_ltI, nI_leI, nI_eq, nI_ltL, nI_leL, L_ltI, L_leI, nI_eqL, L_eqI, oob_nI, ix_nI, oob_L, ix_L, nI_1, nI_add, nI_z, z_nI, nI_lt0, nI_ge0, nI_gt0, nI_le0, ne_eq, Nat.le_zero_eq, Nat.not_lt_zero, Nat.lt_irrefl, Nat.le_refl, i10, true_or, ne_eq, not_true_eq_false, not_false_eq_true, Bool.false_eq_true, true_and, and_true, and_self, if_true, if_false, or_true, false_or, or_false, or_self, false_and, and_false, Nat.one_ne_zero, n01, Nat.reduceEqDiff, if_pos (show p < L by omega), if_neg (show ¬ 400 ≤ k by omega), e1, cr, sc_2]
        · have cr0 : r = 0 := by omega
          refine ⟨nI p, N, D, I', ?_, Or.inr (Or.inl ⟨by omega, e4 cr0, rfl, rfl, rfl⟩), e3, fun x => ?_⟩
          · rw [bk_BE_readFrom_17]
            simp (disch := first | omega | decide | assumption | simp only [List.length_cons, List.length_nil, Nat.reduceAdd, Nat.reduceLeDiff, bb_at, bb_t1, bb_t2, bb_t3, bb_t4, bb_t5, bb_t6, bb_t7, bb_t8, bb_t9, bb_t10, bb_t11, bb_t12, bb_t13, bb_t14, bb_t15, bb_t16, bs_at, bs_t1, bs_t2, bs_t3, bs_t4, bs_t5, bs_t6, bs_t7, bs_t8, bs_t9, bs_t10, bs_t11, bs_t12, bs_t13, bs_t14, bs_t15, bs_t16, lb_at, lb_t1, lb_t2, lb_t13, lb_t24, lb_t35, lb_t36, lb_t37, lq_at, lq_t1, lq_t2, lq_t13, lq_t24, lq_t35, lq_t36, lq_t37]) only [x_aload_0, x_c_8, x_put_1, x_get_2, xc_WE_clear, x_c_0, x_put_3, x_put_8, x_aload_1, x_put_322, x_istore_2, x_iload_2, x_c_400, x_ic_ge, xc_SC_hasMore, x_if_eq, x_get_322, x_istore_3, xc_BE_readItem, x_if_ne, x_iload_3, x_iret, x_iinc_2_1, x_goto, x_c_m4, tg_BE_readFrom_17, tg_BE_readFrom_32, tg_BE_readFrom_34, bk_BE_readFrom_0, bk_BE_readFrom_32, bk_BE_readFrom_34, kil_int, kil_ref, kil_null, kil_long, kil_rA, psh_int, psh_long, psh_null, gI_gS, gL_gS, gR_gS, sI_gS, sL_gS, orf_some, Option.bind_some, List.length_cons, List.length_nil, Nat.reduceAdd, Nat.reduceLeDiff, if_true, if_false, Nat.zero_le, at_1, hm, nI_ltI, nI_leI, nI_eq, nI_ltL, nI_leL, L_ltI, L_leI, nI_eqL, L_eqI, oob_nI, ix_nI, oob_L, ix_L, nI_1, nI_add, nI_z, z_nI, nI_lt0, nI_ge0, nI_gt0, nI_le0, ne_eq, Nat.le_zero_eq, Nat.not_lt_zero, Nat.lt_irrefl, Nat.le_refl, i10, true_or, ne_eq, not_true_eq_false, not_false_eq_true, Bool.false_eq_true, true_and, and_true, and_self, if_true, if_false, or_true, false_or, or_false, or_self, false_and, and_false, Nat.one_ne_zero, n01, Nat.reduceEqDiff, if_pos (show p < L by omega), if_neg (show ¬ 400 ≤ k by omega), e1, cr0, sc_2]
          · have : (-4 : Int32) < 0 := by decide
            rw [← x] at this
            exact absurd this (nI_pos (by omega))
  termination_by f => f
def N0 : Nat → Nat := fun i => if i = 0 then 8 else 0
def D0 : Nat → Nat → Int := fun _ _ => 0
theorem oB_0 : oB N0 D0 := by
  refine ⟨by decide, fun j hj => ?_, fun j hj => ?_, fun j hj => ?_, fun j hj => ?_⟩ <;> exact absurd hj (Nat.not_lt_zero j)
theorem s_WE_clear (I : Nat → Nat → Int32) (J : Nat → Nat → Int64) (q : Bool × Bool) (X : Nat × (Nat → Int32)) : gb_call 62 [.ref (gb_bs q + 2)] gb_pG (gS I J q X) = some (.null, gb_pG, gS (up (up (up I (gb_bs q + 2) 0 0) (gb_bs q + 2) 3 0) (gb_bs q + 2) 4 0) J q X) := by
  rw [cl_WE_clear]
  simp (disch := first | omega | decide | assumption | simp only [List.length_cons, List.length_nil, Nat.reduceAdd, Nat.reduceLeDiff, bb_at, bb_t1, bb_t2, bb_t3, bb_t4, bb_t5, bb_t6, bb_t7, bb_t8, bb_t9, bb_t10, bb_t11, bb_t12, bb_t13, bb_t14, bb_t15, bb_t16, bs_at, bs_t1, bs_t2, bs_t3, bs_t4, bs_t5, bs_t6, bs_t7, bs_t8, bs_t9, bs_t10, bs_t11, bs_t12, bs_t13, bs_t14, bs_t15, bs_t16, lb_at, lb_t1, lb_t2, lb_t13, lb_t24, lb_t35, lb_t36, lb_t37, lq_at, lq_t1, lq_t2, lq_t13, lq_t24, lq_t35, lq_t36, lq_t37]) only [x_aload_0, x_c_0, x_put_512, x_put_515, x_put_516, x_vret, bk_WE_clear_0, kil_int, kil_ref, kil_null, kil_long, kil_rA, psh_int, psh_long, psh_null, gI_gS, gL_gS, gR_gS, sI_gS, sL_gS, orf_some, Option.bind_some, List.length_cons, List.length_nil, Nat.reduceAdd, Nat.reduceLeDiff, if_true, if_false, Nat.zero_le]
theorem s_readFrom (I : Nat → Nat → Int32) (J : Nat → Nat → Int64) (q : Bool × Bool) (X : Nat × (Nat → Int32)) {L : Nat} {B : Nat → Nat} (h : rd I L B) : ∃ R N' D' I', gb_call 3 [.ref (gb_bs q), .ref (1 : Nat)] gb_pG (gS I J q X) = some (.int R, gb_pG, gS I' J q X) ∧ fres B L 400 N0 D0 0 R N' D' ∧ fC (gb_bs q) I I' ∧ (R = -4 → cR I' (gb_bs q) N' D' ∧ oB N' D') := by
  have hbs := gb_bs_r q
  have hL := h.1.1
  have hc := s_WE_clear (up I (gb_bs q) 1 8) J q X
  obtain ⟨I1, e1⟩ : ∃ I1, I1 = up (up (up (up (up (up (up I (gb_bs q) 1 8) (gb_bs q + 2) 0 0) (gb_bs q + 2) 3 0) (gb_bs q + 2) 4 0) (gb_bs q) 3 0) (gb_bs q) 8 0) 1 2 0 := ⟨_, rfl⟩
  have hs : gS (sc I1 (nI 0) (I1 1 3)) J q X = gS I1 J q X := by
    have : I1 = sc I1 (nI 0) (I1 1 3) := by
      conv => lhs; rw [← sc_id I1]
      rw [show I1 1 2 = nI 0 by rw [e1, up_same, upd_same]; rfl]
    rw [← this]
  have hf : fC (gb_bs q) I I1 := by
    refine ⟨fun k k1 k2 => ?_, fun a a1 a2 => ?_⟩
    · rw [e1, up_same, upd_ne k1]; simp (disch := first | omega | decide | assumption | simp only [List.length_cons, List.length_nil, Nat.reduceAdd, Nat.reduceLeDiff]) only [up_ne]
    · rw [e1]; simp (disch := first | omega | decide | assumption | simp only [List.length_cons, List.length_nil, Nat.reduceAdd, Nat.reduceLeDiff]) only [up_ne]
  have hR : cR I1 (gb_bs q) N0 D0 := by
    refine ⟨⟨?_, ?_, ?_, ?_, ?_⟩, fun j hj => absurd hj (Nat.not_lt_zero j), ⟨0, fun _ => 0, ?_, Nat.zero_le _, fun j hj => absurd hj (Nat.not_lt_zero j), fun i j _ hj => absurd hj (Nat.not_lt_zero j), fun j hj => absurd hj (Nat.not_lt_zero j)⟩, fun j hj => absurd hj (Nat.not_lt_zero j), fun j hj => absurd hj (Nat.not_lt_zero j)⟩
    · rw [e1]; simp (disch := first | omega | decide | assumption | simp only [List.length_cons, List.length_nil, Nat.reduceAdd, Nat.reduceLeDiff]) only [up_ne, up_same, upd_ne, upd_same]; rfl
    · rw [e1]; simp (disch := first | omega | decide | assumption | simp only [List.length_cons, List.length_nil, Nat.reduceAdd, Nat.reduceLeDiff]) only [up_ne, up_same, upd_ne, upd_same]; rfl
    · rw [e1]; simp (disch := first | omega | decide | assumption | simp only [List.length_cons, List.length_nil, Nat.reduceAdd, Nat.reduceLeDiff]) only [up_ne, up_same, upd_ne, upd_same]; rfl
    · rw [e1]; simp (disch := first | omega | decide | assumption | simp only [List.length_cons, List.length_nil, Nat.reduceAdd, Nat.reduceLeDiff]) only [up_ne, up_same, upd_ne, upd_same]; rfl
    · rw [e1]; simp (disch := first | omega | decide | assumption | simp only [List.length_cons, List.length_nil, Nat.reduceAdd, Nat.reduceLeDiff]) only [up_ne, up_same, upd_ne, upd_same]; rfl
    · rw [e1]; simp (disch := first | omega | decide | assumption | simp only [List.length_cons, List.length_nil, Nat.reduceAdd, Nat.reduceLeDiff]) only [up_ne, up_same, upd_ne, upd_same]; rfl
  obtain ⟨R, N', D', I', u1, u2, u3, u4⟩ := l_readFrom J q X 400 0 0 N0 D0 I1 (I1 1 3) .null (rd_fC h hf) hR oB_0 (by omega) (by omega) (by omega)
  refine ⟨R, N', D', I', ?_, u2, fC_tr hf u3, u4⟩
  rw [hs] at u1
  rw [cl_BE_readFrom, ← u1, e1]
  simp (disch := first | omega | decide | assumption | simp only [List.length_cons, List.length_nil, Nat.reduceAdd, Nat.reduceLeDiff, bb_at, bb_t1, bb_t2, bb_t3, bb_t4, bb_t5, bb_t6, bb_t7, bb_t8, bb_t9, bb_t10, bb_t11, bb_t12, bb_t13, bb_t14, bb_t15, bb_t16, bs_at, bs_t1, bs_t2, bs_t3, bs_t4, bs_t5, bs_t6, bs_t7, bs_t8, bs_t9, bs_t10, bs_t11, bs_t12, bs_t13, bs_t14, bs_t15, bs_t16, lb_at, lb_t1, lb_t2, lb_t13, lb_t24, lb_t35, lb_t36, lb_t37, lq_at, lq_t1, lq_t2, lq_t13, lq_t24, lq_t35, lq_t36, lq_t37]) only [x_aload_0, x_c_8, x_put_1, x_get_2, xc_WE_clear, x_c_0, x_put_3, x_put_8, x_aload_1, x_put_322, x_istore_2, x_iload_2, x_c_400, x_ic_ge, xc_SC_hasMore, x_if_eq, x_get_322, x_istore_3, xc_BE_readItem, x_if_ne, x_iload_3, x_iret, x_iinc_2_1, x_goto, x_c_m4, tg_BE_readFrom_17, tg_BE_readFrom_32, tg_BE_readFrom_34, bk_BE_readFrom_0, bk_BE_readFrom_32, bk_BE_readFrom_34, kil_int, kil_ref, kil_null, kil_long, kil_rA, psh_int, psh_long, psh_null, gI_gS, gL_gS, gR_gS, sI_gS, sL_gS, orf_some, Option.bind_some, List.length_cons, List.length_nil, Nat.reduceAdd, Nat.reduceLeDiff, if_true, if_false, Nat.zero_le, at_1, bb_r0, bb_r2, bb_r4, bb_r5, bb_r6, bb_r7, bb_r9, bb_r10, bb_r11, bb_r12, bb_r13, bb_w1, bb_w2, bb_w5, bb_w6, bb_w7, bs_r0, bs_r2, bs_r4, bs_r5, bs_r6, bs_r7, bs_r9, bs_r10, bs_r11, bs_r12, bs_r13, bs_w1, bs_w2, bs_w5, bs_w6, bs_w7, lb_r1, lb_r2, lb_r3, lb_r4, lb_r5, lb_r6, lb_r7, lq_r1, lq_r2, lq_r3, lq_r4, lq_r5, lq_r6, lq_r7, bb_l1, bb_l3, bb_l4, bb_l5, bb_l6, bb_l7, bb_l8, bb_l9, bb_l10, bb_l11, bb_l12, bb_l13, bb_l14, bb_l15, bb_l16, bs_l1, bs_l3, bs_l4, bs_l5, bs_l6, bs_l7, bs_l8, bs_l9, bs_l10, bs_l11, bs_l12, bs_l13, bs_l14, bs_l15, bs_l16, lb_l1, lb_l2, lb_l13, lb_l24, lb_l35, lb_l36, lb_l37, lq_l1, lq_l2, lq_l13, lq_l24, lq_l35, lq_l36, lq_l37, hc]
  rfl
theorem l_fault0 (J : Nat → Nat → Int64) (q : Bool × Bool) (X : Nat × (Nat → Int32)) {L : Nat} {B : Nat → Nat} : ∀ (f p : Nat) (N : Nat → Nat) (D : Nat → Nat → Int) (I : Nat → Nat → Int32) (v : Int32) (z : Value), rd I L B → mR I 1 N D → oB N D → L ≤ p + f → p ≤ 1000 → ∃ R N' D' I', gb_ex 128 bk_RM_fault_33 [.ref (190 : Nat), .int 0, z] [] gb_pG (gS (md I (nI p) v) J q X) = some (.int R, gb_pG, gS I' J q X) ∧ fres B L f N D p R N' D' ∧ fM I I' ∧ (R = -4 → mR I' 1 N' D')
  | f, p, N, D, I, v, z, h, hR, ho, h1, h3 => by
    have hL := h.1.1
    have hl : I 190 0 = nI L := h.1.2.2.1
    have hl2 := md_1 (I := I) (p := nI p) (v := v) (k := 0) (by decide) (by decide)
    rw [hl] at hl2
    by_cases c : L ≤ p
    · refine ⟨-4, N, D, md I (nI p) v, ?_, ?_, fM_md (fM_refl I) _ _, fun _ => mR_fr hR (fun a a1 a2 => md_n (by omega))⟩
      · rw [bk_RM_fault_33]
        simp (disch := first | omega | decide | assumption | simp only [List.length_cons, List.length_nil, Nat.reduceAdd, Nat.reduceLeDiff, bb_at, bb_t1, bb_t2, bb_t3, bb_t4, bb_t5, bb_t6, bb_t7, bb_t8, bb_t9, bb_t10, bb_t11, bb_t12, bb_t13, bb_t14, bb_t15, bb_t16, bs_at, bs_t1, bs_t2, bs_t3, bs_t4, bs_t5, bs_t6, bs_t7, bs_t8, bs_t9, bs_t10, bs_t11, bs_t12, bs_t13, bs_t14, bs_t15, bs_t16, lb_at, lb_t1, lb_t2, lb_t13, lb_t24, lb_t35, lb_t36, lb_t37, lq_at, lq_t1, lq_t2, lq_t13, lq_t24, lq_t35, lq_t36, lq_t37]) only [x_aload_0, x_c_0, x_put_642, x_get_643, x_c_1, x_c_8, x_iast, x_get_644, x_get_646, x_get_648, x_get_650, x_get_652, x_get_642, x_get_640, x_ic_ge, x_istore_2, x_put_674, x_iload_1, x_if_eq, xc_RM_ruleItem, x_goto, xc_RM_item, x_get_674, x_if_ne, x_iload_2, x_iret, x_c_m4, tg_RM_fault_33, tg_RM_fault_49, tg_RM_fault_51, tg_RM_fault_56, tg_RM_fault_57, bk_RM_fault_0, bk_RM_fault_49, bk_RM_fault_51, bk_RM_fault_56, bk_RM_fault_57, kil_int, kil_ref, kil_null, kil_long, kil_rA, psh_int, psh_long, psh_null, gI_gS, gL_gS, gR_gS, sI_gS, sL_gS, orf_some, Option.bind_some, List.length_cons, List.length_nil, Nat.reduceAdd, Nat.reduceLeDiff, if_true, if_false, Nat.zero_le, at_190, md_2, hl2, nI_ltI, nI_leI, nI_eq, nI_ltL, nI_leL, L_ltI, L_leI, nI_eqL, L_eqI, oob_nI, ix_nI, oob_L, ix_L, nI_1, nI_add, nI_z, z_nI, nI_lt0, nI_ge0, nI_gt0, nI_le0, ne_eq, Nat.le_zero_eq, Nat.not_lt_zero, Nat.lt_irrefl, Nat.le_refl, i10, true_or, ne_eq, not_true_eq_false, not_false_eq_true, Bool.false_eq_true, true_and, and_true, and_self, if_true, if_false, or_true, false_or, or_false, or_self, false_and, and_false, Nat.one_ne_zero, n01, Nat.reduceEqDiff, c]
      · cases f with
        | zero => exact ⟨rfl, rfl, rfl⟩
        | succ f => exact Or.inl ⟨c, rfl, rfl, rfl⟩
    · match f, h1 with
      | 0, h1 => omega
      | f + 1, h1 =>
        obtain ⟨g, a, I', e1, e2, e3, e4, e5⟩ := s_item I J q X h hR ho (p := p) (by omega)
        by_cases cr : g = 1
        · obtain ⟨cc, hcc, ha, hR', hp'⟩ := e5 cr
          have hb := pp_b B (p + 1) (cc + 1)
          subst hp'
          obtain ⟨R, N', D', I2, u1, u2, u3, u4⟩ := l_fault0 J q X f (pp B (p + 1) (cc + 1)) _ _ I' (nI g) (.int (nI p)) (rd_fM h e3) hR' (oB_ad ho ha.2.2) (by omega) (by omega)
          refine ⟨R, N', D', I2, ?_, Or.inr (Or.inr ⟨by omega, cc, hcc, ha, u2⟩), fM_tr e3 u3, u4⟩
          rw [bk_RM_fault_33, ← u1]
          simp (disch := first | omega | decide | assumption | simp only [List.length_cons, List.length_nil, Nat.reduceAdd, Nat.reduceLeDiff, bb_at, bb_t1, bb_t2, bb_t3, bb_t4, bb_t5, bb_t6, bb_t7, bb_t8, bb_t9, bb_t10, bb_t11, bb_t12, bb_t13, bb_t14, bb_t15, bb_t16, bs_at, bs_t1, bs_t2, bs_t3, bs_t4, bs_t5, bs_t6, bs_t7, bs_t8, bs_t9, bs_t10, bs_t11, bs_t12, bs_t13, bs_t14, bs_t15, bs_t16, lb_at, lb_t1, lb_t2, lb_t13, lb_t24, lb_t35, lb_t36, lb_t37, lq_at, lq_t1, lq_t2, lq_t13, lq_t24, lq_t35, lq_t36, lq_t37]) only [x_aload_0, x_c_0, x_put_642, x_get_643, x_c_1, x_c_8, x_iast, x_get_644, x_get_646, x_get_648, x_get_650, x_get_652, x_get_642, x_get_640, x_ic_ge, x_istore_2, x_put_674, x_iload_1, x_if_eq, xc_RM_ruleItem, x_goto, xc_RM_item, x_get_674, x_if_ne, x_iload_2, x_iret, x_c_m4, tg_RM_fault_33, tg_RM_fault_49, tg_RM_fault_51, tg_RM_fault_56, tg_RM_fault_57, bk_RM_fault_0, bk_RM_fault_49, bk_RM_fault_51, bk_RM_fault_56, bk_RM_fault_57, kil_int, kil_ref, kil_null, kil_long, kil_rA, psh_int, psh_long, psh_null, gI_gS, gL_gS, gR_gS, sI_gS, sL_gS, orf_some, Option.bind_some, List.length_cons, List.length_nil, Nat.reduceAdd, Nat.reduceLeDiff, if_true, if_false, Nat.zero_le, at_190, md_2, md_3, up_md3, hl2, nI_ltI, nI_leI, nI_eq, nI_ltL, nI_leL, L_ltI, L_leI, nI_eqL, L_eqI, oob_nI, ix_nI, oob_L, ix_L, nI_1, nI_add, nI_z, z_nI, nI_lt0, nI_ge0, nI_gt0, nI_le0, ne_eq, Nat.le_zero_eq, Nat.not_lt_zero, Nat.lt_irrefl, Nat.le_refl, i10, true_or, ne_eq, not_true_eq_false, not_false_eq_true, Bool.false_eq_true, true_and, and_true, and_self, if_true, if_false, or_true, false_or, or_false, or_self, false_and, and_false, Nat.one_ne_zero, n01, Nat.reduceEqDiff, if_neg c, e1, cr]
        · have cr0 : g = 0 := by omega
          refine ⟨nI p, N, D, md I' (nI a) (nI g), ?_, Or.inr (Or.inl ⟨by omega, e4 cr0, rfl, rfl, rfl⟩), fM_md e3 _ _, fun x => ?_⟩
          · rw [bk_RM_fault_33]
            simp (disch := first | omega | decide | assumption | simp only [List.length_cons, List.length_nil, Nat.reduceAdd, Nat.reduceLeDiff, bb_at, bb_t1, bb_t2, bb_t3, bb_t4, bb_t5, bb_t6, bb_t7, bb_t8, bb_t9, bb_t10, bb_t11, bb_t12, bb_t13, bb_t14, bb_t15, bb_t16, bs_at, bs_t1, bs_t2, bs_t3, bs_t4, bs_t5, bs_t6, bs_t7, bs_t8, bs_t9, bs_t10, bs_t11, bs_t12, bs_t13, bs_t14, bs_t15, bs_t16, lb_at, lb_t1, lb_t2, lb_t13, lb_t24, lb_t35, lb_t36, lb_t37, lq_at, lq_t1, lq_t2, lq_t13, lq_t24, lq_t35, lq_t36, lq_t37]) only [x_aload_0, x_c_0, x_put_642, x_get_643, x_c_1, x_c_8, x_iast, x_get_644, x_get_646, x_get_648, x_get_650, x_get_652, x_get_642, x_get_640, x_ic_ge, x_istore_2, x_put_674, x_iload_1, x_if_eq, xc_RM_ruleItem, x_goto, xc_RM_item, x_get_674, x_if_ne, x_iload_2, x_iret, x_c_m4, tg_RM_fault_33, tg_RM_fault_49, tg_RM_fault_51, tg_RM_fault_56, tg_RM_fault_57, bk_RM_fault_0, bk_RM_fault_49, bk_RM_fault_51, bk_RM_fault_56, bk_RM_fault_57, kil_int, kil_ref, kil_null, kil_long, kil_rA, psh_int, psh_long, psh_null, gI_gS, gL_gS, gR_gS, sI_gS, sL_gS, orf_some, Option.bind_some, List.length_cons, List.length_nil, Nat.reduceAdd, Nat.reduceLeDiff, if_true, if_false, Nat.zero_le, at_190, md_2, md_3, up_md3, hl2, nI_ltI, nI_leI, nI_eq, nI_ltL, nI_leL, L_ltI, L_leI, nI_eqL, L_eqI, oob_nI, ix_nI, oob_L, ix_L, nI_1, nI_add, nI_z, z_nI, nI_lt0, nI_ge0, nI_gt0, nI_le0, ne_eq, Nat.le_zero_eq, Nat.not_lt_zero, Nat.lt_irrefl, Nat.le_refl, i10, true_or, ne_eq, not_true_eq_false, not_false_eq_true, Bool.false_eq_true, true_and, and_true, and_self, if_true, if_false, or_true, false_or, or_false, or_self, false_and, and_false, Nat.one_ne_zero, n01, Nat.reduceEqDiff, if_neg c, e1, cr0]
          · have : (-4 : Int32) < 0 := by decide
            rw [← x] at this
            exact absurd this (nI_pos (by omega))
  termination_by f => f
/-- what the model's reading begins with -/
def mI0 (I : Nat → Nat → Int32) : Nat → Nat → Int32 := up (up (up (up (up (up I 192 1 8) 193 1 0) 195 1 0) 197 1 0) 199 1 0) 201 1 0
theorem mI0_f (I : Nat → Nat → Int32) : fM I (mI0 I) := fM_up (fM_up (fM_up (fM_up (fM_up (fM_up (fM_refl I) (by decide) (by decide) (by decide)) (by decide) (by decide) (by decide)) (by decide) (by decide) (by decide)) (by decide) (by decide) (by decide)) (by decide) (by decide) (by decide)) (by decide) (by decide) (by decide)
theorem mI0_R (I : Nat → Nat → Int32) : mR (mI0 I) 1 N0 D0 := by
  refine ⟨⟨?_, ?_, ?_, ?_, ?_⟩, fun r j _ hj => absurd hj (Nat.not_lt_zero j), fun r j _ hj => absurd hj (Nat.not_lt_zero j), fun r j _ hj => absurd hj (Nat.not_lt_zero j), fun r j _ hj => absurd hj (Nat.not_lt_zero j)⟩ <;> unfold mI0 <;> simp (disch := first | omega | decide | assumption | simp only [List.length_cons, List.length_nil, Nat.reduceAdd, Nat.reduceLeDiff]) only [up_ne, up_same, upd_same] <;> rfl
theorem s_RM_fault0 (I : Nat → Nat → Int32) (J : Nat → Nat → Int64) (q : Bool × Bool) (X : Nat × (Nat → Int32)) {L : Nat} {B : Nat → Nat} (h : rd I L B) : ∃ R N' D' I', gb_call 128 [.ref (190 : Nat), .int 0] gb_pG (gS I J q X) = some (.int R, gb_pG, gS I' J q X) ∧ fres B L 400 N0 D0 0 R N' D' ∧ fM I I' ∧ (R = -4 → mR I' 1 N' D') := by
  have hL := h.1.1
  obtain ⟨R, N', D', I', u1, u2, u3, u4⟩ := l_fault0 J q X 400 0 N0 D0 (mI0 I) (I 190 34) .null (rd_fM h (mI0_f I)) (mI0_R I) oB_0 (by omega) (by omega)
  refine ⟨R, N', D', I', ?_, u2, fM_tr (mI0_f I) u3, u4⟩
  have hs : gS (md (mI0 I) (nI 0) (I 190 34)) J q X = gS (mI0 (up I 190 2 0)) J q X := by
    have : md (mI0 I) (nI 0) (I 190 34) = mI0 (up I 190 2 0) := by
      have e : md I (nI 0) (I 190 34) = up I 190 2 0 := by
        conv => rhs; rw [← md_id I, up_md2]
        rfl
      rw [← e]
      unfold mI0
      simp (disch := first | omega | decide | assumption | simp only [List.length_cons, List.length_nil, Nat.reduceAdd, Nat.reduceLeDiff]) only [up_md]
    rw [this]
  rw [hs] at u1
  rw [cl_RM_fault, ← u1]
  unfold mI0
  simp (disch := first | omega | decide | assumption | simp only [List.length_cons, List.length_nil, Nat.reduceAdd, Nat.reduceLeDiff]) only [x_aload_0, x_c_0, x_put_642, x_get_643, x_c_1, x_c_8, x_iast, x_get_644, x_get_646, x_get_648, x_get_650, x_get_652, x_get_642, x_get_640, x_ic_ge, x_istore_2, x_put_674, x_iload_1, x_if_eq, xc_RM_ruleItem, x_goto, xc_RM_item, x_get_674, x_if_ne, x_iload_2, x_iret, x_c_m4, tg_RM_fault_33, tg_RM_fault_49, tg_RM_fault_51, tg_RM_fault_56, tg_RM_fault_57, bk_RM_fault_0, bk_RM_fault_49, bk_RM_fault_51, bk_RM_fault_56, bk_RM_fault_57, kil_int, kil_ref, kil_null, kil_long, kil_rA, psh_int, psh_long, psh_null, gI_gS, gL_gS, gR_gS, sI_gS, sL_gS, orf_some, Option.bind_some, List.length_cons, List.length_nil, Nat.reduceAdd, Nat.reduceLeDiff, if_true, if_false, Nat.zero_le, at_190, at_192, at_193, at_195, at_197, at_199, at_201, al_192, al_193, al_195, al_197, al_199, al_201, rw_190_3, rw_190_4, rw_190_6, rw_190_8, rw_190_10, rw_190_12, nI_ltI, nI_leI, nI_eq, nI_ltL, nI_leL, L_ltI, L_leI, nI_eqL, L_eqI, oob_nI, ix_nI, oob_L, ix_L, nI_1, nI_add, nI_z, z_nI, nI_lt0, nI_ge0, nI_gt0, nI_le0, ne_eq, Nat.le_zero_eq, Nat.not_lt_zero, Nat.lt_irrefl, Nat.le_refl, i10, true_or, ne_eq, not_true_eq_false, not_false_eq_true, Bool.false_eq_true, true_and, and_true, and_self, if_true, if_false, or_true, false_or, or_false, or_self, false_and, and_false, Nat.one_ne_zero, n01, Nat.reduceEqDiff]
theorem d_fault0 (I : Nat → Nat → Int32) (J : Nat → Nat → Int64) (q : Bool × Bool) (X : Nat × (Nat → Int32)) {L : Nat} (h : txt I L) : ∃ R I1 I2, gb_call 69 [.ref (0 : Nat), .int 0] gb_pG (gS I J q X) = some (.int R, gb_pG, gS I1 J q X) ∧ gb_call 128 [.ref (190 : Nat), .int 0] gb_pG (gS I1 J q X) = some (.int R, gb_pG, gS I2 J q X) ∧ fC (gb_bs q) I I1 ∧ fM I1 I2 := by
  obtain ⟨B, hB⟩ := rd_of h
  obtain ⟨R, N1, D1, I1, u1, u2, u3, -⟩ := s_readFrom I J q X hB
  obtain ⟨R', N2, D2, I2, v1, v2, v3, -⟩ := s_RM_fault0 I1 J q X (rd_fC hB u3)
  obtain ⟨rfl, -, -⟩ := fres_det u2 v2
  refine ⟨R, I1, I2, ?_, v1, u3, v3⟩
  rw [cl_GB_fault]
  simp (disch := first | omega | decide | assumption | simp only [List.length_cons, List.length_nil, Nat.reduceAdd, Nat.reduceLeDiff, bb_at, bb_t1, bb_t2, bb_t3, bb_t4, bb_t5, bb_t6, bb_t7, bb_t8, bb_t9, bb_t10, bb_t11, bb_t12, bb_t13, bb_t14, bb_t15, bb_t16, bs_at, bs_t1, bs_t2, bs_t3, bs_t4, bs_t5, bs_t6, bs_t7, bs_t8, bs_t9, bs_t10, bs_t11, bs_t12, bs_t13, bs_t14, bs_t15, bs_t16, lb_at, lb_t1, lb_t2, lb_t13, lb_t24, lb_t35, lb_t36, lb_t37, lq_at, lq_t1, lq_t2, lq_t13, lq_t24, lq_t35, lq_t36, lq_t37]) only [x_iload_1, x_if_eq, x_aload_0, x_get_585, x_get_576, xc_LW_readFrom, x_goto, x_get_583, xc_BE_readFrom, x_iret, tg_GB_fault_8, tg_GB_fault_13, bk_GB_fault_0, bk_GB_fault_8, bk_GB_fault_13, kil_int, kil_ref, kil_null, kil_long, kil_rA, psh_int, psh_long, psh_null, gI_gS, gL_gS, gR_gS, sI_gS, sL_gS, orf_some, Option.bind_some, List.length_cons, List.length_nil, Nat.reduceAdd, Nat.reduceLeDiff, if_true, if_false, Nat.zero_le, at_0, rw_0_0, rw_0_7, u1, i10, true_or, ne_eq, not_true_eq_false, not_false_eq_true, Bool.false_eq_true, true_and, and_true, and_self, if_true, if_false, or_true, false_or, or_false, or_self, false_and, and_false, Nat.one_ne_zero, n01, Nat.reduceEqDiff]
