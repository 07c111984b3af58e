def racc (r : Nat) (B : Nat → Nat) (p n : Nat) : Prop := r < 10 ∧ n ≤ 3 ∧ cnd B p n ∧ ocm B (op B p n)
def rres (B : Nat → Nat) (L : Nat) : Nat → Nat → (Nat → Nat → Nat) → Nat → Int32 → Nat → (Nat → Nat → Nat) → Prop
  | 0, r, E, _, R, r', E' => R = -4 ∧ r' = r ∧ E' = E
  | f + 1, r, E, p, R, r', E' => (L ≤ p ∧ R = -4 ∧ r' = r ∧ E' = E) ∨ (p < L ∧ (∀ n, ¬ racc r B p n) ∧ R = nI p ∧ r' = r ∧ E' = E) ∨ (p < L ∧ ∃ n, racc r B p n ∧ rres B L f (r + 1) (adE E r (erow B p n)) (oe B (op B p n)) R r' E')
theorem rres_det {B : Nat → Nat} {L : Nat} : ∀ {f r : Nat} {E : Nat → Nat → Nat} {p : Nat} {R R2 : Int32} {r' r2 : Nat} {E' E2 : Nat → Nat → Nat}, rres B L f r E p R r' E' → rres B L f r E p R2 r2 E2 → R = R2 ∧ r' = r2 ∧ E' = E2
  | 0, r, E, p, R, R2, r', r2, E', E2, h, h' => by
    obtain ⟨a, b, c⟩ := h
    obtain ⟨a', b', c'⟩ := h'
    exact ⟨a.trans a'.symm, b.trans b'.symm, c.trans c'.symm⟩
  | f + 1, r, E, p, R, R2, r', r2, E', E2, h, h' => by
    rcases h with ⟨h1, a, b, c⟩ | ⟨h1, h2, a, b, c⟩ | ⟨h1, c, ha, h2⟩
    · rcases h' with ⟨k1, a', b', c'⟩ | ⟨k1, k2, a', b', c'⟩ | ⟨k1, c', ha', k2⟩
      · exact ⟨a.trans a'.symm, b.trans b'.symm, c.trans c'.symm⟩
      · omega
      · omega
    · rcases h' with ⟨k1, a', b', c'⟩ | ⟨k1, k2, a', b', c'⟩ | ⟨k1, c', ha', k2⟩
      · omega
      · exact ⟨a.trans a'.symm, b.trans b'.symm, c.trans c'.symm⟩
      · exact absurd ha' (h2 c')
    · rcases h' with ⟨k1, a', b', c'⟩ | ⟨k1, k2, a', b', c'⟩ | ⟨k1, c', ha', k2⟩
      · omega
      · exact absurd ha (k2 c)
      · have := cnd_u ha.2.2.1 ha'.2.2.1
        subst this
        exact rres_det h2 k2
theorem lR_fr {I I' : Nat → Nat → Int32} {w r : Nat} {E : Nat → Nat → Nat} (h : lR I w r E) (hr : r ≤ 10) (hI : ∀ a, w ≤ a → a ≤ w + 37 → I' a = I a) : lR I' w r E := by
  refine ⟨by rw [hI w (by omega) (by omega)]; exact h.1, fun j hj => ?_⟩
  rw [hI (w + 1) (by omega) (by omega), hI (w + 3 + j) (by omega) (by omega), hI (w + 14 + j) (by omega) (by omega), hI (w + 25 + j) (by omega) (by omega), hI (w + 35) (by omega) (by omega), hI (w + 36) (by omega) (by omega), hI (w + 37) (by omega) (by omega)]
  exact h.2 j hj
/-- where a rule ends -/
theorem oe_b (B : Nat → Nat) (o : Nat) : o + 2 ≤ oe B o ∧ oe B o ≤ o + 20 := by
  have := tnp_b B 0 (o + 1)
  have := tnp_b B 0 (tnp B 0 (o + 1) + 1)
  unfold oe
  omega
theorem op_b (B : Nat → Nat) (p n : Nat) (hn : n ≤ 3) : p + 1 ≤ op B p n ∧ op B p n ≤ p + 21 := by
  have := cp_b B p n
  unfold op
  split <;> omega
theorem lR_ad {I : Nat → Nat → Int32} {w r : Nat} {E : Nat → Nat → Nat} {B : Nat → Nat} {p n : Nat} (hw : 1 < w) (h : lR I w r E) (hr : r < 10) (hn : n ≤ 3) : lR (up (up (up (up (ci I w r B p n) (w + 35) r (nI (ow B (op B p n)))) (w + 36) r (nI (tnv B 0 (op B p n + 1)))) (w + 37) r (nI (tnv B 0 (tnp B 0 (op B p n + 1) + 1)))) w 0 (nI (r + 1))) w (r + 1) (adE E r (erow B p n)) := by
  obtain ⟨h1, h2⟩ := h
  refine ⟨by rw [up_same, upd_same], fun j hj => ?_⟩
  unfold adE
  by_cases e : j = r
  · subst e
    simp only [if_true]
    refine ⟨hn, ?_, fun i hi => ?_, ?_, ?_, ?_⟩
    · simp (disch := first | omega | decide | assumption | simp only [List.length_cons, List.length_nil, Nat.reduceAdd, Nat.reduceLeDiff]) only [up_ne]
      rw [ci_c, if_pos rfl]
      rfl
    · have e0 : erow B p n 0 = n := rfl
      rw [e0] at hi
      have := ci_r (I := I) (w := w) (B := B) (p := p) hr n i hi
      have e3 := er_a B p n (show i < 3 by omega)
      simp (disch := first | omega | decide | assumption | simp only [List.length_cons, List.length_nil, Nat.reduceAdd, Nat.reduceLeDiff]) only [up_ne]
      rw [e3.1, e3.2.1, e3.2.2]
      exact this
    · simp (disch := first | omega | decide | assumption | simp only [List.length_cons, List.length_nil, Nat.reduceAdd, Nat.reduceLeDiff]) only [up_ne, up_same, upd_same]; rfl
    · simp (disch := first | omega | decide | assumption | simp only [List.length_cons, List.length_nil, Nat.reduceAdd, Nat.reduceLeDiff]) only [up_ne, up_same, upd_same]; rfl
    · simp (disch := first | omega | decide | assumption | simp only [List.length_cons, List.length_nil, Nat.reduceAdd, Nat.reduceLeDiff]) only [up_ne, up_same, upd_same]; rfl
  · simp only [if_neg e]
    have hj' : j < r := by omega
    obtain ⟨a1, a2, a3, a4, a5, a6⟩ := h2 j hj'
    refine ⟨a1, ?_, fun i hi => ?_, ?_, ?_, ?_⟩
    · simp (disch := first | omega | decide | assumption | simp only [List.length_cons, List.length_nil, Nat.reduceAdd, Nat.reduceLeDiff]) only [up_ne]
      rw [ci_c, if_neg e]
      exact a2
    · simp (disch := first | omega | decide | assumption | simp only [List.length_cons, List.length_nil, Nat.reduceAdd, Nat.reduceLeDiff]) only [up_ne]
      rw [ci_n (by omega) (by omega) (by omega) (by omega), ci_n (by omega) (by omega) (by omega) (by omega), ci_n (by omega) (by omega) (by omega) (by omega)]
      exact a3 i hi
    · simp (disch := first | omega | decide | assumption | simp only [List.length_cons, List.length_nil, Nat.reduceAdd, Nat.reduceLeDiff]) only [up_ne, up_same, upd_ne]
      rw [ci_n (by omega) (by omega) (by omega) (by omega)]
      exact a4
    · simp (disch := first | omega | decide | assumption | simp only [List.length_cons, List.length_nil, Nat.reduceAdd, Nat.reduceLeDiff]) only [up_ne, up_same, upd_ne]
      rw [ci_n (by omega) (by omega) (by omega) (by omega)]
      exact a5
    · simp (disch := first | omega | decide | assumption | simp only [List.length_cons, List.length_nil, Nat.reduceAdd, Nat.reduceLeDiff]) only [up_ne, up_same, upd_ne]
      rw [ci_n (by omega) (by omega) (by omega) (by omega)]
      exact a6
theorem l_readLaw (J : Nat → Nat → Int64) (q : Bool × Bool) (X : Nat × (Nat → Int32)) {L : Nat} {B : Nat → Nat} : ∀ (f k p r : Nat) (E : Nat → Nat → Nat) (I : Nat → Nat → Int32) (v : Int32) (z : Value), rd I L B → lR I (gb_lq q) r E → r ≤ 10 → L ≤ p + f → k ≤ p → p ≤ 800 → ∃ R r' E' I', gb_ex 17 bk_LW_readFrom_8 [.ref (gb_lq q), .ref (1 : Nat), .int (nI k), z] [] gb_pG (gS (sc I (nI p) v) J q X) = some (.int R, gb_pG, gS I' J q X) ∧ rres B L f r E p R r' E' ∧ fL (gb_lq q) I I' ∧ (R = -4 → lR I' (gb_lq q) r' E' ∧ r' ≤ 10)
  | f, k, p, r, E, I, v, z, h, hR, ho, h1, h2, h3 => by
    have hL := h.1.1
    have hm := s_SC_hasMore (sc I (nI p) v) J q X (rd_sc h (nI p) v).1 (sc_2 I (nI p) v) (by omega)
    have hq := gb_lq_r q
    have hI := hR.1
    have none : ∀ {x : Int32} {n : Nat}, n < 2147483648 → nI n = -4 → False := fun hn e => by
      have : (-4 : Int32) < 0 := by decide
      rw [← e] at this
      exact nI_pos hn this
    by_cases c : L ≤ p
    · refine ⟨-4, r, E, sc I (nI p) v, ?_, ?_, fL_sc (fL_refl _ I) _ _, fun _ => ⟨lR_fr hR ho (fun a a1 a2 => sc_n (by omega)), ho⟩⟩
      · rw [bk_LW_readFrom_8]
        simp (disch := first | omega | decide | assumption | simp only [List.length_cons, List.length_nil, Nat.reduceAdd, Nat.reduceLeDiff, bb_at, bb_t1, bb_t2, bb_t3, bb_t4, bb_t5, bb_t6, bb_t7, bb_t8, bb_t9, bb_t10, bb_t11, bb_t12, bb_t13, bb_t14, bb_t15, bb_t16, bs_at, bs_t1, bs_t2, bs_t3, bs_t4, bs_t5, bs_t6, bs_t7, bs_t8, bs_t9, bs_t10, bs_t11, bs_t12, bs_t13, bs_t14, bs_t15, bs_t16, lb_at, lb_t1, lb_t2, lb_t13, lb_t24, lb_t35, lb_t36, lb_t37, lq_at, lq_t1, lq_t2, lq_t13, lq_t24, lq_t35, lq_t36, lq_t37]) only [x_aload_0, x_c_0, x_put_128, x_aload_1, x_put_322, x_istore_2, x_iload_2, x_c_400, x_ic_ge, xc_SC_hasMore, x_if_eq, x_get_322, x_istore_3, x_get_128, x_c_10, xc_LW_readConditions, xc_LW_readOutcome, x_if_ne, x_iload_3, x_iret, x_dup_i, x_dup_r, x_c_1, x_iadd, x_iinc_2_1, x_goto, x_c_m4, tg_LW_readFrom_8, tg_LW_readFrom_29, tg_LW_readFrom_31, tg_LW_readFrom_39, bk_LW_readFrom_0, bk_LW_readFrom_29, bk_LW_readFrom_31, bk_LW_readFrom_39, kil_int, kil_ref, kil_null, kil_long, kil_rA, psh_int, psh_long, psh_null, gI_gS, gL_gS, gR_gS, sI_gS, sL_gS, orf_some, Option.bind_some, List.length_cons, List.length_nil, Nat.reduceAdd, Nat.reduceLeDiff, if_true, if_false, Nat.zero_le, at_1, hm, nI_ltI, nI_leI, nI_eq, nI_ltL, nI_leL, L_ltI, L_leI, nI_eqL, L_eqI, oob_nI, ix_nI, oob_L, ix_L, nI_1, nI_add, nI_z, z_nI, nI_lt0, nI_ge0, nI_gt0, nI_le0, ne_eq, Nat.le_zero_eq, Nat.not_lt_zero, Nat.lt_irrefl, Nat.le_refl, i10, true_or, ne_eq, not_true_eq_false, not_false_eq_true, Bool.false_eq_true, true_and, and_true, and_self, if_true, if_false, or_true, false_or, or_false, or_self, false_and, and_false, Nat.one_ne_zero, n01, Nat.reduceEqDiff, if_neg (show ¬ p < L by omega)]
        by_cases c2 : 400 ≤ k
        · rw [if_pos c2]
        · rw [if_neg c2]
      · cases f with
        | zero => exact ⟨rfl, rfl, rfl⟩
        | succ f => exact Or.inl ⟨c, rfl, rfl, rfl⟩
    · match f, h1 with
      | 0, h1 => omega
      | f + 1, h1 =>
        by_cases c10 : r < 10
        · obtain ⟨R1, I1, e1, e2, e3, e4, e5⟩ := s_readConds I J q X h (p := p) (by omega) c10 hI v
          by_cases cr : R1 = 1
          · obtain ⟨n, v', hn, hc, hI1⟩ := e5 cr
            have hopb := op_b B p n hn
            have hci := ci_f (I := I) (B := B) (p := p) (show 1 < gb_lq q by omega) c10 n
            have hcI : ci I (gb_lq q) r B p n (gb_lq q) 0 = nI r := by rw [ci_n (by omega) (by omega) (by omega) (by omega)]; exact hI
            obtain ⟨R2, I2, u1, u2, u3, u4, u5⟩ := s_readOutcome _ J q X (rd_fL h hci) (o := op B p n) (by omega) c10 hcI v'
            rw [hI1] at e1
            by_cases cr2 : R2 = 1
            · obtain ⟨v2, hI2⟩ := u5 cr2
              have ha : racc r B p n := ⟨c10, hn, hc, u4.mp cr2⟩
              have hob := oe_b B (op B p n)
              have hR2 := lR_ad (B := B) (p := p) (n := n) (show 1 < gb_lq q by omega) hR c10 hn
              obtain ⟨I3, f3⟩ : ∃ I3, I3 = up (up (up (up (ci I (gb_lq q) r B p n) (gb_lq q + 35) r (nI (ow B (op B p n)))) (gb_lq q + 36) r (nI (tnv B 0 (op B p n + 1)))) (gb_lq q + 37) r (nI (tnv B 0 (tnp B 0 (op B p n + 1) + 1)))) (gb_lq q) 0 (nI (r + 1)) := ⟨_, rfl⟩
              rw [← f3] at hR2
              have hf3 : fL (gb_lq q) I I3 := by
                rw [f3]
                exact fL_up (fL_up (fL_up (fL_up hci (by omega) (by omega) (by omega)) (by omega) (by omega) (by omega)) (by omega) (by omega) (by omega)) (by omega) (by omega) (by omega)
              obtain ⟨R, r', E', I4, w1, w2, w3, w4⟩ := l_readLaw J q X f (k + 1) (oe B (op B p n)) (r + 1) _ I3 v2 (.int (nI p)) (rd_fL h hf3) hR2 (by omega) (by omega) (by omega) (by omega)
              refine ⟨R, r', E', I4, ?_, Or.inr (Or.inr ⟨by omega, n, ha, w2⟩), fL_tr hf3 w3, w4⟩
              rw [bk_LW_readFrom_8, ← w1, f3]
              rw [hI2] at u1
              clear w1 w2 w3 w4 u4 u5 e4 e5 ha hc
              simp (disch := first | omega | decide | assumption | simp only [List.length_cons, List.length_nil, Nat.reduceAdd, Nat.reduceLeDiff, bb_at, bb_t1, bb_t2, bb_t3, bb_t4, bb_t5, bb_t6, bb_t7, bb_t8, bb_t9, bb_t10, bb_t11, bb_t12, bb_t13, bb_t14, bb_t15, bb_t16, bs_at, bs_t1, bs_t2, bs_t3, bs_t4, bs_t5, bs_t6, bs_t7, bs_t8, bs_t9, bs_t10, bs_t11, bs_t12, bs_t13, bs_t14, bs_t15, bs_t16, lb_at, lb_t1, lb_t2, lb_t13, lb_t24, lb_t35, lb_t36, lb_t37, lq_at, lq_t1, lq_t2, lq_t13, lq_t24, lq_t35, lq_t36, lq_t37]) only [x_aload_0, x_c_0, x_put_128, x_aload_1, x_put_322, x_istore_2, x_iload_2, x_c_400, x_ic_ge, xc_SC_hasMore, x_if_eq, x_get_322, x_istore_3, x_get_128, x_c_10, xc_LW_readConditions, xc_LW_readOutcome, x_if_ne, x_iload_3, x_iret, x_dup_i, x_dup_r, x_c_1, x_iadd, x_iinc_2_1, x_goto, x_c_m4, tg_LW_readFrom_8, tg_LW_readFrom_29, tg_LW_readFrom_31, tg_LW_readFrom_39, bk_LW_readFrom_0, bk_LW_readFrom_29, bk_LW_readFrom_31, bk_LW_readFrom_39, kil_int, kil_ref, kil_null, kil_long, kil_rA, psh_int, psh_long, psh_null, gI_gS, gL_gS, gR_gS, sI_gS, sL_gS, orf_some, Option.bind_some, List.length_cons, List.length_nil, Nat.reduceAdd, Nat.reduceLeDiff, if_true, if_false, Nat.zero_le, at_1, hm, nI_ltI, nI_leI, nI_eq, nI_ltL, nI_leL, L_ltI, L_leI, nI_eqL, L_eqI, oob_nI, ix_nI, oob_L, ix_L, nI_1, nI_add, nI_z, z_nI, nI_lt0, nI_ge0, nI_gt0, nI_le0, ne_eq, Nat.le_zero_eq, Nat.not_lt_zero, Nat.lt_irrefl, Nat.le_refl, i10, true_or, ne_eq, not_true_eq_false, not_false_eq_true, Bool.false_eq_true, true_and, and_true, and_self, if_true, if_false, or_true, false_or, or_false, or_self, false_and, and_false, Nat.one_ne_zero, n01, Nat.reduceEqDiff, if_pos (show p < L by omega), if_neg (show ¬ 400 ≤ k by omega), if_neg (show ¬ 10 ≤ r by omega), sc_2, sc_n, hI, e1, cr, u1, cr2, up_sc, up_ne, hcI]
            · have cr0 : R2 = 0 := by omega
              refine ⟨nI p, r, E, I2, ?_, Or.inr (Or.inl ⟨by omega, fun n' hn' => ?_, rfl, rfl, rfl⟩), fL_tr hci u3, fun x => (none (x := 0) (by omega) x).elim⟩
              · rw [bk_LW_readFrom_8]
                clear u4 u5 e4 e5 hc
                simp (disch := first | omega | decide | assumption | simp only [List.length_cons, List.length_nil, Nat.reduceAdd, Nat.reduceLeDiff, bb_at, bb_t1, bb_t2, bb_t3, bb_t4, bb_t5, bb_t6, bb_t7, bb_t8, bb_t9, bb_t10, bb_t11, bb_t12, bb_t13, bb_t14, bb_t15, bb_t16, bs_at, bs_t1, bs_t2, bs_t3, bs_t4, bs_t5, bs_t6, bs_t7, bs_t8, bs_t9, bs_t10, bs_t11, bs_t12, bs_t13, bs_t14, bs_t15, bs_t16, lb_at, lb_t1, lb_t2, lb_t13, lb_t24, lb_t35, lb_t36, lb_t37, lq_at, lq_t1, lq_t2, lq_t13, lq_t24, lq_t35, lq_t36, lq_t37]) only [x_aload_0, x_c_0, x_put_128, x_aload_1, x_put_322, x_istore_2, x_iload_2, x_c_400, x_ic_ge, xc_SC_hasMore, x_if_eq, x_get_322, x_istore_3, x_get_128, x_c_10, xc_LW_readConditions, xc_LW_readOutcome, x_if_ne, x_iload_3, x_iret, x_dup_i, x_dup_r, x_c_1, x_iadd, x_iinc_2_1, x_goto, x_c_m4, tg_LW_readFrom_8, tg_LW_readFrom_29, tg_LW_readFrom_31, tg_LW_readFrom_39, bk_LW_readFrom_0, bk_LW_readFrom_29, bk_LW_readFrom_31, bk_LW_readFrom_39, kil_int, kil_ref, kil_null, kil_long, kil_rA, psh_int, psh_long, psh_null, gI_gS, gL_gS, gR_gS, sI_gS, sL_gS, orf_some, Option.bind_some, List.length_cons, List.length_nil, Nat.reduceAdd, Nat.reduceLeDiff, if_true, if_false, Nat.zero_le, at_1, hm, nI_ltI, nI_leI, nI_eq, nI_ltL, nI_leL, L_ltI, L_leI, nI_eqL, L_eqI, oob_nI, ix_nI, oob_L, ix_L, nI_1, nI_add, nI_z, z_nI, nI_lt0, nI_ge0, nI_gt0, nI_le0, ne_eq, Nat.le_zero_eq, Nat.not_lt_zero, Nat.lt_irrefl, Nat.le_refl, i10, true_or, ne_eq, not_true_eq_false, not_false_eq_true, Bool.false_eq_true, true_and, and_true, and_self, if_true, if_false, or_true, false_or, or_false, or_self, false_and, and_false, Nat.one_ne_zero, n01, Nat.reduceEqDiff, if_pos (show p < L by omega), if_neg (show ¬ 400 ≤ k by omega), if_neg (show ¬ 10 ≤ r by omega), sc_2, sc_n, hI, e1, cr, u1, cr0]
              · have := cnd_u hc hn'.2.2.1
                subst this
                exact cr2 (u4.mpr hn'.2.2.2)
          · have cr0 : R1 = 0 := by omega
            refine ⟨nI p, r, E, I1, ?_, Or.inr (Or.inl ⟨by omega, fun n' hn' => e4 cr0 n' hn'.2.2.1, rfl, rfl, rfl⟩), e3, fun x => (none (x := 0) (by omega) x).elim⟩
            rw [bk_LW_readFrom_8]
            clear e4 e5
            simp (disch := first | omega | decide | assumption | simp only [List.length_cons, List.length_nil, Nat.reduceAdd, Nat.reduceLeDiff, bb_at, bb_t1, bb_t2, bb_t3, bb_t4, bb_t5, bb_t6, bb_t7, bb_t8, bb_t9, bb_t10, bb_t11, bb_t12, bb_t13, bb_t14, bb_t15, bb_t16, bs_at, bs_t1, bs_t2, bs_t3, bs_t4, bs_t5, bs_t6, bs_t7, bs_t8, bs_t9, bs_t10, bs_t11, bs_t12, bs_t13, bs_t14, bs_t15, bs_t16, lb_at, lb_t1, lb_t2, lb_t13, lb_t24, lb_t35, lb_t36, lb_t37, lq_at, lq_t1, lq_t2, lq_t13, lq_t24, lq_t35, lq_t36, lq_t37]) only [x_aload_0, x_c_0, x_put_128, x_aload_1, x_put_322, x_istore_2, x_iload_2, x_c_400, x_ic_ge, xc_SC_hasMore, x_if_eq, x_get_322, x_istore_3, x_get_128, x_c_10, xc_LW_readConditions, xc_LW_readOutcome, x_if_ne, x_iload_3, x_iret, x_dup_i, x_dup_r, x_c_1, x_iadd, x_iinc_2_1, x_goto, x_c_m4, tg_LW_readFrom_8, tg_LW_readFrom_29, tg_LW_readFrom_31, tg_LW_readFrom_39, bk_LW_readFrom_0, bk_LW_readFrom_29, bk_LW_readFrom_31, bk_LW_readFrom_39, kil_int, kil_ref, kil_null, kil_long, kil_rA, psh_int, psh_long, psh_null, gI_gS, gL_gS, gR_gS, sI_gS, sL_gS, orf_some, Option.bind_some, List.length_cons, List.length_nil, Nat.reduceAdd, Nat.reduceLeDiff, if_true, if_false, Nat.zero_le, at_1, hm, nI_ltI, nI_leI, nI_eq, nI_ltL, nI_leL, L_ltI, L_leI, nI_eqL, L_eqI, oob_nI, ix_nI, oob_L, ix_L, nI_1, nI_add, nI_z, z_nI, nI_lt0, nI_ge0, nI_gt0, nI_le0, ne_eq, Nat.le_zero_eq, Nat.not_lt_zero, Nat.lt_irrefl, Nat.le_refl, i10, true_or, ne_eq, not_true_eq_false, not_false_eq_true, Bool.false_eq_true, true_and, and_true, and_self, if_true, if_false, or_true, false_or, or_false, or_self, false_and, and_false, Nat.one_ne_zero, n01, Nat.reduceEqDiff, if_pos (show p < L by omega), if_neg (show ¬ 400 ≤ k by omega), if_neg (show ¬ 10 ≤ r by omega), sc_2, sc_n, hI, e1, cr0]
        · refine ⟨nI p, r, E, sc I (nI p) v, ?_, Or.inr (Or.inl ⟨by omega, fun n' hn' => c10 hn'.1, rfl, rfl, rfl⟩), fL_sc (fL_refl _ I) _ _, fun x => (none (x := 0) (by omega) x).elim⟩
          rw [bk_LW_readFrom_8]
          simp (disch := first | omega | decide | assumption | simp only [List.length_cons, List.length_nil, Nat.reduceAdd, Nat.reduceLeDiff, bb_at, bb_t1, bb_t2, bb_t3, bb_t4, bb_t5, bb_t6, bb_t7, bb_t8, bb_t9, bb_t10, bb_t11, bb_t12, bb_t13, bb_t14, bb_t15, bb_t16, bs_at, bs_t1, bs_t2, bs_t3, bs_t4, bs_t5, bs_t6, bs_t7, bs_t8, bs_t9, bs_t10, bs_t11, bs_t12, bs_t13, bs_t14, bs_t15, bs_t16, lb_at, lb_t1, lb_t2, lb_t13, lb_t24, lb_t35, lb_t36, lb_t37, lq_at, lq_t1, lq_t2, lq_t13, lq_t24, lq_t35, lq_t36, lq_t37]) only [x_aload_0, x_c_0, x_put_128, x_aload_1, x_put_322, x_istore_2, x_iload_2, x_c_400, x_ic_ge, xc_SC_hasMore, x_if_eq, x_get_322, x_istore_3, x_get_128, x_c_10, xc_LW_readConditions, xc_LW_readOutcome, x_if_ne, x_iload_3, x_iret, x_dup_i, x_dup_r, x_c_1, x_iadd, x_iinc_2_1, x_goto, x_c_m4, tg_LW_readFrom_8, tg_LW_readFrom_29, tg_LW_readFrom_31, tg_LW_readFrom_39, bk_LW_readFrom_0, bk_LW_readFrom_29, bk_LW_readFrom_31, bk_LW_readFrom_39, kil_int, kil_ref, kil_null, kil_long, kil_rA, psh_int, psh_long, psh_null, gI_gS, gL_gS, gR_gS, sI_gS, sL_gS, orf_some, Option.bind_some, List.length_cons, List.length_nil, Nat.reduceAdd, Nat.reduceLeDiff, if_true, if_false, Nat.zero_le, at_1, hm, nI_ltI, nI_leI, nI_eq, nI_ltL, nI_leL, L_ltI, L_leI, nI_eqL, L_eqI, oob_nI, ix_nI, oob_L, ix_L, nI_1, nI_add, nI_z, z_nI, nI_lt0, nI_ge0, nI_gt0, nI_le0, ne_eq, Nat.le_zero_eq, Nat.not_lt_zero, Nat.lt_irrefl, Nat.le_refl, i10, true_or, ne_eq, not_true_eq_false, not_false_eq_true, Bool.false_eq_true, true_and, and_true, and_self, if_true, if_false, or_true, false_or, or_false, or_self, false_and, and_false, Nat.one_ne_zero, n01, Nat.reduceEqDiff, if_pos (show p < L by omega), if_neg (show ¬ 400 ≤ k by omega), if_pos (show 10 ≤ r by omega), sc_2, sc_n, hI]
  termination_by f => f
def E0 : Nat → Nat → Nat := fun _ _ => 0
theorem s_readLaw (I : Nat → Nat → Int32) (J : Nat → Nat → Int64) (q : Bool × Bool) (X : Nat × (Nat → Int32)) {L : Nat} {B : Nat → Nat} (h : rd I L B) : ∃ R r' E' I', gb_call 17 [.ref (gb_lq q), .ref (1 : Nat)] gb_pG (gS I J q X) = some (.int R, gb_pG, gS I' J q X) ∧ rres B L 400 0 E0 0 R r' E' ∧ fL (gb_lq q) I I' ∧ (R = -4 → lR I' (gb_lq q) r' E' ∧ r' ≤ 10) := by
  have hq := gb_lq_r q
  have hL := h.1.1
  obtain ⟨I1, e1⟩ : ∃ I1, I1 = up (up I (gb_lq q) 0 0) 1 2 0 := ⟨_, rfl⟩
  have hs : gS (sc I1 (nI 0) (I1 1 3)) J q X = gS I1 J q X := by
    have : I1 = sc I1 (nI 0) (I1 1 3) := by
      conv => lhs; rw [← sc_id I1]
      rw [show I1 1 2 = nI 0 by rw [e1, up_same, upd_same]; rfl]
    rw [← this]
  have hf : fL (gb_lq q) I I1 := by
    refine ⟨fun k k1 k2 => ?_, fun a a1 a2 => ?_⟩
    · rw [e1, up_same, upd_ne k1]; simp (disch := first | omega | decide | assumption | simp only [List.length_cons, List.length_nil, Nat.reduceAdd, Nat.reduceLeDiff]) only [up_ne]
    · rw [e1]; simp (disch := first | omega | decide | assumption | simp only [List.length_cons, List.length_nil, Nat.reduceAdd, Nat.reduceLeDiff]) only [up_ne]
  have hR : lR I1 (gb_lq q) 0 E0 := by
    refine ⟨?_, fun j hj => absurd hj (Nat.not_lt_zero j)⟩
    rw [e1]; simp (disch := first | omega | decide | assumption | simp only [List.length_cons, List.length_nil, Nat.reduceAdd, Nat.reduceLeDiff]) only [up_ne, up_same, upd_same]; rfl
  obtain ⟨R, r', E', I', u1, u2, u3, u4⟩ := l_readLaw J q X 400 0 0 0 E0 I1 (I1 1 3) .null (rd_fL h hf) hR (by omega) (by omega) (by omega) (by omega)
  refine ⟨R, r', E', I', ?_, u2, fL_tr hf u3, u4⟩
  rw [hs] at u1
  rw [cl_LW_readFrom, ← u1, e1]
  simp (disch := first | omega | decide | assumption | simp only [List.length_cons, List.length_nil, Nat.reduceAdd, Nat.reduceLeDiff, bb_at, bb_t1, bb_t2, bb_t3, bb_t4, bb_t5, bb_t6, bb_t7, bb_t8, bb_t9, bb_t10, bb_t11, bb_t12, bb_t13, bb_t14, bb_t15, bb_t16, bs_at, bs_t1, bs_t2, bs_t3, bs_t4, bs_t5, bs_t6, bs_t7, bs_t8, bs_t9, bs_t10, bs_t11, bs_t12, bs_t13, bs_t14, bs_t15, bs_t16, lb_at, lb_t1, lb_t2, lb_t13, lb_t24, lb_t35, lb_t36, lb_t37, lq_at, lq_t1, lq_t2, lq_t13, lq_t24, lq_t35, lq_t36, lq_t37]) only [x_aload_0, x_c_0, x_put_128, x_aload_1, x_put_322, x_istore_2, x_iload_2, x_c_400, x_ic_ge, xc_SC_hasMore, x_if_eq, x_get_322, x_istore_3, x_get_128, x_c_10, xc_LW_readConditions, xc_LW_readOutcome, x_if_ne, x_iload_3, x_iret, x_dup_i, x_dup_r, x_c_1, x_iadd, x_iinc_2_1, x_goto, x_c_m4, tg_LW_readFrom_8, tg_LW_readFrom_29, tg_LW_readFrom_31, tg_LW_readFrom_39, bk_LW_readFrom_0, bk_LW_readFrom_29, bk_LW_readFrom_31, bk_LW_readFrom_39, kil_int, kil_ref, kil_null, kil_long, kil_rA, psh_int, psh_long, psh_null, gI_gS, gL_gS, gR_gS, sI_gS, sL_gS, orf_some, Option.bind_some, List.length_cons, List.length_nil, Nat.reduceAdd, Nat.reduceLeDiff, if_true, if_false, Nat.zero_le, at_1]
  rfl
