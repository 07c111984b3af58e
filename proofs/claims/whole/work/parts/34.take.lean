/-! reading: is it this byte? -/
theorem pk_is {I : Nat → Nat → Int32} {L p c : Nat} (h : txt I L) (hc : c ≤ 127) : ((if p < L then I 2 p &&& 255 else -1) = nI c) ↔ (p < L ∧ I 2 p = nI c) := by
  by_cases hp : p < L
  · obtain ⟨x, hx⟩ := (h.2.2.2 p hp).2
    rw [if_pos hp, hx, by_and x hc]
    simp [hp]
  · rw [if_neg hp]
    constructor
    · intro e
      have : (-1 : Int32) < 0 := by decide
      rw [e] at this
      exact absurd this (nI_pos (by omega))
    · rintro ⟨e, _⟩
      exact absurd e hp
theorem nx_is {I : Nat → Nat → Int32} {L p c : Nat} (hc : c ≤ 127) (hc0 : 1 ≤ c) : ((if p < L then I 2 p else 0) = nI c) ↔ (p < L ∧ I 2 p = nI c) := by
  by_cases hp : p < L
  · rw [if_pos hp]
    simp [hp]
  · rw [if_neg hp, z_nI (by omega)]
    constructor
    · intro e; omega
    · rintro ⟨e, _⟩
      exact absurd e hp
theorem s_SC_hasMore (I : Nat → Nat → Int32) (J : Nat → Nat → Int64) (q : Bool × Bool) (X : Nat × (Nat → Int32)) {L p : Nat} (h : txt I L) (hp : I 1 2 = nI p) (hp2 : p < 2147483648) : gb_call 38 [.ref (1 : Nat)] gb_pG (gS I J q X) = some (.int (if p < L then 1 else 0), gb_pG, gS I J q X) := by
  obtain ⟨h1, h2, h3, h4⟩ := h
  rw [cl_SC_hasMore]
  simp (disch := first | omega | decide | assumption | simp only [List.length_cons, List.length_nil, Nat.reduceAdd, Nat.reduceLeDiff]) only [x_aload_0, x_get_322, x_get_321, x_ic_ge, x_c_1, x_goto, x_c_0, x_zret, tg_SC_hasMore_7, tg_SC_hasMore_8, bk_SC_hasMore_0, bk_SC_hasMore_7, bk_SC_hasMore_8, kil_int, kil_ref, kil_null, kil_long, kil_rA, psh_int, psh_long, psh_null, gI_gS, gL_gS, gR_gS, sI_gS, sL_gS, orf_some, Option.bind_some, List.length_cons, List.length_nil, Nat.reduceAdd, Nat.reduceLeDiff, if_true, if_false, Nat.zero_le, at_1, hp, h2, nI_ltI, nI_leI, nI_eq, nI_ltL, nI_leL, L_ltI, L_leI, nI_eqL, L_eqI, oob_nI, ix_nI, oob_L, ix_L, nI_1, nI_add, nI_z, z_nI, nI_lt0, nI_ge0, nI_gt0, nI_le0, ne_eq, Nat.le_zero_eq, Nat.not_lt_zero, Nat.lt_irrefl, Nat.le_refl, i10, true_or, ne_eq, not_true_eq_false, not_false_eq_true, Bool.false_eq_true, true_and, and_true, and_self, if_true, if_false, ib_0, ib_1]
  by_cases c : p < L
  · rw [if_neg (by omega), if_pos c]
    try rfl
  · rw [if_pos (by omega), if_neg c]
theorem s_SC_take (I : Nat → Nat → Int32) (J : Nat → Nat → Int64) (q : Bool × Bool) (X : Nat × (Nat → Int32)) {L p c : Nat} (h : txt I L) (hp : I 1 2 = nI p) (hp2 : p < 2147483648) (hc : c ≤ 127) : gb_call 41 [.ref (1 : Nat), .int (nI c)] gb_pG (gS I J q X) = if p < L ∧ I 2 p = nI c then some (.int 1, gb_pG, gS (up I 1 2 (nI (p + 1))) J q X) else some (.int 0, gb_pG, gS I J q X) := by
  have hpk := s_SC_peek I J q X h hp hp2
  have hi := pk_is (p := p) h hc
  rw [cl_SC_take]
  simp (disch := first | omega | decide | assumption | simp only [List.length_cons, List.length_nil, Nat.reduceAdd, Nat.reduceLeDiff]) only [x_aload_0, xc_SC_peek, x_iload_1, x_ic_eq, x_c_0, x_zret, x_dup_i, x_dup_r, x_get_322, x_c_1, x_iadd, x_put_322, tg_SC_take_6, bk_SC_take_0, bk_SC_take_6, kil_int, kil_ref, kil_null, kil_long, kil_rA, psh_int, psh_long, psh_null, gI_gS, gL_gS, gR_gS, sI_gS, sL_gS, orf_some, Option.bind_some, List.length_cons, List.length_nil, Nat.reduceAdd, Nat.reduceLeDiff, if_true, if_false, Nat.zero_le, at_1, hpk, hp, hi, nI_1, i10, true_or, ne_eq, not_true_eq_false, not_false_eq_true, Bool.false_eq_true, true_and, and_true, and_self, if_true, if_false, ib_0, ib_1]
  rfl
theorem s_SC_takeByte (I : Nat → Nat → Int32) (J : Nat → Nat → Int64) (q : Bool × Bool) (X : Nat × (Nat → Int32)) {L p : Nat} (h : txt I L) (hp : I 1 2 = nI p) (hp2 : p < 2147483648) : gb_call 40 [.ref (1 : Nat)] gb_pG (gS I J q X) = some (.int (if p < L then I 2 p &&& 255 else -1), gb_pG, gS (up I 1 2 (nI (p + 1))) J q X) := by
  have hpk := s_SC_peek I J q X h hp hp2
  rw [cl_SC_takeByte]
  simp (disch := first | omega | decide | assumption | simp only [List.length_cons, List.length_nil, Nat.reduceAdd, Nat.reduceLeDiff]) only [x_aload_0, xc_SC_peek, x_istore_1, x_dup_i, x_dup_r, x_get_322, x_c_1, x_iadd, x_put_322, x_iload_1, x_iret, bk_SC_takeByte_0, kil_int, kil_ref, kil_null, kil_long, kil_rA, psh_int, psh_long, psh_null, gI_gS, gL_gS, gR_gS, sI_gS, sL_gS, orf_some, Option.bind_some, List.length_cons, List.length_nil, Nat.reduceAdd, Nat.reduceLeDiff, if_true, if_false, Nat.zero_le, at_1, hpk, hp, nI_1, i10, true_or, ne_eq, not_true_eq_false, not_false_eq_true, Bool.false_eq_true, true_and, and_true, and_self, if_true, if_false]
