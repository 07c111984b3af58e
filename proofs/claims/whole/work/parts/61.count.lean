/-! counting worlds -/
theorem bsz_of {I : Nat → Nat → Int32} {q : Bool × Bool} {N : Nat → Nat} {D : Nat → Nat → Int} (h : lay I q N D) : bsz I q (N 0) (N 3) (N 4) := by
  obtain ⟨⟨⟨a1, a2, a3, a4, a5⟩, -⟩, ⟨⟨b1, b2, b3, b4, b5⟩, -⟩, ⟨⟨o1, o2, o3, o4, o5, o6⟩, -⟩⟩ := h
  exact ⟨a1, b1, a4, b4, a5, b5, by omega, o5, o6⟩
theorem bkd_of {I : Nat → Nat → Int32} {q : Bool × Bool} {N : Nat → Nat} {D : Nat → Nat → Int} (h : lay I q N D) : bkd I q (N 3) := by
  intro k hk
  obtain ⟨a1, a2, a3, a4⟩ := h.1.2.2.2.1 k hk
  have b := fun r hr => m_k0 h.2.1 (r := r) (j := k) hr hk
  have b0 := b 0 (by omega)
  rw [Nat.add_zero] at b0
  exact ⟨by rw [a1, b0], by rw [a2, b 1 (by omega)], by rw [a3, b 2 (by omega)], by rw [a4, b 3 (by omega)]⟩
def ash (a b f t : Nat) : Option (Nat × Nat) → Bool
  | none => false
  | some (c, u) => decide ((a ≤ c ∧ c ≤ b) ∧ (f ≤ u ∧ u ≤ t))
def cb (b : Bool) : Nat := if b = true then 1 else 0
theorem l_howMany (I : Nat → Nat → Int32) (J : Nat → Nat → Int64) (q : Bool × Bool) (X : Nat × (Nat → Int32)) {l n : Nat} (hl : l < 8) (hn : n ≤ 110) (x f t : Int32) : ∀ d i k, d + i = n → gb_ex 15 bk_LA_howMany_4 [.ref (3 : Nat), .int (nI l), .int (nI n), .int x, .int f, .int t, .int (nI k), .int (nI i)] [] gb_pG (gS I J q X) = some (.int (nI (k + sm (fun w => if I (6 + l) w = x ∧ (f ≤ I (15 + l) w ∧ I (15 + l) w ≤ t) then 1 else 0) d i)), gb_pG, gS I J q X)
  | 0, i, k, e => by
    rw [bk_LA_howMany_4]
    simp (disch := first | omega | decide | assumption | simp only [List.length_cons, List.length_nil, Nat.reduceAdd, Nat.reduceLeDiff]) only [x_c_0, x_istore_6, x_istore_7, x_iload_7, x_iload_2, x_ic_ge, x_c_110, x_aload_0, x_get_67, x_iload_1, x_aald, x_aaldJ, x_iald, x_iload_3, x_ic_ne, x_get_68, x_iload_4, x_iload_5, xc_GB_within, x_if_eq, x_iinc_6_1, x_iinc_7_1, x_goto, x_iload_6, x_iret, tg_LA_howMany_4, tg_LA_howMany_29, tg_LA_howMany_31, bk_LA_howMany_0, bk_LA_howMany_29, bk_LA_howMany_31, kil_int, kil_ref, kil_null, kil_long, kil_rA, psh_int, psh_long, psh_null, gI_gS, gL_gS, gR_gS, sI_gS, sL_gS, orf_some, Option.bind_some, List.length_cons, List.length_nil, Nat.reduceAdd, Nat.reduceLeDiff, if_true, if_false, Nat.zero_le, nI_ltI, nI_leI, nI_eq, nI_ltL, nI_leL, L_ltI, L_leI, nI_eqL, L_eqI, oob_nI, ix_nI, oob_L, ix_L, nI_1, nI_add, nI_z, z_nI, nI_lt0, nI_ge0, nI_gt0, nI_le0, ne_eq, Nat.le_zero_eq, Nat.not_lt_zero, Nat.lt_irrefl, Nat.le_refl, i10, true_or, ne_eq, not_true_eq_false, not_false_eq_true, Bool.false_eq_true, true_and, and_true, and_self, if_true, if_false, or_true, false_or, or_false, or_self, false_and, and_false, Nat.one_ne_zero, n01, Nat.reduceEqDiff, if_pos (show n ≤ i by omega), sm, Nat.add_zero]
  | d + 1, i, k, e => by
    have ih := fun k => l_howMany I J q X (l := l) hl hn x f t d (i + 1) k (by omega)
    have t6 := atr_5 (k := l) hl
    have t15 := atr_14 (k := l) hl
    rw [bk_LA_howMany_4, sm]
    simp (disch := first | omega | decide | assumption | simp only [List.length_cons, List.length_nil, Nat.reduceAdd, Nat.reduceLeDiff]) only [x_c_0, x_istore_6, x_istore_7, x_iload_7, x_iload_2, x_ic_ge, x_c_110, x_aload_0, x_get_67, x_iload_1, x_aald, x_aaldJ, x_iald, x_iload_3, x_ic_ne, x_get_68, x_iload_4, x_iload_5, xc_GB_within, x_if_eq, x_iinc_6_1, x_iinc_7_1, x_goto, x_iload_6, x_iret, tg_LA_howMany_4, tg_LA_howMany_29, tg_LA_howMany_31, bk_LA_howMany_0, bk_LA_howMany_29, bk_LA_howMany_31, kil_int, kil_ref, kil_null, kil_long, kil_rA, psh_int, psh_long, psh_null, gI_gS, gL_gS, gR_gS, sI_gS, sL_gS, orf_some, Option.bind_some, List.length_cons, List.length_nil, Nat.reduceAdd, Nat.reduceLeDiff, if_true, if_false, Nat.zero_le, at_3, at_5, at_14, al_5, al_14, rw_3_3, rw_3_4, rw_5, rw_14, alr_5, alr_14, nI_ltI, nI_leI, nI_eq, nI_ltL, nI_leL, L_ltI, L_leI, nI_eqL, L_eqI, oob_nI, ix_nI, oob_L, ix_L, nI_1, nI_add, nI_z, z_nI, nI_lt0, nI_ge0, nI_gt0, nI_le0, ne_eq, Nat.le_zero_eq, Nat.not_lt_zero, Nat.lt_irrefl, Nat.le_refl, i10, true_or, ne_eq, not_true_eq_false, not_false_eq_true, Bool.false_eq_true, true_and, and_true, and_self, if_true, if_false, or_true, false_or, or_false, or_self, false_and, and_false, Nat.one_ne_zero, n01, Nat.reduceEqDiff, if_neg (show ¬ n ≤ i by omega), if_neg (show ¬ 110 ≤ i by omega), s_GB_within, ite_b1, ite_b2, ih]
    by_cases c1 : I (6 + l) i = x
    · by_cases c2 : f ≤ I (15 + l) i ∧ I (15 + l) i ≤ t
      · simp only [c1, c2, i10, true_or, ne_eq, not_true_eq_false, not_false_eq_true, Bool.false_eq_true, true_and, and_true, and_self, if_true, if_false, or_true, false_or, or_false, or_self, false_and, and_false, Nat.one_ne_zero, n01, Nat.reduceEqDiff, if_true, Nat.add_assoc]
      · simp only [c1, c2, i10, true_or, ne_eq, not_true_eq_false, not_false_eq_true, Bool.false_eq_true, true_and, and_true, and_self, if_true, if_false, or_true, false_or, or_false, or_self, false_and, and_false, Nat.one_ne_zero, n01, Nat.reduceEqDiff, if_true, if_false, Nat.add_assoc, Nat.zero_add, and_false]
    · simp only [c1, i10, true_or, ne_eq, not_true_eq_false, not_false_eq_true, Bool.false_eq_true, true_and, and_true, and_self, if_true, if_false, or_true, false_or, or_false, or_self, false_and, and_false, Nat.one_ne_zero, n01, Nat.reduceEqDiff, if_true, if_false, Nat.zero_add, false_and]
theorem s_howMany (I : Nat → Nat → Int32) (J : Nat → Nat → Int64) (q : Bool × Bool) (X : Nat × (Nat → Int32)) {l n : Nat} (hl : l < 8) (hn : n ≤ 110) (x f t : Int32) : gb_call 15 [.ref (3 : Nat), .int (nI l), .int (nI n), .int x, .int f, .int t] gb_pG (gS I J q X) = some (.int (nI (sm (fun w => if I (6 + l) w = x ∧ (f ≤ I (15 + l) w ∧ I (15 + l) w ≤ t) then 1 else 0) n 0)), gb_pG, gS I J q X) := by
  rw [cl_LA_howMany]
  have := l_howMany I J q X (l := l) hl hn x f t n 0 0 (by omega)
  rw [Nat.zero_add] at this
  rw [← this]
  simp only [x_c_0, x_istore_6, x_istore_7, x_iload_7, x_iload_2, x_ic_ge, x_c_110, x_aload_0, x_get_67, x_iload_1, x_aald, x_aaldJ, x_iald, x_iload_3, x_ic_ne, x_get_68, x_iload_4, x_iload_5, xc_GB_within, x_if_eq, x_iinc_6_1, x_iinc_7_1, x_goto, x_iload_6, x_iret, tg_LA_howMany_4, tg_LA_howMany_29, tg_LA_howMany_31, bk_LA_howMany_0, bk_LA_howMany_29, bk_LA_howMany_31, kil_int, kil_ref, kil_null, kil_long, kil_rA, psh_int, psh_long, psh_null, gI_gS, gL_gS, gR_gS, sI_gS, sL_gS, orf_some, Option.bind_some, List.length_cons, List.length_nil, Nat.reduceAdd, Nat.reduceLeDiff, if_true, if_false, Nat.zero_le]
  rfl
theorem rC_m (o : Option (Nat × Nat)) (h : ∀ c t, o = some (c, t) → c < 16 ∧ t ≤ 999) (x : Nat) (hx : x < 16) : rC o = nI x ↔ ∃ t, o = some (x, t) := by
  cases o with
  | none =>
    constructor
    · intro e
      have h1 : (-1 : Int32) < 0 := by decide
      have e : (-1 : Int32) = nI x := e
      rw [e] at h1
      exact absurd h1 (nI_pos (by omega))
    · rintro ⟨t, e⟩
      cases e
  | some p =>
    have := h p.1 p.2 rfl
    show nI p.1 = nI x ↔ _
    rw [nI_eq (by omega) (by omega)]
    constructor
    · intro e
      exact ⟨p.2, by rw [← e]⟩
    · rintro ⟨t, e⟩
      cases e
      rfl
/-- how many worlds of a loss came ashore so -/
def cn (N : Nat → Nat) (D : Nat → Nat → Int) (l : Nat) (P : Option (Nat × Nat) → Nat → Bool) : Nat := sm (fun w => cb (P (wo N D l w) w)) (Wn D l) 0
theorem how_ash {I : Nat → Nat → Int32} {N : Nat → Nat} {D : Nat → Nat → Int} (ho : oB N D) {l x f t : Nat} (hl : l < N 4) (hv : ∀ w, w < Wn D l → I (6 + l) w = rC (wo N D l w) ∧ I (15 + l) w = rT (wo N D l w)) (hx : x < 16) (hf : f ≤ 999) (ht : t ≤ 999) : sm (fun w => if I (6 + l) w = nI x ∧ (nI f ≤ I (15 + l) w ∧ I (15 + l) w ≤ nI t) then 1 else 0) (Wn D l) 0 = cn N D l (fun o _ => ash x x f t o) := by
  refine sm_congr fun w _ hw => ?_
  obtain ⟨v1, v2⟩ := hv w (by omega)
  have o2 := ho.1.2.1
  have hb : ∀ c t, wo N D l w = some (c, t) → c < 16 ∧ t ≤ 999 := fun c t h => by
    have := wo_b ho hl h
    omega
  rw [v1, v2]
  unfold cb
  cases e : wo N D l w with
  | none =>
    have : ¬ (rC none = nI x) := fun h => by
      obtain ⟨t, ht⟩ := (rC_m none (fun _ _ h => by cases h) x hx).mp h
      cases ht
    rw [if_neg (fun h => this h.1)]
    rfl
  | some p =>
    have hp := hb p.1 p.2 e
    have e1 : rC (some p) = nI x ↔ p.1 = x := nI_eq (by omega) (by omega)
    have e2 : nI f ≤ rT (some p) ↔ f ≤ p.2 := nI_leI (by omega) (by omega)
    have e3 : rT (some p) ≤ nI t ↔ p.2 ≤ t := nI_leI (by omega) (by omega)
    have e4 : ash x x f t (some p) = decide ((x ≤ p.1 ∧ p.1 ≤ x) ∧ (f ≤ p.2 ∧ p.2 ≤ t)) := rfl
    by_cases c : p.1 = x ∧ (f ≤ p.2 ∧ p.2 ≤ t)
    · exact (if_pos ⟨e1.mpr c.1, e2.mpr c.2.1, e3.mpr c.2.2⟩).trans (if_pos (by show ash x x f t (some p) = true; rw [e4, decide_eq_true_eq]; omega)).symm
    · exact (if_neg (fun h => c ⟨e1.mp h.1, e2.mp h.2.1, e3.mp h.2.2⟩)).trans (if_neg (by show ¬ ash x x f t (some p) = true; rw [e4, decide_eq_true_eq]; omega)).symm
theorem how_gone {I : Nat → Nat → Int32} {N : Nat → Nat} {D : Nat → Nat → Int} (ho : oB N D) {l : Nat} (hl : l < N 4) (hv : ∀ w, w < Wn D l → I (6 + l) w = rC (wo N D l w) ∧ I (15 + l) w = rT (wo N D l w)) : sm (fun w => if I (6 + l) w = -1 ∧ (-1 ≤ I (15 + l) w ∧ I (15 + l) w ≤ 999) then 1 else 0) (Wn D l) 0 = cn N D l (fun o _ => o.isNone) := by
  refine sm_congr fun w _ hw => ?_
  obtain ⟨v1, v2⟩ := hv w (by omega)
  have o2 := ho.1.2.1
  rw [v1, v2]
  unfold cb
  cases e : wo N D l w with
  | none =>
    exact (if_pos (by decide : rC none = -1 ∧ (-1 ≤ rT none ∧ rT none ≤ 999))).trans rfl
  | some p =>
    have hp := wo_b ho hl e
    have : ¬ nI p.1 = -1 := fun h => by
      have h1 : (-1 : Int32) < 0 := by decide
      rw [← h] at h1
      exact nI_pos (by omega) h1
    exact (if_neg (fun h => this h.1)).trans rfl
/-- the model's reports gainsay a world -/
def gs (I : Nat → Nat → Int32) (q : Bool × Bool) (nr k : Nat) : Option (Nat × Nat) → Bool
  | none => false
  | some (c, t) => la (sn I (nI k) (nI c) (nI t) (I (gb_bb q + 10) k)) nr 0
theorem s_isGainsaid (I : Nat → Nat → Int32) (J : Nat → Nat → Int64) (q : Bool × Bool) (X : Nat × (Nat → Int32)) {N : Nat → Nat} {D : Nat → Nat → Int} {nr : Nat} (hL : lay I q N D) (hr : rp0 I nr) {l w : Nat} (hl : l < N 4) (hW : mW I N D l) (hw : w < Wn D l) : gb_call 153 [.ref (190 : Nat), .int (nI l), .int (nI (110 * l + w))] gb_pG (gS I J q X) = some (.int (if gs I q nr (kl D l) (wo N D l w) = true then 1 else 0), gb_pG, gS I J q X) := by
  obtain ⟨-, hv⟩ := hW
  obtain ⟨v1, v2⟩ := hv w hw
  obtain ⟨⟨k1, k2⟩, -⟩ := lfa hL.2.2 hl
  have hwb := Wn_b hL.2.2 hl
  have hl8 : l < 8 := by have := hL.2.2.1.2.2.2.2.2; omega
  have o2 := hL.2.2.1.2.1
  have f9 := m_l0 hL.2.1 (r := 0) (by omega) hl
  rw [k1, ← zI_nI, Nat.add_zero] at f9
  rw [cl_RM_isGainsaid]
  cases e : wo N D l w with
  | none =>
    rw [e] at v1
    have v1 : I 204 (110 * l + w) = -1 := v1
    simp (disch := first | omega | decide | assumption | simp only [List.length_cons, List.length_nil, Nat.reduceAdd, Nat.reduceLeDiff]) only [x_aload_0, x_get_655, x_iload_2, x_iald, x_if_lt, x_get_651, x_c_5, x_iload_1, x_imul, x_get_656, xc_RM_isNot, x_if_eq, x_c_1, x_goto, x_c_0, x_zret, tg_RM_isGainsaid_24, tg_RM_isGainsaid_25, bk_RM_isGainsaid_0, bk_RM_isGainsaid_24, bk_RM_isGainsaid_25, kil_int, kil_ref, kil_null, kil_long, kil_rA, psh_int, psh_long, psh_null, gI_gS, gL_gS, gR_gS, sI_gS, sL_gS, orf_some, Option.bind_some, List.length_cons, List.length_nil, Nat.reduceAdd, Nat.reduceLeDiff, if_true, if_false, Nat.zero_le, at_190, at_204, al_204, rw_190_15, nI_ltI, nI_leI, nI_eq, nI_ltL, nI_leL, L_ltI, L_leI, nI_eqL, L_eqI, oob_nI, ix_nI, oob_L, ix_L, nI_1, nI_add, nI_z, z_nI, nI_lt0, nI_ge0, nI_gt0, nI_le0, ne_eq, Nat.le_zero_eq, Nat.not_lt_zero, Nat.lt_irrefl, Nat.le_refl, i10, true_or, ne_eq, not_true_eq_false, not_false_eq_true, Bool.false_eq_true, true_and, and_true, and_self, if_true, if_false, or_true, false_or, or_false, or_self, false_and, and_false, Nat.one_ne_zero, n01, Nat.reduceEqDiff, v1, show ((-1 : Int32) < 0) = True from by decide, ib_0]
    rfl
  | some p =>
    have hp := wo_b hL.2.2 hl e
    rw [e] at v1
    have v1 : I 204 (110 * l + w) = nI p.1 := v1
    have v2 := v2 p.1 p.2 e
    have hn := s_RM_isNot I J q X hr (bkd_of hL) (by have := hL.2.2.1.2.2.2.2.1; omega) k2 (nI p.1) (nI p.2)
    have eg : gs I q nr (kl D l) (some p) = la (sn I (nI (kl D l)) (nI p.1) (nI p.2) (I (gb_bb q + 10) (kl D l))) nr 0 := rfl
    rw [eg]
    generalize la (sn I (nI (kl D l)) (nI p.1) (nI p.2) (I (gb_bb q + 10) (kl D l))) nr 0 = b at hn ⊢
    simp (disch := first | omega | decide | assumption | simp only [List.length_cons, List.length_nil, Nat.reduceAdd, Nat.reduceLeDiff]) only [x_aload_0, x_get_655, x_iload_2, x_iald, x_if_lt, x_get_651, x_c_5, x_iload_1, x_imul, x_get_656, xc_RM_isNot, x_if_eq, x_c_1, x_goto, x_c_0, x_zret, tg_RM_isGainsaid_24, tg_RM_isGainsaid_25, bk_RM_isGainsaid_0, bk_RM_isGainsaid_24, bk_RM_isGainsaid_25, kil_int, kil_ref, kil_null, kil_long, kil_rA, psh_int, psh_long, psh_null, gI_gS, gL_gS, gR_gS, sI_gS, sL_gS, orf_some, Option.bind_some, List.length_cons, List.length_nil, Nat.reduceAdd, Nat.reduceLeDiff, if_true, if_false, Nat.zero_le, at_190, at_200, at_204, at_205, al_200, al_204, al_205, rw_190_11, rw_190_15, rw_190_16, nI_mL, nI_ltI, nI_leI, nI_eq, nI_ltL, nI_leL, L_ltI, L_leI, nI_eqL, L_eqI, oob_nI, ix_nI, oob_L, ix_L, nI_1, nI_add, nI_z, z_nI, nI_lt0, nI_ge0, nI_gt0, nI_le0, ne_eq, Nat.le_zero_eq, Nat.not_lt_zero, Nat.lt_irrefl, Nat.le_refl, i10, true_or, ne_eq, not_true_eq_false, not_false_eq_true, Bool.false_eq_true, true_and, and_true, and_self, if_true, if_false, or_true, false_or, or_false, or_self, false_and, and_false, Nat.one_ne_zero, n01, Nat.reduceEqDiff, v1, v2, f9, hn, ite_b1, ib_0, ib_1]
    cases b <;> simp
theorem l_counts (I : Nat → Nat → Int32) (J : Nat → Nat → Int64) (q : Bool × Bool) (X : Nat × (Nat → Int32)) {N : Nat → Nat} {D : Nat → Nat → Int} {nr : Nat} (hL : lay I q N D) (hr : rp0 I nr) {l a b f t o : Nat} (hl : l < N 4) (hW : mW I N D l) (ha : a ≤ 999) (hb : b ≤ 999) (hf : f ≤ 999) (ht : t ≤ 999) (hoo : o ≤ 1) : ∀ d i k (z9 : Value), d + i = Wn D l → gb_ex 138 bk_RM_counts_6 [.ref (190 : Nat), .int (nI l), .int (nI a), .int (nI b), .int (nI f), .int (nI t), .int (nI o), .int (nI k), .int (nI (110 * l + i)), z9] [] gb_pG (gS I J q X) = some (.int (nI (k + sm (fun w => cb (ash a b f t (wo N D l w) && (decide (o = 0) || !gs I q nr (kl D l) (wo N D l w)))) d i)), gb_pG, gS I J q X)
  | 0, i, k, z9, e => by
    have hl8 : l < 8 := by have := hL.2.2.1.2.2.2.2.2; omega
    have hwb := Wn_b hL.2.2 hl
    have hm := hW.1
    rw [bk_RM_counts_6]
    simp (disch := first | omega | decide | assumption | simp only [List.length_cons, List.length_nil, Nat.reduceAdd, Nat.reduceLeDiff]) only [x_c_0, x_istore_7, x_c_110, x_iload_1, x_imul, x_istore_8, x_iload_8, x_aload_0, x_get_654, x_iald, x_iadd, x_ic_ge, x_get_655, x_i2l, x_iload_2, x_iload_3, xc_RM_in, x_if_eq, x_get_656, x_iload_4, x_iload_5, x_c_1, x_goto, x_istore_9, x_iload_7, x_iload_9, x_iload_6, xc_RM_isGainsaid, x_if_ne, x_iinc_8_1, x_iret, tg_RM_counts_6, tg_RM_counts_40, tg_RM_counts_41, tg_RM_counts_52, tg_RM_counts_54, tg_RM_counts_55, tg_RM_counts_59, bk_RM_counts_0, bk_RM_counts_40, bk_RM_counts_41, bk_RM_counts_52, bk_RM_counts_54, bk_RM_counts_55, bk_RM_counts_59, kil_int, kil_ref, kil_null, kil_long, kil_rA, psh_int, psh_long, psh_null, gI_gS, gL_gS, gR_gS, sI_gS, sL_gS, orf_some, Option.bind_some, List.length_cons, List.length_nil, Nat.reduceAdd, Nat.reduceLeDiff, if_true, if_false, Nat.zero_le, at_190, at_203, al_203, rw_190_14, nI_mL, nI_add, nI_ltI, nI_leI, nI_eq, nI_ltL, nI_leL, L_ltI, L_leI, nI_eqL, L_eqI, oob_nI, ix_nI, oob_L, ix_L, nI_1, nI_add, nI_z, z_nI, nI_lt0, nI_ge0, nI_gt0, nI_le0, ne_eq, Nat.le_zero_eq, Nat.not_lt_zero, Nat.lt_irrefl, Nat.le_refl, i10, true_or, ne_eq, not_true_eq_false, not_false_eq_true, Bool.false_eq_true, true_and, and_true, and_self, if_true, if_false, or_true, false_or, or_false, or_self, false_and, and_false, Nat.one_ne_zero, n01, Nat.reduceEqDiff, hm, if_pos (show 110 * l + Wn D l ≤ 110 * l + i by omega), sm, Nat.add_zero]
  | d + 1, i, k, z9, e => by
    have hl8 : l < 8 := by have := hL.2.2.1.2.2.2.2.2; omega
    have hwb := Wn_b hL.2.2 hl
    have hm := hW.1
    have o2 := hL.2.2.1.2.1
    have hg := s_isGainsaid I J q X hL hr hl hW (w := i) (by omega)
    obtain ⟨v1, v2⟩ := hW.2 i (by omega)
    have ih := fun k z9 => l_counts I J q X hL hr (o := o) hl hW ha hb hf ht hoo d (i + 1) k z9 (by omega)
    have ei : 110 * l + (i + 1) = 110 * l + i + 1 := by omega
    rw [ei] at ih
    rw [bk_RM_counts_6, sm]
    cases ew : wo N D l i with
    | none =>
      rw [ew] at v1
      have v1 : I 204 (110 * l + i) = -1 := v1
      have k1 : ¬ (nI a ≤ -1 ∧ (-1 : Int32) ≤ nI b) := fun h => by
        have h1 : (-1 : Int32) < 0 := by decide
        have h2 : 0 ≤ nI a := nI_pos' (by omega)
        exact absurd (Int32.le_trans h2 h.1) (by decide)
      simp (disch := first | omega | decide | assumption | simp only [List.length_cons, List.length_nil, Nat.reduceAdd, Nat.reduceLeDiff]) only [x_c_0, x_istore_7, x_c_110, x_iload_1, x_imul, x_istore_8, x_iload_8, x_aload_0, x_get_654, x_iald, x_iadd, x_ic_ge, x_get_655, x_i2l, x_iload_2, x_iload_3, xc_RM_in, x_if_eq, x_get_656, x_iload_4, x_iload_5, x_c_1, x_goto, x_istore_9, x_iload_7, x_iload_9, x_iload_6, xc_RM_isGainsaid, x_if_ne, x_iinc_8_1, x_iret, tg_RM_counts_6, tg_RM_counts_40, tg_RM_counts_41, tg_RM_counts_52, tg_RM_counts_54, tg_RM_counts_55, tg_RM_counts_59, bk_RM_counts_0, bk_RM_counts_40, bk_RM_counts_41, bk_RM_counts_52, bk_RM_counts_54, bk_RM_counts_55, bk_RM_counts_59, kil_int, kil_ref, kil_null, kil_long, kil_rA, psh_int, psh_long, psh_null, gI_gS, gL_gS, gR_gS, sI_gS, sL_gS, orf_some, Option.bind_some, List.length_cons, List.length_nil, Nat.reduceAdd, Nat.reduceLeDiff, if_true, if_false, Nat.zero_le, at_190, at_203, at_204, al_203, al_204, rw_190_14, rw_190_15, nI_mL, nI_add, nI_ltI, nI_leI, nI_eq, nI_ltL, nI_leL, L_ltI, L_leI, nI_eqL, L_eqI, oob_nI, ix_nI, oob_L, ix_L, nI_1, nI_add, nI_z, z_nI, nI_lt0, nI_ge0, nI_gt0, nI_le0, ne_eq, Nat.le_zero_eq, Nat.not_lt_zero, Nat.lt_irrefl, Nat.le_refl, i10, true_or, ne_eq, not_true_eq_false, not_false_eq_true, Bool.false_eq_true, true_and, and_true, and_self, if_true, if_false, or_true, false_or, or_false, or_self, false_and, and_false, Nat.one_ne_zero, n01, Nat.reduceEqDiff, hm, if_neg (show ¬ 110 * l + Wn D l ≤ 110 * l + i by omega), v1, s_RM_in, w_le, k1, ih, i2b, ash, Bool.false_and, cb, Nat.zero_add, Nat.add_zero]
    | some p =>
      have hp := wo_b hL.2.2 hl ew
      rw [ew] at v1 hg
      have v1 : I 204 (110 * l + i) = nI p.1 := v1
      have v2 := v2 p.1 p.2 ew
      have e1 : (nI a ≤ nI p.1 ∧ nI p.1 ≤ nI b) ↔ (a ≤ p.1 ∧ p.1 ≤ b) := by rw [nI_leI (by omega) (by omega), nI_leI (by omega) (by omega)]
      have e2 : (nI f ≤ nI p.2 ∧ nI p.2 ≤ nI t) ↔ (f ≤ p.2 ∧ p.2 ≤ t) := by rw [nI_leI (by omega) (by omega), nI_leI (by omega) (by omega)]
      have e3 : ash a b f t (some p) = decide ((a ≤ p.1 ∧ p.1 ≤ b) ∧ (f ≤ p.2 ∧ p.2 ≤ t)) := rfl
      rw [e3]
      generalize gs I q nr (kl D l) (some p) = g at hg ⊢
      simp (disch := first | omega | decide | assumption | simp only [List.length_cons, List.length_nil, Nat.reduceAdd, Nat.reduceLeDiff]) only [x_c_0, x_istore_7, x_c_110, x_iload_1, x_imul, x_istore_8, x_iload_8, x_aload_0, x_get_654, x_iald, x_iadd, x_ic_ge, x_get_655, x_i2l, x_iload_2, x_iload_3, xc_RM_in, x_if_eq, x_get_656, x_iload_4, x_iload_5, x_c_1, x_goto, x_istore_9, x_iload_7, x_iload_9, x_iload_6, xc_RM_isGainsaid, x_if_ne, x_iinc_8_1, x_iret, tg_RM_counts_6, tg_RM_counts_40, tg_RM_counts_41, tg_RM_counts_52, tg_RM_counts_54, tg_RM_counts_55, tg_RM_counts_59, bk_RM_counts_0, bk_RM_counts_40, bk_RM_counts_41, bk_RM_counts_52, bk_RM_counts_54, bk_RM_counts_55, bk_RM_counts_59, kil_int, kil_ref, kil_null, kil_long, kil_rA, psh_int, psh_long, psh_null, gI_gS, gL_gS, gR_gS, sI_gS, sL_gS, orf_some, Option.bind_some, List.length_cons, List.length_nil, Nat.reduceAdd, Nat.reduceLeDiff, if_true, if_false, Nat.zero_le, at_190, at_203, at_204, at_205, al_203, al_204, al_205, rw_190_14, rw_190_15, rw_190_16, nI_mL, nI_add, i10, true_or, ne_eq, not_true_eq_false, not_false_eq_true, Bool.false_eq_true, true_and, and_true, and_self, if_true, if_false, or_true, false_or, or_false, or_self, false_and, and_false, Nat.one_ne_zero, n01, Nat.reduceEqDiff, oob_nI, ix_nI, nI_1, nI_leI, nI_z, hm, if_neg (show ¬ 110 * l + Wn D l ≤ 110 * l + i by omega), v1, v2, s_RM_in, w_le, e1, e2, hg, ite_b1, ite_b2, ih, i2b]
      by_cases c1 : a ≤ p.1 ∧ p.1 ≤ b
      · by_cases c2 : f ≤ p.2 ∧ p.2 ≤ t
        · have ho' : o = 0 ∨ o = 1 := by omega
          rcases ho' with rfl | rfl
          · simp only [c1, c2, i10, true_or, ne_eq, not_true_eq_false, not_false_eq_true, Bool.false_eq_true, true_and, and_true, and_self, if_true, if_false, or_true, false_or, or_false, or_self, false_and, and_false, Nat.one_ne_zero, n01, Nat.reduceEqDiff, if_true, decide_true, Bool.true_and, Bool.true_or, cb, ← Nat.add_assoc]
          · cases g
            · simp only [c1, c2, i10, true_or, ne_eq, not_true_eq_false, not_false_eq_true, Bool.false_eq_true, true_and, and_true, and_self, if_true, if_false, or_true, false_or, or_false, or_self, false_and, and_false, Nat.one_ne_zero, n01, Nat.reduceEqDiff, if_true, if_false, decide_true, decide_false, Bool.true_and, Bool.false_or, Bool.not_false, cb, ← Nat.add_assoc]
            · simp only [c1, c2, i10, true_or, ne_eq, not_true_eq_false, not_false_eq_true, Bool.false_eq_true, true_and, and_true, and_self, if_true, if_false, or_true, false_or, or_false, or_self, false_and, and_false, Nat.one_ne_zero, n01, Nat.reduceEqDiff, if_true, if_false, decide_true, decide_false, Bool.true_and, Bool.false_or, Bool.not_true, cb, Nat.zero_add]
        · simp only [c1, c2, i10, true_or, ne_eq, not_true_eq_false, not_false_eq_true, Bool.false_eq_true, true_and, and_true, and_self, if_true, if_false, or_true, false_or, or_false, or_self, false_and, and_false, Nat.one_ne_zero, n01, Nat.reduceEqDiff, if_true, if_false, decide_false, Bool.false_and, cb, Nat.zero_add]
      · simp only [c1, i10, true_or, ne_eq, not_true_eq_false, not_false_eq_true, Bool.false_eq_true, true_and, and_true, and_self, if_true, if_false, or_true, false_or, or_false, or_self, false_and, and_false, Nat.one_ne_zero, n01, Nat.reduceEqDiff, if_true, if_false, decide_false, Bool.false_and, cb, Nat.zero_add]
theorem s_counts (I : Nat → Nat → Int32) (J : Nat → Nat → Int64) (q : Bool × Bool) (X : Nat × (Nat → Int32)) {N : Nat → Nat} {D : Nat → Nat → Int} {nr : Nat} (hL : lay I q N D) (hr : rp0 I nr) {l a b f t o : Nat} (hl : l < N 4) (hW : mW I N D l) (ha : a ≤ 999) (hb : b ≤ 999) (hf : f ≤ 999) (ht : t ≤ 999) (hoo : o ≤ 1) : gb_call 138 [.ref (190 : Nat), .int (nI l), .int (nI a), .int (nI b), .int (nI f), .int (nI t), .int (nI o)] gb_pG (gS I J q X) = some (.int (nI (cn N D l (fun u _ => ash a b f t u && (decide (o = 0) || !gs I q nr (kl D l) u)))), gb_pG, gS I J q X) := by
  have := l_counts I J q X hL hr (o := o) hl hW ha hb hf ht hoo (Wn D l) 0 0 .null (by omega)
  rw [Nat.zero_add] at this
  unfold cn
  rw [← this, cl_RM_counts]
  simp only [x_c_0, x_istore_7, x_c_110, x_iload_1, x_imul, x_istore_8, x_iload_8, x_aload_0, x_get_654, x_iald, x_iadd, x_ic_ge, x_get_655, x_i2l, x_iload_2, x_iload_3, xc_RM_in, x_if_eq, x_get_656, x_iload_4, x_iload_5, x_c_1, x_goto, x_istore_9, x_iload_7, x_iload_9, x_iload_6, xc_RM_isGainsaid, x_if_ne, x_iinc_8_1, x_iret, tg_RM_counts_6, tg_RM_counts_40, tg_RM_counts_41, tg_RM_counts_52, tg_RM_counts_54, tg_RM_counts_55, tg_RM_counts_59, bk_RM_counts_0, bk_RM_counts_40, bk_RM_counts_41, bk_RM_counts_52, bk_RM_counts_54, bk_RM_counts_55, bk_RM_counts_59, kil_int, kil_ref, kil_null, kil_long, kil_rA, psh_int, psh_long, psh_null, gI_gS, gL_gS, gR_gS, sI_gS, sL_gS, orf_some, Option.bind_some, List.length_cons, List.length_nil, Nat.reduceAdd, Nat.reduceLeDiff, if_true, if_false, Nat.zero_le, nI_mL, Nat.add_zero]
  rfl
