/-! a rule of the law -/
theorem tno0 (B : Nat → Nat) (p : Nat) : tno B 0 p ↔ (48 ≤ B p ∧ B p ≤ 57) := by
  have e : sg B 0 p = 0 := if_neg (by omega)
  unfold tno tnp
  rw [e, Nat.add_zero, dl]
  split
  · rename_i hd
    have := dl_ge B 2 (p + 1) (10 * 0 + (B p - 48))
    exact ⟨fun _ => hd, fun _ => ⟨by omega, by omega⟩⟩
  · rename_i hd
    exact ⟨fun x => absurd rfl x.1, fun x => absurd x hd⟩
theorem dgm {B : Nat → Nat} {p : Nat} (h : 48 ≤ B p ∧ B p ≤ 57) : tnp B 1 p = tnp B 0 p ∧ tnz B 1 p = ((tnv B 0 p : Nat) : Int) ∧ tno B 1 p := by
  have e0 : sg B 0 p = 0 := if_neg (by omega)
  have e1 : sg B 1 p = 0 := if_neg (by omega)
  have h0 := (tno0 B p).mpr h
  unfold tno at h0 ⊢
  unfold tnz tnv tnp at *
  rw [e0] at *
  rw [e1]
  exact ⟨rfl, by rw [if_neg (by omega)], h0.1, by omega⟩
theorem vok0 {B : Nat → Nat} {p hi : Nat} (hh : hi ≤ 999) : vok B p 0 (no_index (OfNat.ofNat hi)) ↔ tno B 0 p ∧ ¬ (48 ≤ B (tnp B 0 p) ∧ B (tnp B 0 p) ≤ 57) ∧ tnv B 0 p ≤ hi := by
  have hz := tnz_b B 1 p
  have hv := tnv_b B 0 p
  unfold vok
  rw [zI_Lle (n := 0) (by omega) (by omega) (by omega), zI_leL (n := hi) (by omega) (by omega) (by omega)]
  by_cases c : 48 ≤ B p ∧ B p ≤ 57
  · obtain ⟨a, b, d⟩ := dgm c
    rw [a, b]
    have h0 := (tno0 B p).mpr c
    constructor
    · rintro ⟨-, x, -, y⟩
      exact ⟨h0, x, by omega⟩
    · rintro ⟨-, x, y⟩
      exact ⟨d, x, by omega, by omega⟩
  · have h0 : ¬ tno B 0 p := fun x => c ((tno0 B p).mp x)
    constructor
    · rintro ⟨⟨x1, x2⟩, -, x3, -⟩
      exfalso
      by_cases c2 : B p = 45
      · have e1 : sg B 1 p = 1 := if_pos ⟨rfl, c2⟩
        unfold tnz at x3
        rw [if_pos e1] at x3
        exact x2 ⟨e1, by omega⟩
      · have e1 : sg B 1 p = 0 := if_neg (by omega)
        unfold tnp at x1
        rw [e1, Nat.add_zero, dl, if_neg c] at x1
        exact x1 rfl
    · rintro ⟨x, -⟩
      exact absurd x h0
theorem tnz0 (B : Nat → Nat) (p : Nat) : tnz B 0 p = ((tnv B 0 p : Nat) : Int) := if_neg (by rw [show sg B 0 p = 0 from if_neg (by omega)]; omega)
def cp (B : Nat → Nat) (p : Nat) : Nat → Nat
  | 0 => p
  | i + 1 => tnp B 0 (cp B p i + 2) + 1
theorem cp_b (B : Nat → Nat) (p : Nat) : ∀ i, p + i ≤ cp B p i ∧ cp B p i ≤ p + 7 * i
  | 0 => ⟨Nat.le_refl _, Nat.le_refl _⟩
  | i + 1 => by
    have := cp_b B p i
    have := tnp_b B 0 (cp B p i + 2)
    rw [cp]
    omega
def okc (B : Nat → Nat) (c : Nat) : Prop := (B c = 119 ∨ B c = 107 ∨ B c = 99 ∨ B c = 104) ∧ (B (c + 1) = 60 ∨ B (c + 1) = 62) ∧ tno B 0 (c + 2)
/-- conditions i to n less 1, the : behind the last -/
def chn (B : Nat → Nat) (p i n : Nat) : Prop := i < n ∧ n ≤ 3 ∧ ∀ j, i ≤ j → j < n → okc B (cp B p j) ∧ B (tnp B 0 (cp B p j + 2)) = if j + 1 = n then 58 else 38
def cnd (B : Nat → Nat) (p n : Nat) : Prop := (n = 0 ∧ B p = 58) ∨ chn B p 0 n
def op (B : Nat → Nat) (p n : Nat) : Nat := if n = 0 then p + 1 else cp B p n
def ocm (B : Nat → Nat) (o : Nat) : Prop := (B o = 70 ∨ B o = 79 ∨ B o = 67) ∧ tno B 0 (o + 1) ∧ B (tnp B 0 (o + 1)) = 44 ∧ tno B 0 (tnp B 0 (o + 1) + 1) ∧ tnv B 0 (tnp B 0 (o + 1) + 1) ≤ 100 ∧ B (tnp B 0 (tnp B 0 (o + 1) + 1)) = 59
def oe (B : Nat → Nat) (o : Nat) : Nat := tnp B 0 (tnp B 0 (o + 1) + 1) + 1
def ow (B : Nat → Nat) (o : Nat) : Nat := if B o = 70 then 1 else if B o = 79 then 2 else 3
theorem chn_u {B : Nat → Nat} {p i n n' : Nat} (h : chn B p i n) (h' : chn B p i n') : n = n' := by
  obtain ⟨a1, a2, a3⟩ := h
  obtain ⟨b1, b2, b3⟩ := h'
  rcases Nat.lt_trichotomy n n' with c | c | c
  · have x := (a3 (n - 1) (by omega) (by omega)).2
    have y := (b3 (n - 1) (by omega) (by omega)).2
    rw [if_pos (by omega)] at x
    rw [if_neg (by omega)] at y
    omega
  · exact c
  · have x := (a3 (n' - 1) (by omega) (by omega)).2
    have y := (b3 (n' - 1) (by omega) (by omega)).2
    rw [if_neg (by omega)] at x
    rw [if_pos (by omega)] at y
    omega
theorem cnd_u {B : Nat → Nat} {p n n' : Nat} (h : cnd B p n) (h' : cnd B p n') : n = n' := by
  have key : ∀ n, chn B p 0 n → B p ≠ 58 := fun n hn e => by
    have := (hn.2.2 0 (by omega) hn.1).1.1
    have e2 : cp B p 0 = p := rfl
    rw [e2] at this
    omega
  rcases h with ⟨a, b⟩ | h
  · rcases h' with ⟨a', b'⟩ | h'
    · omega
    · exact absurd b (key _ h')
  · rcases h' with ⟨a', b'⟩ | h'
    · exact absurd b' (key _ h)
    · exact chn_u h h'
theorem chn_s {B : Nat → Nat} {p i n : Nat} (hi : i < 3) (hn : i + 1 ≠ n) : chn B p i n ↔ okc B (cp B p i) ∧ B (tnp B 0 (cp B p i + 2)) = 38 ∧ chn B p (i + 1) n := by
  constructor
  · rintro ⟨a, b, c⟩
    have := c i (by omega) (by omega)
    rw [if_neg hn] at this
    exact ⟨this.1, this.2, by omega, b, fun j h1 h2 => c j (by omega) h2⟩
  · rintro ⟨a, b, c, d, e⟩
    refine ⟨by omega, d, fun j h1 h2 => ?_⟩
    by_cases ej : j = i
    · subst ej
      rw [if_neg hn]
      exact ⟨a, b⟩
    · exact e j (by omega) h2
theorem chn_1 {B : Nat → Nat} {p i : Nat} (hi : i < 3) : chn B p i (i + 1) ↔ okc B (cp B p i) ∧ B (tnp B 0 (cp B p i + 2)) = 58 := by
  constructor
  · rintro ⟨a, b, c⟩
    have := c i (by omega) (by omega)
    rw [if_pos rfl] at this
    exact this
  · rintro ⟨a, b⟩
    refine ⟨by omega, by omega, fun j h1 h2 => ?_⟩
    have : j = i := by omega
    subst this
    rw [if_pos rfl]
    exact ⟨a, b⟩
/-- one rule's row, as the model has it -/
def erow (B : Nat → Nat) (p n k : Nat) : Nat :=
  if k = 0 then n else if k = 10 then ow B (op B p n) else if k = 11 then tnv B 0 (op B p n + 1) else if k = 12 then tnv B 0 (tnp B 0 (op B p n + 1) + 1) else
  if (k - 1) % 3 = 0 then B (cp B p ((k - 1) / 3)) else if (k - 1) % 3 = 1 then B (cp B p ((k - 1) / 3) + 1) else tnv B 0 (cp B p ((k - 1) / 3) + 2)
theorem er_a (B : Nat → Nat) (p n : Nat) {i : Nat} (hi : i < 3) : erow B p n (1 + 3 * i) = B (cp B p i) ∧ erow B p n (2 + 3 * i) = B (cp B p i + 1) ∧ erow B p n (3 + 3 * i) = tnv B 0 (cp B p i + 2) := by
  have : i = 0 ∨ i = 1 ∨ i = 2 := by omega
  rcases this with rfl | rfl | rfl <;> exact ⟨rfl, rfl, rfl⟩
def adE (E : Nat → Nat → Nat) (r : Nat) (e : Nat → Nat) : Nat → Nat → Nat := fun j k => if j = r then e k else E j k
def lR (I : Nat → Nat → Int32) (w r : Nat) (E : Nat → Nat → Nat) : Prop := I w 0 = nI r ∧ ∀ j, j < r → E j 0 ≤ 3 ∧ I (w + 1) j = nI (E j 0) ∧
  (∀ i, i < E j 0 → I (w + 3 + j) i = nI (E j (1 + 3 * i)) ∧ I (w + 14 + j) i = nI (E j (2 + 3 * i)) ∧ I (w + 25 + j) i = nI (E j (3 + 3 * i))) ∧ I (w + 35) j = nI (E j 10) ∧ I (w + 36) j = nI (E j 11) ∧ I (w + 37) j = nI (E j 12)
theorem gb_lq_r (q : Bool × Bool) : 114 ≤ gb_lq q ∧ gb_lq q ≤ 152 := by unfold gb_lq; split <;> omega
theorem gb_lb_r (q : Bool × Bool) : 114 ≤ gb_lb q ∧ gb_lb q ≤ 152 := by unfold gb_lb; split <;> omega
theorem gb_ld (q : Bool × Bool) : (gb_lb q = 114 ∧ gb_lq q = 152) ∨ (gb_lb q = 152 ∧ gb_lq q = 114) := by unfold gb_lq gb_lb; cases q.2 <;> simp
theorem pkv_127 {b : Nat} (h : b ≤ 127) : pkv b = nI b := if_pos (by omega)
theorem nxv_127 {b : Nat} (h : b ≤ 127) : nxv b = nI b := if_pos (by omega)
/-- the class reads a condition -/
theorem s_readCond (I : Nat → Nat → Int32) (J : Nat → Nat → Int64) (q : Bool × Bool) (X : Nat × (Nat → Int32)) {L : Nat} {B : Nat → Nat} (h : rd I L B) {c i r : Nat} (hc : c ≤ 1000) (hi : i < 3) (hr : r < 10) (hI : I (gb_lq q) 0 = nI r) (v : Int32) : (okc B c → gb_call 19 [.ref (gb_lq q), .ref (1 : Nat), .int (nI i)] gb_pG (gS (sc I (nI c) v) J q X) = some (.int 1, gb_pG, gS (sc (up (up (up I (gb_lq q + 3 + r) i (nI (B c))) (gb_lq q + 14 + r) i (nI (B (c + 1)))) (gb_lq q + 25 + r) i (nI (tnv B 0 (c + 2)))) (nI (tnp B 0 (c + 2))) (nI (tnv B 0 (c + 2)))) J q X)) ∧
    (¬ okc B c → ∃ a v', gb_call 19 [.ref (gb_lq q), .ref (1 : Nat), .int (nI i)] gb_pG (gS (sc I (nI c) v) J q X) = some (.int 0, gb_pG, gS (sc I a v') J q X)) := by
  have hq := gb_lq_r q
  have hI' : ∀ p v, sc I p v (gb_lq q) 0 = nI r := fun p v => by rw [sc_n (by omega)]; exact hI
  have t1 := fun v => s_takeByte I J q X h c v (by omega)
  have t2 := fun v => s_takeByte I J q X h (c + 1) v (by omega)
  obtain ⟨n1, n2⟩ := s_takeNumber I J q X h (m := 0) (c + 2) v (by omega) (by omega)
  have k1 := lq_kt2 q hr
  have k2 := lq_kt13 q hr
  have k3 := lq_kt24 q hr
  have b1 := rd_le h c
  have b2 := rd_le h (c + 1)
  have key : gb_call 19 [.ref (gb_lq q), .ref (1 : Nat), .int (nI i)] gb_pG (gS (sc I (nI c) v) J q X) = gb_ex 19 bk_LW_readCondition_21 [.ref (gb_lq q), .ref (1 : Nat), .int (nI i), .int (pkv (B c)), .int (pkv (B (c + 1))), .null] [.int (if B c = 119 ∨ B c = 107 ∨ B c = 99 ∨ B c = 104 then 1 else 0)] gb_pG (gS (sc I (nI (c + 2)) v) J q X) := by
    rw [cl_LW_readCondition]
    simp (disch := first | omega | decide | assumption | simp only [List.length_cons, List.length_nil, Nat.reduceAdd, Nat.reduceLeDiff, bb_at, bb_t1, bb_t2, bb_t3, bb_t4, bb_t5, bb_t6, bb_t7, bb_t8, bb_t9, bb_t10, bb_t11, bb_t12, bb_t13, bb_t14, bb_t15, bb_t16, bs_at, bs_t1, bs_t2, bs_t3, bs_t4, bs_t5, bs_t6, bs_t7, bs_t8, bs_t9, bs_t10, bs_t11, bs_t12, bs_t13, bs_t14, bs_t15, bs_t16, lb_at, lb_t1, lb_t2, lb_t13, lb_t24, lb_t35, lb_t36, lb_t37, lq_at, lq_t1, lq_t2, lq_t13, lq_t24, lq_t35, lq_t36, lq_t37]) only [x_aload_1, xc_SC_takeByte, x_istore_3, x_istore_4, x_iload_3, x_c_119, x_ic_eq, x_c_107, x_c_99, x_c_104, x_ic_ne, x_c_1, x_goto, x_c_0, x_istore_5, x_iload_5, x_if_eq, x_iload_4, x_c_60, x_c_62, xc_SC_takeNumber, x_if_ne, x_zret, x_aload_0, x_get_130, x_get_128, x_aald, x_aaldJ, x_iload_2, x_iast, x_get_131, x_get_132, x_get_323, tg_LW_readCondition_18, tg_LW_readCondition_20, tg_LW_readCondition_21, tg_LW_readCondition_30, tg_LW_readCondition_34, tg_LW_readCondition_36, bk_LW_readCondition_0, bk_LW_readCondition_18, bk_LW_readCondition_20, bk_LW_readCondition_30, bk_LW_readCondition_34, bk_LW_readCondition_36, kil_int, kil_ref, kil_null, kil_long, kil_rA, psh_int, psh_long, psh_null, gI_gS, gL_gS, gR_gS, sI_gS, sL_gS, orf_some, Option.bind_some, List.length_cons, List.length_nil, Nat.reduceAdd, Nat.reduceLeDiff, if_true, if_false, Nat.zero_le, at_1, t1, t2, pkv_eqL, i10, true_or, ne_eq, not_true_eq_false, not_false_eq_true, Bool.false_eq_true, true_and, and_true, and_self, if_true, if_false, or_true, false_or, or_false, or_self, false_and, and_false, Nat.one_ne_zero, n01, Nat.reduceEqDiff]
    by_cases c1 : B c = 119
    · simp only [c1, i10, true_or, ne_eq, not_true_eq_false, not_false_eq_true, Bool.false_eq_true, true_and, and_true, and_self, if_true, if_false, or_true, false_or, or_false, or_self, false_and, and_false, Nat.one_ne_zero, n01, Nat.reduceEqDiff, if_true]
    · by_cases c2 : B c = 107
      · simp only [c1, c2, i10, true_or, ne_eq, not_true_eq_false, not_false_eq_true, Bool.false_eq_true, true_and, and_true, and_self, if_true, if_false, or_true, false_or, or_false, or_self, false_and, and_false, Nat.one_ne_zero, n01, Nat.reduceEqDiff, if_true]
      · by_cases c3 : B c = 99
        · simp only [c1, c2, c3, i10, true_or, ne_eq, not_true_eq_false, not_false_eq_true, Bool.false_eq_true, true_and, and_true, and_self, if_true, if_false, or_true, false_or, or_false, or_self, false_and, and_false, Nat.one_ne_zero, n01, Nat.reduceEqDiff, if_true]
        · by_cases c4 : B c = 104
          · simp only [c1, c2, c3, c4, i10, true_or, ne_eq, not_true_eq_false, not_false_eq_true, Bool.false_eq_true, true_and, and_true, and_self, if_true, if_false, or_true, false_or, or_false, or_self, false_and, and_false, Nat.one_ne_zero, n01, Nat.reduceEqDiff, if_true]
          · simp only [c1, c2, c3, c4, i10, true_or, ne_eq, not_true_eq_false, not_false_eq_true, Bool.false_eq_true, true_and, and_true, and_self, if_true, if_false, or_true, false_or, or_false, or_self, false_and, and_false, Nat.one_ne_zero, n01, Nat.reduceEqDiff, if_false]
  rw [key, bk_LW_readCondition_21]
  constructor
  · rintro ⟨d1, d2, d3⟩
    have n1' : gb_call 42 [.ref (1 : Nat), .int 0] gb_pG (gS (sc I (nI (c + 2)) v) J q X) = _ := n1 d3
    rw [tnz0, ← zI_nI] at n1'
    rw [if_pos d1, pkv_127 (b := B c) (by omega), pkv_127 (b := B (c + 1)) (by omega)]
    have b3 : B (c + 1) ≤ 127 := by omega
    clear key n1 n2 t1 t2
    simp (disch := first | omega | decide | assumption | simp only [List.length_cons, List.length_nil, Nat.reduceAdd, Nat.reduceLeDiff, bb_at, bb_t1, bb_t2, bb_t3, bb_t4, bb_t5, bb_t6, bb_t7, bb_t8, bb_t9, bb_t10, bb_t11, bb_t12, bb_t13, bb_t14, bb_t15, bb_t16, bs_at, bs_t1, bs_t2, bs_t3, bs_t4, bs_t5, bs_t6, bs_t7, bs_t8, bs_t9, bs_t10, bs_t11, bs_t12, bs_t13, bs_t14, bs_t15, bs_t16, lb_at, lb_t1, lb_t2, lb_t13, lb_t24, lb_t35, lb_t36, lb_t37, lq_at, lq_t1, lq_t2, lq_t13, lq_t24, lq_t35, lq_t36, lq_t37]) only [x_aload_1, xc_SC_takeByte, x_istore_3, x_istore_4, x_iload_3, x_c_119, x_ic_eq, x_c_107, x_c_99, x_c_104, x_ic_ne, x_c_1, x_goto, x_c_0, x_istore_5, x_iload_5, x_if_eq, x_iload_4, x_c_60, x_c_62, xc_SC_takeNumber, x_if_ne, x_zret, x_aload_0, x_get_130, x_get_128, x_aald, x_aaldJ, x_iload_2, x_iast, x_get_131, x_get_132, x_get_323, tg_LW_readCondition_18, tg_LW_readCondition_20, tg_LW_readCondition_21, tg_LW_readCondition_30, tg_LW_readCondition_34, tg_LW_readCondition_36, bk_LW_readCondition_0, bk_LW_readCondition_18, bk_LW_readCondition_20, bk_LW_readCondition_30, bk_LW_readCondition_34, bk_LW_readCondition_36, kil_int, kil_ref, kil_null, kil_long, kil_rA, psh_int, psh_long, psh_null, gI_gS, gL_gS, gR_gS, sI_gS, sL_gS, orf_some, Option.bind_some, List.length_cons, List.length_nil, Nat.reduceAdd, Nat.reduceLeDiff, if_true, if_false, Nat.zero_le, at_1, i10, true_or, ne_eq, not_true_eq_false, not_false_eq_true, Bool.false_eq_true, true_and, and_true, and_self, if_true, if_false, or_true, false_or, or_false, or_self, false_and, and_false, Nat.one_ne_zero, n01, Nat.reduceEqDiff, i10, nI_eqL, n1', sc_n, up_ne, hI, nI_ltI, nI_leI, nI_eq, nI_ltL, nI_leL, L_ltI, L_leI, nI_eqL, L_eqI, oob_nI, ix_nI, oob_L, ix_L, nI_1, nI_add, nI_z, z_nI, nI_lt0, nI_ge0, nI_gt0, nI_le0, ne_eq, Nat.le_zero_eq, Nat.not_lt_zero, Nat.lt_irrefl, Nat.le_refl, bb_r0, bb_r2, bb_r4, bb_r5, bb_r6, bb_r7, bb_r9, bb_r10, bb_r11, bb_r12, bb_r13, bb_w1, bb_w2, bb_w5, bb_w6, bb_w7, bs_r0, bs_r2, bs_r4, bs_r5, bs_r6, bs_r7, bs_r9, bs_r10, bs_r11, bs_r12, bs_r13, bs_w1, bs_w2, bs_w5, bs_w6, bs_w7, lb_r1, lb_r2, lb_r3, lb_r4, lb_r5, lb_r6, lb_r7, lq_r1, lq_r2, lq_r3, lq_r4, lq_r5, lq_r6, lq_r7, bb_l1, bb_l3, bb_l4, bb_l5, bb_l6, bb_l7, bb_l8, bb_l9, bb_l10, bb_l11, bb_l12, bb_l13, bb_l14, bb_l15, bb_l16, bs_l1, bs_l3, bs_l4, bs_l5, bs_l6, bs_l7, bs_l8, bs_l9, bs_l10, bs_l11, bs_l12, bs_l13, bs_l14, bs_l15, bs_l16, lb_l1, lb_l2, lb_l13, lb_l24, lb_l35, lb_l36, lb_l37, lq_l1, lq_l2, lq_l13, lq_l24, lq_l35, lq_l36, lq_l37, lq_k2, lq_k13, lq_k24, lq_kl2, lq_kl13, lq_kl24, sc_3, up_sc]
    rcases d2 with d2 | d2 <;> simp (disch := first | omega | decide | assumption | simp only [List.length_cons, List.length_nil, Nat.reduceAdd, Nat.reduceLeDiff, bb_at, bb_t1, bb_t2, bb_t3, bb_t4, bb_t5, bb_t6, bb_t7, bb_t8, bb_t9, bb_t10, bb_t11, bb_t12, bb_t13, bb_t14, bb_t15, bb_t16, bs_at, bs_t1, bs_t2, bs_t3, bs_t4, bs_t5, bs_t6, bs_t7, bs_t8, bs_t9, bs_t10, bs_t11, bs_t12, bs_t13, bs_t14, bs_t15, bs_t16, lb_at, lb_t1, lb_t2, lb_t13, lb_t24, lb_t35, lb_t36, lb_t37, lq_at, lq_t1, lq_t2, lq_t13, lq_t24, lq_t35, lq_t36, lq_t37]) only [d2, i10, true_or, ne_eq, not_true_eq_false, not_false_eq_true, Bool.false_eq_true, true_and, and_true, and_self, if_true, if_false, or_true, false_or, or_false, or_self, false_and, and_false, Nat.one_ne_zero, n01, Nat.reduceEqDiff, i10]
  · intro d
    by_cases d1 : B c = 119 ∨ B c = 107 ∨ B c = 99 ∨ B c = 104
    · by_cases d2 : B (c + 1) = 60 ∨ B (c + 1) = 62
      · have d3 : ¬ tno B 0 (c + 2) := fun x => d ⟨d1, d2, x⟩
        have n2' : gb_call 42 [.ref (1 : Nat), .int 0] gb_pG (gS (sc I (nI (c + 2)) v) J q X) = _ := n2 d3
        refine ⟨nI (tnp B 0 (c + 2)), nI (tnv B 0 (c + 2)), ?_⟩
        rw [if_pos d1]
        rw [pkv_127 (b := B (c + 1)) (by omega)]
        have b3 : B (c + 1) ≤ 127 := by omega
        clear key n1 n2 t1 t2
        simp (disch := first | omega | decide | assumption | simp only [List.length_cons, List.length_nil, Nat.reduceAdd, Nat.reduceLeDiff, bb_at, bb_t1, bb_t2, bb_t3, bb_t4, bb_t5, bb_t6, bb_t7, bb_t8, bb_t9, bb_t10, bb_t11, bb_t12, bb_t13, bb_t14, bb_t15, bb_t16, bs_at, bs_t1, bs_t2, bs_t3, bs_t4, bs_t5, bs_t6, bs_t7, bs_t8, bs_t9, bs_t10, bs_t11, bs_t12, bs_t13, bs_t14, bs_t15, bs_t16, lb_at, lb_t1, lb_t2, lb_t13, lb_t24, lb_t35, lb_t36, lb_t37, lq_at, lq_t1, lq_t2, lq_t13, lq_t24, lq_t35, lq_t36, lq_t37]) only [x_aload_1, xc_SC_takeByte, x_istore_3, x_istore_4, x_iload_3, x_c_119, x_ic_eq, x_c_107, x_c_99, x_c_104, x_ic_ne, x_c_1, x_goto, x_c_0, x_istore_5, x_iload_5, x_if_eq, x_iload_4, x_c_60, x_c_62, xc_SC_takeNumber, x_if_ne, x_zret, x_aload_0, x_get_130, x_get_128, x_aald, x_aaldJ, x_iload_2, x_iast, x_get_131, x_get_132, x_get_323, tg_LW_readCondition_18, tg_LW_readCondition_20, tg_LW_readCondition_21, tg_LW_readCondition_30, tg_LW_readCondition_34, tg_LW_readCondition_36, bk_LW_readCondition_0, bk_LW_readCondition_18, bk_LW_readCondition_20, bk_LW_readCondition_30, bk_LW_readCondition_34, bk_LW_readCondition_36, kil_int, kil_ref, kil_null, kil_long, kil_rA, psh_int, psh_long, psh_null, gI_gS, gL_gS, gR_gS, sI_gS, sL_gS, orf_some, Option.bind_some, List.length_cons, List.length_nil, Nat.reduceAdd, Nat.reduceLeDiff, if_true, if_false, Nat.zero_le, at_1, i10, true_or, ne_eq, not_true_eq_false, not_false_eq_true, Bool.false_eq_true, true_and, and_true, and_self, if_true, if_false, or_true, false_or, or_false, or_self, false_and, and_false, Nat.one_ne_zero, n01, Nat.reduceEqDiff, i10, nI_eqL, n2', nI_ltI, nI_leI, nI_eq, nI_ltL, nI_leL, L_ltI, L_leI, nI_eqL, L_eqI, oob_nI, ix_nI, oob_L, ix_L, nI_1, nI_add, nI_z, z_nI, nI_lt0, nI_ge0, nI_gt0, nI_le0, ne_eq, Nat.le_zero_eq, Nat.not_lt_zero, Nat.lt_irrefl, Nat.le_refl, ib_0]
        rcases d2 with d2 | d2 <;> simp only [d2, i10, true_or, ne_eq, not_true_eq_false, not_false_eq_true, Bool.false_eq_true, true_and, and_true, and_self, if_true, if_false, or_true, false_or, or_false, or_self, false_and, and_false, Nat.one_ne_zero, n01, Nat.reduceEqDiff, i10] <;> rfl
      · refine ⟨nI (c + 2), v, ?_⟩
        rw [if_pos d1]
        have d5 : ¬ B (c + 1) = 60 := fun x => d2 (Or.inl x)
        have d6 : ¬ B (c + 1) = 62 := fun x => d2 (Or.inr x)
        clear key n1 n2 t1 t2
        simp (disch := first | omega | decide | assumption | simp only [List.length_cons, List.length_nil, Nat.reduceAdd, Nat.reduceLeDiff, bb_at, bb_t1, bb_t2, bb_t3, bb_t4, bb_t5, bb_t6, bb_t7, bb_t8, bb_t9, bb_t10, bb_t11, bb_t12, bb_t13, bb_t14, bb_t15, bb_t16, bs_at, bs_t1, bs_t2, bs_t3, bs_t4, bs_t5, bs_t6, bs_t7, bs_t8, bs_t9, bs_t10, bs_t11, bs_t12, bs_t13, bs_t14, bs_t15, bs_t16, lb_at, lb_t1, lb_t2, lb_t13, lb_t24, lb_t35, lb_t36, lb_t37, lq_at, lq_t1, lq_t2, lq_t13, lq_t24, lq_t35, lq_t36, lq_t37]) only [x_aload_1, xc_SC_takeByte, x_istore_3, x_istore_4, x_iload_3, x_c_119, x_ic_eq, x_c_107, x_c_99, x_c_104, x_ic_ne, x_c_1, x_goto, x_c_0, x_istore_5, x_iload_5, x_if_eq, x_iload_4, x_c_60, x_c_62, xc_SC_takeNumber, x_if_ne, x_zret, x_aload_0, x_get_130, x_get_128, x_aald, x_aaldJ, x_iload_2, x_iast, x_get_131, x_get_132, x_get_323, tg_LW_readCondition_18, tg_LW_readCondition_20, tg_LW_readCondition_21, tg_LW_readCondition_30, tg_LW_readCondition_34, tg_LW_readCondition_36, bk_LW_readCondition_0, bk_LW_readCondition_18, bk_LW_readCondition_20, bk_LW_readCondition_30, bk_LW_readCondition_34, bk_LW_readCondition_36, kil_int, kil_ref, kil_null, kil_long, kil_rA, psh_int, psh_long, psh_null, gI_gS, gL_gS, gR_gS, sI_gS, sL_gS, orf_some, Option.bind_some, List.length_cons, List.length_nil, Nat.reduceAdd, Nat.reduceLeDiff, if_true, if_false, Nat.zero_le, at_1, i10, true_or, ne_eq, not_true_eq_false, not_false_eq_true, Bool.false_eq_true, true_and, and_true, and_self, if_true, if_false, or_true, false_or, or_false, or_self, false_and, and_false, Nat.one_ne_zero, n01, Nat.reduceEqDiff, i10, pkv_eqL, nI_ltI, nI_leI, nI_eq, nI_ltL, nI_leL, L_ltI, L_leI, nI_eqL, L_eqI, oob_nI, ix_nI, oob_L, ix_L, nI_1, nI_add, nI_z, z_nI, nI_lt0, nI_ge0, nI_gt0, nI_le0, ne_eq, Nat.le_zero_eq, Nat.not_lt_zero, Nat.lt_irrefl, Nat.le_refl, ib_0, d5, d6]
    · refine ⟨nI (c + 2), v, ?_⟩
      rw [if_neg d1]
      clear key n1 n2 t1 t2
      simp (disch := first | omega | decide | assumption | simp only [List.length_cons, List.length_nil, Nat.reduceAdd, Nat.reduceLeDiff, bb_at, bb_t1, bb_t2, bb_t3, bb_t4, bb_t5, bb_t6, bb_t7, bb_t8, bb_t9, bb_t10, bb_t11, bb_t12, bb_t13, bb_t14, bb_t15, bb_t16, bs_at, bs_t1, bs_t2, bs_t3, bs_t4, bs_t5, bs_t6, bs_t7, bs_t8, bs_t9, bs_t10, bs_t11, bs_t12, bs_t13, bs_t14, bs_t15, bs_t16, lb_at, lb_t1, lb_t2, lb_t13, lb_t24, lb_t35, lb_t36, lb_t37, lq_at, lq_t1, lq_t2, lq_t13, lq_t24, lq_t35, lq_t36, lq_t37]) only [x_aload_1, xc_SC_takeByte, x_istore_3, x_istore_4, x_iload_3, x_c_119, x_ic_eq, x_c_107, x_c_99, x_c_104, x_ic_ne, x_c_1, x_goto, x_c_0, x_istore_5, x_iload_5, x_if_eq, x_iload_4, x_c_60, x_c_62, xc_SC_takeNumber, x_if_ne, x_zret, x_aload_0, x_get_130, x_get_128, x_aald, x_aaldJ, x_iload_2, x_iast, x_get_131, x_get_132, x_get_323, tg_LW_readCondition_18, tg_LW_readCondition_20, tg_LW_readCondition_21, tg_LW_readCondition_30, tg_LW_readCondition_34, tg_LW_readCondition_36, bk_LW_readCondition_0, bk_LW_readCondition_18, bk_LW_readCondition_20, bk_LW_readCondition_30, bk_LW_readCondition_34, bk_LW_readCondition_36, kil_int, kil_ref, kil_null, kil_long, kil_rA, psh_int, psh_long, psh_null, gI_gS, gL_gS, gR_gS, sI_gS, sL_gS, orf_some, Option.bind_some, List.length_cons, List.length_nil, Nat.reduceAdd, Nat.reduceLeDiff, if_true, if_false, Nat.zero_le, at_1, i10, true_or, ne_eq, not_true_eq_false, not_false_eq_true, Bool.false_eq_true, true_and, and_true, and_self, if_true, if_false, or_true, false_or, or_false, or_self, false_and, and_false, Nat.one_ne_zero, n01, Nat.reduceEqDiff, i10, nI_ltI, nI_leI, nI_eq, nI_ltL, nI_leL, L_ltI, L_leI, nI_eqL, L_eqI, oob_nI, ix_nI, oob_L, ix_L, nI_1, nI_add, nI_z, z_nI, nI_lt0, nI_ge0, nI_gt0, nI_le0, ne_eq, Nat.le_zero_eq, Nat.not_lt_zero, Nat.lt_irrefl, Nat.le_refl, ib_0]
