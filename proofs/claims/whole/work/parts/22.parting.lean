def bcx (x : Int32) : Int32 :=
  let a := x - ((x.toUInt32 >>> (Int32.toUInt32 1 &&& Int32.toUInt32 31)).toInt32 &&& 1431655765)
  let b := (a &&& 858993459) + ((a.toUInt32 >>> (Int32.toUInt32 2 &&& Int32.toUInt32 31)).toInt32 &&& 858993459)
  let c := (b + (b.toUInt32 >>> (Int32.toUInt32 4 &&& Int32.toUInt32 31)).toInt32) &&& 252645135
  let d := c + (c.toUInt32 >>> (Int32.toUInt32 8 &&& Int32.toUInt32 31)).toInt32
  (d + (d.toUInt32 >>> (Int32.toUInt32 16 &&& Int32.toUInt32 31)).toInt32) &&& 63
theorem s_bitCount (x : Int32) (p : gb_Pi) (g : gb_Sg) : gb_call 185 [.int x] p g = some (.int (bcx x), p, g) := by
  rw [cl_JI_bitCount_0f7a4]
  simp only [x_iload_0, x_c_1, x_iushr, x_c_1431655765, x_iand, x_isub, x_istore_0, x_c_858993459, x_c_2, x_iadd, x_c_4, x_c_252645135, x_c_8, x_c_16, x_c_63, x_iret, bk_JI_bitCount_0f7a4_0, kil_int, kil_ref, kil_null, kil_long, kil_rA, psh_int, psh_long, psh_null, gI_gS, gL_gS, gR_gS, sI_gS, sL_gS, orf_some, Option.bind_some, List.length_cons, List.length_nil, Nat.reduceAdd, Nat.reduceLeDiff, if_true, if_false, Nat.zero_le]
  rfl
theorem bcx_ok : ∀ A, A < 256 → (bcx (nI A) = 1 ↔ (A &&& (A - 1) = 0 ∧ A ≠ 0)) := by decide +kernel
theorem one_bit : ∀ A, A < 256 → A ≠ 0 → A &&& (A - 1) = 0 → ∃ k, k < 8 ∧ A = 2 ^ k := by decide +kernel
def ms (S : Nat → Nat → Nat) (C f : Nat → Nat) (A : Nat) : Nat := if A &&& (A - 1) = 0 then 0 else mt (bt S C f A) 6 0 1000000
def tb (S : Nat → Nat → Nat) (C : Nat → Nat) : Nat → Nat → Nat
  | 0, _ => 0
  | n + 1, B => if B = n + 1 then ms S C (tb S C n) (n + 1) else tb S C n B
theorem tb_le (S : Nat → Nat → Nat) (C : Nat → Nat) : ∀ n B, tb S C n B ≤ 1000000
  | 0, B => by simp [tb]
  | n + 1, B => by
    rw [tb]
    by_cases e : B = n + 1
    · rw [if_pos e]
      unfold ms
      have := mt_le (bt S C (tb S C n) (n + 1)) 6 0 1000000
      split <;> omega
    · rw [if_neg e]
      exact tb_le S C n B
theorem sub_iff {s i : Nat} (hi : i < 256) : (i &&& (s ^^^ 4294967295) = 0) ↔ s &&& i = i := by
  constructor
  · intro h
    apply Nat.eq_of_testBit_eq
    intro j
    rw [Nat.testBit_and]
    have h2 : (i &&& (s ^^^ 4294967295)).testBit j = false := by rw [h, Nat.zero_testBit]
    rw [Nat.testBit_and, Nat.testBit_xor] at h2
    by_cases hj : j < 8
    · rw [show (4294967295 : Nat) = 2 ^ 32 - 1 from rfl, Nat.testBit_two_pow_sub_one, decide_eq_true (show j < 32 by omega)] at h2
      cases a : i.testBit j <;> cases b : s.testBit j <;> simp [a, b] at h2 ⊢
    · rw [tb_256 hi (by omega)]
      simp
  · intro h
    apply Nat.eq_of_testBit_eq
    intro j
    rw [Nat.testBit_and, Nat.testBit_xor, Nat.zero_testBit]
    have h2 : (s &&& i).testBit j = i.testBit j := by rw [h]
    rw [Nat.testBit_and] at h2
    by_cases hj : j < 8
    · rw [show (4294967295 : Nat) = 2 ^ 32 - 1 from rfl, Nat.testBit_two_pow_sub_one, decide_eq_true (show j < 32 by omega)]
      cases a : i.testBit j <;> cases b : s.testBit j <;> simp [a, b] at h2 ⊢
    · rw [tb_256 hi (by omega)]
      simp
theorem stf_fr {I I' : Nat → Nat → Int32} {S : Nat → Nat → Nat} {C : Nat → Nat} (h : stf I S C) (hI : ∀ a, a ≠ 79 → a ≠ 217 → a ≠ 218 → I' a = I a) : stf I' S C := by
  obtain ⟨h1, h2, h3⟩ := h
  refine ⟨fun t k ht hk => ?_, fun t v ht hv => ?_, fun t ht => ?_⟩
  · rw [hI (65 + t) (by omega) (by omega) (by omega), hI 212 (by omega) (by omega) (by omega)]
    exact h1 t k ht hk
  · rw [hI (72 + t) (by omega) (by omega) (by omega)]
    exact h2 t v ht hv
  · rw [hI 78 (by omega) (by omega) (by omega), hI 213 (by omega) (by omega) (by omega)]
    exact h3 t ht
theorem l_SU_solve (J : Nat → Nat → Int64) (q : Bool × Bool) (X : Nat × (Nat → Int32)) {S : Nat → Nat → Nat} {C : Nat → Nat} {s : Nat} (hs : s < 256) : ∀ d i I, d + i = s + 1 → 1 ≤ i → stf I S C → (∀ B, 0 < B → B < i → s &&& B = B → I 79 B = nI (tb S C (i - 1) B)) →
    ∃ I', gb_ex 57 bk_SU_solve_2 [.ref (63 : Nat), .int (nI s), .int (nI i)] [] gb_pG (gS I J q X) = some (.null, gb_pG, gS I' J q X) ∧ (∀ B, 0 < B → B ≤ s → s &&& B = B → I' 79 B = nI (tb S C s B)) ∧ ∀ a, a ≠ 79 → I' a = I a
  | 0, i, I, e, h1, hst, hI => by
    refine ⟨I, ?_, ?_, fun a _ => rfl⟩
    · rw [bk_SU_solve_2]
      simp (disch := first | omega | decide | assumption | simp only [List.length_cons, List.length_nil, Nat.reduceAdd, Nat.reduceLeDiff]) only [x_c_1, x_istore_2, x_iload_2, x_iload_1, x_ic_gt, x_c_256, x_ic_ge, x_c_m1, x_ixor, x_iand, x_if_ne, x_aload_0, x_get_451, xc_JI_bitCount_0f7a4, x_ic_ne, x_c_0, x_goto, xc_SU_leastCost, x_iast, x_iinc_2_1, x_vret, tg_SU_solve_2, tg_SU_solve_23, tg_SU_solve_26, tg_SU_solve_27, tg_SU_solve_29, bk_SU_solve_0, bk_SU_solve_23, bk_SU_solve_26, bk_SU_solve_27, bk_SU_solve_29, kil_int, kil_ref, kil_null, kil_long, kil_rA, psh_int, psh_long, psh_null, gI_gS, gL_gS, gR_gS, sI_gS, sL_gS, orf_some, Option.bind_some, List.length_cons, List.length_nil, Nat.reduceAdd, Nat.reduceLeDiff, if_true, if_false, Nat.zero_le, nI_ltI, nI_leI, nI_eq, nI_ltL, nI_leL, L_ltI, L_leI, nI_eqL, L_eqI, oob_nI, ix_nI, oob_L, ix_L, nI_1, nI_add, nI_z, z_nI, nI_lt0, nI_ge0, nI_gt0, nI_le0, ne_eq, Nat.le_zero_eq, Nat.not_lt_zero, Nat.lt_irrefl, Nat.le_refl, if_pos (show s < i by omega)]
    · intro B b1 b2 b3
      rw [hI B b1 (by omega) b3, show i - 1 = s by omega]
  | d + 1, i, I, e, h1, hst, hI => by
    have hi : i < 256 := by omega
    have e1 : nI i &&& (nI s ^^^ -1) = nI (i &&& (s ^^^ 4294967295)) := by rw [nI_m1, nI_xor, nI_and]
    have e2 : i &&& (s ^^^ 4294967295) ≤ i := Nat.and_le_left
    have hsub := sub_iff (s := s) hi
    generalize i &&& (s ^^^ 4294967295) = m at e1 e2 hsub
    obtain ⟨n, rfl⟩ : ∃ n, i = n + 1 := ⟨i - 1, by omega⟩
    rw [Nat.add_sub_cancel] at hI
    by_cases c : s &&& (n + 1) = n + 1
    · have hf : ∀ B, 0 < B → B < n + 1 → (n + 1) &&& B = B → I 79 B = nI (tb S C n B) ∧ tb S C n B ≤ 1000000 := fun B b1 b2 b3 => by
        refine ⟨hI B b1 b2 ?_, tb_le S C n B⟩
        rw [← b3, ← Nat.and_assoc, c]
      have hl := s_SU_leastCost I J q X hst hi hf
      have hb := bcx_ok (n + 1) hi
      rw [Nat.add_sub_cancel] at hb
      obtain ⟨I', p1, p2, p3⟩ := l_SU_solve J q X hs d (n + 1 + 1) (up I 79 (n + 1) (nI (ms S C (tb S C n) (n + 1)))) (by omega) (by omega) (stf_fr hst fun a a1 _ _ => up_ne a1) (fun B b1 b2 b3 => by
        rw [up_same, Nat.add_sub_cancel, tb]
        by_cases eB : B = n + 1
        · subst eB
          rw [upd_same, if_pos rfl]
        · rw [upd_ne eB, if_neg eB]
          exact hI B b1 (by omega) b3)
      refine ⟨I', ?_, p2, fun a ha => by rw [p3 a ha, up_ne ha]⟩
      rw [bk_SU_solve_2]
      simp (disch := first | omega | decide | assumption | simp only [List.length_cons, List.length_nil, Nat.reduceAdd, Nat.reduceLeDiff]) only [x_c_1, x_istore_2, x_iload_2, x_iload_1, x_ic_gt, x_c_256, x_ic_ge, x_c_m1, x_ixor, x_iand, x_if_ne, x_aload_0, x_get_451, xc_JI_bitCount_0f7a4, x_ic_ne, x_c_0, x_goto, xc_SU_leastCost, x_iast, x_iinc_2_1, x_vret, tg_SU_solve_2, tg_SU_solve_23, tg_SU_solve_26, tg_SU_solve_27, tg_SU_solve_29, bk_SU_solve_0, bk_SU_solve_23, bk_SU_solve_26, bk_SU_solve_27, bk_SU_solve_29, kil_int, kil_ref, kil_null, kil_long, kil_rA, psh_int, psh_long, psh_null, gI_gS, gL_gS, gR_gS, sI_gS, sL_gS, orf_some, Option.bind_some, List.length_cons, List.length_nil, Nat.reduceAdd, Nat.reduceLeDiff, if_true, if_false, Nat.zero_le, e1, nI_ltI, nI_leI, nI_eq, nI_ltL, nI_leL, L_ltI, L_leI, nI_eqL, L_eqI, oob_nI, ix_nI, oob_L, ix_L, nI_1, nI_add, nI_z, z_nI, nI_lt0, nI_ge0, nI_gt0, nI_le0, ne_eq, Nat.le_zero_eq, Nat.not_lt_zero, Nat.lt_irrefl, Nat.le_refl, if_neg (show ¬ s < n + 1 by omega), if_neg (show ¬ 255 ≤ n by omega), hsub, c, i10, ne_eq, not_true_eq_false, not_false_eq_true, Bool.false_eq_true, true_and, and_true, and_self, if_true, if_false, s_bitCount, at_63, at_79, al_79, rw_63_3, hl, hb]
      rw [← p1]
      unfold ms
      rw [Nat.add_sub_cancel]
      by_cases c2 : (n + 1) &&& n = 0
      · simp [c2]
        rfl
      · simp [c2]
    · obtain ⟨I', p1, p2, p3⟩ := l_SU_solve J q X hs d (n + 1 + 1) I (by omega) (by omega) hst (fun B b1 b2 b3 => by
        have eB : B ≠ n + 1 := fun eB => c (eB ▸ b3)
        rw [Nat.add_sub_cancel, tb, if_neg eB]
        exact hI B b1 (by omega) b3)
      refine ⟨I', ?_, p2, p3⟩
      rw [bk_SU_solve_2]
      simp (disch := first | omega | decide | assumption | simp only [List.length_cons, List.length_nil, Nat.reduceAdd, Nat.reduceLeDiff]) only [x_c_1, x_istore_2, x_iload_2, x_iload_1, x_ic_gt, x_c_256, x_ic_ge, x_c_m1, x_ixor, x_iand, x_if_ne, x_aload_0, x_get_451, xc_JI_bitCount_0f7a4, x_ic_ne, x_c_0, x_goto, xc_SU_leastCost, x_iast, x_iinc_2_1, x_vret, tg_SU_solve_2, tg_SU_solve_23, tg_SU_solve_26, tg_SU_solve_27, tg_SU_solve_29, bk_SU_solve_0, bk_SU_solve_23, bk_SU_solve_26, bk_SU_solve_27, bk_SU_solve_29, kil_int, kil_ref, kil_null, kil_long, kil_rA, psh_int, psh_long, psh_null, gI_gS, gL_gS, gR_gS, sI_gS, sL_gS, orf_some, Option.bind_some, List.length_cons, List.length_nil, Nat.reduceAdd, Nat.reduceLeDiff, if_true, if_false, Nat.zero_le, e1, nI_ltI, nI_leI, nI_eq, nI_ltL, nI_leL, L_ltI, L_leI, nI_eqL, L_eqI, oob_nI, ix_nI, oob_L, ix_L, nI_1, nI_add, nI_z, z_nI, nI_lt0, nI_ge0, nI_gt0, nI_le0, ne_eq, Nat.le_zero_eq, Nat.not_lt_zero, Nat.lt_irrefl, Nat.le_refl, if_neg (show ¬ s < n + 1 by omega), if_neg (show ¬ 255 ≤ n by omega), hsub, c, i10, ne_eq, not_true_eq_false, not_false_eq_true, Bool.false_eq_true, true_and, and_true, and_self, if_true, if_false]
      exact p1
def ft (b : Nat → Nat) (m : Nat) : Nat → Nat → Int32
  | 0, _ => -4
  | d + 1, t => if b t = m then nI t else ft b m d (t + 1)
theorem l_SU_firstTest (I : Nat → Nat → Int32) (J : Nat → Nat → Int64) (q : Bool × Bool) (X : Nat × (Nat → Int32)) {S : Nat → Nat → Nat} {C f : Nat → Nat} (h : stf I S C) {A m : Nat} (hA : A < 256) (hf : ∀ B, 0 < B → B < A → A &&& B = B → I 79 B = nI (f B) ∧ f B ≤ 1000000) (hm : I 79 A = nI m) (hm2 : m ≤ 1000000) : ∀ (d t : Nat), d + t = 6 → gb_ex 60 bk_SU_firstTest_2 [.ref (63 : Nat), .int (nI A), .int (nI t)] [] gb_pG (gS I J q X) = some (.int (ft (bt S C f A) m d t), gb_pG, gS I J q X)
  | 0, t, e => by
    rw [bk_SU_firstTest_2]
    simp (disch := first | omega | decide | assumption | simp only [List.length_cons, List.length_nil, Nat.reduceAdd, Nat.reduceLeDiff]) only [x_c_0, x_istore_2, x_iload_2, x_c_6, x_ic_ge, x_aload_0, x_iload_1, xc_SU_costThrough, x_get_451, x_iald, x_ic_ne, x_iret, x_iinc_2_1, x_goto, x_c_m4, tg_SU_firstTest_2, tg_SU_firstTest_16, tg_SU_firstTest_18, bk_SU_firstTest_0, bk_SU_firstTest_16, bk_SU_firstTest_18, kil_int, kil_ref, kil_null, kil_long, kil_rA, psh_int, psh_long, psh_null, gI_gS, gL_gS, gR_gS, sI_gS, sL_gS, orf_some, Option.bind_some, List.length_cons, List.length_nil, Nat.reduceAdd, Nat.reduceLeDiff, if_true, if_false, Nat.zero_le, nI_ltI, nI_leI, nI_eq, nI_ltL, nI_leL, L_ltI, L_leI, nI_eqL, L_eqI, oob_nI, ix_nI, oob_L, ix_L, nI_1, nI_add, nI_z, z_nI, nI_lt0, nI_ge0, nI_gt0, nI_le0, ne_eq, Nat.le_zero_eq, Nat.not_lt_zero, Nat.lt_irrefl, Nat.le_refl, if_pos (show 6 ≤ t by omega)]
    rfl
  | d + 1, t, e => by
    have hb := bt_le (S := S) (C := C) (f := f) (A := A) (t := t) (fun B x y z => (hf B x y z).2) (h.2.2 t (by omega)).2.2.2
    have hc := s_SU_costThrough I J q X h hA (show t < 6 by omega) hf
    have ih := l_SU_firstTest I J q X h hA hf hm hm2 d (t + 1) (by omega)
    rw [bk_SU_firstTest_2, ft]
    generalize bt S C f A t = b at hb hc ⊢
    simp (disch := first | omega | decide | assumption | simp only [List.length_cons, List.length_nil, Nat.reduceAdd, Nat.reduceLeDiff]) only [x_c_0, x_istore_2, x_iload_2, x_c_6, x_ic_ge, x_aload_0, x_iload_1, xc_SU_costThrough, x_get_451, x_iald, x_ic_ne, x_iret, x_iinc_2_1, x_goto, x_c_m4, tg_SU_firstTest_2, tg_SU_firstTest_16, tg_SU_firstTest_18, bk_SU_firstTest_0, bk_SU_firstTest_16, bk_SU_firstTest_18, kil_int, kil_ref, kil_null, kil_long, kil_rA, psh_int, psh_long, psh_null, gI_gS, gL_gS, gR_gS, sI_gS, sL_gS, orf_some, Option.bind_some, List.length_cons, List.length_nil, Nat.reduceAdd, Nat.reduceLeDiff, if_true, if_false, Nat.zero_le, nI_ltI, nI_leI, nI_eq, nI_ltL, nI_leL, L_ltI, L_leI, nI_eqL, L_eqI, oob_nI, ix_nI, oob_L, ix_L, nI_1, nI_add, nI_z, z_nI, nI_lt0, nI_ge0, nI_gt0, nI_le0, ne_eq, Nat.le_zero_eq, Nat.not_lt_zero, Nat.lt_irrefl, Nat.le_refl, if_neg (show ¬ 6 ≤ t by omega), at_63, at_79, al_79, rw_63_3, hc, hm, i10, ne_eq, not_true_eq_false, not_false_eq_true, Bool.false_eq_true, true_and, and_true, and_self, if_true, if_false, ih]
    by_cases c : b = m <;> simp [c]
def mz (b : Nat → Nat) : Nat → Nat → Nat → Int32 → Int32
  | 0, _, _, z => z
  | d + 1, t, a, z => if b t < a then mz b d (t + 1) (b t) (nI t) else mz b d (t + 1) a z
theorem mt_s (b : Nat → Nat) (d t a : Nat) : mt b (d + 1) t a = if b t < a then mt b d (t + 1) (b t) else mt b d (t + 1) a := by
  show mt b d (t + 1) (if b t < a then b t else a) = _
  split <;> rfl
theorem mz_ft (b : Nat → Nat) : ∀ d t a z, (mt b d t a = a → mz b d t a z = z) ∧ (mt b d t a < a → mz b d t a z = ft b (mt b d t a) d t)
  | 0, t, a, z => ⟨fun _ => rfl, fun h => absurd h (Nat.lt_irrefl a)⟩
  | d + 1, t, a, z => by
    rw [mt_s, mz, ft]
    by_cases c : b t < a
    · obtain ⟨i1, i2⟩ := mz_ft b d (t + 1) (b t) (nI t)
      have := mt_le b d (t + 1) (b t)
      rw [if_pos c, if_pos c]
      refine ⟨fun h => by omega, fun h => ?_⟩
      by_cases c2 : mt b d (t + 1) (b t) = b t
      · rw [i1 c2, c2, if_pos rfl]
      · rw [i2 (by omega), if_neg (fun q => c2 q.symm)]
    · obtain ⟨i1, i2⟩ := mz_ft b d (t + 1) a z
      have := mt_le b d (t + 1) a
      rw [if_neg c, if_neg c]
      refine ⟨i1, fun h => ?_⟩
      rw [i2 h, if_neg (by omega)]
theorem bw_none {S : Nat → Nat → Nat} {f : Nat → Nat} {A t u : Nat} (h : pt S A t u = A) : ∀ d v a, v ≤ u → u < v + d → bw S f A t d v a = none
  | 0, v, a, h1, h2 => by omega
  | d + 1, v, a, h1, h2 => by
    rw [bw]
    by_cases e : v = u
    · subst e
      rw [if_pos h]
    · split
      · rfl
      · exact bw_none h d (v + 1) _ (by omega) (by omega)
theorem bt_one {S : Nat → Nat → Nat} {C f : Nat → Nat} {A t : Nat} (hA : A < 256) (h0 : A ≠ 0) (h1 : A &&& (A - 1) = 0) (hS : ∀ k, k < 8 → S t k ≤ 3) : bt S C f A t = 1000000 := by
  obtain ⟨k, hk, e⟩ := one_bit A hA h0 h1
  have : pt S A t (S t k) = A := by
    apply Nat.eq_of_testBit_eq
    intro j
    rw [pt_tb, e, Nat.testBit_two_pow]
    by_cases c : k = j
    · subst c
      simp [hk]
    · simp [c]
  have h3 := hS k hk
  unfold bt
  rw [bw_none this 4 0 0 (by omega) (by omega)]
  rfl
theorem ft_one (b : Nat → Nat) (m : Nat) : ∀ d t, (∀ j, t ≤ j → j < t + d → b j ≠ m) → ft b m d t = -4
  | 0, _, _ => rfl
  | d + 1, t, h => by
    rw [ft, if_neg (h t (by omega) (by omega))]
    exact ft_one b m d (t + 1) fun j a c => h j (by omega) (by omega)
/-! the other's -/
theorem l_RM_parting45 (J : Nat → Nat → Int64) (q : Bool × Bool) (X : Nat × (Nat → Int32)) {S : Nat → Nat → Nat} {C f : Nat → Nat} {A : Nat} (hA : A < 256) (s w : Int32) : ∀ (d t a : Nat) (I : Nat → Nat → Int32) (z6 : Value), d + t = 6 → stf I S C → (∀ B, 0 < B → B < A → A &&& B = B → I 217 B = nI (f B) ∧ f B ≤ 1000000) → I 217 A = nI a → a ≤ 1000000 →
    ∃ I' z5' z6', gb_ex 179 bk_RM_parting_45 [.ref (190 : Nat), .int s, .int w, .int (nI A), .int 0, .int (nI t), z6] [] gb_pG (gS I J q X) = gb_ex 179 bk_RM_parting_73 [.ref (190 : Nat), .int s, .int w, .int (nI A), .int 0, z5', z6'] [] gb_pG (gS I' J q X) ∧ I' 217 A = nI (mt (bt S C f A) d t a) ∧ I' 218 A = mz (bt S C f A) d t a (I 218 A) ∧ ∀ a k, ¬ ((a = 217 ∨ a = 218) ∧ k = A) → I' a k = I a k
  | 0, t, a, I, z6, e, hst, hf, ha, ha2 => by
    refine ⟨I, .int (nI t), z6, ?_, ha, rfl, fun _ _ _ => rfl⟩
    rw [bk_RM_parting_45]
    simp (disch := first | omega | decide | assumption | simp only [List.length_cons, List.length_nil, Nat.reduceAdd, Nat.reduceLeDiff]) only [x_iload_1, x_i2l, x_l_1, x_l_255, xc_RM_in, x_if_eq, x_iload_2, x_l_0, x_if_ne, x_c_m1, x_iret, x_c_1, x_istore_3, x_iload_3, x_ic_gt, x_isub, x_iand, x_goto, x_c_0, x_istore_4, x_aload_0, x_get_670, x_iload_4, x_c_1000000, x_iast, x_get_671, x_c_m4, x_istore_5, x_iload_5, x_c_6, x_ic_ge, xc_RM_byTest, x_istore_6, x_iload_6, x_iald, x_iinc_5_1, x_iinc_3_1, x_ic_ne, tg_RM_parting_12, tg_RM_parting_14, tg_RM_parting_16, tg_RM_parting_27, tg_RM_parting_28, tg_RM_parting_36, tg_RM_parting_37, tg_RM_parting_45, tg_RM_parting_71, tg_RM_parting_73, tg_RM_parting_75, tg_RM_parting_83, tg_RM_parting_90, tg_RM_parting_94, bk_RM_parting_0, bk_RM_parting_12, bk_RM_parting_14, bk_RM_parting_16, bk_RM_parting_27, bk_RM_parting_28, bk_RM_parting_36, bk_RM_parting_37, bk_RM_parting_71, bk_RM_parting_75, bk_RM_parting_83, bk_RM_parting_90, bk_RM_parting_94, kil_int, kil_ref, kil_null, kil_long, kil_rA, psh_int, psh_long, psh_null, gI_gS, gL_gS, gR_gS, sI_gS, sL_gS, orf_some, Option.bind_some, List.length_cons, List.length_nil, Nat.reduceAdd, Nat.reduceLeDiff, if_true, if_false, Nat.zero_le, nI_ltI, nI_leI, nI_eq, nI_ltL, nI_leL, L_ltI, L_leI, nI_eqL, L_eqI, oob_nI, ix_nI, oob_L, ix_L, nI_1, nI_add, nI_z, z_nI, nI_lt0, nI_ge0, nI_gt0, nI_le0, ne_eq, Nat.le_zero_eq, Nat.not_lt_zero, Nat.lt_irrefl, Nat.le_refl, if_pos (show 6 ≤ t by omega)]
  | d + 1, t, a, I, z6, e, hst, hf, ha, ha2 => by
    have hb := bt_le (S := S) (C := C) (f := f) (A := A) (t := t) (fun B x y z => (hf B x y z).2) (hst.2.2 t (by omega)).2.2.2
    have hc := s_RM_byTest I J q X hst hA (show t < 6 by omega) hf
    rw [mt_s, mz, bk_RM_parting_45]
    generalize hg : bt S C f A t = b at hb hc ⊢
    by_cases c : b < a
    · obtain ⟨I', z5', z6', p1, p2, p3, p4⟩ := l_RM_parting45 J q X hA s w d (t + 1) b (up (up I 217 A (nI b)) 218 A (nI t)) (.int (nI b)) (by omega) (stf_fr hst fun a _ a2 a3 => by rw [up_ne a3, up_ne a2]) (fun B b1 b2 b3 => by
        rw [up_ne (by omega), up_same, upd_ne (by omega)]
        exact hf B b1 b2 b3) (by rw [up_ne (by omega), up_same, upd_same]) (by omega)
      refine ⟨I', z5', z6', ?_, ?_, ?_, ?_⟩
      · rw [← p1]
        simp (disch := first | omega | decide | assumption | simp only [List.length_cons, List.length_nil, Nat.reduceAdd, Nat.reduceLeDiff]) only [x_iload_1, x_i2l, x_l_1, x_l_255, xc_RM_in, x_if_eq, x_iload_2, x_l_0, x_if_ne, x_c_m1, x_iret, x_c_1, x_istore_3, x_iload_3, x_ic_gt, x_isub, x_iand, x_goto, x_c_0, x_istore_4, x_aload_0, x_get_670, x_iload_4, x_c_1000000, x_iast, x_get_671, x_c_m4, x_istore_5, x_iload_5, x_c_6, x_ic_ge, xc_RM_byTest, x_istore_6, x_iload_6, x_iald, x_iinc_5_1, x_iinc_3_1, x_ic_ne, tg_RM_parting_12, tg_RM_parting_14, tg_RM_parting_16, tg_RM_parting_27, tg_RM_parting_28, tg_RM_parting_36, tg_RM_parting_37, tg_RM_parting_45, tg_RM_parting_71, tg_RM_parting_73, tg_RM_parting_75, tg_RM_parting_83, tg_RM_parting_90, tg_RM_parting_94, bk_RM_parting_0, bk_RM_parting_12, bk_RM_parting_14, bk_RM_parting_16, bk_RM_parting_27, bk_RM_parting_28, bk_RM_parting_36, bk_RM_parting_37, bk_RM_parting_71, bk_RM_parting_75, bk_RM_parting_83, bk_RM_parting_90, bk_RM_parting_94, kil_int, kil_ref, kil_null, kil_long, kil_rA, psh_int, psh_long, psh_null, gI_gS, gL_gS, gR_gS, sI_gS, sL_gS, orf_some, Option.bind_some, List.length_cons, List.length_nil, Nat.reduceAdd, Nat.reduceLeDiff, if_true, if_false, Nat.zero_le, nI_ltI, nI_leI, nI_eq, nI_ltL, nI_leL, L_ltI, L_leI, nI_eqL, L_eqI, oob_nI, ix_nI, oob_L, ix_L, nI_1, nI_add, nI_z, z_nI, nI_lt0, nI_ge0, nI_gt0, nI_le0, ne_eq, Nat.le_zero_eq, Nat.not_lt_zero, Nat.lt_irrefl, Nat.le_refl, if_neg (show ¬ 6 ≤ t by omega), at_190, at_217, at_218, al_217, al_218, rw_190_30, rw_190_31, hc, ha, i10, ne_eq, not_true_eq_false, not_false_eq_true, Bool.false_eq_true, true_and, and_true, and_self, if_true, if_false, if_neg (show ¬ a ≤ b by omega)]
      · rw [p2, if_pos c]
      · rw [p3, if_pos c, up_same, upd_same]
      · intro a' k hk
        rw [p4 a' k hk]
        by_cases x1 : a' = 218
        · subst x1
          rw [up_same, upd_ne (fun q => hk ⟨Or.inr rfl, q⟩), up_ne (by omega)]
        · by_cases x2 : a' = 217
          · subst x2
            rw [up_ne (by omega), up_same, upd_ne (fun q => hk ⟨Or.inl rfl, q⟩)]
          · rw [up_ne x1, up_ne x2]
    · obtain ⟨I', z5', z6', p1, p2, p3, p4⟩ := l_RM_parting45 J q X hA s w d (t + 1) a I (.int (nI b)) (by omega) hst hf ha ha2
      refine ⟨I', z5', z6', ?_, ?_, ?_, p4⟩
      · rw [← p1]
        simp (disch := first | omega | decide | assumption | simp only [List.length_cons, List.length_nil, Nat.reduceAdd, Nat.reduceLeDiff]) only [x_iload_1, x_i2l, x_l_1, x_l_255, xc_RM_in, x_if_eq, x_iload_2, x_l_0, x_if_ne, x_c_m1, x_iret, x_c_1, x_istore_3, x_iload_3, x_ic_gt, x_isub, x_iand, x_goto, x_c_0, x_istore_4, x_aload_0, x_get_670, x_iload_4, x_c_1000000, x_iast, x_get_671, x_c_m4, x_istore_5, x_iload_5, x_c_6, x_ic_ge, xc_RM_byTest, x_istore_6, x_iload_6, x_iald, x_iinc_5_1, x_iinc_3_1, x_ic_ne, tg_RM_parting_12, tg_RM_parting_14, tg_RM_parting_16, tg_RM_parting_27, tg_RM_parting_28, tg_RM_parting_36, tg_RM_parting_37, tg_RM_parting_45, tg_RM_parting_71, tg_RM_parting_73, tg_RM_parting_75, tg_RM_parting_83, tg_RM_parting_90, tg_RM_parting_94, bk_RM_parting_0, bk_RM_parting_12, bk_RM_parting_14, bk_RM_parting_16, bk_RM_parting_27, bk_RM_parting_28, bk_RM_parting_36, bk_RM_parting_37, bk_RM_parting_71, bk_RM_parting_75, bk_RM_parting_83, bk_RM_parting_90, bk_RM_parting_94, kil_int, kil_ref, kil_null, kil_long, kil_rA, psh_int, psh_long, psh_null, gI_gS, gL_gS, gR_gS, sI_gS, sL_gS, orf_some, Option.bind_some, List.length_cons, List.length_nil, Nat.reduceAdd, Nat.reduceLeDiff, if_true, if_false, Nat.zero_le, nI_ltI, nI_leI, nI_eq, nI_ltL, nI_leL, L_ltI, L_leI, nI_eqL, L_eqI, oob_nI, ix_nI, oob_L, ix_L, nI_1, nI_add, nI_z, z_nI, nI_lt0, nI_ge0, nI_gt0, nI_le0, ne_eq, Nat.le_zero_eq, Nat.not_lt_zero, Nat.lt_irrefl, Nat.le_refl, if_neg (show ¬ 6 ≤ t by omega), at_190, at_217, at_218, al_217, al_218, rw_190_30, rw_190_31, hc, ha, i10, ne_eq, not_true_eq_false, not_false_eq_true, Bool.false_eq_true, true_and, and_true, and_self, if_true, if_false, if_pos (show a ≤ b by omega)]
      · rw [p2, if_neg c]
      · rw [p3, if_neg c]
def zz (S : Nat → Nat → Nat) (C : Nat → Nat) (s : Nat) : Int32 := if s &&& (s - 1) = 0 then -4 else mz (bt S C (tb S C (s - 1)) s) 6 0 1000000 (-4)
theorem l_RM_parting16 (J : Nat → Nat → Int64) (q : Bool × Bool) (X : Nat × (Nat → Int32)) {S : Nat → Nat → Nat} {C : Nat → Nat} {s : Nat} (hs : s < 256) (hs0 : 1 ≤ s) (w : Int32) : ∀ (d i : Nat) (I : Nat → Nat → Int32) (z4 z5 z6 : Value), d + i = s + 1 → 1 ≤ i → stf I S C → (∀ B, 0 < B → B < i → I 217 B = nI (tb S C (i - 1) B)) → (s < i → I 218 s = zz S C s) →
    ∃ I' z3' z4' z5' z6', gb_ex 179 bk_RM_parting_16 [.ref (190 : Nat), .int (nI s), .int w, .int (nI i), z4, z5, z6] [] gb_pG (gS I J q X) = gb_ex 179 bk_RM_parting_75 [.ref (190 : Nat), .int (nI s), .int w, z3', z4', z5', z6'] [] gb_pG (gS I' J q X) ∧ I' 217 s = nI (tb S C s s) ∧ I' 218 s = zz S C s ∧ ∀ a, a ≠ 217 → a ≠ 218 → I' a = I a
  | 0, i, I, z4, z5, z6, e, h1, hst, hf, hz => by
    refine ⟨I, .int (nI i), z4, z5, z6, ?_, ?_, hz (by omega), fun _ _ _ => rfl⟩
    · rw [bk_RM_parting_16]
      simp (disch := first | omega | decide | assumption | simp only [List.length_cons, List.length_nil, Nat.reduceAdd, Nat.reduceLeDiff]) only [x_iload_1, x_i2l, x_l_1, x_l_255, xc_RM_in, x_if_eq, x_iload_2, x_l_0, x_if_ne, x_c_m1, x_iret, x_c_1, x_istore_3, x_iload_3, x_ic_gt, x_isub, x_iand, x_goto, x_c_0, x_istore_4, x_aload_0, x_get_670, x_iload_4, x_c_1000000, x_iast, x_get_671, x_c_m4, x_istore_5, x_iload_5, x_c_6, x_ic_ge, xc_RM_byTest, x_istore_6, x_iload_6, x_iald, x_iinc_5_1, x_iinc_3_1, x_ic_ne, tg_RM_parting_12, tg_RM_parting_14, tg_RM_parting_16, tg_RM_parting_27, tg_RM_parting_28, tg_RM_parting_36, tg_RM_parting_37, tg_RM_parting_45, tg_RM_parting_71, tg_RM_parting_73, tg_RM_parting_75, tg_RM_parting_83, tg_RM_parting_90, tg_RM_parting_94, bk_RM_parting_0, bk_RM_parting_12, bk_RM_parting_14, bk_RM_parting_27, bk_RM_parting_28, bk_RM_parting_36, bk_RM_parting_37, bk_RM_parting_71, bk_RM_parting_83, bk_RM_parting_90, bk_RM_parting_94, kil_int, kil_ref, kil_null, kil_long, kil_rA, psh_int, psh_long, psh_null, gI_gS, gL_gS, gR_gS, sI_gS, sL_gS, orf_some, Option.bind_some, List.length_cons, List.length_nil, Nat.reduceAdd, Nat.reduceLeDiff, if_true, if_false, Nat.zero_le, nI_ltI, nI_leI, nI_eq, nI_ltL, nI_leL, L_ltI, L_leI, nI_eqL, L_eqI, oob_nI, ix_nI, oob_L, ix_L, nI_1, nI_add, nI_z, z_nI, nI_lt0, nI_ge0, nI_gt0, nI_le0, ne_eq, Nat.le_zero_eq, Nat.not_lt_zero, Nat.lt_irrefl, Nat.le_refl, if_pos (show s < i by omega)]
    · rw [hf s (by omega) (by omega), show i - 1 = s by omega]
  | d + 1, i, I, z4, z5, z6, e, h1, hst, hf, hz => by
    obtain ⟨n, rfl⟩ : ∃ n, i = n + 1 := ⟨i - 1, by omega⟩
    rw [Nat.add_sub_cancel] at hf
    have hi : n + 1 < 256 := by omega
    have e1 : nI (n + 1) &&& (nI (n + 1) - 1) = nI ((n + 1) &&& n) := by rw [nI_pred, nI_and]
    have e2 : (n + 1) &&& n ≤ n := Nat.and_le_right
    by_cases c : (n + 1) &&& n = 0
    · obtain ⟨I', z3', z4', z5', z6', p1, p2, p3, p4⟩ := l_RM_parting16 J q X hs hs0 w d (n + 1 + 1) (up (up I 217 (n + 1) 0) 218 (n + 1) (-4)) (.int 1) (.int 0) z6 (by omega) (by omega) (stf_fr hst fun a _ a2 a3 => by rw [up_ne a3, up_ne a2]) (fun B b1 b2 => by
        rw [up_ne (by omega), up_same, Nat.add_sub_cancel, tb]
        by_cases eB : B = n + 1
        · subst eB
          rw [upd_same, if_pos rfl, ms, Nat.add_sub_cancel, if_pos c]
          rfl
        · rw [upd_ne eB, if_neg eB]
          exact hf B b1 (by omega)) (fun hh => by
        have : s = n + 1 := by omega
        subst this
        rw [up_same, upd_same, zz, Nat.add_sub_cancel, if_pos c])
      refine ⟨I', z3', z4', z5', z6', ?_, p2, p3, fun a a1 a2 => by rw [p4 a a1 a2, up_ne a2, up_ne a1]⟩
      rw [bk_RM_parting_16, ← p1]
      simp (disch := first | omega | decide | assumption | simp only [List.length_cons, List.length_nil, Nat.reduceAdd, Nat.reduceLeDiff]) only [x_iload_1, x_i2l, x_l_1, x_l_255, xc_RM_in, x_if_eq, x_iload_2, x_l_0, x_if_ne, x_c_m1, x_iret, x_c_1, x_istore_3, x_iload_3, x_ic_gt, x_isub, x_iand, x_goto, x_c_0, x_istore_4, x_aload_0, x_get_670, x_iload_4, x_c_1000000, x_iast, x_get_671, x_c_m4, x_istore_5, x_iload_5, x_c_6, x_ic_ge, xc_RM_byTest, x_istore_6, x_iload_6, x_iald, x_iinc_5_1, x_iinc_3_1, x_ic_ne, tg_RM_parting_12, tg_RM_parting_14, tg_RM_parting_16, tg_RM_parting_27, tg_RM_parting_28, tg_RM_parting_36, tg_RM_parting_37, tg_RM_parting_45, tg_RM_parting_71, tg_RM_parting_73, tg_RM_parting_75, tg_RM_parting_83, tg_RM_parting_90, tg_RM_parting_94, bk_RM_parting_0, bk_RM_parting_12, bk_RM_parting_14, bk_RM_parting_27, bk_RM_parting_28, bk_RM_parting_36, bk_RM_parting_37, bk_RM_parting_45, bk_RM_parting_71, bk_RM_parting_73, bk_RM_parting_83, bk_RM_parting_90, bk_RM_parting_94, kil_int, kil_ref, kil_null, kil_long, kil_rA, psh_int, psh_long, psh_null, gI_gS, gL_gS, gR_gS, sI_gS, sL_gS, orf_some, Option.bind_some, List.length_cons, List.length_nil, Nat.reduceAdd, Nat.reduceLeDiff, if_true, if_false, Nat.zero_le, e1, nI_ltI, nI_leI, nI_eq, nI_ltL, nI_leL, L_ltI, L_leI, nI_eqL, L_eqI, oob_nI, ix_nI, oob_L, ix_L, nI_1, nI_add, nI_z, z_nI, nI_lt0, nI_ge0, nI_gt0, nI_le0, ne_eq, Nat.le_zero_eq, Nat.not_lt_zero, Nat.lt_irrefl, Nat.le_refl, if_neg (show ¬ s < n + 1 by omega), at_190, at_217, at_218, al_217, al_218, rw_190_30, rw_190_31, i10, ne_eq, not_true_eq_false, not_false_eq_true, Bool.false_eq_true, true_and, and_true, and_self, if_true, if_false, c, ite_self]
    · have hfz := hf
      obtain ⟨I1, z5', z6', r1, r2, r3, r4⟩ := l_RM_parting45 J q X hi (nI s) w 6 0 1000000 (up (up I 217 (n + 1) 1000000) 218 (n + 1) (-4)) z6 (S := S) (C := C) (f := tb S C n) (by omega) (stf_fr hst fun a _ a2 a3 => by rw [up_ne a3, up_ne a2]) (fun B b1 b2 b3 => by
        rw [up_ne (by omega), up_same, upd_ne (by omega)]
        exact ⟨hf B b1 (by omega), tb_le S C n B⟩) (by rw [up_ne (by omega), up_same, upd_same]; rfl) (by omega)
      have fr : ∀ a, a ≠ 217 → a ≠ 218 → I1 a = I a := fun a a1 a2 => funext fun k => by
        rw [r4 a k (fun q => by omega), up_ne a2, up_ne a1]
      obtain ⟨I', z3', z4', z5', z6', p1, p2, p3, p4⟩ := l_RM_parting16 J q X hs hs0 w d (n + 1 + 1) I1 (.int 0) z5' z6' (by omega) (by omega) (stf_fr hst fun a _ a2 a3 => fr a a2 a3) (fun B b1 b2 => by
        rw [Nat.add_sub_cancel, tb]
        by_cases eB : B = n + 1
        · subst eB
          rw [r2, if_pos rfl, ms, Nat.add_sub_cancel, if_neg c]
        · rw [if_neg eB, r4 217 B (fun q => eB q.2), up_ne (by omega), up_same, upd_ne eB]
          exact hf B b1 (by omega)) (fun hh => by
        have : s = n + 1 := by omega
        subst this
        rw [r3, zz, Nat.add_sub_cancel, if_neg c, up_same, upd_same])
      refine ⟨I', z3', z4', z5', z6', ?_, p2, p3, fun a a1 a2 => by rw [p4 a a1 a2, fr a a1 a2]⟩
      rw [bk_RM_parting_16]
      rw [bk_RM_parting_73] at r1
      simp (disch := first | omega | decide | assumption | simp only [List.length_cons, List.length_nil, Nat.reduceAdd, Nat.reduceLeDiff]) only [x_iload_1, x_i2l, x_l_1, x_l_255, xc_RM_in, x_if_eq, x_iload_2, x_l_0, x_if_ne, x_c_m1, x_iret, x_c_1, x_istore_3, x_iload_3, x_ic_gt, x_isub, x_iand, x_goto, x_c_0, x_istore_4, x_aload_0, x_get_670, x_iload_4, x_c_1000000, x_iast, x_get_671, x_c_m4, x_istore_5, x_iload_5, x_c_6, x_ic_ge, xc_RM_byTest, x_istore_6, x_iload_6, x_iald, x_iinc_5_1, x_iinc_3_1, x_ic_ne, tg_RM_parting_12, tg_RM_parting_14, tg_RM_parting_16, tg_RM_parting_27, tg_RM_parting_28, tg_RM_parting_36, tg_RM_parting_37, tg_RM_parting_45, tg_RM_parting_71, tg_RM_parting_73, tg_RM_parting_75, tg_RM_parting_83, tg_RM_parting_90, tg_RM_parting_94, bk_RM_parting_0, bk_RM_parting_12, bk_RM_parting_14, bk_RM_parting_27, bk_RM_parting_28, bk_RM_parting_36, bk_RM_parting_37, bk_RM_parting_71, bk_RM_parting_83, bk_RM_parting_90, bk_RM_parting_94, kil_int, kil_ref, kil_null, kil_long, kil_rA, psh_int, psh_long, psh_null, gI_gS, gL_gS, gR_gS, sI_gS, sL_gS, orf_some, Option.bind_some, List.length_cons, List.length_nil, Nat.reduceAdd, Nat.reduceLeDiff, if_true, if_false, Nat.zero_le, nI_ltI, nI_leI, nI_eq, nI_ltL, nI_leL, L_ltI, L_leI, nI_eqL, L_eqI, oob_nI, ix_nI, oob_L, ix_L, nI_1, nI_add, nI_z, z_nI, nI_lt0, nI_ge0, nI_gt0, nI_le0, ne_eq, Nat.le_zero_eq, Nat.not_lt_zero, Nat.lt_irrefl, Nat.le_refl] at r1
      rw [p1] at r1
      rw [← r1]
      simp (disch := first | omega | decide | assumption | simp only [List.length_cons, List.length_nil, Nat.reduceAdd, Nat.reduceLeDiff]) only [x_iload_1, x_i2l, x_l_1, x_l_255, xc_RM_in, x_if_eq, x_iload_2, x_l_0, x_if_ne, x_c_m1, x_iret, x_c_1, x_istore_3, x_iload_3, x_ic_gt, x_isub, x_iand, x_goto, x_c_0, x_istore_4, x_aload_0, x_get_670, x_iload_4, x_c_1000000, x_iast, x_get_671, x_c_m4, x_istore_5, x_iload_5, x_c_6, x_ic_ge, xc_RM_byTest, x_istore_6, x_iload_6, x_iald, x_iinc_5_1, x_iinc_3_1, x_ic_ne, tg_RM_parting_12, tg_RM_parting_14, tg_RM_parting_16, tg_RM_parting_27, tg_RM_parting_28, tg_RM_parting_36, tg_RM_parting_37, tg_RM_parting_45, tg_RM_parting_71, tg_RM_parting_73, tg_RM_parting_75, tg_RM_parting_83, tg_RM_parting_90, tg_RM_parting_94, bk_RM_parting_0, bk_RM_parting_12, bk_RM_parting_14, bk_RM_parting_27, bk_RM_parting_28, bk_RM_parting_36, bk_RM_parting_37, bk_RM_parting_71, bk_RM_parting_83, bk_RM_parting_90, bk_RM_parting_94, kil_int, kil_ref, kil_null, kil_long, kil_rA, psh_int, psh_long, psh_null, gI_gS, gL_gS, gR_gS, sI_gS, sL_gS, orf_some, Option.bind_some, List.length_cons, List.length_nil, Nat.reduceAdd, Nat.reduceLeDiff, if_true, if_false, Nat.zero_le, e1, nI_ltI, nI_leI, nI_eq, nI_ltL, nI_leL, L_ltI, L_leI, nI_eqL, L_eqI, oob_nI, ix_nI, oob_L, ix_L, nI_1, nI_add, nI_z, z_nI, nI_lt0, nI_ge0, nI_gt0, nI_le0, ne_eq, Nat.le_zero_eq, Nat.not_lt_zero, Nat.lt_irrefl, Nat.le_refl, if_neg (show ¬ s < n + 1 by omega), at_190, at_217, at_218, al_217, al_218, rw_190_30, rw_190_31, i10, ne_eq, not_true_eq_false, not_false_eq_true, Bool.false_eq_true, true_and, and_true, and_self, if_true, if_false, c]
      rfl
theorem d_parting (I : Nat → Nat → Int32) (J : Nat → Nat → Int64) (q : Bool × Bool) (X : Nat × (Nat → Int32)) {S : Nat → Nat → Nat} {C : Nat → Nat} (h : stf I S C) (s w : Int32) : ∃ r I1 I2, gb_call 102 [.ref (0 : Nat), .int s, .int w] gb_pG (gS I J q X) = some (.int r, gb_pG, gS I1 J q X) ∧ gb_call 179 [.ref (190 : Nat), .int s, .int w] gb_pG (gS I1 J q X) = some (.int r, gb_pG, gS I2 J q X) ∧ stf I2 S C ∧ ∀ a, a ≠ 79 → a ≠ 217 → a ≠ 218 → I2 a = I a := by
  rw [cl_GB_parting]
  by_cases c1 : ¬ (1 ≤ s ∧ s ≤ 255)
  · refine ⟨-1, I, I, ?_, ?_, h, fun a _ _ _ => rfl⟩
    · simp only [x_iload_1, xc_GB_isSet, x_if_eq, x_iload_2, x_c_0, x_c_1, xc_GB_within, x_if_ne, x_c_m1, x_iret, x_aload_0, x_get_581, xc_SU_solve, x_get_451, x_iald, x_c_1000000, x_ic_ne, x_c_m4, x_goto, xc_SU_firstTest, tg_GB_parting_8, tg_GB_parting_10, tg_GB_parting_23, tg_GB_parting_31, tg_GB_parting_35, bk_GB_parting_0, bk_GB_parting_8, bk_GB_parting_10, bk_GB_parting_23, bk_GB_parting_31, bk_GB_parting_35, kil_int, kil_ref, kil_null, kil_long, kil_rA, psh_int, psh_long, psh_null, gI_gS, gL_gS, gR_gS, sI_gS, sL_gS, orf_some, Option.bind_some, List.length_cons, List.length_nil, Nat.reduceAdd, Nat.reduceLeDiff, if_true, if_false, Nat.zero_le, s_GB_isSet, s_GB_within, ite_b1, if_pos c1]
    · rw [cl_RM_parting]
      simp (disch := first | omega | decide | assumption | simp only [List.length_cons, List.length_nil, Nat.reduceAdd, Nat.reduceLeDiff]) only [x_iload_1, x_i2l, x_l_1, x_l_255, xc_RM_in, x_if_eq, x_iload_2, x_l_0, x_if_ne, x_c_m1, x_iret, x_c_1, x_istore_3, x_iload_3, x_ic_gt, x_isub, x_iand, x_goto, x_c_0, x_istore_4, x_aload_0, x_get_670, x_iload_4, x_c_1000000, x_iast, x_get_671, x_c_m4, x_istore_5, x_iload_5, x_c_6, x_ic_ge, xc_RM_byTest, x_istore_6, x_iload_6, x_iald, x_iinc_5_1, x_iinc_3_1, x_ic_ne, tg_RM_parting_12, tg_RM_parting_14, tg_RM_parting_16, tg_RM_parting_27, tg_RM_parting_28, tg_RM_parting_36, tg_RM_parting_37, tg_RM_parting_45, tg_RM_parting_71, tg_RM_parting_73, tg_RM_parting_75, tg_RM_parting_83, tg_RM_parting_90, tg_RM_parting_94, bk_RM_parting_0, bk_RM_parting_12, bk_RM_parting_14, bk_RM_parting_27, bk_RM_parting_28, bk_RM_parting_36, bk_RM_parting_37, bk_RM_parting_45, bk_RM_parting_71, bk_RM_parting_73, bk_RM_parting_75, bk_RM_parting_83, bk_RM_parting_90, bk_RM_parting_94, kil_int, kil_ref, kil_null, kil_long, kil_rA, psh_int, psh_long, psh_null, gI_gS, gL_gS, gR_gS, sI_gS, sL_gS, orf_some, Option.bind_some, List.length_cons, List.length_nil, Nat.reduceAdd, Nat.reduceLeDiff, if_true, if_false, Nat.zero_le, s_RM_in, w_Lle, w_leL, ite_b1, if_pos c1]
  replace c1 := Decidable.not_not.mp c1
  by_cases c2 : ¬ (0 ≤ w ∧ w ≤ 1)
  · refine ⟨-1, I, I, ?_, ?_, h, fun a _ _ _ => rfl⟩
    · simp only [x_iload_1, xc_GB_isSet, x_if_eq, x_iload_2, x_c_0, x_c_1, xc_GB_within, x_if_ne, x_c_m1, x_iret, x_aload_0, x_get_581, xc_SU_solve, x_get_451, x_iald, x_c_1000000, x_ic_ne, x_c_m4, x_goto, xc_SU_firstTest, tg_GB_parting_8, tg_GB_parting_10, tg_GB_parting_23, tg_GB_parting_31, tg_GB_parting_35, bk_GB_parting_0, bk_GB_parting_8, bk_GB_parting_10, bk_GB_parting_23, bk_GB_parting_31, bk_GB_parting_35, kil_int, kil_ref, kil_null, kil_long, kil_rA, psh_int, psh_long, psh_null, gI_gS, gL_gS, gR_gS, sI_gS, sL_gS, orf_some, Option.bind_some, List.length_cons, List.length_nil, Nat.reduceAdd, Nat.reduceLeDiff, if_true, if_false, Nat.zero_le, s_GB_isSet, s_GB_within, ite_b1, ite_b2, if_neg (not_not_intro c1), if_neg c2, i10, ne_eq, not_true_eq_false, not_false_eq_true, Bool.false_eq_true, true_and, and_true, and_self, if_true, if_false]
    · rw [cl_RM_parting]
      simp (disch := first | omega | decide | assumption | simp only [List.length_cons, List.length_nil, Nat.reduceAdd, Nat.reduceLeDiff]) only [x_iload_1, x_i2l, x_l_1, x_l_255, xc_RM_in, x_if_eq, x_iload_2, x_l_0, x_if_ne, x_c_m1, x_iret, x_c_1, x_istore_3, x_iload_3, x_ic_gt, x_isub, x_iand, x_goto, x_c_0, x_istore_4, x_aload_0, x_get_670, x_iload_4, x_c_1000000, x_iast, x_get_671, x_c_m4, x_istore_5, x_iload_5, x_c_6, x_ic_ge, xc_RM_byTest, x_istore_6, x_iload_6, x_iald, x_iinc_5_1, x_iinc_3_1, x_ic_ne, tg_RM_parting_12, tg_RM_parting_14, tg_RM_parting_16, tg_RM_parting_27, tg_RM_parting_28, tg_RM_parting_36, tg_RM_parting_37, tg_RM_parting_45, tg_RM_parting_71, tg_RM_parting_73, tg_RM_parting_75, tg_RM_parting_83, tg_RM_parting_90, tg_RM_parting_94, bk_RM_parting_0, bk_RM_parting_12, bk_RM_parting_14, bk_RM_parting_27, bk_RM_parting_28, bk_RM_parting_36, bk_RM_parting_37, bk_RM_parting_45, bk_RM_parting_71, bk_RM_parting_73, bk_RM_parting_75, bk_RM_parting_83, bk_RM_parting_90, bk_RM_parting_94, kil_int, kil_ref, kil_null, kil_long, kil_rA, psh_int, psh_long, psh_null, gI_gS, gL_gS, gR_gS, sI_gS, sL_gS, orf_some, Option.bind_some, List.length_cons, List.length_nil, Nat.reduceAdd, Nat.reduceLeDiff, if_true, if_false, Nat.zero_le, s_RM_in, ite_b1, ite_b2, w_Lle, w_leL, if_neg (not_not_intro c1), if_neg c2, i10, ne_eq, not_true_eq_false, not_false_eq_true, Bool.false_eq_true, true_and, and_true, and_self, if_true, if_false]
  replace c2 := Decidable.not_not.mp c2
  obtain ⟨s', x1, x2, rfl⟩ := nI_rng (by decide) (by decide) c1
  obtain ⟨w', y1, y2, rfl⟩ := nI_rng (by decide) (by decide) c2
  replace x1 : 1 ≤ s' := x1
  replace x2 : s' ≤ 255 := x2
  replace y2 : w' ≤ 1 := y2
  obtain ⟨I1, p1, p2, p3⟩ := l_SU_solve J q X (S := S) (C := C) (s := s') (by omega) s' 1 I (by omega) (by omega) h (fun B b1 b2 _ => by omega)
  have h1 : stf I1 S C := stf_fr h fun a a1 _ _ => p3 a a1
  obtain ⟨I2, z3', z4', z5', z6', r1, r2, r3, r4⟩ := l_RM_parting16 J q X (S := S) (C := C) (s := s') (by omega) x1 (nI w') s' 1 I1 .null .null .null (by omega) (by omega) h1 (fun B b1 b2 => by omega) (fun q => by omega)
  have hm := tb_le S C s' s'
  have hl := p2 s' (by omega) (Nat.le_refl _) (Nat.and_self s')
  have hft := l_SU_firstTest I1 J q X h1 (A := s') (m := tb S C s' s') (f := tb S C (s' - 1)) (by omega) (fun B b1 b2 b3 => ⟨by
    rw [p2 B b1 (by omega) b3]
    obtain ⟨n, rfl⟩ : ∃ n, s' = n + 1 := ⟨s' - 1, by omega⟩
    rw [tb, if_neg (by omega)]
    rfl, tb_le S C _ B⟩) hl hm 6 0 (by omega)
  have hsol : gb_call 57 [.ref (63 : Nat), .int (nI s')] gb_pG (gS I J q X) = some (.null, gb_pG, gS I1 J q X) := by
    rw [cl_SU_solve]
    simp only [x_c_1, x_istore_2, x_iload_2, x_iload_1, x_ic_gt, x_c_256, x_ic_ge, x_c_m1, x_ixor, x_iand, x_if_ne, x_aload_0, x_get_451, xc_JI_bitCount_0f7a4, x_ic_ne, x_c_0, x_goto, xc_SU_leastCost, x_iast, x_iinc_2_1, x_vret, tg_SU_solve_2, tg_SU_solve_23, tg_SU_solve_26, tg_SU_solve_27, tg_SU_solve_29, bk_SU_solve_0, bk_SU_solve_23, bk_SU_solve_26, bk_SU_solve_27, bk_SU_solve_29, kil_int, kil_ref, kil_null, kil_long, kil_rA, psh_int, psh_long, psh_null, gI_gS, gL_gS, gR_gS, sI_gS, sL_gS, orf_some, Option.bind_some, List.length_cons, List.length_nil, Nat.reduceAdd, Nat.reduceLeDiff, if_true, if_false, Nat.zero_le]
    exact p1
  have hfirst : gb_call 60 [.ref (63 : Nat), .int (nI s')] gb_pG (gS I1 J q X) = some (.int (ft (bt S C (tb S C (s' - 1)) s') (tb S C s' s') 6 0), gb_pG, gS I1 J q X) := by
    rw [cl_SU_firstTest]
    simp only [x_c_0, x_istore_2, x_iload_2, x_c_6, x_ic_ge, x_aload_0, x_iload_1, xc_SU_costThrough, x_get_451, x_iald, x_ic_ne, x_iret, x_iinc_2_1, x_goto, x_c_m4, tg_SU_firstTest_2, tg_SU_firstTest_16, tg_SU_firstTest_18, bk_SU_firstTest_0, bk_SU_firstTest_16, bk_SU_firstTest_18, kil_int, kil_ref, kil_null, kil_long, kil_rA, psh_int, psh_long, psh_null, gI_gS, gL_gS, gR_gS, sI_gS, sL_gS, orf_some, Option.bind_some, List.length_cons, List.length_nil, Nat.reduceAdd, Nat.reduceLeDiff, if_true, if_false, Nat.zero_le]
    exact hft
  have hz : tb S C s' s' ≠ 1000000 → ft (bt S C (tb S C (s' - 1)) s') (tb S C s' s') 6 0 = zz S C s' := by
    intro hne
    have et : tb S C s' s' = ms S C (tb S C (s' - 1)) s' := by
      obtain ⟨n, rfl⟩ : ∃ n, s' = n + 1 := ⟨s' - 1, by omega⟩
      rw [tb, if_pos rfl]
      rfl
    rw [et] at hne ⊢
    unfold ms at hne ⊢
    unfold zz
    by_cases c : s' &&& (s' - 1) = 0
    · rw [if_pos c, if_pos c]
      refine ft_one _ _ 6 0 fun j _ hj => ?_
      rw [bt_one (by omega) (by omega) c (fun k hk => (h.1 j k (by omega) hk).2.2)]
      omega
    · rw [if_neg c] at hne ⊢
      rw [if_neg c]
      have := mt_le (bt S C (tb S C (s' - 1)) s') 6 0 1000000
      exact ((mz_ft (bt S C (tb S C (s' - 1)) s') 6 0 1000000 (-4)).2 (by omega)).symm
  refine ⟨if tb S C s' s' = 1000000 then -4 else if w' = 0 then nI (tb S C s' s') else zz S C s', I1, I2, ?_, ?_, stf_fr h1 fun a _ a2 a3 => r4 a a2 a3, fun a a1 a2 a3 => by rw [r4 a a2 a3, p3 a a1]⟩
  · simp (disch := first | omega | decide | assumption | simp only [List.length_cons, List.length_nil, Nat.reduceAdd, Nat.reduceLeDiff]) only [x_iload_1, xc_GB_isSet, x_if_eq, x_iload_2, x_c_0, x_c_1, xc_GB_within, x_if_ne, x_c_m1, x_iret, x_aload_0, x_get_581, xc_SU_solve, x_get_451, x_iald, x_c_1000000, x_ic_ne, x_c_m4, x_goto, xc_SU_firstTest, tg_GB_parting_8, tg_GB_parting_10, tg_GB_parting_23, tg_GB_parting_31, tg_GB_parting_35, bk_GB_parting_0, bk_GB_parting_8, bk_GB_parting_10, bk_GB_parting_23, bk_GB_parting_31, bk_GB_parting_35, kil_int, kil_ref, kil_null, kil_long, kil_rA, psh_int, psh_long, psh_null, gI_gS, gL_gS, gR_gS, sI_gS, sL_gS, orf_some, Option.bind_some, List.length_cons, List.length_nil, Nat.reduceAdd, Nat.reduceLeDiff, if_true, if_false, Nat.zero_le, s_GB_isSet, s_GB_within, ite_b1, ite_b2, x1, x2, y2, i10, ne_eq, not_true_eq_false, not_false_eq_true, Bool.false_eq_true, true_and, and_true, and_self, if_true, if_false, nI_ltI, nI_leI, nI_eq, nI_ltL, nI_leL, L_ltI, L_leI, nI_eqL, L_eqI, oob_nI, ix_nI, oob_L, ix_L, nI_1, nI_add, nI_z, z_nI, nI_lt0, nI_ge0, nI_gt0, nI_le0, ne_eq, Nat.le_zero_eq, Nat.not_lt_zero, Nat.lt_irrefl, Nat.le_refl, at_0, at_63, at_79, al_79, rw_0_5, rw_63_3, hsol, hl, hfirst, psh_null]
    by_cases k1 : tb S C s' s' = 1000000
    · simp [k1]
    · rw [hz k1]
      by_cases k2 : w' = 0 <;> simp [k1, k2]
  · rw [cl_RM_parting]
    rw [bk_RM_parting_75] at r1
    simp (disch := first | omega | decide | assumption | simp only [List.length_cons, List.length_nil, Nat.reduceAdd, Nat.reduceLeDiff]) only [x_iload_1, x_i2l, x_l_1, x_l_255, xc_RM_in, x_if_eq, x_iload_2, x_l_0, x_if_ne, x_c_m1, x_iret, x_c_1, x_istore_3, x_iload_3, x_ic_gt, x_isub, x_iand, x_goto, x_c_0, x_istore_4, x_aload_0, x_get_670, x_iload_4, x_c_1000000, x_iast, x_get_671, x_c_m4, x_istore_5, x_iload_5, x_c_6, x_ic_ge, xc_RM_byTest, x_istore_6, x_iload_6, x_iald, x_iinc_5_1, x_iinc_3_1, x_ic_ne, tg_RM_parting_12, tg_RM_parting_14, tg_RM_parting_16, tg_RM_parting_27, tg_RM_parting_28, tg_RM_parting_36, tg_RM_parting_37, tg_RM_parting_45, tg_RM_parting_71, tg_RM_parting_73, tg_RM_parting_75, tg_RM_parting_83, tg_RM_parting_90, tg_RM_parting_94, bk_RM_parting_0, bk_RM_parting_12, bk_RM_parting_14, bk_RM_parting_27, bk_RM_parting_28, bk_RM_parting_36, bk_RM_parting_37, bk_RM_parting_45, bk_RM_parting_71, bk_RM_parting_73, bk_RM_parting_83, bk_RM_parting_90, bk_RM_parting_94, kil_int, kil_ref, kil_null, kil_long, kil_rA, psh_int, psh_long, psh_null, gI_gS, gL_gS, gR_gS, sI_gS, sL_gS, orf_some, Option.bind_some, List.length_cons, List.length_nil, Nat.reduceAdd, Nat.reduceLeDiff, if_true, if_false, Nat.zero_le, at_190, at_217, at_218, al_217, al_218, rw_190_30, rw_190_31, r2, r3, i10, ne_eq, not_true_eq_false, not_false_eq_true, Bool.false_eq_true, true_and, and_true, and_self, if_true, if_false, nI_ltI, nI_leI, nI_eq, nI_ltL, nI_leL, L_ltI, L_leI, nI_eqL, L_eqI, oob_nI, ix_nI, oob_L, ix_L, nI_1, nI_add, nI_z, z_nI, nI_lt0, nI_ge0, nI_gt0, nI_le0, ne_eq, Nat.le_zero_eq, Nat.not_lt_zero, Nat.lt_irrefl, Nat.le_refl] at r1
    simp (disch := first | omega | decide | assumption | simp only [List.length_cons, List.length_nil, Nat.reduceAdd, Nat.reduceLeDiff]) only [x_iload_1, x_i2l, x_l_1, x_l_255, xc_RM_in, x_if_eq, x_iload_2, x_l_0, x_if_ne, x_c_m1, x_iret, x_c_1, x_istore_3, x_iload_3, x_ic_gt, x_isub, x_iand, x_goto, x_c_0, x_istore_4, x_aload_0, x_get_670, x_iload_4, x_c_1000000, x_iast, x_get_671, x_c_m4, x_istore_5, x_iload_5, x_c_6, x_ic_ge, xc_RM_byTest, x_istore_6, x_iload_6, x_iald, x_iinc_5_1, x_iinc_3_1, x_ic_ne, tg_RM_parting_12, tg_RM_parting_14, tg_RM_parting_16, tg_RM_parting_27, tg_RM_parting_28, tg_RM_parting_36, tg_RM_parting_37, tg_RM_parting_45, tg_RM_parting_71, tg_RM_parting_73, tg_RM_parting_75, tg_RM_parting_83, tg_RM_parting_90, tg_RM_parting_94, bk_RM_parting_0, bk_RM_parting_12, bk_RM_parting_14, bk_RM_parting_27, bk_RM_parting_28, bk_RM_parting_36, bk_RM_parting_37, bk_RM_parting_45, bk_RM_parting_71, bk_RM_parting_73, bk_RM_parting_83, bk_RM_parting_90, bk_RM_parting_94, kil_int, kil_ref, kil_null, kil_long, kil_rA, psh_int, psh_long, psh_null, gI_gS, gL_gS, gR_gS, sI_gS, sL_gS, orf_some, Option.bind_some, List.length_cons, List.length_nil, Nat.reduceAdd, Nat.reduceLeDiff, if_true, if_false, Nat.zero_le, s_RM_in, ite_b1, ite_b2, w_Lle, w_leL, x1, x2, y2, i10, ne_eq, not_true_eq_false, not_false_eq_true, Bool.false_eq_true, true_and, and_true, and_self, if_true, if_false, nI_ltI, nI_leI, nI_eq, nI_ltL, nI_leL, L_ltI, L_leI, nI_eqL, L_eqI, oob_nI, ix_nI, oob_L, ix_L, nI_1, nI_add, nI_z, z_nI, nI_lt0, nI_ge0, nI_gt0, nI_le0, ne_eq, Nat.le_zero_eq, Nat.not_lt_zero, Nat.lt_irrefl, Nat.le_refl, show (1 : Int32) = nI 1 from rfl, r1]
    by_cases k1 : tb S C s' s' = 1000000
    · simp [k1]
    · by_cases k2 : w' = 0 <;> simp [k1, k2]
