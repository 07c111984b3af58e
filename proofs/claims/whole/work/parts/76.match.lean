def can (c : Nat → Nat) : Nat → Nat → Nat → Bool
  | 0, _, _ => true
  | d + 1, i, u => la (fun l => ((c i).testBit l && !u.testBit l) && can c d (i + 1) (u ||| 2 ^ l)) 8 0
def cnp (c : Nat → Nat) (d i u l : Nat) : Bool := ((c i).testBit l && !u.testBit l) && can c d (i + 1) (u ||| 2 ^ l)
theorem can_s (c : Nat → Nat) (d i u : Nat) : can c (d + 1) i u = la (cnp c d i u) 8 0 := rfl
theorem fst1_some {P : Nat → Bool} : ∀ d j, la P d j = (fst1 P d j).isSome
  | 0, _ => rfl
  | d + 1, j => by
    rw [la, fst1]
    cases h : P j with
    | true => rfl
    | false =>
      rw [Bool.false_or, fst1_some d (j + 1)]
      rfl
theorem fst1_p {P : Nat → Bool} : ∀ {d j k : Nat}, fst1 P d j = some k → P k = true ∧ ∀ i, j ≤ i → i < k → P i = false
  | 0, _, _, h => by cases h
  | d + 1, j, k, h => by
    rw [fst1] at h
    split at h
    · rename_i hp
      cases h
      exact ⟨hp, fun i h1 h2 => by omega⟩
    · rename_i hp
      obtain ⟨a, b⟩ := fst1_p h
      refine ⟨a, fun i h1 h2 => ?_⟩
      by_cases e : i = j
      · rw [e]
        cases hx : P j with
        | true => exact absurd hx hp
        | false => rfl
      · exact b i (by omega) h2
theorem fst1_n {P : Nat → Bool} : ∀ {d j : Nat}, fst1 P d j = none → ∀ i, j ≤ i → i < j + d → P i = false
  | 0, _, _, i, h1, h2 => by omega
  | d + 1, j, h, i, h1, h2 => by
    rw [fst1] at h
    split at h
    · cases h
    · rename_i hp
      by_cases e : i = j
      · rw [e]
        cases hx : P j with
        | true => exact absurd hx hp
        | false => rfl
      · exact fst1_n h i (by omega) (by omega)
theorem l_lowest (I : Nat → Nat → Int32) (J : Nat → Nat → Int64) (q : Bool × Bool) (X : Nat × (Nat → Int32)) {c : Nat → Nat} {n i t d : Nat} (hc : c i < 256) (ht : t < 256) (hi : i < 8) (h37 : I 37 i = nI (c i)) (h38 : ∀ l, l < 8 → t.testBit l = false → I 38 (t ||| 2 ^ l) = nI (cb (can c d (i + 1) (t ||| 2 ^ l)))) : ∀ e l, e + l = 8 → gb_ex 25 bk_MA_lowestFor_11 [.ref (36 : Nat), .int (nI i), .int (nI t), .int (nI (c i &&& (255 - t))), .int (nI l)] [] gb_pG (gS I J q X) = some (.int (orn (fst1 (cnp c d i t) e l)), gb_pG, gS I J q X)
  | 0, l, e => by
    rw [bk_MA_lowestFor_11]
    simp (disch := first | omega | decide | assumption | simp only [List.length_cons, List.length_nil, Nat.reduceAdd, Nat.reduceLeDiff]) only [x_aload_0, x_get_192, x_iload_1, x_iald, x_iload_2, x_c_m1, x_ixor, x_iand, x_istore_3, x_c_0, x_istore_4, x_iload_4, x_c_8, x_ic_ge, x_iload_3, x_ishr, x_c_1, x_ic_ne, x_get_193, x_ishl, x_ior, x_bald, x_zald, x_if_eq, x_iret, x_iinc_4_1, x_goto, x_c_m4, tg_MA_lowestFor_11, tg_MA_lowestFor_32, tg_MA_lowestFor_34, bk_MA_lowestFor_0, bk_MA_lowestFor_32, bk_MA_lowestFor_34, kil_int, kil_ref, kil_null, kil_long, kil_rA, psh_int, psh_long, psh_null, gI_gS, gL_gS, gR_gS, sI_gS, sL_gS, orf_some, Option.bind_some, List.length_cons, List.length_nil, Nat.reduceAdd, Nat.reduceLeDiff, if_true, if_false, Nat.zero_le, nI_ltI, nI_leI, nI_eq, nI_ltL, nI_leL, L_ltI, L_leI, nI_eqL, L_eqI, oob_nI, ix_nI, oob_L, ix_L, nI_1, nI_add, nI_z, z_nI, nI_lt0, nI_ge0, nI_gt0, nI_le0, ne_eq, Nat.le_zero_eq, Nat.not_lt_zero, Nat.lt_irrefl, Nat.le_refl, i10, true_or, ne_eq, not_true_eq_false, not_false_eq_true, Bool.false_eq_true, true_and, and_true, and_self, if_true, if_false, or_true, false_or, or_false, or_self, false_and, and_false, Nat.one_ne_zero, n01, Nat.reduceEqDiff, if_pos (show 8 ≤ l by omega)]
    rfl
  | e + 1, l, el => by
    have ih := l_lowest I J q X (n := n) hc ht hi h37 h38 e (l + 1) (by omega)
    have hlt := (nb_tb (c i) hc t ht).2
    have hb := sh_b (A := c i &&& (255 - t)) (k := l) (by omega) hlt
    have hsh := sh_1 (k := l) (by omega)
    have htb : (c i &&& (255 - t)) / 2 ^ l % 2 = 1 ↔ ((c i).testBit l && !t.testBit l) = true := by
      rw [← nb_bt t ht l (by omega), ← Nat.testBit_and, tb_dm, decide_eq_true_eq]
    have hm2 : (c i &&& (255 - t)) / 2 ^ l % 2 < 2 := Nat.mod_lt _ (by omega)
    rw [bk_MA_lowestFor_11, fst1]
    unfold cnp
    by_cases c1 : ((c i).testBit l && !t.testBit l) = true
    · have k1 := htb.mpr c1
      have ht0 : t.testBit l = false := by
        rw [Bool.and_eq_true] at c1
        cases hx : t.testBit l with
        | true => rw [hx] at c1; exact absurd c1.2 (by decide)
        | false => rfl
      obtain ⟨o1, o2⟩ := or_lt t ht l (by omega) ht0
      have g38 := h38 l (by omega) ht0
      rw [c1, Bool.true_and]
      cases hcn : can c d (i + 1) (t ||| 2 ^ l) with
      | true =>
        rw [hcn] at g38
        have g38 : I 38 (t ||| 2 ^ l) = 1 := g38
        simp (disch := first | omega | decide | assumption | simp only [List.length_cons, List.length_nil, Nat.reduceAdd, Nat.reduceLeDiff]) only [x_aload_0, x_get_192, x_iload_1, x_iald, x_iload_2, x_c_m1, x_ixor, x_iand, x_istore_3, x_c_0, x_istore_4, x_iload_4, x_c_8, x_ic_ge, x_iload_3, x_ishr, x_c_1, x_ic_ne, x_get_193, x_ishl, x_ior, x_bald, x_zald, x_if_eq, x_iret, x_iinc_4_1, x_goto, x_c_m4, tg_MA_lowestFor_11, tg_MA_lowestFor_32, tg_MA_lowestFor_34, bk_MA_lowestFor_0, bk_MA_lowestFor_32, bk_MA_lowestFor_34, kil_int, kil_ref, kil_null, kil_long, kil_rA, psh_int, psh_long, psh_null, gI_gS, gL_gS, gR_gS, sI_gS, sL_gS, orf_some, Option.bind_some, List.length_cons, List.length_nil, Nat.reduceAdd, Nat.reduceLeDiff, if_true, if_false, Nat.zero_le, at_36, at_38, al_38, rw_36_1, hb, hsh, nI_or, k1, oob_nI, ix_nI, nI_1, nI_leI, nI_leL, L_leI, i10, true_or, ne_eq, not_true_eq_false, not_false_eq_true, Bool.false_eq_true, true_and, and_true, and_self, if_true, if_false, or_true, false_or, or_false, or_self, false_and, and_false, Nat.one_ne_zero, n01, Nat.reduceEqDiff, if_neg (show ¬ 8 ≤ l by omega), g38]
        rfl
      | false =>
        rw [hcn] at g38
        have g38 : I 38 (t ||| 2 ^ l) = 0 := g38
        have ih' := ih
        unfold cnp at ih'
        simp only [Bool.false_eq_true, if_false]
        rw [← ih']
        simp (disch := first | omega | decide | assumption | simp only [List.length_cons, List.length_nil, Nat.reduceAdd, Nat.reduceLeDiff]) only [x_aload_0, x_get_192, x_iload_1, x_iald, x_iload_2, x_c_m1, x_ixor, x_iand, x_istore_3, x_c_0, x_istore_4, x_iload_4, x_c_8, x_ic_ge, x_iload_3, x_ishr, x_c_1, x_ic_ne, x_get_193, x_ishl, x_ior, x_bald, x_zald, x_if_eq, x_iret, x_iinc_4_1, x_goto, x_c_m4, tg_MA_lowestFor_11, tg_MA_lowestFor_32, tg_MA_lowestFor_34, bk_MA_lowestFor_0, bk_MA_lowestFor_32, bk_MA_lowestFor_34, kil_int, kil_ref, kil_null, kil_long, kil_rA, psh_int, psh_long, psh_null, gI_gS, gL_gS, gR_gS, sI_gS, sL_gS, orf_some, Option.bind_some, List.length_cons, List.length_nil, Nat.reduceAdd, Nat.reduceLeDiff, if_true, if_false, Nat.zero_le, at_36, at_38, al_38, rw_36_1, hb, hsh, nI_or, k1, oob_nI, ix_nI, nI_1, nI_leI, nI_leL, L_leI, i10, true_or, ne_eq, not_true_eq_false, not_false_eq_true, Bool.false_eq_true, true_and, and_true, and_self, if_true, if_false, or_true, false_or, or_false, or_self, false_and, and_false, Nat.one_ne_zero, n01, Nat.reduceEqDiff, if_neg (show ¬ 8 ≤ l by omega), g38, ite_self]
    · have k1 : (c i &&& (255 - t)) / 2 ^ l % 2 = 0 := by
        have : ¬ (c i &&& (255 - t)) / 2 ^ l % 2 = 1 := fun h => c1 (htb.mp h)
        omega
      have cf : ((c i).testBit l && !t.testBit l) = false := by cases hx : ((c i).testBit l && !t.testBit l) with | true => exact absurd hx c1 | false => rfl
      have ih' := ih
      unfold cnp at ih'
      rw [cf, Bool.false_and]
      simp only [Bool.false_eq_true, if_false]
      rw [← ih']
      have k2 : ¬ (0 : Int32) = 1 := by decide
      simp (disch := first | omega | decide | assumption | simp only [List.length_cons, List.length_nil, Nat.reduceAdd, Nat.reduceLeDiff]) only [x_aload_0, x_get_192, x_iload_1, x_iald, x_iload_2, x_c_m1, x_ixor, x_iand, x_istore_3, x_c_0, x_istore_4, x_iload_4, x_c_8, x_ic_ge, x_iload_3, x_ishr, x_c_1, x_ic_ne, x_get_193, x_ishl, x_ior, x_bald, x_zald, x_if_eq, x_iret, x_iinc_4_1, x_goto, x_c_m4, tg_MA_lowestFor_11, tg_MA_lowestFor_32, tg_MA_lowestFor_34, bk_MA_lowestFor_0, bk_MA_lowestFor_32, bk_MA_lowestFor_34, kil_int, kil_ref, kil_null, kil_long, kil_rA, psh_int, psh_long, psh_null, gI_gS, gL_gS, gR_gS, sI_gS, sL_gS, orf_some, Option.bind_some, List.length_cons, List.length_nil, Nat.reduceAdd, Nat.reduceLeDiff, if_true, if_false, Nat.zero_le, at_36, at_38, al_38, rw_36_1, hb, k1, nI_0, k2, nI_1, nI_leI, nI_leL, L_leI, i10, true_or, ne_eq, not_true_eq_false, not_false_eq_true, Bool.false_eq_true, true_and, and_true, and_self, if_true, if_false, or_true, false_or, or_false, or_self, false_and, and_false, Nat.one_ne_zero, n01, Nat.reduceEqDiff, if_neg (show ¬ 8 ≤ l by omega)]
theorem s_lowest (I : Nat → Nat → Int32) (J : Nat → Nat → Int64) (q : Bool × Bool) (X : Nat × (Nat → Int32)) {c : Nat → Nat} {i t d : Nat} (hc : c i < 256) (ht : t < 256) (hi : i < 8) (h37 : I 37 i = nI (c i)) (h38 : ∀ l, l < 8 → t.testBit l = false → I 38 (t ||| 2 ^ l) = nI (cb (can c d (i + 1) (t ||| 2 ^ l)))) : gb_call 25 [.ref (36 : Nat), .int (nI i), .int (nI t)] gb_pG (gS I J q X) = some (.int (orn (fst1 (cnp c d i t) 8 0)), gb_pG, gS I J q X) := by
  have e := (nb_tb (c i) hc t ht).1
  rw [cl_MA_lowestFor, ← l_lowest I J q X (n := 0) hc ht hi h37 h38 8 0 (by omega)]
  simp (disch := first | omega | decide | assumption | simp only [List.length_cons, List.length_nil, Nat.reduceAdd, Nat.reduceLeDiff]) only [x_aload_0, x_get_192, x_iload_1, x_iald, x_iload_2, x_c_m1, x_ixor, x_iand, x_istore_3, x_c_0, x_istore_4, x_iload_4, x_c_8, x_ic_ge, x_iload_3, x_ishr, x_c_1, x_ic_ne, x_get_193, x_ishl, x_ior, x_bald, x_zald, x_if_eq, x_iret, x_iinc_4_1, x_goto, x_c_m4, tg_MA_lowestFor_11, tg_MA_lowestFor_32, tg_MA_lowestFor_34, bk_MA_lowestFor_0, bk_MA_lowestFor_32, bk_MA_lowestFor_34, kil_int, kil_ref, kil_null, kil_long, kil_rA, psh_int, psh_long, psh_null, gI_gS, gL_gS, gR_gS, sI_gS, sL_gS, orf_some, Option.bind_some, List.length_cons, List.length_nil, Nat.reduceAdd, Nat.reduceLeDiff, if_true, if_false, Nat.zero_le, at_36, at_37, al_37, rw_36_0, oob_nI, ix_nI, i10, true_or, ne_eq, not_true_eq_false, not_false_eq_true, Bool.false_eq_true, true_and, and_true, and_self, if_true, if_false, or_true, false_or, or_false, or_self, false_and, and_false, Nat.one_ne_zero, n01, Nat.reduceEqDiff, h37, nI_m1, nI_xor, nI_and, e]
  rfl
/-- what the class knows of a set: whether the finds behind can have one each, too -/
def cgo (c : Nat → Nat) (n t : Nat) : Bool := decide (pcb t ≤ n) && can c (n - pcb t) (pcb t) t
theorem l_solve (J : Nat → Nat → Int64) (q : Bool × Bool) (X : Nat × (Nat → Int32)) {c : Nat → Nat} {n : Nat} (hn : n ≤ 8) (hc : ∀ i, i < n → c i < 256) : ∀ d I (z : Value), d ≤ 256 → (∀ i, i < n → I 37 i = nI (c i)) → (∀ t, d ≤ t → t < 256 → I 38 t = nI (cb (cgo c n t))) → ∃ I', gb_ex 24 bk_MA_solve_2 [.ref (36 : Nat), .int (nI n), .int (dn d), z] [] gb_pG (gS I J q X) = some (.int (nI (cb (cgo c n 0))), gb_pG, gS I' J q X) ∧ (∀ t, t < 256 → I' 38 t = nI (cb (cgo c n t))) ∧ ∀ y, y ≠ 38 → I' y = I y
  | 0, I, z, hd, h37, h38 => by
    refine ⟨I, ?_, fun t ht => h38 t (by omega) ht, fun _ _ => rfl⟩
    have g := h38 0 (by omega) (by omega)
    have hcb : nI (cb (cgo c n 0)) = 0 ∨ nI (cb (cgo c n 0)) = 1 := by cases cgo c n 0 <;> decide
    rw [bk_MA_solve_2]
    simp (disch := first | omega | decide | assumption | simp only [List.length_cons, List.length_nil, Nat.reduceAdd, Nat.reduceLeDiff]) only [x_c_255, x_istore_2, x_iload_2, x_if_lt, xc_JI_bitCount_0f7a4, x_istore_3, x_aload_0, x_get_193, x_iload_3, x_iload_1, x_ic_eq, x_ic_ge, xc_MA_lowestFor, x_c_1, x_goto, x_c_0, x_bast, x_zast, x_iinc_2_m1, x_bald, x_zald, x_zret, tg_MA_solve_2, tg_MA_solve_21, tg_MA_solve_23, tg_MA_solve_24, tg_MA_solve_27, bk_MA_solve_0, bk_MA_solve_21, bk_MA_solve_23, bk_MA_solve_24, bk_MA_solve_27, kil_int, kil_ref, kil_null, kil_long, kil_rA, psh_int, psh_long, psh_null, gI_gS, gL_gS, gR_gS, sI_gS, sL_gS, orf_some, Option.bind_some, List.length_cons, List.length_nil, Nat.reduceAdd, Nat.reduceLeDiff, if_true, if_false, Nat.zero_le, if_pos dn_lt0, at_36, at_38, al_38, rw_36_1, oob_L, ix_L, i10, true_or, ne_eq, not_true_eq_false, not_false_eq_true, Bool.false_eq_true, true_and, and_true, and_self, if_true, if_false, or_true, false_or, or_false, or_self, false_and, and_false, Nat.one_ne_zero, n01, Nat.reduceEqDiff, g, hcb]
  | d + 1, I, z, hd, h37, h38 => by
    obtain ⟨pc1, pc2⟩ := bcx_pc d (by omega)
    have fin : ∀ (z : Value), ∃ I', gb_ex 24 bk_MA_solve_2 [.ref (36 : Nat), .int (nI n), .int (dn d), z] [] gb_pG (gS (up I 38 d (nI (cb (cgo c n d)))) J q X) = some (.int (nI (cb (cgo c n 0))), gb_pG, gS I' J q X) ∧ (∀ t, t < 256 → I' 38 t = nI (cb (cgo c n t))) ∧ ∀ y, y ≠ 38 → I' y = I y := fun z => by
      obtain ⟨I', r1, r2, r3⟩ := l_solve J q X hn hc d (up I 38 d (nI (cb (cgo c n d)))) z (by omega) (fun i hi => by rw [up_ne (by omega)]; exact h37 i hi) (fun t t1 t2 => by
        rw [up_same, upd_at]
        by_cases e : t = d
        · rw [if_pos e, e]
        · rw [if_neg e]; exact h38 t (by omega) t2)
      exact ⟨I', r1, r2, fun y hy => by rw [r3 y hy, up_ne hy]⟩
    obtain ⟨I', r1, r2, r3⟩ := fin (.int (nI (pcb d)))
    refine ⟨I', ?_, r2, r3⟩
    have e1 : dn (d + 1) = nI d := rfl
    have e2 : nI d + -1 = dn d := dn_add d
    have k0 : (0 : Int32) &&& 1 = 0 := by decide
    have k1 : (1 : Int32) &&& 1 = 1 := by decide
    rw [bk_MA_solve_2, ← r1, e1]
    clear fin r1 r2 r3
    by_cases c1 : pcb d = n
    · have hg : cgo c n d = true := by
        unfold cgo
        rw [c1, Nat.sub_self]
        simp [can]
      rw [hg]
      simp (disch := first | omega | decide | assumption | simp only [List.length_cons, List.length_nil, Nat.reduceAdd, Nat.reduceLeDiff]) only [x_c_255, x_istore_2, x_iload_2, x_if_lt, xc_JI_bitCount_0f7a4, x_istore_3, x_aload_0, x_get_193, x_iload_3, x_iload_1, x_ic_eq, x_ic_ge, xc_MA_lowestFor, x_c_1, x_goto, x_c_0, x_bast, x_zast, x_iinc_2_m1, x_bald, x_zald, x_zret, tg_MA_solve_2, tg_MA_solve_21, tg_MA_solve_23, tg_MA_solve_24, tg_MA_solve_27, bk_MA_solve_0, bk_MA_solve_21, bk_MA_solve_23, bk_MA_solve_24, bk_MA_solve_27, kil_int, kil_ref, kil_null, kil_long, kil_rA, psh_int, psh_long, psh_null, gI_gS, gL_gS, gR_gS, sI_gS, sL_gS, orf_some, Option.bind_some, List.length_cons, List.length_nil, Nat.reduceAdd, Nat.reduceLeDiff, if_true, if_false, Nat.zero_le, at_36, at_38, al_38, rw_36_1, s_bitCount, pc1, e2, oob_nI, ix_nI, nI_lt0, nI_eq, i10, true_or, ne_eq, not_true_eq_false, not_false_eq_true, Bool.false_eq_true, true_and, and_true, and_self, if_true, if_false, or_true, false_or, or_false, or_self, false_and, and_false, Nat.one_ne_zero, n01, Nat.reduceEqDiff, c1, k1]
      rfl
    · by_cases c2 : pcb d < n
      · have hlo := s_lowest I J q X (c := c) (i := pcb d) (t := d) (d := n - pcb d - 1) (hc _ c2) (by omega) (by omega) (h37 _ c2) (fun l hl ht0 => by
          obtain ⟨o1, o2⟩ := or_lt d (by omega) l hl ht0
          have op := pcb_or d (by omega) l hl ht0
          rw [h38 _ (by omega) o2]
          unfold cgo
          rw [op, decide_eq_true (by omega), Bool.true_and, show n - (pcb d + 1) = n - pcb d - 1 by omega])
        have hg : cgo c n d = (fst1 (cnp c (n - pcb d - 1) (pcb d) d) 8 0).isSome := by
          unfold cgo
          rw [decide_eq_true (by omega), Bool.true_and, show n - pcb d = (n - pcb d - 1) + 1 by omega, can_s, fst1_some, show n - pcb d - 1 + 1 - 1 = n - pcb d - 1 by omega]
        rw [hg]
        have hlt := fun j hj => fst1_lt (P := cnp c (n - pcb d - 1) (pcb d) d) (d := 8) (j := 0) (k := j) hj
        generalize fst1 (cnp c (n - pcb d - 1) (pcb d) d) 8 0 = o at hlo hlt ⊢
        cases o with
        | none =>
          have hlo : gb_call 25 [.ref (36 : Nat), .int (nI (pcb d)), .int (nI d)] gb_pG (gS I J q X) = some (.int (-4), gb_pG, gS I J q X) := hlo
          simp (disch := first | omega | decide | assumption | simp only [List.length_cons, List.length_nil, Nat.reduceAdd, Nat.reduceLeDiff]) only [x_c_255, x_istore_2, x_iload_2, x_if_lt, xc_JI_bitCount_0f7a4, x_istore_3, x_aload_0, x_get_193, x_iload_3, x_iload_1, x_ic_eq, x_ic_ge, xc_MA_lowestFor, x_c_1, x_goto, x_c_0, x_bast, x_zast, x_iinc_2_m1, x_bald, x_zald, x_zret, tg_MA_solve_2, tg_MA_solve_21, tg_MA_solve_23, tg_MA_solve_24, tg_MA_solve_27, bk_MA_solve_0, bk_MA_solve_21, bk_MA_solve_23, bk_MA_solve_24, bk_MA_solve_27, kil_int, kil_ref, kil_null, kil_long, kil_rA, psh_int, psh_long, psh_null, gI_gS, gL_gS, gR_gS, sI_gS, sL_gS, orf_some, Option.bind_some, List.length_cons, List.length_nil, Nat.reduceAdd, Nat.reduceLeDiff, if_true, if_false, Nat.zero_le, at_36, at_38, al_38, rw_36_1, s_bitCount, pc1, e2, oob_nI, ix_nI, nI_lt0, nI_eq, nI_leI, i10, true_or, ne_eq, not_true_eq_false, not_false_eq_true, Bool.false_eq_true, true_and, and_true, and_self, if_true, if_false, or_true, false_or, or_false, or_self, false_and, and_false, Nat.one_ne_zero, n01, Nat.reduceEqDiff, c1, if_neg (show ¬ n ≤ pcb d by omega), hlo, show ((-4 : Int32) < 0) = True from by decide, k0]
          rfl
        | some l =>
          have hl := hlt l rfl
          have hlo : gb_call 25 [.ref (36 : Nat), .int (nI (pcb d)), .int (nI d)] gb_pG (gS I J q X) = some (.int (nI l), gb_pG, gS I J q X) := hlo
          simp (disch := first | omega | decide | assumption | simp only [List.length_cons, List.length_nil, Nat.reduceAdd, Nat.reduceLeDiff]) only [x_c_255, x_istore_2, x_iload_2, x_if_lt, xc_JI_bitCount_0f7a4, x_istore_3, x_aload_0, x_get_193, x_iload_3, x_iload_1, x_ic_eq, x_ic_ge, xc_MA_lowestFor, x_c_1, x_goto, x_c_0, x_bast, x_zast, x_iinc_2_m1, x_bald, x_zald, x_zret, tg_MA_solve_2, tg_MA_solve_21, tg_MA_solve_23, tg_MA_solve_24, tg_MA_solve_27, bk_MA_solve_0, bk_MA_solve_21, bk_MA_solve_23, bk_MA_solve_24, bk_MA_solve_27, kil_int, kil_ref, kil_null, kil_long, kil_rA, psh_int, psh_long, psh_null, gI_gS, gL_gS, gR_gS, sI_gS, sL_gS, orf_some, Option.bind_some, List.length_cons, List.length_nil, Nat.reduceAdd, Nat.reduceLeDiff, if_true, if_false, Nat.zero_le, at_36, at_38, al_38, rw_36_1, s_bitCount, pc1, e2, oob_nI, ix_nI, nI_lt0, nI_eq, nI_leI, i10, true_or, ne_eq, not_true_eq_false, not_false_eq_true, Bool.false_eq_true, true_and, and_true, and_self, if_true, if_false, or_true, false_or, or_false, or_self, false_and, and_false, Nat.one_ne_zero, n01, Nat.reduceEqDiff, c1, if_neg (show ¬ n ≤ pcb d by omega), hlo, k1]
          rfl
      · have hg : cgo c n d = false := by
          unfold cgo
          rw [decide_eq_false (by omega), Bool.false_and]
        rw [hg]
        simp (disch := first | omega | decide | assumption | simp only [List.length_cons, List.length_nil, Nat.reduceAdd, Nat.reduceLeDiff]) only [x_c_255, x_istore_2, x_iload_2, x_if_lt, xc_JI_bitCount_0f7a4, x_istore_3, x_aload_0, x_get_193, x_iload_3, x_iload_1, x_ic_eq, x_ic_ge, xc_MA_lowestFor, x_c_1, x_goto, x_c_0, x_bast, x_zast, x_iinc_2_m1, x_bald, x_zald, x_zret, tg_MA_solve_2, tg_MA_solve_21, tg_MA_solve_23, tg_MA_solve_24, tg_MA_solve_27, bk_MA_solve_0, bk_MA_solve_21, bk_MA_solve_23, bk_MA_solve_24, bk_MA_solve_27, kil_int, kil_ref, kil_null, kil_long, kil_rA, psh_int, psh_long, psh_null, gI_gS, gL_gS, gR_gS, sI_gS, sL_gS, orf_some, Option.bind_some, List.length_cons, List.length_nil, Nat.reduceAdd, Nat.reduceLeDiff, if_true, if_false, Nat.zero_le, at_36, at_38, al_38, rw_36_1, s_bitCount, pc1, e2, oob_nI, ix_nI, nI_lt0, nI_eq, nI_leI, i10, true_or, ne_eq, not_true_eq_false, not_false_eq_true, Bool.false_eq_true, true_and, and_true, and_self, if_true, if_false, or_true, false_or, or_false, or_self, false_and, and_false, Nat.one_ne_zero, n01, Nat.reduceEqDiff, c1, if_pos (show n ≤ pcb d by omega), k0]
        rfl
theorem s_solve (I : Nat → Nat → Int32) (J : Nat → Nat → Int64) (q : Bool × Bool) (X : Nat × (Nat → Int32)) {c : Nat → Nat} {n : Nat} (hn : n ≤ 8) (hc : ∀ i, i < n → c i < 256) (h37 : ∀ i, i < n → I 37 i = nI (c i)) : ∃ I', gb_call 24 [.ref (36 : Nat), .int (nI n)] gb_pG (gS I J q X) = some (.int (nI (cb (can c n 0 0))), gb_pG, gS I' J q X) ∧ (∀ t, t < 256 → I' 38 t = nI (cb (cgo c n t))) ∧ ∀ y, y ≠ 38 → I' y = I y := by
  obtain ⟨I', r1, r2, r3⟩ := l_solve J q X hn hc 256 I .null (by omega) h37 (fun t h1 h2 => by omega)
  have e : cgo c n 0 = can c n 0 0 := by
    unfold cgo
    have : pcb 0 = 0 := by decide
    rw [this, Nat.sub_zero]
    simp
  rw [e] at r1
  refine ⟨I', ?_, r2, r3⟩
  rw [cl_MA_solve, ← r1]
  simp only [x_c_255, x_istore_2, x_iload_2, x_if_lt, xc_JI_bitCount_0f7a4, x_istore_3, x_aload_0, x_get_193, x_iload_3, x_iload_1, x_ic_eq, x_ic_ge, xc_MA_lowestFor, x_c_1, x_goto, x_c_0, x_bast, x_zast, x_iinc_2_m1, x_bald, x_zald, x_zret, tg_MA_solve_2, tg_MA_solve_21, tg_MA_solve_23, tg_MA_solve_24, tg_MA_solve_27, bk_MA_solve_0, bk_MA_solve_21, bk_MA_solve_23, bk_MA_solve_24, bk_MA_solve_27, kil_int, kil_ref, kil_null, kil_long, kil_rA, psh_int, psh_long, psh_null, gI_gS, gL_gS, gR_gS, sI_gS, sL_gS, orf_some, Option.bind_some, List.length_cons, List.length_nil, Nat.reduceAdd, Nat.reduceLeDiff, if_true, if_false, Nat.zero_le]
  rfl
/-- the first way: the k-th choice from find i on -/
def sq (c : Nat → Nat) : Nat → Nat → Nat → Nat → Nat
  | 0, _, _, _ => 0
  | d + 1, i, u, k => match fst1 (cnp c d i u) 8 0 with
    | none => 0
    | some l => if k = 0 then l else sq c d (i + 1) (u ||| 2 ^ l) (k - 1)
theorem sq_s {c : Nat → Nat} {d i u l : Nat} (h : fst1 (cnp c d i u) 8 0 = some l) (k : Nat) : sq c (d + 1) i u k = if k = 0 then l else sq c d (i + 1) (u ||| 2 ^ l) (k - 1) := by
  rw [sq, h]
theorem cnp_t {c : Nat → Nat} {d i u l : Nat} (h : cnp c d i u l = true) : (c i).testBit l = true ∧ u.testBit l = false ∧ can c d (i + 1) (u ||| 2 ^ l) = true := by
  unfold cnp at h
  rw [Bool.and_eq_true, Bool.and_eq_true] at h
  refine ⟨h.1.1, ?_, h.2⟩
  cases hx : u.testBit l with
  | true => rw [hx] at h; exact absurd h.1.2 (by decide)
  | false => rfl
theorem l_choice (I : Nat → Nat → Int32) (J : Nat → Nat → Int64) (q : Bool × Bool) (X : Nat × (Nat → Int32)) {c : Nat → Nat} {n x : Nat} (hn : n ≤ 8) (hx : x < n) (hc : ∀ i, i < n → c i < 256) (h37 : ∀ i, i < n → I 37 i = nI (c i)) (h38 : ∀ t, t < 256 → I 38 t = nI (cb (cgo c n t))) : ∀ d i t (v : Int32), d + i = n → i ≤ x → t < 256 → pcb t = i → can c d i t = true → gb_ex 26 bk_MA_choiceOf_6 [.ref (36 : Nat), .int (nI x), .int (nI t), .int v, .int (nI i)] [] gb_pG (gS I J q X) = some (.int (nI (sq c d i t (x - i))), gb_pG, gS I J q X)
  | 0, i, t, v, e, hi, ht, hp, hcn => by omega
  | d + 1, i, t, v, e, hi, ht, hp, hcn => by
    have hlo := s_lowest I J q X (c := c) (i := i) (t := t) (d := d) (hc _ (by omega)) ht (by omega) (h37 _ (by omega)) (fun l hl ht0 => by
      obtain ⟨o1, o2⟩ := or_lt t ht l hl ht0
      have op := pcb_or t ht l hl ht0
      rw [h38 _ o2]
      unfold cgo
      rw [op, hp, decide_eq_true (by omega), Bool.true_and, show n - (i + 1) = d by omega])
    rw [can_s, fst1_some] at hcn
    cases ho : fst1 (cnp c d i t) 8 0 with
    | none => rw [ho] at hcn; cases hcn
    | some l =>
      rw [ho] at hlo
      have hlo : gb_call 25 [.ref (36 : Nat), .int (nI i), .int (nI t)] gb_pG (gS I J q X) = some (.int (nI l), gb_pG, gS I J q X) := hlo
      have hl := fst1_lt ho
      obtain ⟨b1, b2, b3⟩ := cnp_t (fst1_p ho).1
      obtain ⟨o1, o2⟩ := or_lt t ht l (by omega) b2
      have op := pcb_or t ht l (by omega) b2
      have hsh := sh_1 (k := l) (by omega)
      have st : gb_ex 26 bk_MA_choiceOf_6 [.ref (36 : Nat), .int (nI x), .int (nI t), .int v, .int (nI i)] [] gb_pG (gS I J q X) = gb_ex 26 bk_MA_choiceOf_6 [.ref (36 : Nat), .int (nI x), .int (nI (t ||| 2 ^ l)), .int (nI l), .int (nI (i + 1))] [] gb_pG (gS I J q X) := by
        conv => lhs; rw [bk_MA_choiceOf_6]
        simp (disch := first | omega | decide | assumption | simp only [List.length_cons, List.length_nil, Nat.reduceAdd, Nat.reduceLeDiff]) only [x_c_0, x_istore_2, x_c_m4, x_istore_3, x_istore_4, x_iload_4, x_iload_1, x_ic_gt, x_aload_0, x_iload_2, xc_MA_lowestFor, x_iload_3, x_if_ge, x_iret, x_c_1, x_ishl, x_ior, x_iinc_4_1, x_goto, tg_MA_choiceOf_6, tg_MA_choiceOf_18, tg_MA_choiceOf_26, bk_MA_choiceOf_0, bk_MA_choiceOf_18, bk_MA_choiceOf_26, kil_int, kil_ref, kil_null, kil_long, kil_rA, psh_int, psh_long, psh_null, gI_gS, gL_gS, gR_gS, sI_gS, sL_gS, orf_some, Option.bind_some, List.length_cons, List.length_nil, Nat.reduceAdd, Nat.reduceLeDiff, if_true, if_false, Nat.zero_le, at_36, hlo, hsh, nI_or, nI_ltI, nI_leI, nI_eq, nI_ltL, nI_leL, L_ltI, L_leI, nI_eqL, L_eqI, oob_nI, ix_nI, oob_L, ix_L, nI_1, nI_add, nI_z, z_nI, nI_lt0, nI_ge0, nI_gt0, nI_le0, ne_eq, Nat.le_zero_eq, Nat.not_lt_zero, Nat.lt_irrefl, Nat.le_refl, i10, true_or, ne_eq, not_true_eq_false, not_false_eq_true, Bool.false_eq_true, true_and, and_true, and_self, if_true, if_false, or_true, false_or, or_false, or_self, false_and, and_false, Nat.one_ne_zero, n01, Nat.reduceEqDiff, if_neg (show ¬ x < i by omega)]
      rw [st, sq_s ho]
      by_cases cx : i = x
      · rw [if_pos (by omega), bk_MA_choiceOf_6]
        simp (disch := first | omega | decide | assumption | simp only [List.length_cons, List.length_nil, Nat.reduceAdd, Nat.reduceLeDiff]) only [x_c_0, x_istore_2, x_c_m4, x_istore_3, x_istore_4, x_iload_4, x_iload_1, x_ic_gt, x_aload_0, x_iload_2, xc_MA_lowestFor, x_iload_3, x_if_ge, x_iret, x_c_1, x_ishl, x_ior, x_iinc_4_1, x_goto, tg_MA_choiceOf_6, tg_MA_choiceOf_18, tg_MA_choiceOf_26, bk_MA_choiceOf_0, bk_MA_choiceOf_18, bk_MA_choiceOf_26, kil_int, kil_ref, kil_null, kil_long, kil_rA, psh_int, psh_long, psh_null, gI_gS, gL_gS, gR_gS, sI_gS, sL_gS, orf_some, Option.bind_some, List.length_cons, List.length_nil, Nat.reduceAdd, Nat.reduceLeDiff, if_true, if_false, Nat.zero_le, nI_ltI, nI_leI, nI_eq, nI_ltL, nI_leL, L_ltI, L_leI, nI_eqL, L_eqI, oob_nI, ix_nI, oob_L, ix_L, nI_1, nI_add, nI_z, z_nI, nI_lt0, nI_ge0, nI_gt0, nI_le0, ne_eq, Nat.le_zero_eq, Nat.not_lt_zero, Nat.lt_irrefl, Nat.le_refl, i10, true_or, ne_eq, not_true_eq_false, not_false_eq_true, Bool.false_eq_true, true_and, and_true, and_self, if_true, if_false, or_true, false_or, or_false, or_self, false_and, and_false, Nat.one_ne_zero, n01, Nat.reduceEqDiff, if_pos (show x < i + 1 by omega)]
      · rw [if_neg (by omega), show x - i - 1 = x - (i + 1) by omega]
        exact l_choice I J q X hn hx hc h37 h38 d (i + 1) (t ||| 2 ^ l) (nI l) (by omega) (by omega) o2 (by omega) b3
theorem s_choice (I : Nat → Nat → Int32) (J : Nat → Nat → Int64) (q : Bool × Bool) (X : Nat × (Nat → Int32)) {c : Nat → Nat} {n x : Nat} (hn : n ≤ 8) (hx : x < n) (hc : ∀ i, i < n → c i < 256) (h37 : ∀ i, i < n → I 37 i = nI (c i)) (h38 : ∀ t, t < 256 → I 38 t = nI (cb (cgo c n t))) (hcn : can c n 0 0 = true) : gb_call 26 [.ref (36 : Nat), .int (nI x)] gb_pG (gS I J q X) = some (.int (nI (sq c n 0 0 x)), gb_pG, gS I J q X) := by
  have key := l_choice I J q X hn hx hc h37 h38 n 0 0 (-4) (by omega) (by omega) (by omega) (by decide) hcn
  rw [Nat.sub_zero] at key
  rw [cl_MA_choiceOf, ← key]
  simp only [x_c_0, x_istore_2, x_c_m4, x_istore_3, x_istore_4, x_iload_4, x_iload_1, x_ic_gt, x_aload_0, x_iload_2, xc_MA_lowestFor, x_iload_3, x_if_ge, x_iret, x_c_1, x_ishl, x_ior, x_iinc_4_1, x_goto, tg_MA_choiceOf_6, tg_MA_choiceOf_18, tg_MA_choiceOf_26, bk_MA_choiceOf_0, bk_MA_choiceOf_18, bk_MA_choiceOf_26, kil_int, kil_ref, kil_null, kil_long, kil_rA, psh_int, psh_long, psh_null, gI_gS, gL_gS, gR_gS, sI_gS, sL_gS, orf_some, Option.bind_some, List.length_cons, List.length_nil, Nat.reduceAdd, Nat.reduceLeDiff, if_true, if_false, Nat.zero_le]
  rfl
