/-! reading a number -/
def dl (B : Nat → Nat) : Nat → Nat → Nat → Nat × Nat
  | 0, p, v => (p, v)
  | f + 1, p, v => if 48 ≤ B p ∧ B p ≤ 57 then dl B f (p + 1) (10 * v + (B p - 48)) else (p, v)
theorem dl_ge (B : Nat → Nat) : ∀ f p v, p ≤ (dl B f p v).1 ∧ (dl B f p v).1 ≤ p + f
  | 0, p, v => ⟨Nat.le_refl _, Nat.le_refl _⟩
  | f + 1, p, v => by
    rw [dl]
    split
    · have := dl_ge B f (p + 1) (10 * v + (B p - 48))
      omega
    · exact ⟨Nat.le_refl _, by omega⟩
theorem dl_v (B : Nat → Nat) : ∀ f p v, (dl B f p v).2 + 1 ≤ (v + 1) * 10 ^ f
  | 0, p, v => by simp [dl]
  | f + 1, p, v => by
    rw [dl]
    have hp : 0 < 10 ^ f := Nat.pow_pos (by omega)
    split
    · rename_i hd
      have := dl_v B f (p + 1) (10 * v + (B p - 48))
      have h2 : (10 * v + (B p - 48) + 1) * 10 ^ f ≤ (v + 1) * 10 * 10 ^ f := Nat.mul_le_mul_right _ (by omega)
      rw [Nat.pow_succ, Nat.mul_comm (10 ^ f) 10, ← Nat.mul_assoc]
      omega
    · show v + 1 ≤ (v + 1) * 10 ^ (f + 1)
      exact Nat.le_mul_of_pos_right _ (Nat.pow_pos (by omega))
theorem dl_z (B : Nat → Nat) : ∀ f p v, (dl B f p v).1 = p → (dl B f p v).2 = v
  | 0, p, v, _ => rfl
  | f + 1, p, v, h => by
    rw [dl] at h ⊢
    split at h
    · have := dl_ge B f (p + 1) (10 * v + (B p - 48))
      omega
    · rename_i hd
      rw [if_neg hd]
def sg (B : Nat → Nat) (m p : Nat) : Nat := if m = 1 ∧ B p = 45 then 1 else 0
/-- place and value behind the figures -/
def tnp (B : Nat → Nat) (m p : Nat) : Nat := (dl B 3 (p + sg B m p) 0).1
def tnv (B : Nat → Nat) (m p : Nat) : Nat := (dl B 3 (p + sg B m p) 0).2
/-- a number is there -/
def tno (B : Nat → Nat) (m p : Nat) : Prop := tnp B m p ≠ p + sg B m p ∧ ¬ (sg B m p = 1 ∧ tnv B m p = 0)
def tnz (B : Nat → Nat) (m p : Nat) : Int := if sg B m p = 1 then -((tnv B m p : Nat) : Int) else ((tnv B m p : Nat) : Int)
theorem sg_le (B : Nat → Nat) (m p : Nat) : sg B m p ≤ 1 := by unfold sg; split <;> omega
theorem tnp_b (B : Nat → Nat) (m p : Nat) : p ≤ tnp B m p ∧ tnp B m p ≤ p + 4 := by
  have := dl_ge B 3 (p + sg B m p) 0
  have := sg_le B m p
  unfold tnp
  omega
theorem tnv_b (B : Nat → Nat) (m p : Nat) : tnv B m p ≤ 999 := by
  have := dl_v B 3 (p + sg B m p) 0
  unfold tnv
  omega
theorem tnz_b (B : Nat → Nat) (m p : Nat) : -999 ≤ tnz B m p ∧ tnz B m p ≤ 999 := by
  have := tnv_b B m p
  unfold tnz
  split <;> omega
theorem zI_neg (a : Int) : -zI a = zI (-a) := by
  have h := zI_sub 0 a
  rw [show zI 0 = 0 from rfl, Int32.zero_sub, Int.zero_sub] at h
  exact h
theorem nI_neg (n : Nat) : -nI n = zI (-(n : Int)) := by rw [zI_nI, zI_neg]
theorem dg_val {b v : Nat} (h : 48 ≤ b) : (10 : Int32) * nI v + nI b - 48 = nI (10 * v + (b - 48)) := by
  rw [fa_lit 10, fa_lit 48, pk_mul, nI_add, pk_sub (by omega)]
  congr 1
  omega
theorem l_takeNumber (I : Nat → Nat → Int32) (J : Nat → Nat → Int64) (q : Bool × Bool) (X : Nat × (Nat → Int32)) {L : Nat} {B : Nat → Nat} (h : rd I L B) (m bl : Int32) : ∀ f k p v, f + k = 3 → p + f ≤ 100000 → gb_ex 42 bk_SC_takeNumber_18 [.ref (1 : Nat), .int m, .int bl, .int (nI k), .int (pkv (B p))] [] gb_pG (gS (sc I (nI p) (nI v)) J q X) = gb_ex 42 bk_SC_takeNumber_47 [.ref (1 : Nat), .int m, .int bl, .int (nI (k + ((dl B f p v).1 - p))), .int (pkv (B (dl B f p v).1))] [] gb_pG (gS (sc I (nI (dl B f p v).1) (nI (dl B f p v).2)) J q X)
  | 0, k, p, v, e, hp => by
    have : k = 3 := by omega
    subst this
    rw [bk_SC_takeNumber_18]
    simp (disch := first | omega | decide | assumption | simp only [List.length_cons, List.length_nil, Nat.reduceAdd, Nat.reduceLeDiff]) only [x_iload_1, x_if_eq, x_aload_0, x_c_45, xc_SC_take, x_c_1, x_goto, x_c_0, x_istore_2, x_istore_3, x_put_323, xc_SC_peek, x_istore_4, x_iload_3, x_c_3, x_ic_ge, x_iload_4, x_c_48, x_c_57, xc_GB_within, x_c_10, x_get_323, x_imul, x_iadd, x_isub, x_dup_i, x_dup_r, x_get_322, x_put_322, x_iinc_3_1, x_iload_2, x_if_ne, x_zret, x_ineg, tg_SC_takeNumber_8, tg_SC_takeNumber_9, tg_SC_takeNumber_18, tg_SC_takeNumber_47, tg_SC_takeNumber_54, tg_SC_takeNumber_56, tg_SC_takeNumber_63, tg_SC_takeNumber_65, bk_SC_takeNumber_0, bk_SC_takeNumber_8, bk_SC_takeNumber_9, bk_SC_takeNumber_54, bk_SC_takeNumber_56, bk_SC_takeNumber_63, bk_SC_takeNumber_65, kil_int, kil_ref, kil_null, kil_long, kil_rA, psh_int, psh_long, psh_null, gI_gS, gL_gS, gR_gS, sI_gS, sL_gS, orf_some, Option.bind_some, List.length_cons, List.length_nil, Nat.reduceAdd, Nat.reduceLeDiff, if_true, if_false, Nat.zero_le, nI_ltI, nI_leI, nI_eq, nI_ltL, nI_leL, L_ltI, L_leI, nI_eqL, L_eqI, oob_nI, ix_nI, oob_L, ix_L, nI_1, nI_add, nI_z, z_nI, nI_lt0, nI_ge0, nI_gt0, nI_le0, ne_eq, Nat.le_zero_eq, Nat.not_lt_zero, Nat.lt_irrefl, Nat.le_refl, i10, true_or, ne_eq, not_true_eq_false, not_false_eq_true, Bool.false_eq_true, true_and, and_true, and_self, if_true, if_false, or_true, false_or, or_false, or_self, false_and, and_false, Nat.one_ne_zero, n01, Nat.reduceEqDiff, dl, Nat.sub_self, Nat.add_zero]
  | f + 1, k, p, v, e, hp => by
    have hpk := fun w => s_peek I J q X h (p + 1) w (by omega)
    have hb := rd_le h p
    rw [bk_SC_takeNumber_18]
    by_cases c : 48 ≤ B p ∧ B p ≤ 57
    · have ih := l_takeNumber I J q X h m bl f (k + 1) (p + 1) (10 * v + (B p - 48)) (by omega) (by omega)
      have hg := dl_ge B f (p + 1) (10 * v + (B p - 48))
      rw [show k + 1 + ((dl B f (p + 1) (10 * v + (B p - 48))).1 - (p + 1)) = k + ((dl B f (p + 1) (10 * v + (B p - 48))).1 - p) by omega] at ih
      rw [dl, if_pos c, ← ih]
      have hpn := pkv_n c.2
      simp (disch := first | omega | decide | assumption | simp only [List.length_cons, List.length_nil, Nat.reduceAdd, Nat.reduceLeDiff]) only [x_iload_1, x_if_eq, x_aload_0, x_c_45, xc_SC_take, x_c_1, x_goto, x_c_0, x_istore_2, x_istore_3, x_put_323, xc_SC_peek, x_istore_4, x_iload_3, x_c_3, x_ic_ge, x_iload_4, x_c_48, x_c_57, xc_GB_within, x_c_10, x_get_323, x_imul, x_iadd, x_isub, x_dup_i, x_dup_r, x_get_322, x_put_322, x_iinc_3_1, x_iload_2, x_if_ne, x_zret, x_ineg, tg_SC_takeNumber_8, tg_SC_takeNumber_9, tg_SC_takeNumber_18, tg_SC_takeNumber_47, tg_SC_takeNumber_54, tg_SC_takeNumber_56, tg_SC_takeNumber_63, tg_SC_takeNumber_65, bk_SC_takeNumber_0, bk_SC_takeNumber_8, bk_SC_takeNumber_9, bk_SC_takeNumber_54, bk_SC_takeNumber_56, bk_SC_takeNumber_63, bk_SC_takeNumber_65, kil_int, kil_ref, kil_null, kil_long, kil_rA, psh_int, psh_long, psh_null, gI_gS, gL_gS, gR_gS, sI_gS, sL_gS, orf_some, Option.bind_some, List.length_cons, List.length_nil, Nat.reduceAdd, Nat.reduceLeDiff, if_true, if_false, Nat.zero_le, s_GB_within, pkv_dg, c, nI_ltI, nI_leI, nI_eq, nI_ltL, nI_leL, L_ltI, L_leI, nI_eqL, L_eqI, oob_nI, ix_nI, oob_L, ix_L, nI_1, nI_add, nI_z, z_nI, nI_lt0, nI_ge0, nI_gt0, nI_le0, ne_eq, Nat.le_zero_eq, Nat.not_lt_zero, Nat.lt_irrefl, Nat.le_refl, i10, true_or, ne_eq, not_true_eq_false, not_false_eq_true, Bool.false_eq_true, true_and, and_true, and_self, if_true, if_false, or_true, false_or, or_false, or_self, false_and, and_false, Nat.one_ne_zero, n01, Nat.reduceEqDiff, if_neg (show ¬ 3 ≤ k by omega), at_1, sc_2, sc_3, up_sc2, up_sc3, hpk, hpn, dg_val]
    · rw [dl, if_neg c]
      simp (disch := first | omega | decide | assumption | simp only [List.length_cons, List.length_nil, Nat.reduceAdd, Nat.reduceLeDiff]) only [x_iload_1, x_if_eq, x_aload_0, x_c_45, xc_SC_take, x_c_1, x_goto, x_c_0, x_istore_2, x_istore_3, x_put_323, xc_SC_peek, x_istore_4, x_iload_3, x_c_3, x_ic_ge, x_iload_4, x_c_48, x_c_57, xc_GB_within, x_c_10, x_get_323, x_imul, x_iadd, x_isub, x_dup_i, x_dup_r, x_get_322, x_put_322, x_iinc_3_1, x_iload_2, x_if_ne, x_zret, x_ineg, tg_SC_takeNumber_8, tg_SC_takeNumber_9, tg_SC_takeNumber_18, tg_SC_takeNumber_47, tg_SC_takeNumber_54, tg_SC_takeNumber_56, tg_SC_takeNumber_63, tg_SC_takeNumber_65, bk_SC_takeNumber_0, bk_SC_takeNumber_8, bk_SC_takeNumber_9, bk_SC_takeNumber_54, bk_SC_takeNumber_56, bk_SC_takeNumber_63, bk_SC_takeNumber_65, kil_int, kil_ref, kil_null, kil_long, kil_rA, psh_int, psh_long, psh_null, gI_gS, gL_gS, gR_gS, sI_gS, sL_gS, orf_some, Option.bind_some, List.length_cons, List.length_nil, Nat.reduceAdd, Nat.reduceLeDiff, if_true, if_false, Nat.zero_le, s_GB_within, pkv_dg, c, nI_ltI, nI_leI, nI_eq, nI_ltL, nI_leL, L_ltI, L_leI, nI_eqL, L_eqI, oob_nI, ix_nI, oob_L, ix_L, nI_1, nI_add, nI_z, z_nI, nI_lt0, nI_ge0, nI_gt0, nI_le0, ne_eq, Nat.le_zero_eq, Nat.not_lt_zero, Nat.lt_irrefl, Nat.le_refl, i10, true_or, ne_eq, not_true_eq_false, not_false_eq_true, Bool.false_eq_true, true_and, and_true, and_self, if_true, if_false, or_true, false_or, or_false, or_self, false_and, and_false, Nat.one_ne_zero, n01, Nat.reduceEqDiff, if_neg (show ¬ 3 ≤ k by omega), Nat.sub_self, Nat.add_zero]
theorem s_takeNumber (I : Nat → Nat → Int32) (J : Nat → Nat → Int64) (q : Bool × Bool) (X : Nat × (Nat → Int32)) {L : Nat} {B : Nat → Nat} (h : rd I L B) {m : Nat} (p : Nat) (v : Int32) (hm : m ≤ 1) (hp : p ≤ 90000) : (tno B m p → gb_call 42 [.ref (1 : Nat), .int (nI m)] gb_pG (gS (sc I (nI p) v) J q X) = some (.int 1, gb_pG, gS (sc I (nI (tnp B m p)) (zI (tnz B m p))) J q X)) ∧ (¬ tno B m p → gb_call 42 [.ref (1 : Nat), .int (nI m)] gb_pG (gS (sc I (nI p) v) J q X) = some (.int 0, gb_pG, gS (sc I (nI (tnp B m p)) (nI (tnv B m p))) J q X)) := by
  have hs := sg_le B m p
  have key : gb_call 42 [.ref (1 : Nat), .int (nI m)] gb_pG (gS (sc I (nI p) v) J q X) = gb_ex 42 bk_SC_takeNumber_47 [.ref (1 : Nat), .int (nI m), .int (nI (sg B m p)), .int (nI (tnp B m p - (p + sg B m p))), .int (pkv (B (tnp B m p)))] [] gb_pG (gS (sc I (nI (tnp B m p)) (nI (tnv B m p))) J q X) := by
    have hl := l_takeNumber I J q X h (nI m) (nI (sg B m p)) 3 0 (p + sg B m p) 0 (by omega) (by omega)
    rw [Nat.zero_add] at hl
    unfold tnp tnv
    rw [← hl, cl_SC_takeNumber]
    have ht := s_take I J q X h p 45 v (by omega) (by omega)
    have hpk := s_peek I J q X h p 0 (by omega)
    have hpk1 := s_peek I J q X h (p + 1) 0 (by omega)
    have : m = 0 ∨ m = 1 := by omega
    rcases this with rfl | rfl
    · have e0 : sg B 0 p = 0 := if_neg (by omega)
      rw [e0]
      simp (disch := first | omega | decide | assumption | simp only [List.length_cons, List.length_nil, Nat.reduceAdd, Nat.reduceLeDiff]) only [x_iload_1, x_if_eq, x_aload_0, x_c_45, xc_SC_take, x_c_1, x_goto, x_c_0, x_istore_2, x_istore_3, x_put_323, xc_SC_peek, x_istore_4, x_iload_3, x_c_3, x_ic_ge, x_iload_4, x_c_48, x_c_57, xc_GB_within, x_c_10, x_get_323, x_imul, x_iadd, x_isub, x_dup_i, x_dup_r, x_get_322, x_put_322, x_iinc_3_1, x_iload_2, x_if_ne, x_zret, x_ineg, tg_SC_takeNumber_8, tg_SC_takeNumber_9, tg_SC_takeNumber_18, tg_SC_takeNumber_47, tg_SC_takeNumber_54, tg_SC_takeNumber_56, tg_SC_takeNumber_63, tg_SC_takeNumber_65, bk_SC_takeNumber_0, bk_SC_takeNumber_8, bk_SC_takeNumber_9, bk_SC_takeNumber_54, bk_SC_takeNumber_56, bk_SC_takeNumber_63, bk_SC_takeNumber_65, kil_int, kil_ref, kil_null, kil_long, kil_rA, psh_int, psh_long, psh_null, gI_gS, gL_gS, gR_gS, sI_gS, sL_gS, orf_some, Option.bind_some, List.length_cons, List.length_nil, Nat.reduceAdd, Nat.reduceLeDiff, if_true, if_false, Nat.zero_le, nI_ltI, nI_leI, nI_eq, nI_ltL, nI_leL, L_ltI, L_leI, nI_eqL, L_eqI, oob_nI, ix_nI, oob_L, ix_L, nI_1, nI_add, nI_z, z_nI, nI_lt0, nI_ge0, nI_gt0, nI_le0, ne_eq, Nat.le_zero_eq, Nat.not_lt_zero, Nat.lt_irrefl, Nat.le_refl, i10, true_or, ne_eq, not_true_eq_false, not_false_eq_true, Bool.false_eq_true, true_and, and_true, and_self, if_true, if_false, or_true, false_or, or_false, or_self, false_and, and_false, Nat.one_ne_zero, n01, Nat.reduceEqDiff, at_1, up_sc3, hpk, Nat.add_zero]
      rfl
    · by_cases c : B p = 45
      · have e0 : sg B 1 p = 1 := if_pos ⟨rfl, c⟩
        rw [e0]
        simp only [c, if_true] at ht
        simp (disch := first | omega | decide | assumption | simp only [List.length_cons, List.length_nil, Nat.reduceAdd, Nat.reduceLeDiff]) only [x_iload_1, x_if_eq, x_aload_0, x_c_45, xc_SC_take, x_c_1, x_goto, x_c_0, x_istore_2, x_istore_3, x_put_323, xc_SC_peek, x_istore_4, x_iload_3, x_c_3, x_ic_ge, x_iload_4, x_c_48, x_c_57, xc_GB_within, x_c_10, x_get_323, x_imul, x_iadd, x_isub, x_dup_i, x_dup_r, x_get_322, x_put_322, x_iinc_3_1, x_iload_2, x_if_ne, x_zret, x_ineg, tg_SC_takeNumber_8, tg_SC_takeNumber_9, tg_SC_takeNumber_18, tg_SC_takeNumber_47, tg_SC_takeNumber_54, tg_SC_takeNumber_56, tg_SC_takeNumber_63, tg_SC_takeNumber_65, bk_SC_takeNumber_0, bk_SC_takeNumber_8, bk_SC_takeNumber_9, bk_SC_takeNumber_54, bk_SC_takeNumber_56, bk_SC_takeNumber_63, bk_SC_takeNumber_65, kil_int, kil_ref, kil_null, kil_long, kil_rA, psh_int, psh_long, psh_null, gI_gS, gL_gS, gR_gS, sI_gS, sL_gS, orf_some, Option.bind_some, List.length_cons, List.length_nil, Nat.reduceAdd, Nat.reduceLeDiff, if_true, if_false, Nat.zero_le, nI_ltI, nI_leI, nI_eq, nI_ltL, nI_leL, L_ltI, L_leI, nI_eqL, L_eqI, oob_nI, ix_nI, oob_L, ix_L, nI_1, nI_add, nI_z, z_nI, nI_lt0, nI_ge0, nI_gt0, nI_le0, ne_eq, Nat.le_zero_eq, Nat.not_lt_zero, Nat.lt_irrefl, Nat.le_refl, i10, true_or, ne_eq, not_true_eq_false, not_false_eq_true, Bool.false_eq_true, true_and, and_true, and_self, if_true, if_false, or_true, false_or, or_false, or_self, false_and, and_false, Nat.one_ne_zero, n01, Nat.reduceEqDiff, at_1, up_sc3, ht, hpk1, show ¬ (1 : Nat) = 0 from by decide]
        rfl
      · have e0 : sg B 1 p = 0 := if_neg (by omega)
        rw [e0]
        simp only [c, if_false] at ht
        simp (disch := first | omega | decide | assumption | simp only [List.length_cons, List.length_nil, Nat.reduceAdd, Nat.reduceLeDiff]) only [x_iload_1, x_if_eq, x_aload_0, x_c_45, xc_SC_take, x_c_1, x_goto, x_c_0, x_istore_2, x_istore_3, x_put_323, xc_SC_peek, x_istore_4, x_iload_3, x_c_3, x_ic_ge, x_iload_4, x_c_48, x_c_57, xc_GB_within, x_c_10, x_get_323, x_imul, x_iadd, x_isub, x_dup_i, x_dup_r, x_get_322, x_put_322, x_iinc_3_1, x_iload_2, x_if_ne, x_zret, x_ineg, tg_SC_takeNumber_8, tg_SC_takeNumber_9, tg_SC_takeNumber_18, tg_SC_takeNumber_47, tg_SC_takeNumber_54, tg_SC_takeNumber_56, tg_SC_takeNumber_63, tg_SC_takeNumber_65, bk_SC_takeNumber_0, bk_SC_takeNumber_8, bk_SC_takeNumber_9, bk_SC_takeNumber_54, bk_SC_takeNumber_56, bk_SC_takeNumber_63, bk_SC_takeNumber_65, kil_int, kil_ref, kil_null, kil_long, kil_rA, psh_int, psh_long, psh_null, gI_gS, gL_gS, gR_gS, sI_gS, sL_gS, orf_some, Option.bind_some, List.length_cons, List.length_nil, Nat.reduceAdd, Nat.reduceLeDiff, if_true, if_false, Nat.zero_le, nI_ltI, nI_leI, nI_eq, nI_ltL, nI_leL, L_ltI, L_leI, nI_eqL, L_eqI, oob_nI, ix_nI, oob_L, ix_L, nI_1, nI_add, nI_z, z_nI, nI_lt0, nI_ge0, nI_gt0, nI_le0, ne_eq, Nat.le_zero_eq, Nat.not_lt_zero, Nat.lt_irrefl, Nat.le_refl, i10, true_or, ne_eq, not_true_eq_false, not_false_eq_true, Bool.false_eq_true, true_and, and_true, and_self, if_true, if_false, or_true, false_or, or_false, or_self, false_and, and_false, Nat.one_ne_zero, n01, Nat.reduceEqDiff, at_1, up_sc3, ht, hpk, Nat.add_zero, show ¬ (1 : Nat) = 0 from by decide]
        rfl
  have hb := tnp_b B m p
  have hv := tnv_b B m p
  have hg : p + sg B m p ≤ tnp B m p := (dl_ge B 3 (p + sg B m p) 0).1
  rw [key, bk_SC_takeNumber_47]
  constructor
  · rintro ⟨c1, c2⟩
    unfold tnz
    simp (disch := first | omega | decide | assumption | simp only [List.length_cons, List.length_nil, Nat.reduceAdd, Nat.reduceLeDiff]) only [x_iload_1, x_if_eq, x_aload_0, x_c_45, xc_SC_take, x_c_1, x_goto, x_c_0, x_istore_2, x_istore_3, x_put_323, xc_SC_peek, x_istore_4, x_iload_3, x_c_3, x_ic_ge, x_iload_4, x_c_48, x_c_57, xc_GB_within, x_c_10, x_get_323, x_imul, x_iadd, x_isub, x_dup_i, x_dup_r, x_get_322, x_put_322, x_iinc_3_1, x_iload_2, x_if_ne, x_zret, x_ineg, tg_SC_takeNumber_8, tg_SC_takeNumber_9, tg_SC_takeNumber_18, tg_SC_takeNumber_47, tg_SC_takeNumber_54, tg_SC_takeNumber_56, tg_SC_takeNumber_63, tg_SC_takeNumber_65, bk_SC_takeNumber_0, bk_SC_takeNumber_8, bk_SC_takeNumber_9, bk_SC_takeNumber_54, bk_SC_takeNumber_56, bk_SC_takeNumber_63, bk_SC_takeNumber_65, kil_int, kil_ref, kil_null, kil_long, kil_rA, psh_int, psh_long, psh_null, gI_gS, gL_gS, gR_gS, sI_gS, sL_gS, orf_some, Option.bind_some, List.length_cons, List.length_nil, Nat.reduceAdd, Nat.reduceLeDiff, if_true, if_false, Nat.zero_le, nI_ltI, nI_leI, nI_eq, nI_ltL, nI_leL, L_ltI, L_leI, nI_eqL, L_eqI, oob_nI, ix_nI, oob_L, ix_L, nI_1, nI_add, nI_z, z_nI, nI_lt0, nI_ge0, nI_gt0, nI_le0, ne_eq, Nat.le_zero_eq, Nat.not_lt_zero, Nat.lt_irrefl, Nat.le_refl, i10, true_or, ne_eq, not_true_eq_false, not_false_eq_true, Bool.false_eq_true, true_and, and_true, and_self, if_true, if_false, or_true, false_or, or_false, or_self, false_and, and_false, Nat.one_ne_zero, n01, Nat.reduceEqDiff, at_1, up_sc3, sc_3, if_neg (show ¬ (tnp B m p - (p + sg B m p) = 0) by omega)]
    by_cases c : sg B m p = 1
    · have c3 : ¬ tnv B m p = 0 := fun e => c2 ⟨c, e⟩
      simp only [c, c3, if_true, if_false, nI_neg, i10, true_or, ne_eq, not_true_eq_false, not_false_eq_true, Bool.false_eq_true, true_and, and_true, and_self, if_true, if_false, or_true, false_or, or_false, or_self, false_and, and_false, Nat.one_ne_zero, n01, Nat.reduceEqDiff, show ¬ (1 : Nat) = 0 from by decide, ib_1]
    · have c3 : sg B m p = 0 := by omega
      simp only [c3, if_true, if_false, i10, true_or, ne_eq, not_true_eq_false, not_false_eq_true, Bool.false_eq_true, true_and, and_true, and_self, if_true, if_false, or_true, false_or, or_false, or_self, false_and, and_false, Nat.one_ne_zero, n01, Nat.reduceEqDiff, show ¬ (0 : Nat) = 1 from by decide, ib_1, zI_nI]
  · intro c
    simp (disch := first | omega | decide | assumption | simp only [List.length_cons, List.length_nil, Nat.reduceAdd, Nat.reduceLeDiff]) only [x_iload_1, x_if_eq, x_aload_0, x_c_45, xc_SC_take, x_c_1, x_goto, x_c_0, x_istore_2, x_istore_3, x_put_323, xc_SC_peek, x_istore_4, x_iload_3, x_c_3, x_ic_ge, x_iload_4, x_c_48, x_c_57, xc_GB_within, x_c_10, x_get_323, x_imul, x_iadd, x_isub, x_dup_i, x_dup_r, x_get_322, x_put_322, x_iinc_3_1, x_iload_2, x_if_ne, x_zret, x_ineg, tg_SC_takeNumber_8, tg_SC_takeNumber_9, tg_SC_takeNumber_18, tg_SC_takeNumber_47, tg_SC_takeNumber_54, tg_SC_takeNumber_56, tg_SC_takeNumber_63, tg_SC_takeNumber_65, bk_SC_takeNumber_0, bk_SC_takeNumber_8, bk_SC_takeNumber_9, bk_SC_takeNumber_54, bk_SC_takeNumber_56, bk_SC_takeNumber_63, bk_SC_takeNumber_65, kil_int, kil_ref, kil_null, kil_long, kil_rA, psh_int, psh_long, psh_null, gI_gS, gL_gS, gR_gS, sI_gS, sL_gS, orf_some, Option.bind_some, List.length_cons, List.length_nil, Nat.reduceAdd, Nat.reduceLeDiff, if_true, if_false, Nat.zero_le, nI_ltI, nI_leI, nI_eq, nI_ltL, nI_leL, L_ltI, L_leI, nI_eqL, L_eqI, oob_nI, ix_nI, oob_L, ix_L, nI_1, nI_add, nI_z, z_nI, nI_lt0, nI_ge0, nI_gt0, nI_le0, ne_eq, Nat.le_zero_eq, Nat.not_lt_zero, Nat.lt_irrefl, Nat.le_refl, i10, true_or, ne_eq, not_true_eq_false, not_false_eq_true, Bool.false_eq_true, true_and, and_true, and_self, if_true, if_false, or_true, false_or, or_false, or_self, false_and, and_false, Nat.one_ne_zero, n01, Nat.reduceEqDiff, at_1, up_sc3, sc_3]
    by_cases c1 : tnp B m p - (p + sg B m p) = 0
    · simp only [c1, i10, true_or, ne_eq, not_true_eq_false, not_false_eq_true, Bool.false_eq_true, true_and, and_true, and_self, if_true, if_false, or_true, false_or, or_false, or_self, false_and, and_false, Nat.one_ne_zero, n01, Nat.reduceEqDiff, if_true, ib_0]
    · have c2 : sg B m p = 1 ∧ tnv B m p = 0 := by
        by_cases c2 : sg B m p = 1 ∧ tnv B m p = 0
        · exact c2
        · exact absurd ⟨by omega, c2⟩ c
      simp only [c1, c2.1, c2.2, i10, true_or, ne_eq, not_true_eq_false, not_false_eq_true, Bool.false_eq_true, true_and, and_true, and_self, if_true, if_false, or_true, false_or, or_false, or_self, false_and, and_false, Nat.one_ne_zero, n01, Nat.reduceEqDiff, if_false, show ¬ (1 : Nat) = 0 from by decide, ib_0, ite_self]
/-- the model's reading: all figures -/
def de (B : Nat → Nat) : Nat → Nat → Nat
  | 0, p => p
  | f + 1, p => if 48 ≤ B p ∧ B p ≤ 57 then de B f (p + 1) else p
theorem de_ge (B : Nat → Nat) : ∀ f p, p ≤ de B f p ∧ de B f p ≤ p + f
  | 0, p => ⟨Nat.le_refl _, Nat.le_refl _⟩
  | f + 1, p => by
    rw [de]
    split
    · have := de_ge B f (p + 1)
      omega
    · omega
theorem de_nd {I : Nat → Nat → Int32} {L : Nat} {B : Nat → Nat} (h : rd I L B) : ∀ f p, L ≤ p + f → ¬ (48 ≤ B (de B f p) ∧ B (de B f p) ≤ 57)
  | 0, p, hl => by
    have := h.2.2 p (by omega)
    rw [de]
    omega
  | f + 1, p, hl => by
    rw [de]
    split
    · exact de_nd h f (p + 1) (by omega)
    · assumption
/-- three figures against all -/
theorem dl_de (B : Nat → Nat) : ∀ f g p v, f ≤ g → ((dl B f p v).1 = de B g p ∧ de B g p - p ≤ f) ∨ (f < de B g p - p ∧ 48 ≤ B (dl B f p v).1 ∧ B (dl B f p v).1 ≤ 57)
  | 0, 0, p, v, _ => Or.inl ⟨rfl, by simp [de]⟩
  | 0, g + 1, p, v, _ => by
    rw [de]
    split
    · rename_i hd
      have := de_ge B g (p + 1)
      exact Or.inr ⟨by omega, hd.1, hd.2⟩
    · exact Or.inl ⟨rfl, by omega⟩
  | f + 1, 0, p, v, h => by omega
  | f + 1, g + 1, p, v, h => by
    rw [de, dl]
    split
    · have := de_ge B g (p + 1)
      rcases dl_de B f g (p + 1) (10 * v + (B p - 48)) (by omega) with ⟨a, b⟩ | ⟨a, b⟩
      · exact Or.inl ⟨a, by omega⟩
      · exact Or.inr ⟨by omega, b⟩
    · exact Or.inl ⟨rfl, by omega⟩
theorem l_value (I : Nat → Nat → Int32) (J : Nat → Nat → Int64) (q : Bool × Bool) (X : Nat × (Nat → Int32)) {L : Nat} {B : Nat → Nat} (h : rd I L B) (lo hi bl g : Int32) : ∀ f k p v, L ≤ p + f → k + f ≤ 100000 → p + f ≤ 100000 → gb_ex 121 bk_RM_value_22 [.ref (190 : Nat), .int lo, .int hi, .int bl, .int (nI v), .int (nI k)] [] gb_pG (gS (md I (nI p) g) J q X) = gb_ex 121 bk_RM_value_51 [.ref (190 : Nat), .int lo, .int hi, .int bl, .int (nI (dl B (3 - k) p v).2), .int (nI (k + (de B f p - p)))] [] gb_pG (gS (md I (nI (de B f p)) g) J q X)
  | 0, k, p, v, hl, hk, hp => by
    have hn := fun w => s_next I J q X h p w (by omega)
    have hb := rd_le h p
    have e : B p = 256 := h.2.2 p (by omega)
    have c : ¬ (48 ≤ B p ∧ B p ≤ 57) := by omega
    have e2 : (dl B (3 - k) p v).2 = v := by
      cases 3 - k with
      | zero => rfl
      | succ n => rw [dl, if_neg c]
    rw [e2, de, bk_RM_value_22]
    simp (disch := first | omega | decide | assumption | simp only [List.length_cons, List.length_nil, Nat.reduceAdd, Nat.reduceLeDiff]) only [x_aload_0, xc_RM_next, x_c_45, x_ic_ne, x_c_1, x_goto, x_c_0, x_istore_3, x_dup_i, x_dup_r, x_get_642, x_iload_3, x_if_eq, x_iadd, x_put_642, x_istore_4, x_istore_5, x_i2l, x_l_48, x_l_57, xc_RM_in, x_iload_5, x_c_3, x_ic_ge, x_c_10, x_iload_4, x_imul, x_c_48, x_isub, x_iinc_5_1, x_get_674, x_l_1, x_l_3, x_if_le, x_put_674, x_ineg, x_iload_1, x_iload_2, x_iret, tg_RM_value_6, tg_RM_value_7, tg_RM_value_15, tg_RM_value_16, tg_RM_value_22, tg_RM_value_41, tg_RM_value_42, tg_RM_value_51, tg_RM_value_65, tg_RM_value_67, tg_RM_value_68, tg_RM_value_74, tg_RM_value_75, tg_RM_value_90, tg_RM_value_91, bk_RM_value_0, bk_RM_value_6, bk_RM_value_7, bk_RM_value_15, bk_RM_value_16, bk_RM_value_41, bk_RM_value_42, bk_RM_value_65, bk_RM_value_67, bk_RM_value_68, bk_RM_value_74, bk_RM_value_75, bk_RM_value_90, bk_RM_value_91, kil_int, kil_ref, kil_null, kil_long, kil_rA, psh_int, psh_long, psh_null, gI_gS, gL_gS, gR_gS, sI_gS, sL_gS, orf_some, Option.bind_some, List.length_cons, List.length_nil, Nat.reduceAdd, Nat.reduceLeDiff, if_true, if_false, Nat.zero_le, hn, s_RM_in, w_Lle, w_leL, nxv_dg, c, i10, true_or, ne_eq, not_true_eq_false, not_false_eq_true, Bool.false_eq_true, true_and, and_true, and_self, if_true, if_false, or_true, false_or, or_false, or_self, false_and, and_false, Nat.one_ne_zero, n01, Nat.reduceEqDiff, Nat.sub_self, Nat.add_zero]
  | f + 1, k, p, v, hl, hk, hp => by
    have hn := fun w => s_next I J q X h p w (by omega)
    have hb := rd_le h p
    rw [bk_RM_value_22]
    by_cases c : 48 ≤ B p ∧ B p ≤ 57
    · have hpn := nxv_n c.2
      have hg := de_ge B f (p + 1)
      have ih := fun v => l_value I J q X h lo hi bl g f (k + 1) (p + 1) v (by omega) (by omega) (by omega)
      rw [show k + 1 + (de B f (p + 1) - (p + 1)) = k + (de B f (p + 1) - p) by omega] at ih
      rw [de, if_pos c]
      by_cases ck : 3 ≤ k
      · have e3 : 3 - k = 0 := by omega
        have e4 : 3 - (k + 1) = 0 := by omega
        have ih' := ih v
        rw [e4] at ih'
        rw [e3]
        simp only [dl] at ih' ⊢
        rw [← ih']
        simp (disch := first | omega | decide | assumption | simp only [List.length_cons, List.length_nil, Nat.reduceAdd, Nat.reduceLeDiff]) only [x_aload_0, xc_RM_next, x_c_45, x_ic_ne, x_c_1, x_goto, x_c_0, x_istore_3, x_dup_i, x_dup_r, x_get_642, x_iload_3, x_if_eq, x_iadd, x_put_642, x_istore_4, x_istore_5, x_i2l, x_l_48, x_l_57, xc_RM_in, x_iload_5, x_c_3, x_ic_ge, x_c_10, x_iload_4, x_imul, x_c_48, x_isub, x_iinc_5_1, x_get_674, x_l_1, x_l_3, x_if_le, x_put_674, x_ineg, x_iload_1, x_iload_2, x_iret, tg_RM_value_6, tg_RM_value_7, tg_RM_value_15, tg_RM_value_16, tg_RM_value_22, tg_RM_value_41, tg_RM_value_42, tg_RM_value_51, tg_RM_value_65, tg_RM_value_67, tg_RM_value_68, tg_RM_value_74, tg_RM_value_75, tg_RM_value_90, tg_RM_value_91, bk_RM_value_0, bk_RM_value_6, bk_RM_value_7, bk_RM_value_15, bk_RM_value_16, bk_RM_value_41, bk_RM_value_42, bk_RM_value_65, bk_RM_value_67, bk_RM_value_68, bk_RM_value_74, bk_RM_value_75, bk_RM_value_90, bk_RM_value_91, kil_int, kil_ref, kil_null, kil_long, kil_rA, psh_int, psh_long, psh_null, gI_gS, gL_gS, gR_gS, sI_gS, sL_gS, orf_some, Option.bind_some, List.length_cons, List.length_nil, Nat.reduceAdd, Nat.reduceLeDiff, if_true, if_false, Nat.zero_le, hn, s_RM_in, w_Lle, w_leL, nxv_dg, c, i10, true_or, ne_eq, not_true_eq_false, not_false_eq_true, Bool.false_eq_true, true_and, and_true, and_self, if_true, if_false, or_true, false_or, or_false, or_self, false_and, and_false, Nat.one_ne_zero, n01, Nat.reduceEqDiff, nI_ltI, nI_leI, nI_eq, nI_ltL, nI_leL, L_ltI, L_leI, nI_eqL, L_eqI, oob_nI, ix_nI, oob_L, ix_L, nI_1, nI_add, nI_z, z_nI, nI_lt0, nI_ge0, nI_gt0, nI_le0, ne_eq, Nat.le_zero_eq, Nat.not_lt_zero, Nat.lt_irrefl, Nat.le_refl, ck, at_190, md_2, up_md2]
      · obtain ⟨j, hj⟩ : ∃ j, 3 - k = j + 1 := ⟨2 - k, by omega⟩
        have e4 : 3 - (k + 1) = j := by omega
        have ih' := ih (10 * v + (B p - 48))
        rw [e4] at ih'
        rw [hj, dl, if_pos c, ← ih']
        simp (disch := first | omega | decide | assumption | simp only [List.length_cons, List.length_nil, Nat.reduceAdd, Nat.reduceLeDiff]) only [x_aload_0, xc_RM_next, x_c_45, x_ic_ne, x_c_1, x_goto, x_c_0, x_istore_3, x_dup_i, x_dup_r, x_get_642, x_iload_3, x_if_eq, x_iadd, x_put_642, x_istore_4, x_istore_5, x_i2l, x_l_48, x_l_57, xc_RM_in, x_iload_5, x_c_3, x_ic_ge, x_c_10, x_iload_4, x_imul, x_c_48, x_isub, x_iinc_5_1, x_get_674, x_l_1, x_l_3, x_if_le, x_put_674, x_ineg, x_iload_1, x_iload_2, x_iret, tg_RM_value_6, tg_RM_value_7, tg_RM_value_15, tg_RM_value_16, tg_RM_value_22, tg_RM_value_41, tg_RM_value_42, tg_RM_value_51, tg_RM_value_65, tg_RM_value_67, tg_RM_value_68, tg_RM_value_74, tg_RM_value_75, tg_RM_value_90, tg_RM_value_91, bk_RM_value_0, bk_RM_value_6, bk_RM_value_7, bk_RM_value_15, bk_RM_value_16, bk_RM_value_41, bk_RM_value_42, bk_RM_value_65, bk_RM_value_67, bk_RM_value_68, bk_RM_value_74, bk_RM_value_75, bk_RM_value_90, bk_RM_value_91, kil_int, kil_ref, kil_null, kil_long, kil_rA, psh_int, psh_long, psh_null, gI_gS, gL_gS, gR_gS, sI_gS, sL_gS, orf_some, Option.bind_some, List.length_cons, List.length_nil, Nat.reduceAdd, Nat.reduceLeDiff, if_true, if_false, Nat.zero_le, hn, s_RM_in, w_Lle, w_leL, nxv_dg, c, i10, true_or, ne_eq, not_true_eq_false, not_false_eq_true, Bool.false_eq_true, true_and, and_true, and_self, if_true, if_false, or_true, false_or, or_false, or_self, false_and, and_false, Nat.one_ne_zero, n01, Nat.reduceEqDiff, nI_ltI, nI_leI, nI_eq, nI_ltL, nI_leL, L_ltI, L_leI, nI_eqL, L_eqI, oob_nI, ix_nI, oob_L, ix_L, nI_1, nI_add, nI_z, z_nI, nI_lt0, nI_ge0, nI_gt0, nI_le0, ne_eq, Nat.le_zero_eq, Nat.not_lt_zero, Nat.lt_irrefl, Nat.le_refl, ck, at_190, md_2, up_md2, hpn, dg_val]
    · have e2 : (dl B (3 - k) p v).2 = v := by
        cases 3 - k with
        | zero => rfl
        | succ n => rw [dl, if_neg c]
      rw [e2, de, if_neg c]
      simp (disch := first | omega | decide | assumption | simp only [List.length_cons, List.length_nil, Nat.reduceAdd, Nat.reduceLeDiff]) only [x_aload_0, xc_RM_next, x_c_45, x_ic_ne, x_c_1, x_goto, x_c_0, x_istore_3, x_dup_i, x_dup_r, x_get_642, x_iload_3, x_if_eq, x_iadd, x_put_642, x_istore_4, x_istore_5, x_i2l, x_l_48, x_l_57, xc_RM_in, x_iload_5, x_c_3, x_ic_ge, x_c_10, x_iload_4, x_imul, x_c_48, x_isub, x_iinc_5_1, x_get_674, x_l_1, x_l_3, x_if_le, x_put_674, x_ineg, x_iload_1, x_iload_2, x_iret, tg_RM_value_6, tg_RM_value_7, tg_RM_value_15, tg_RM_value_16, tg_RM_value_22, tg_RM_value_41, tg_RM_value_42, tg_RM_value_51, tg_RM_value_65, tg_RM_value_67, tg_RM_value_68, tg_RM_value_74, tg_RM_value_75, tg_RM_value_90, tg_RM_value_91, bk_RM_value_0, bk_RM_value_6, bk_RM_value_7, bk_RM_value_15, bk_RM_value_16, bk_RM_value_41, bk_RM_value_42, bk_RM_value_65, bk_RM_value_67, bk_RM_value_68, bk_RM_value_74, bk_RM_value_75, bk_RM_value_90, bk_RM_value_91, kil_int, kil_ref, kil_null, kil_long, kil_rA, psh_int, psh_long, psh_null, gI_gS, gL_gS, gR_gS, sI_gS, sL_gS, orf_some, Option.bind_some, List.length_cons, List.length_nil, Nat.reduceAdd, Nat.reduceLeDiff, if_true, if_false, Nat.zero_le, hn, s_RM_in, w_Lle, w_leL, nxv_dg, c, i10, true_or, ne_eq, not_true_eq_false, not_false_eq_true, Bool.false_eq_true, true_and, and_true, and_self, if_true, if_false, or_true, false_or, or_false, or_self, false_and, and_false, Nat.one_ne_zero, n01, Nat.reduceEqDiff, Nat.sub_self, Nat.add_zero]
def vok (B : Nat → Nat) (p : Nat) (lo hi : Int32) : Prop := tno B 1 p ∧ ¬ (48 ≤ B (tnp B 1 p) ∧ B (tnp B 1 p) ≤ 57) ∧ lo ≤ zI (tnz B 1 p) ∧ zI (tnz B 1 p) ≤ hi
theorem ite_n {c : Prop} [Decidable c] {α : Type} {a b : α} : (if ¬ c then a else b) = if c then b else a := by by_cases h : c <;> simp [h]
theorem s_value (I : Nat → Nat → Int32) (J : Nat → Nat → Int64) (q : Bool × Bool) (X : Nat × (Nat → Int32)) {L : Nat} {B : Nat → Nat} (h : rd I L B) (p : Nat) (lo hi : Int32) (hp : p ≤ 90000) : ∃ r a g, gb_call 121 [.ref (190 : Nat), .int lo, .int hi] gb_pG (gS (md I (nI p) 1) J q X) = some (.int r, gb_pG, gS (md I (nI a) (nI g)) J q X) ∧ g ≤ 1 ∧ a ≤ p + 500 ∧ (g = 1 ↔ vok B p lo hi) ∧ (g = 1 → a = tnp B 1 p ∧ r = zI (tnz B 1 p)) := by
  have hs := sg_le B 1 p
  have hL := h.1.1
  obtain ⟨P, hP⟩ : ∃ P, P = p + sg B 1 p := ⟨_, rfl⟩
  have hn := s_next I J q X h p 1 (by omega)
  have hb := rd_le h p
  have hl := l_value I J q X h lo hi (nI (sg B 1 p)) 1 400 0 P 0 (by omega) (by omega) (by omega)
  have hge := de_ge B 400 P
  have hnd := de_nd h 400 P (by omega)
  have hdd := dl_de B 3 400 P 0 (by omega)
  rw [Nat.zero_add, Nat.sub_zero] at hl
  have ev : (dl B 3 P 0).2 = tnv B 1 p := by unfold tnv; rw [hP]
  have ep : (dl B 3 P 0).1 = tnp B 1 p := by unfold tnp; rw [hP]
  rw [ev] at hl
  rw [ep] at hdd
  have hv := tnv_b B 1 p
  have key : gb_call 121 [.ref (190 : Nat), .int lo, .int hi] gb_pG (gS (md I (nI p) 1) J q X) = gb_ex 121 bk_RM_value_51 [.ref (190 : Nat), .int lo, .int hi, .int (nI (sg B 1 p)), .int (nI (tnv B 1 p)), .int (nI (de B 400 P - P))] [] gb_pG (gS (md I (nI (de B 400 P)) 1) J q X) := by
    rw [← hl, cl_RM_value]
    by_cases c : B p = 45
    · have e0 : sg B 1 p = 1 := if_pos ⟨rfl, c⟩
      rw [hP, e0]
      simp (disch := first | omega | decide | assumption | simp only [List.length_cons, List.length_nil, Nat.reduceAdd, Nat.reduceLeDiff]) only [x_aload_0, xc_RM_next, x_c_45, x_ic_ne, x_c_1, x_goto, x_c_0, x_istore_3, x_dup_i, x_dup_r, x_get_642, x_iload_3, x_if_eq, x_iadd, x_put_642, x_istore_4, x_istore_5, x_i2l, x_l_48, x_l_57, xc_RM_in, x_iload_5, x_c_3, x_ic_ge, x_c_10, x_iload_4, x_imul, x_c_48, x_isub, x_iinc_5_1, x_get_674, x_l_1, x_l_3, x_if_le, x_put_674, x_ineg, x_iload_1, x_iload_2, x_iret, tg_RM_value_6, tg_RM_value_7, tg_RM_value_15, tg_RM_value_16, tg_RM_value_22, tg_RM_value_41, tg_RM_value_42, tg_RM_value_51, tg_RM_value_65, tg_RM_value_67, tg_RM_value_68, tg_RM_value_74, tg_RM_value_75, tg_RM_value_90, tg_RM_value_91, bk_RM_value_0, bk_RM_value_6, bk_RM_value_7, bk_RM_value_15, bk_RM_value_16, bk_RM_value_41, bk_RM_value_42, bk_RM_value_65, bk_RM_value_67, bk_RM_value_68, bk_RM_value_74, bk_RM_value_75, bk_RM_value_90, bk_RM_value_91, kil_int, kil_ref, kil_null, kil_long, kil_rA, psh_int, psh_long, psh_null, gI_gS, gL_gS, gR_gS, sI_gS, sL_gS, orf_some, Option.bind_some, List.length_cons, List.length_nil, Nat.reduceAdd, Nat.reduceLeDiff, if_true, if_false, Nat.zero_le, hn, nxv_eqL, c, i10, true_or, ne_eq, not_true_eq_false, not_false_eq_true, Bool.false_eq_true, true_and, and_true, and_self, if_true, if_false, or_true, false_or, or_false, or_self, false_and, and_false, Nat.one_ne_zero, n01, Nat.reduceEqDiff, at_190, md_2, up_md2, nI_ltI, nI_leI, nI_eq, nI_ltL, nI_leL, L_ltI, L_leI, nI_eqL, L_eqI, oob_nI, ix_nI, oob_L, ix_L, nI_1, nI_add, nI_z, z_nI, nI_lt0, nI_ge0, nI_gt0, nI_le0, ne_eq, Nat.le_zero_eq, Nat.not_lt_zero, Nat.lt_irrefl, Nat.le_refl]
      rfl
    · have e0 : sg B 1 p = 0 := if_neg (by omega)
      rw [hP, e0]
      simp (disch := first | omega | decide | assumption | simp only [List.length_cons, List.length_nil, Nat.reduceAdd, Nat.reduceLeDiff]) only [x_aload_0, xc_RM_next, x_c_45, x_ic_ne, x_c_1, x_goto, x_c_0, x_istore_3, x_dup_i, x_dup_r, x_get_642, x_iload_3, x_if_eq, x_iadd, x_put_642, x_istore_4, x_istore_5, x_i2l, x_l_48, x_l_57, xc_RM_in, x_iload_5, x_c_3, x_ic_ge, x_c_10, x_iload_4, x_imul, x_c_48, x_isub, x_iinc_5_1, x_get_674, x_l_1, x_l_3, x_if_le, x_put_674, x_ineg, x_iload_1, x_iload_2, x_iret, tg_RM_value_6, tg_RM_value_7, tg_RM_value_15, tg_RM_value_16, tg_RM_value_22, tg_RM_value_41, tg_RM_value_42, tg_RM_value_51, tg_RM_value_65, tg_RM_value_67, tg_RM_value_68, tg_RM_value_74, tg_RM_value_75, tg_RM_value_90, tg_RM_value_91, bk_RM_value_0, bk_RM_value_6, bk_RM_value_7, bk_RM_value_15, bk_RM_value_16, bk_RM_value_41, bk_RM_value_42, bk_RM_value_65, bk_RM_value_67, bk_RM_value_68, bk_RM_value_74, bk_RM_value_75, bk_RM_value_90, bk_RM_value_91, kil_int, kil_ref, kil_null, kil_long, kil_rA, psh_int, psh_long, psh_null, gI_gS, gL_gS, gR_gS, sI_gS, sL_gS, orf_some, Option.bind_some, List.length_cons, List.length_nil, Nat.reduceAdd, Nat.reduceLeDiff, if_true, if_false, Nat.zero_le, hn, nxv_eqL, c, i10, true_or, ne_eq, not_true_eq_false, not_false_eq_true, Bool.false_eq_true, true_and, and_true, and_self, if_true, if_false, or_true, false_or, or_false, or_self, false_and, and_false, Nat.one_ne_zero, n01, Nat.reduceEqDiff, at_190, md_2, up_md2, nI_ltI, nI_leI, nI_eq, nI_ltL, nI_leL, L_ltI, L_leI, nI_eqL, L_eqI, oob_nI, ix_nI, oob_L, ix_L, nI_1, nI_add, nI_z, z_nI, nI_lt0, nI_ge0, nI_gt0, nI_le0, ne_eq, Nat.le_zero_eq, Nat.not_lt_zero, Nat.lt_irrefl, Nat.le_refl, Int32.add_zero]
      rfl
  have hz : (if nI (sg B 1 p) = 0 then nI (tnv B 1 p) else -nI (tnv B 1 p)) = zI (tnz B 1 p) := by
    unfold tnz
    by_cases c : sg B 1 p = 1
    · rw [c, if_neg (by decide), if_pos rfl, nI_neg]
    · have c3 : sg B 1 p = 0 := by omega
      rw [c3, if_pos (by decide), if_neg (by decide), zI_nI]
  have hg1 : (1 ≤ de B 400 P - P ∧ de B 400 P - P ≤ 3) ∧ (sg B 1 p = 0 ∨ 0 < tnv B 1 p) ↔ tno B 1 p ∧ ¬ (48 ≤ B (tnp B 1 p) ∧ B (tnp B 1 p) ≤ 57) := by
    unfold tno
    rw [← hP]
    rcases hdd with ⟨a, b⟩ | ⟨a, b, c⟩
    · rw [a]
      constructor
      · rintro ⟨⟨x1, x2⟩, x3⟩
        exact ⟨⟨by omega, by omega⟩, hnd⟩
      · rintro ⟨⟨x1, x2⟩, x3⟩
        exact ⟨⟨by omega, by omega⟩, by omega⟩
    · constructor
      · rintro ⟨⟨x1, x2⟩, x3⟩
        omega
      · rintro ⟨⟨x1, x2⟩, x3⟩
        exact absurd ⟨b, c⟩ x3
  by_cases c1 : (1 ≤ de B 400 P - P ∧ de B 400 P - P ≤ 3) ∧ (sg B 1 p = 0 ∨ 0 < tnv B 1 p)
  · have c2 := hg1.mp c1
    have ea : de B 400 P = tnp B 1 p := by
      rcases hdd with ⟨a, b⟩ | ⟨a, b, c⟩
      · exact a.symm
      · omega
    have e1 : gb_call 121 [.ref (190 : Nat), .int lo, .int hi] gb_pG (gS (md I (nI p) 1) J q X) = some (.int (zI (tnz B 1 p)), gb_pG, gS (md I (nI (tnp B 1 p)) (nI (if lo ≤ zI (tnz B 1 p) ∧ zI (tnz B 1 p) ≤ hi then 1 else 0))) J q X) := by
      rw [key, bk_RM_value_51, ← ea]
      obtain ⟨⟨x1, x2⟩, x3⟩ := c1
      have x4 : ¬ (sg B 1 p = 1 ∧ tnv B 1 p = 0) := by omega
      by_cases c : sg B 1 p = 1
      · have x5 : ¬ tnv B 1 p = 0 := by omega
        rw [c, if_neg (by decide)] at hz
        simp (disch := first | omega | decide | assumption | simp only [List.length_cons, List.length_nil, Nat.reduceAdd, Nat.reduceLeDiff]) only [x_aload_0, xc_RM_next, x_c_45, x_ic_ne, x_c_1, x_goto, x_c_0, x_istore_3, x_dup_i, x_dup_r, x_get_642, x_iload_3, x_if_eq, x_iadd, x_put_642, x_istore_4, x_istore_5, x_i2l, x_l_48, x_l_57, xc_RM_in, x_iload_5, x_c_3, x_ic_ge, x_c_10, x_iload_4, x_imul, x_c_48, x_isub, x_iinc_5_1, x_get_674, x_l_1, x_l_3, x_if_le, x_put_674, x_ineg, x_iload_1, x_iload_2, x_iret, tg_RM_value_6, tg_RM_value_7, tg_RM_value_15, tg_RM_value_16, tg_RM_value_22, tg_RM_value_41, tg_RM_value_42, tg_RM_value_51, tg_RM_value_65, tg_RM_value_67, tg_RM_value_68, tg_RM_value_74, tg_RM_value_75, tg_RM_value_90, tg_RM_value_91, bk_RM_value_0, bk_RM_value_6, bk_RM_value_7, bk_RM_value_15, bk_RM_value_16, bk_RM_value_41, bk_RM_value_42, bk_RM_value_65, bk_RM_value_67, bk_RM_value_68, bk_RM_value_74, bk_RM_value_75, bk_RM_value_90, bk_RM_value_91, kil_int, kil_ref, kil_null, kil_long, kil_rA, psh_int, psh_long, psh_null, gI_gS, gL_gS, gR_gS, sI_gS, sL_gS, orf_some, Option.bind_some, List.length_cons, List.length_nil, Nat.reduceAdd, Nat.reduceLeDiff, if_true, if_false, Nat.zero_le, at_190, md_3, up_md3, s_RM_in, w_Lle, w_leL, w_le, nI_ltI, nI_leI, nI_eq, nI_ltL, nI_leL, L_ltI, L_leI, nI_eqL, L_eqI, oob_nI, ix_nI, oob_L, ix_L, nI_1, nI_add, nI_z, z_nI, nI_lt0, nI_ge0, nI_gt0, nI_le0, ne_eq, Nat.le_zero_eq, Nat.not_lt_zero, Nat.lt_irrefl, Nat.le_refl, i10, true_or, ne_eq, not_true_eq_false, not_false_eq_true, Bool.false_eq_true, true_and, and_true, and_self, if_true, if_false, or_true, false_or, or_false, or_self, false_and, and_false, Nat.one_ne_zero, n01, Nat.reduceEqDiff, x1, x2, c, x5, hz, ite_b1, ite_b2]
        by_cases c6 : lo ≤ zI (tnz B 1 p) ∧ zI (tnz B 1 p) ≤ hi <;> simp [c6] <;> rfl
      · have c3 : sg B 1 p = 0 := by omega
        rw [c3, if_pos (by decide)] at hz
        simp (disch := first | omega | decide | assumption | simp only [List.length_cons, List.length_nil, Nat.reduceAdd, Nat.reduceLeDiff]) only [x_aload_0, xc_RM_next, x_c_45, x_ic_ne, x_c_1, x_goto, x_c_0, x_istore_3, x_dup_i, x_dup_r, x_get_642, x_iload_3, x_if_eq, x_iadd, x_put_642, x_istore_4, x_istore_5, x_i2l, x_l_48, x_l_57, xc_RM_in, x_iload_5, x_c_3, x_ic_ge, x_c_10, x_iload_4, x_imul, x_c_48, x_isub, x_iinc_5_1, x_get_674, x_l_1, x_l_3, x_if_le, x_put_674, x_ineg, x_iload_1, x_iload_2, x_iret, tg_RM_value_6, tg_RM_value_7, tg_RM_value_15, tg_RM_value_16, tg_RM_value_22, tg_RM_value_41, tg_RM_value_42, tg_RM_value_51, tg_RM_value_65, tg_RM_value_67, tg_RM_value_68, tg_RM_value_74, tg_RM_value_75, tg_RM_value_90, tg_RM_value_91, bk_RM_value_0, bk_RM_value_6, bk_RM_value_7, bk_RM_value_15, bk_RM_value_16, bk_RM_value_41, bk_RM_value_42, bk_RM_value_65, bk_RM_value_67, bk_RM_value_68, bk_RM_value_74, bk_RM_value_75, bk_RM_value_90, bk_RM_value_91, kil_int, kil_ref, kil_null, kil_long, kil_rA, psh_int, psh_long, psh_null, gI_gS, gL_gS, gR_gS, sI_gS, sL_gS, orf_some, Option.bind_some, List.length_cons, List.length_nil, Nat.reduceAdd, Nat.reduceLeDiff, if_true, if_false, Nat.zero_le, at_190, md_3, up_md3, s_RM_in, w_Lle, w_leL, w_le, nI_ltI, nI_leI, nI_eq, nI_ltL, nI_leL, L_ltI, L_leI, nI_eqL, L_eqI, oob_nI, ix_nI, oob_L, ix_L, nI_1, nI_add, nI_z, z_nI, nI_lt0, nI_ge0, nI_gt0, nI_le0, ne_eq, Nat.le_zero_eq, Nat.not_lt_zero, Nat.lt_irrefl, Nat.le_refl, i10, true_or, ne_eq, not_true_eq_false, not_false_eq_true, Bool.false_eq_true, true_and, and_true, and_self, if_true, if_false, or_true, false_or, or_false, or_self, false_and, and_false, Nat.one_ne_zero, n01, Nat.reduceEqDiff, x1, x2, c3, hz, ite_b1, ite_b2]
        by_cases c6 : lo ≤ zI (tnz B 1 p) ∧ zI (tnz B 1 p) ≤ hi <;> simp [c6] <;> rfl
    have hb2 := tnp_b B 1 p
    refine ⟨_, _, _, e1, by split <;> omega, by omega, ?_, fun _ => ⟨rfl, rfl⟩⟩
    by_cases c6 : lo ≤ zI (tnz B 1 p) ∧ zI (tnz B 1 p) ≤ hi
    · rw [if_pos c6]
      exact ⟨fun _ => ⟨c2.1, c2.2, c6.1, c6.2⟩, fun _ => rfl⟩
    · rw [if_neg c6]
      exact ⟨fun e => absurd e (by decide), fun e => absurd ⟨e.2.2.1, e.2.2.2⟩ c6⟩
  · have e1 : gb_call 121 [.ref (190 : Nat), .int lo, .int hi] gb_pG (gS (md I (nI p) 1) J q X) = some (.int (zI (tnz B 1 p)), gb_pG, gS (md I (nI (de B 400 P)) (nI 0)) J q X) := by
      rw [key, bk_RM_value_51]
      by_cases c : sg B 1 p = 1
      · rw [c, if_neg (by decide)] at hz
        rw [c] at c1
        simp (disch := first | omega | decide | assumption | simp only [List.length_cons, List.length_nil, Nat.reduceAdd, Nat.reduceLeDiff]) only [x_aload_0, xc_RM_next, x_c_45, x_ic_ne, x_c_1, x_goto, x_c_0, x_istore_3, x_dup_i, x_dup_r, x_get_642, x_iload_3, x_if_eq, x_iadd, x_put_642, x_istore_4, x_istore_5, x_i2l, x_l_48, x_l_57, xc_RM_in, x_iload_5, x_c_3, x_ic_ge, x_c_10, x_iload_4, x_imul, x_c_48, x_isub, x_iinc_5_1, x_get_674, x_l_1, x_l_3, x_if_le, x_put_674, x_ineg, x_iload_1, x_iload_2, x_iret, tg_RM_value_6, tg_RM_value_7, tg_RM_value_15, tg_RM_value_16, tg_RM_value_22, tg_RM_value_41, tg_RM_value_42, tg_RM_value_51, tg_RM_value_65, tg_RM_value_67, tg_RM_value_68, tg_RM_value_74, tg_RM_value_75, tg_RM_value_90, tg_RM_value_91, bk_RM_value_0, bk_RM_value_6, bk_RM_value_7, bk_RM_value_15, bk_RM_value_16, bk_RM_value_41, bk_RM_value_42, bk_RM_value_65, bk_RM_value_67, bk_RM_value_68, bk_RM_value_74, bk_RM_value_75, bk_RM_value_90, bk_RM_value_91, kil_int, kil_ref, kil_null, kil_long, kil_rA, psh_int, psh_long, psh_null, gI_gS, gL_gS, gR_gS, sI_gS, sL_gS, orf_some, Option.bind_some, List.length_cons, List.length_nil, Nat.reduceAdd, Nat.reduceLeDiff, if_true, if_false, Nat.zero_le, at_190, md_3, up_md3, s_RM_in, w_Lle, w_leL, w_le, nI_ltI, nI_leI, nI_eq, nI_ltL, nI_leL, L_ltI, L_leI, nI_eqL, L_eqI, oob_nI, ix_nI, oob_L, ix_L, nI_1, nI_add, nI_z, z_nI, nI_lt0, nI_ge0, nI_gt0, nI_le0, ne_eq, Nat.le_zero_eq, Nat.not_lt_zero, Nat.lt_irrefl, Nat.le_refl, i10, true_or, ne_eq, not_true_eq_false, not_false_eq_true, Bool.false_eq_true, true_and, and_true, and_self, if_true, if_false, or_true, false_or, or_false, or_self, false_and, and_false, Nat.one_ne_zero, n01, Nat.reduceEqDiff, c, hz, ite_b1, ite_b2]
        by_cases x1 : 1 ≤ de B 400 P - P ∧ de B 400 P - P ≤ 3
        · have x5 : tnv B 1 p = 0 := by omega
          simp only [x1, x5, i10, true_or, ne_eq, not_true_eq_false, not_false_eq_true, Bool.false_eq_true, true_and, and_true, and_self, if_true, if_false, or_true, false_or, or_false, or_self, false_and, and_false, Nat.one_ne_zero, n01, Nat.reduceEqDiff, nI_0]
        · simp only [x1, i10, true_or, ne_eq, not_true_eq_false, not_false_eq_true, Bool.false_eq_true, true_and, and_true, and_self, if_true, if_false, or_true, false_or, or_false, or_self, false_and, and_false, Nat.one_ne_zero, n01, Nat.reduceEqDiff, nI_0]
      · have c3 : sg B 1 p = 0 := by omega
        rw [c3, if_pos (by decide)] at hz
        rw [c3] at c1
        simp (disch := first | omega | decide | assumption | simp only [List.length_cons, List.length_nil, Nat.reduceAdd, Nat.reduceLeDiff]) only [x_aload_0, xc_RM_next, x_c_45, x_ic_ne, x_c_1, x_goto, x_c_0, x_istore_3, x_dup_i, x_dup_r, x_get_642, x_iload_3, x_if_eq, x_iadd, x_put_642, x_istore_4, x_istore_5, x_i2l, x_l_48, x_l_57, xc_RM_in, x_iload_5, x_c_3, x_ic_ge, x_c_10, x_iload_4, x_imul, x_c_48, x_isub, x_iinc_5_1, x_get_674, x_l_1, x_l_3, x_if_le, x_put_674, x_ineg, x_iload_1, x_iload_2, x_iret, tg_RM_value_6, tg_RM_value_7, tg_RM_value_15, tg_RM_value_16, tg_RM_value_22, tg_RM_value_41, tg_RM_value_42, tg_RM_value_51, tg_RM_value_65, tg_RM_value_67, tg_RM_value_68, tg_RM_value_74, tg_RM_value_75, tg_RM_value_90, tg_RM_value_91, bk_RM_value_0, bk_RM_value_6, bk_RM_value_7, bk_RM_value_15, bk_RM_value_16, bk_RM_value_41, bk_RM_value_42, bk_RM_value_65, bk_RM_value_67, bk_RM_value_68, bk_RM_value_74, bk_RM_value_75, bk_RM_value_90, bk_RM_value_91, kil_int, kil_ref, kil_null, kil_long, kil_rA, psh_int, psh_long, psh_null, gI_gS, gL_gS, gR_gS, sI_gS, sL_gS, orf_some, Option.bind_some, List.length_cons, List.length_nil, Nat.reduceAdd, Nat.reduceLeDiff, if_true, if_false, Nat.zero_le, at_190, md_3, up_md3, s_RM_in, w_Lle, w_leL, w_le, nI_ltI, nI_leI, nI_eq, nI_ltL, nI_leL, L_ltI, L_leI, nI_eqL, L_eqI, oob_nI, ix_nI, oob_L, ix_L, nI_1, nI_add, nI_z, z_nI, nI_lt0, nI_ge0, nI_gt0, nI_le0, ne_eq, Nat.le_zero_eq, Nat.not_lt_zero, Nat.lt_irrefl, Nat.le_refl, i10, true_or, ne_eq, not_true_eq_false, not_false_eq_true, Bool.false_eq_true, true_and, and_true, and_self, if_true, if_false, or_true, false_or, or_false, or_self, false_and, and_false, Nat.one_ne_zero, n01, Nat.reduceEqDiff, c3, hz, ite_b1, ite_b2]
        have x1 : ¬ (1 ≤ de B 400 P - P ∧ de B 400 P - P ≤ 3) := by omega
        simp only [x1, i10, true_or, ne_eq, not_true_eq_false, not_false_eq_true, Bool.false_eq_true, true_and, and_true, and_self, if_true, if_false, or_true, false_or, or_false, or_self, false_and, and_false, Nat.one_ne_zero, n01, Nat.reduceEqDiff, nI_0]
    refine ⟨_, _, _, e1, by omega, by omega, ?_, fun e => absurd e (by decide)⟩
    exact ⟨fun e => absurd e (by decide), fun e => absurd (hg1.mpr ⟨e.1, e.2.1⟩) c1⟩
theorem s_more (I : Nat → Nat → Int32) (J : Nat → Nat → Int64) (q : Bool × Bool) (X : Nat × (Nat → Int32)) {L : Nat} {B : Nat → Nat} (h : rd I L B) {a g : Nat} (lo hi : Int32) (hg : g ≤ 1) (ha : a ≤ 80000) : ∃ r a' g', gb_call 122 [.ref (190 : Nat), .int lo, .int hi] gb_pG (gS (md I (nI a) (nI g)) J q X) = some (.int r, gb_pG, gS (md I (nI a') (nI g')) J q X) ∧ g' ≤ 1 ∧ a' ≤ a + 600 ∧ (g' = 1 ↔ g = 1 ∧ B a = 44 ∧ vok B (a + 1) lo hi) ∧ (g' = 1 → a' = tnp B 1 (a + 1) ∧ r = zI (tnz B 1 (a + 1))) := by
  have hn := fun w => s_next I J q X h a w (by omega)
  have hb := rd_le h a
  obtain ⟨r, a', g', e, b1, b2, b3, b4⟩ := s_value I J q X h (a + 1) lo hi (by omega)
  rw [cl_RM_more]
  by_cases c : g = 1 ∧ B a = 44
  · obtain ⟨rfl, c2⟩ := c
    refine ⟨r, a', g', ?_, b1, by omega, ?_, b4⟩
    · simp (disch := first | omega | decide | assumption | simp only [List.length_cons, List.length_nil, Nat.reduceAdd, Nat.reduceLeDiff]) only [x_aload_0, x_get_674, x_if_eq, xc_RM_next, x_c_44, x_ic_ne, x_c_1, x_goto, x_c_0, x_put_674, x_dup_i, x_dup_r, x_get_642, x_iadd, x_put_642, x_iload_1, x_iload_2, xc_RM_value, x_iret, tg_RM_more_10, tg_RM_more_11, tg_RM_more_26, tg_RM_more_27, bk_RM_more_0, bk_RM_more_10, bk_RM_more_11, bk_RM_more_26, bk_RM_more_27, kil_int, kil_ref, kil_null, kil_long, kil_rA, psh_int, psh_long, psh_null, gI_gS, gL_gS, gR_gS, sI_gS, sL_gS, orf_some, Option.bind_some, List.length_cons, List.length_nil, Nat.reduceAdd, Nat.reduceLeDiff, if_true, if_false, Nat.zero_le, at_190, md_2, md_3, up_md2, up_md3, nI_ltI, nI_leI, nI_eq, nI_ltL, nI_leL, L_ltI, L_leI, nI_eqL, L_eqI, oob_nI, ix_nI, oob_L, ix_L, nI_1, nI_add, nI_z, z_nI, nI_lt0, nI_ge0, nI_gt0, nI_le0, ne_eq, Nat.le_zero_eq, Nat.not_lt_zero, Nat.lt_irrefl, Nat.le_refl, i10, true_or, ne_eq, not_true_eq_false, not_false_eq_true, Bool.false_eq_true, true_and, and_true, and_self, if_true, if_false, or_true, false_or, or_false, or_self, false_and, and_false, Nat.one_ne_zero, n01, Nat.reduceEqDiff, hn, nxv_eqL, c2, e, show ¬ (1 : Nat) = 0 from by decide]
    · rw [b3]; exact ⟨fun x => ⟨rfl, c2, x⟩, fun x => x.2.2⟩
  · refine ⟨0, a + 1, 0, ?_, by omega, by omega, ⟨fun e => absurd e (by decide), fun e => absurd ⟨e.1, e.2.1⟩ c⟩, fun e => absurd e (by decide)⟩
    simp (disch := first | omega | decide | assumption | simp only [List.length_cons, List.length_nil, Nat.reduceAdd, Nat.reduceLeDiff]) only [x_aload_0, x_get_674, x_if_eq, xc_RM_next, x_c_44, x_ic_ne, x_c_1, x_goto, x_c_0, x_put_674, x_dup_i, x_dup_r, x_get_642, x_iadd, x_put_642, x_iload_1, x_iload_2, xc_RM_value, x_iret, tg_RM_more_10, tg_RM_more_11, tg_RM_more_26, tg_RM_more_27, bk_RM_more_0, bk_RM_more_10, bk_RM_more_11, bk_RM_more_26, bk_RM_more_27, kil_int, kil_ref, kil_null, kil_long, kil_rA, psh_int, psh_long, psh_null, gI_gS, gL_gS, gR_gS, sI_gS, sL_gS, orf_some, Option.bind_some, List.length_cons, List.length_nil, Nat.reduceAdd, Nat.reduceLeDiff, if_true, if_false, Nat.zero_le, at_190, md_2, md_3, up_md2, up_md3, nI_ltI, nI_leI, nI_eq, nI_ltL, nI_leL, L_ltI, L_leI, nI_eqL, L_eqI, oob_nI, ix_nI, oob_L, ix_L, nI_1, nI_add, nI_z, z_nI, nI_lt0, nI_ge0, nI_gt0, nI_le0, ne_eq, Nat.le_zero_eq, Nat.not_lt_zero, Nat.lt_irrefl, Nat.le_refl, i10, true_or, ne_eq, not_true_eq_false, not_false_eq_true, Bool.false_eq_true, true_and, and_true, and_self, if_true, if_false, or_true, false_or, or_false, or_self, false_and, and_false, Nat.one_ne_zero, n01, Nat.reduceEqDiff, hn, nxv_eqL]
    by_cases c1 : g = 0
    · simp only [c1, i10, true_or, ne_eq, not_true_eq_false, not_false_eq_true, Bool.false_eq_true, true_and, and_true, and_self, if_true, if_false, or_true, false_or, or_false, or_self, false_and, and_false, Nat.one_ne_zero, n01, Nat.reduceEqDiff, if_true, nI_0]
    · have c2 : ¬ B a = 44 := fun e => c ⟨by omega, e⟩
      simp only [c1, c2, i10, true_or, ne_eq, not_true_eq_false, not_false_eq_true, Bool.false_eq_true, true_and, and_true, and_self, if_true, if_false, or_true, false_or, or_false, or_self, false_and, and_false, Nat.one_ne_zero, n01, Nat.reduceEqDiff, if_false, nI_0]
theorem s_ends (I : Nat → Nat → Int32) (J : Nat → Nat → Int64) (q : Bool × Bool) (X : Nat × (Nat → Int32)) {L : Nat} {B : Nat → Nat} (h : rd I L B) {a g : Nat} (hg : g ≤ 1) (ha : a ≤ 90000) : ∃ g', gb_call 123 [.ref (190 : Nat)] gb_pG (gS (md I (nI a) (nI g)) J q X) = some (.null, gb_pG, gS (md I (nI (a + 1)) (nI g')) J q X) ∧ g' ≤ 1 ∧ (g' = 1 ↔ g = 1 ∧ B a = 59) := by
  have hn := fun w => s_next I J q X h a w (by omega)
  have hb := rd_le h a
  rw [cl_RM_ends]
  by_cases c : g = 1 ∧ B a = 59
  · obtain ⟨rfl, c2⟩ := c
    refine ⟨1, ?_, by omega, ⟨fun _ => ⟨rfl, c2⟩, fun _ => rfl⟩⟩
    simp (disch := first | omega | decide | assumption | simp only [List.length_cons, List.length_nil, Nat.reduceAdd, Nat.reduceLeDiff]) only [x_aload_0, x_get_674, x_if_eq, xc_RM_next, x_c_59, x_ic_ne, x_c_1, x_goto, x_c_0, x_put_674, x_dup_i, x_dup_r, x_get_642, x_iadd, x_put_642, x_vret, tg_RM_ends_10, tg_RM_ends_11, bk_RM_ends_0, bk_RM_ends_10, bk_RM_ends_11, kil_int, kil_ref, kil_null, kil_long, kil_rA, psh_int, psh_long, psh_null, gI_gS, gL_gS, gR_gS, sI_gS, sL_gS, orf_some, Option.bind_some, List.length_cons, List.length_nil, Nat.reduceAdd, Nat.reduceLeDiff, if_true, if_false, Nat.zero_le, at_190, md_2, md_3, up_md2, up_md3, nI_ltI, nI_leI, nI_eq, nI_ltL, nI_leL, L_ltI, L_leI, nI_eqL, L_eqI, oob_nI, ix_nI, oob_L, ix_L, nI_1, nI_add, nI_z, z_nI, nI_lt0, nI_ge0, nI_gt0, nI_le0, ne_eq, Nat.le_zero_eq, Nat.not_lt_zero, Nat.lt_irrefl, Nat.le_refl, i10, true_or, ne_eq, not_true_eq_false, not_false_eq_true, Bool.false_eq_true, true_and, and_true, and_self, if_true, if_false, or_true, false_or, or_false, or_self, false_and, and_false, Nat.one_ne_zero, n01, Nat.reduceEqDiff, hn, nxv_eqL, c2, show ¬ (1 : Nat) = 0 from by decide]
    rfl
  · refine ⟨0, ?_, by omega, ⟨fun e => absurd e (by decide), fun e => absurd e c⟩⟩
    simp (disch := first | omega | decide | assumption | simp only [List.length_cons, List.length_nil, Nat.reduceAdd, Nat.reduceLeDiff]) only [x_aload_0, x_get_674, x_if_eq, xc_RM_next, x_c_59, x_ic_ne, x_c_1, x_goto, x_c_0, x_put_674, x_dup_i, x_dup_r, x_get_642, x_iadd, x_put_642, x_vret, tg_RM_ends_10, tg_RM_ends_11, bk_RM_ends_0, bk_RM_ends_10, bk_RM_ends_11, kil_int, kil_ref, kil_null, kil_long, kil_rA, psh_int, psh_long, psh_null, gI_gS, gL_gS, gR_gS, sI_gS, sL_gS, orf_some, Option.bind_some, List.length_cons, List.length_nil, Nat.reduceAdd, Nat.reduceLeDiff, if_true, if_false, Nat.zero_le, at_190, md_2, md_3, up_md2, up_md3, nI_ltI, nI_leI, nI_eq, nI_ltL, nI_leL, L_ltI, L_leI, nI_eqL, L_eqI, oob_nI, ix_nI, oob_L, ix_L, nI_1, nI_add, nI_z, z_nI, nI_lt0, nI_ge0, nI_gt0, nI_le0, ne_eq, Nat.le_zero_eq, Nat.not_lt_zero, Nat.lt_irrefl, Nat.le_refl, i10, true_or, ne_eq, not_true_eq_false, not_false_eq_true, Bool.false_eq_true, true_and, and_true, and_self, if_true, if_false, or_true, false_or, or_false, or_self, false_and, and_false, Nat.one_ne_zero, n01, Nat.reduceEqDiff, hn, nxv_eqL]
    by_cases c1 : g = 0
    · simp only [c1, i10, true_or, ne_eq, not_true_eq_false, not_false_eq_true, Bool.false_eq_true, true_and, and_true, and_self, if_true, if_false, or_true, false_or, or_false, or_self, false_and, and_false, Nat.one_ne_zero, n01, Nat.reduceEqDiff, if_true, nI_0]
    · have c2 : ¬ B a = 59 := fun e => c ⟨by omega, e⟩
      simp only [c1, c2, i10, true_or, ne_eq, not_true_eq_false, not_false_eq_true, Bool.false_eq_true, true_and, and_true, and_self, if_true, if_false, or_true, false_or, or_false, or_self, false_and, and_false, Nat.one_ne_zero, n01, Nat.reduceEqDiff, if_false, nI_0]
