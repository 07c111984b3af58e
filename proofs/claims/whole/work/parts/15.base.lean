/-! numbers -/
theorem fa_lit (n : Nat) : (OfNat.ofNat n : Int32) = nI n := rfl
theorem fa_litL (n : Nat) : (OfNat.ofNat n : Int64) = lN n := rfl
theorem nI_ltL {i n : Nat} (h : i < 2147483648) (hn : n < 2147483648) : nI i < (no_index (OfNat.ofNat n) : Int32) ↔ i < n := by rw [fa_lit]; exact nI_ltI h hn
theorem nI_leL {i n : Nat} (h : i < 2147483648) (hn : n < 2147483648) : nI i ≤ (no_index (OfNat.ofNat n) : Int32) ↔ i ≤ n := by rw [fa_lit]; exact nI_leI h hn
theorem L_ltI {i n : Nat} (h : i < 2147483648) (hn : n < 2147483648) : (no_index (OfNat.ofNat n) : Int32) < nI i ↔ n < i := by rw [fa_lit]; exact nI_ltI hn h
theorem L_leI {i n : Nat} (h : i < 2147483648) (hn : n < 2147483648) : (no_index (OfNat.ofNat n) : Int32) ≤ nI i ↔ n ≤ i := by rw [fa_lit]; exact nI_leI hn h
theorem nI_eqL {i n : Nat} (h : i < 2147483648) (hn : n < 2147483648) : nI i = (no_index (OfNat.ofNat n) : Int32) ↔ i = n := by rw [fa_lit]; exact nI_eq h hn
theorem L_eqI {i n : Nat} (h : i < 2147483648) (hn : n < 2147483648) : (no_index (OfNat.ofNat n) : Int32) = nI i ↔ n = i := by rw [fa_lit]; exact nI_eq hn h
theorem nI_z {i : Nat} (h : i < 2147483648) : nI i = 0 ↔ i = 0 := by rw [← nI_0]; exact nI_eq h (by decide)
theorem z_nI {i : Nat} (h : i < 2147483648) : 0 = nI i ↔ i = 0 := by rw [eq_comm]; exact nI_z h
theorem nI_lt0 {i : Nat} (h : i < 2147483648) : nI i < 0 ↔ False := ⟨fun q => nI_pos h q, False.elim⟩
theorem nI_ge0 {i : Nat} (h : i < 2147483648) : 0 ≤ nI i ↔ True := ⟨fun _ => trivial, fun _ => nI_pos' h⟩
theorem nI_gt0 {i : Nat} (h : i < 2147483648) : 0 < nI i ↔ 0 < i := by rw [← nI_0]; exact nI_ltI (by decide) h
theorem nI_le0 {i : Nat} (h : i < 2147483648) : nI i ≤ 0 ↔ i = 0 := by rw [← nI_0, nI_leI h (by decide)]; omega
theorem oob_L {k n : Nat} (h : k < n) (hn : n ≤ 2147483648) : oob (no_index (OfNat.ofNat k)) n = false := oob_nI h hn
theorem ix_L {k : Nat} (h : k < 2147483648) : ix (no_index (OfNat.ofNat k)) = k := nI_clamp h
theorem toInt_L {n : Nat} (h : n < 2147483648) : (no_index (OfNat.ofNat n) : Int32).toInt = (n : Int) := nI_toInt h
theorem toInt_LL {n : Nat} (h : n < 9223372036854775808) : (no_index (OfNat.ofNat n) : Int64).toInt = (n : Int) := pk_lT h
theorem w_Lle {n : Nat} (h : n < 2147483648) (x : Int32) : (no_index (OfNat.ofNat n) : Int64) ≤ x.toInt64 ↔ (OfNat.ofNat n : Int32) ≤ x := by
  rw [Int64.le_iff_toInt_le, Int32.le_iff_toInt_le, toInt_L h, toInt_LL (by omega), Int32.toInt_toInt64]
theorem w_leL {n : Nat} (h : n < 2147483648) (x : Int32) : x.toInt64 ≤ (no_index (OfNat.ofNat n) : Int64) ↔ x ≤ (OfNat.ofNat n : Int32) := by
  rw [Int64.le_iff_toInt_le, Int32.le_iff_toInt_le, toInt_L h, toInt_LL (by omega), Int32.toInt_toInt64]
theorem w_le (x y : Int32) : x.toInt64 ≤ y.toInt64 ↔ x ≤ y := by
  rw [Int64.le_iff_toInt_le, Int32.le_iff_toInt_le, Int32.toInt_toInt64, Int32.toInt_toInt64]
theorem ite_b1 {c : Prop} [Decidable c] : (if c then (1 : Int32) else 0) = 0 ↔ ¬ c := by by_cases h : c <;> simp [h]
theorem ite_b2 {c : Prop} [Decidable c] : (if c then (1 : Int32) else 0) ≠ 0 ↔ c := by by_cases h : c <;> simp [h]
theorem ite_b3 {c : Prop} [Decidable c] : ((if c then (1 : Int32) else 0) = 0 ∨ (if c then (1 : Int32) else 0) = 1) ↔ True := by by_cases h : c <;> simp [h]
theorem s_GB_within (v lo hi : Int32) (p : gb_Pi) (g : gb_Sg) : gb_call 107 [.int v, .int lo, .int hi] p g = some (.int (if lo ≤ v ∧ v ≤ hi then 1 else 0), p, g) := by
  rw [cl_GB_within]
  simp only [x_iload_0, x_iload_1, x_ic_lt, x_iload_2, x_ic_gt, x_c_1, x_goto, x_c_0, x_zret, tg_GB_within_8, tg_GB_within_9, bk_GB_within_0, bk_GB_within_8, bk_GB_within_9, kil_int, kil_ref, kil_null, kil_long, kil_rA, psh_int, psh_long, psh_null, gI_gS, gL_gS, gR_gS, sI_gS, sL_gS, orf_some, Option.bind_some, List.length_cons, List.length_nil, Nat.reduceAdd, Nat.reduceLeDiff, if_true, if_false, Nat.zero_le]
  by_cases h1 : lo ≤ v <;> by_cases h2 : v ≤ hi <;> simp [h1, h2, ← Int32.not_le]
theorem s_RM_in (v lo hi : Int64) (p : gb_Pi) (g : gb_Sg) : gb_call 117 [.long v, .long lo, .long hi] p g = some (.int (if lo ≤ v ∧ v ≤ hi then 1 else 0), p, g) := by
  rw [cl_RM_in]
  simp only [x_lload_0, x_lload_2, x_lc_lt, x_lload_4, x_lc_gt, x_c_1, x_goto, x_c_0, x_zret, tg_RM_in_10, tg_RM_in_11, bk_RM_in_0, bk_RM_in_10, bk_RM_in_11, kil_int, kil_ref, kil_null, kil_long, kil_rA, psh_int, psh_long, psh_null, gI_gS, gL_gS, gR_gS, sI_gS, sL_gS, orf_some, Option.bind_some, List.length_cons, List.length_nil, Nat.reduceAdd, Nat.reduceLeDiff, if_true, if_false, Nat.zero_le]
  by_cases h1 : lo ≤ v <;> by_cases h2 : v ≤ hi <;> simp [h1, h2, ← Int64.not_le]
theorem nI_pred' {n : Nat} (h : 1 ≤ n) : nI n - 1 = nI (n - 1) := by
  have := nI_pred (n - 1)
  rw [show n - 1 + 1 = n by omega] at this
  exact this
/-! loops as folds: d rounds from i on -/
def lp {α : Type} (f : Nat → α → α) : Nat → Nat → α → α
  | 0, _, a => a
  | d + 1, i, a => lp f d (i + 1) (f i a)
def lf {β : Type} (f : Nat → Option β) : Nat → Nat → Option β
  | 0, _ => none
  | d + 1, i => match f i with
    | some b => some b
    | none => lf f d (i + 1)
def la (f : Nat → Bool) : Nat → Nat → Bool
  | 0, _ => false
  | d + 1, i => f i || la f d (i + 1)
theorem lp_congr {α : Type} {f h : Nat → α → α} : ∀ {d i : Nat} {a : α}, (∀ j, i ≤ j → j < i + d → ∀ x, f j x = h j x) → lp f d i a = lp h d i a
  | 0, _, _, _ => rfl
  | d + 1, i, a, e => by
    rw [lp, lp, e i (by omega) (by omega) a]
    exact lp_congr fun j h1 h2 x => e j (by omega) (by omega) x
theorem lf_congr {β : Type} {f h : Nat → Option β} : ∀ {d i : Nat}, (∀ j, i ≤ j → j < i + d → f j = h j) → lf f d i = lf h d i
  | 0, _, _ => rfl
  | d + 1, i, e => by
    rw [lf, lf, e i (by omega) (by omega), lf_congr (f := f) (h := h) (d := d) (i := i + 1) (fun j h1 h2 => e j (by omega) (by omega))]
theorem la_congr {f h : Nat → Bool} : ∀ {d i : Nat}, (∀ j, i ≤ j → j < i + d → f j = h j) → la f d i = la h d i
  | 0, _, _ => rfl
  | d + 1, i, e => by
    rw [la, la, e i (by omega) (by omega), la_congr (f := f) (h := h) (d := d) (i := i + 1) (fun j h1 h2 => e j (by omega) (by omega))]
theorem ib_0 : ((0 : Int32) = 0 ∨ (0 : Int32) = 1) ↔ True := by decide
theorem ib_1 : ((1 : Int32) = 0 ∨ (1 : Int32) = 1) ↔ True := by decide
/-! numbers found -/
theorem l_SH_hasNumber (I : Nat → Nat → Int32) (J : Nat → Nat → Int64) (q : Bool × Bool) (X : Nat × (Nat → Int32)) (v : Int32) {N : Nat} (hN : N ≤ 20) (h : I 23 10 = nI N) : ∀ d i, d + i = N → gb_ex 51 bk_SH_hasNumber_2 [.ref (23 : Nat), .int v, .int (nI i)] [] gb_pG (gS I J q X) = some (.int (if la (fun j => decide (I 32 j = v)) d i = true then 1 else 0), gb_pG, gS I J q X)
  | 0, i, e => by
    rw [bk_SH_hasNumber_2]
    simp only [x_c_0, x_istore_2, x_iload_2, x_aload_0, x_get_394, x_ic_ge, x_get_395, x_iald, x_iload_1, x_ic_ne, x_c_1, x_zret, x_iinc_2_1, x_goto, tg_SH_hasNumber_2, tg_SH_hasNumber_14, tg_SH_hasNumber_16, bk_SH_hasNumber_0, bk_SH_hasNumber_14, bk_SH_hasNumber_16, kil_int, kil_ref, kil_null, kil_long, kil_rA, psh_int, psh_long, psh_null, gI_gS, gL_gS, gR_gS, sI_gS, sL_gS, orf_some, Option.bind_some, List.length_cons, List.length_nil, Nat.reduceAdd, Nat.reduceLeDiff, if_true, if_false, Nat.zero_le, at_23, at_32, al_32, rw_23_11, h]
    simp (disch := first | omega | decide) only [nI_ltI, nI_leI, nI_eq, nI_ltL, nI_leL, L_ltI, L_leI, nI_eqL, L_eqI, oob_nI, ix_nI, oob_L, ix_L, nI_1, nI_add, nI_z, z_nI, nI_lt0, nI_ge0, nI_gt0, nI_le0, ne_eq, Nat.le_zero_eq, Nat.not_lt_zero, Nat.lt_irrefl, Nat.le_refl, if_pos (show N ≤ i by omega), ib_0, la]
    rfl
  | d + 1, i, e => by
    have ih := l_SH_hasNumber I J q X v hN h d (i + 1) (by omega)
    rw [bk_SH_hasNumber_2]
    simp only [x_c_0, x_istore_2, x_iload_2, x_aload_0, x_get_394, x_ic_ge, x_get_395, x_iald, x_iload_1, x_ic_ne, x_c_1, x_zret, x_iinc_2_1, x_goto, tg_SH_hasNumber_2, tg_SH_hasNumber_14, tg_SH_hasNumber_16, bk_SH_hasNumber_0, bk_SH_hasNumber_14, bk_SH_hasNumber_16, kil_int, kil_ref, kil_null, kil_long, kil_rA, psh_int, psh_long, psh_null, gI_gS, gL_gS, gR_gS, sI_gS, sL_gS, orf_some, Option.bind_some, List.length_cons, List.length_nil, Nat.reduceAdd, Nat.reduceLeDiff, if_true, if_false, Nat.zero_le, at_23, at_32, al_32, rw_23_11, h]
    simp (disch := first | omega | decide) only [nI_ltI, nI_leI, nI_eq, nI_ltL, nI_leL, L_ltI, L_leI, nI_eqL, L_eqI, oob_nI, ix_nI, oob_L, ix_L, nI_1, nI_add, nI_z, z_nI, nI_lt0, nI_ge0, nI_gt0, nI_le0, ne_eq, Nat.le_zero_eq, Nat.not_lt_zero, Nat.lt_irrefl, Nat.le_refl, ih, if_neg (show ¬ N ≤ i by omega), ib_0, ib_1, la]
    by_cases hv : I 32 i = v <;> simp [hv]
theorem s_SH_hasNumber (I : Nat → Nat → Int32) (J : Nat → Nat → Int64) (q : Bool × Bool) (X : Nat × (Nat → Int32)) (v : Int32) {N : Nat} (hN : N ≤ 20) (h : I 23 10 = nI N) : gb_call 51 [.ref (23 : Nat), .int v] gb_pG (gS I J q X) = some (.int (if la (fun j => decide (I 32 j = v)) N 0 = true then 1 else 0), gb_pG, gS I J q X) := by
  rw [cl_SH_hasNumber]
  simp only [x_c_0, x_istore_2, x_iload_2, x_aload_0, x_get_394, x_ic_ge, x_get_395, x_iald, x_iload_1, x_ic_ne, x_c_1, x_zret, x_iinc_2_1, x_goto, tg_SH_hasNumber_2, tg_SH_hasNumber_14, tg_SH_hasNumber_16, bk_SH_hasNumber_0, bk_SH_hasNumber_14, bk_SH_hasNumber_16, kil_int, kil_ref, kil_null, kil_long, kil_rA, psh_int, psh_long, psh_null, gI_gS, gL_gS, gR_gS, sI_gS, sL_gS, orf_some, Option.bind_some, List.length_cons, List.length_nil, Nat.reduceAdd, Nat.reduceLeDiff, if_true, if_false, Nat.zero_le]
  exact l_SH_hasNumber I J q X v hN h N 0 (by omega)
theorem s_SH_addNumber (I : Nat → Nat → Int32) (J : Nat → Nat → Int64) (q : Bool × Bool) (X : Nat × (Nat → Int32)) (v : Int32) {N : Nat} (hN : N < 20) (h : I 23 10 = nI N) : gb_call 52 [.ref (23 : Nat), .int v] gb_pG (gS I J q X) = some (.int (nI (N + 1)), gb_pG, gS (up (up I 32 N v) 23 10 (nI (N + 1))) J q X) := by
  rw [cl_SH_addNumber]
  simp only [x_aload_0, x_get_395, x_get_394, x_iload_1, x_iast, x_dup_i, x_dup_r, x_c_1, x_iadd, x_put_394, x_iret, bk_SH_addNumber_0, kil_int, kil_ref, kil_null, kil_long, kil_rA, psh_int, psh_long, psh_null, gI_gS, gL_gS, gR_gS, sI_gS, sL_gS, orf_some, Option.bind_some, List.length_cons, List.length_nil, Nat.reduceAdd, Nat.reduceLeDiff, if_true, if_false, Nat.zero_le, at_23, at_32, al_32, rw_23_11, h]
  simp (disch := first | omega | decide) only [nI_ltI, nI_leI, nI_eq, nI_ltL, nI_leL, L_ltI, L_leI, nI_eqL, L_eqI, oob_nI, ix_nI, oob_L, ix_L, nI_1, nI_add, nI_z, z_nI, nI_lt0, nI_ge0, nI_gt0, nI_le0, ne_eq, Nat.le_zero_eq, Nat.not_lt_zero, Nat.lt_irrefl, Nat.le_refl, up_at, upd_at, upJ_at, updL_at, h]
  simp (disch := first | omega | decide) [nI_ltI, nI_leI, nI_eq, nI_ltL, nI_leL, L_ltI, L_leI, nI_eqL, L_eqI, oob_nI, ix_nI, oob_L, ix_L, nI_1, nI_add, nI_z, z_nI, nI_lt0, nI_ge0, nI_gt0, nI_le0, ne_eq, Nat.le_zero_eq, Nat.not_lt_zero, Nat.lt_irrefl, Nat.le_refl, up_at, upd_at, upJ_at, updL_at, h]
theorem s_GB_number (I : Nat → Nat → Int32) (J : Nat → Nat → Int64) (q : Bool × Bool) (X : Nat × (Nat → Int32)) (v : Int32) {N : Nat} (hN : N ≤ 20) (h : I 23 10 = nI N) : gb_call 88 [.ref (0 : Nat), .int v] gb_pG (gS I J q X) =
    if ¬ (1 ≤ v ∧ v ≤ 9999) then some (.int (-1), gb_pG, gS I J q X) else if la (fun j => decide (I 32 j = v)) N 0 = true then some (.int (-2), gb_pG, gS I J q X) else if N = 20 then some (.int (-3), gb_pG, gS I J q X) else some (.int (nI (N + 1)), gb_pG, gS (up (up I 32 N v) 23 10 (nI (N + 1))) J q X) := by
  rw [cl_GB_number]
  simp only [x_iload_1, x_c_1, x_c_9999, xc_GB_within, x_if_ne, x_c_m1, x_iret, x_aload_0, x_get_578, xc_SH_hasNumber, x_if_eq, x_c_m2, x_get_394, x_c_20, x_ic_lt, x_c_m3, xc_SH_addNumber, tg_GB_number_7, tg_GB_number_14, tg_GB_number_21, bk_GB_number_0, bk_GB_number_7, bk_GB_number_14, bk_GB_number_21, kil_int, kil_ref, kil_null, kil_long, kil_rA, psh_int, psh_long, psh_null, gI_gS, gL_gS, gR_gS, sI_gS, sL_gS, orf_some, Option.bind_some, List.length_cons, List.length_nil, Nat.reduceAdd, Nat.reduceLeDiff, if_true, if_false, Nat.zero_le, at_0, at_23, rw_0_2, s_GB_within, s_SH_hasNumber I J q X v hN h, h, ite_b1, ite_b2]
  by_cases h1 : 1 ≤ v ∧ v ≤ 9999
  · rw [if_pos h1, if_neg (not_not_intro h1)]
    by_cases h2 : la (fun j => decide (I 32 j = v)) N 0 = true
    · rw [if_neg (not_not_intro h2), if_pos h2]
    · rw [if_pos h2, if_neg h2]
      simp (disch := first | omega | decide) only [nI_ltI, nI_leI, nI_eq, nI_ltL, nI_leL, L_ltI, L_leI, nI_eqL, L_eqI, oob_nI, ix_nI, oob_L, ix_L, nI_1, nI_add, nI_z, z_nI, nI_lt0, nI_ge0, nI_gt0, nI_le0, ne_eq, Nat.le_zero_eq, Nat.not_lt_zero, Nat.lt_irrefl, Nat.le_refl]
      by_cases h3 : N < 20
      · rw [if_pos h3, if_neg (by omega), s_SH_addNumber I J q X v h3 h]
        simp only [x_iload_1, x_c_1, x_c_9999, xc_GB_within, x_if_ne, x_c_m1, x_iret, x_aload_0, x_get_578, xc_SH_hasNumber, x_if_eq, x_c_m2, x_get_394, x_c_20, x_ic_lt, x_c_m3, xc_SH_addNumber, tg_GB_number_7, tg_GB_number_14, tg_GB_number_21, bk_GB_number_0, bk_GB_number_7, bk_GB_number_14, bk_GB_number_21, kil_int, kil_ref, kil_null, kil_long, kil_rA, psh_int, psh_long, psh_null, gI_gS, gL_gS, gR_gS, sI_gS, sL_gS, orf_some, Option.bind_some, List.length_cons, List.length_nil, Nat.reduceAdd, Nat.reduceLeDiff, if_true, if_false, Nat.zero_le]
      · rw [if_neg h3, if_pos (by omega)]
  · rw [if_neg h1, if_pos h1]
