/-! whole numbers below 0, too -/
def zI (z : Int) : Int32 := Int32.ofInt z
theorem zI_nI (n : Nat) : nI n = zI (n : Int) := by
  apply Int32.toBitVec_inj.mp
  show BitVec.ofNat 32 n = BitVec.ofInt 32 (n : Int)
  rw [BitVec.ofInt_natCast]
theorem zI_add (a b : Int) : zI a + zI b = zI (a + b) := by unfold zI; rw [Int32.ofInt_add]
theorem zI_sub (a b : Int) : zI a - zI b = zI (a - b) := by unfold zI; rw [Int32.ofInt_sub]
theorem zI_mul (a b : Int) : zI a * zI b = zI (a * b) := by unfold zI; rw [Int32.ofInt_mul]
theorem zI_1 (a : Int) : zI a + 1 = zI (a + 1) := by rw [← zI_add]; rfl
theorem zI_toInt {a : Int} (h1 : -2147483648 ≤ a) (h2 : a < 2147483648) : (zI a).toInt = a := by
  unfold zI
  rw [Int32.toInt_ofInt]
  have hsz : Int32.size = 4294967296 := rfl
  rw [hsz]
  exact Int.bmod_eq_of_le (by omega) (by omega)
theorem zI_of (x : Int32) : x = zI x.toInt := by unfold zI; rw [Int32.ofInt_toInt]
theorem zI_ltI {a b : Int} (ha : -2147483648 ≤ a) (ha2 : a < 2147483648) (hb : -2147483648 ≤ b) (hb2 : b < 2147483648) : zI a < zI b ↔ a < b := by rw [Int32.lt_iff_toInt_lt, zI_toInt ha ha2, zI_toInt hb hb2]
theorem zI_leI {a b : Int} (ha : -2147483648 ≤ a) (ha2 : a < 2147483648) (hb : -2147483648 ≤ b) (hb2 : b < 2147483648) : zI a ≤ zI b ↔ a ≤ b := by rw [Int32.le_iff_toInt_le, zI_toInt ha ha2, zI_toInt hb hb2]
theorem zI_eqI {a b : Int} (ha : -2147483648 ≤ a) (ha2 : a < 2147483648) (hb : -2147483648 ≤ b) (hb2 : b < 2147483648) : zI a = zI b ↔ a = b := by rw [← Int32.toInt_inj, zI_toInt ha ha2, zI_toInt hb hb2]
theorem nI_rng {x : Int32} {a b : Nat} (ha : a < 2147483648) (hb : b < 2147483648) (h : (OfNat.ofNat a : Int32) ≤ x ∧ x ≤ (OfNat.ofNat b : Int32)) : ∃ n, a ≤ n ∧ n ≤ b ∧ x = nI n := by
  obtain ⟨h1, h2⟩ := h
  rw [Int32.le_iff_toInt_le, toInt_L ha] at h1
  rw [Int32.le_iff_toInt_le, toInt_L hb] at h2
  refine ⟨x.toInt.toNat, by omega, by omega, ?_⟩
  rw [zI_nI, show ((x.toInt.toNat : Nat) : Int) = x.toInt by omega]
  exact zI_of x
/-! sums -/
def sm (f : Nat → Nat) : Nat → Nat → Nat
  | 0, _ => 0
  | d + 1, i => f i + sm f d (i + 1)
theorem sm_congr {f h : Nat → Nat} : ∀ {d i : Nat}, (∀ j, i ≤ j → j < i + d → f j = h j) → sm f d i = sm h d i
  | 0, _, _ => rfl
  | d + 1, i, e => by rw [sm, sm, e i (by omega) (by omega), sm_congr (f := f) (h := h) (d := d) (i := i + 1) (fun j h1 h2 => e j (by omega) (by omega))]
theorem sm_zero {f : Nat → Nat} : ∀ {d i : Nat}, sm f d i = 0 ↔ ∀ j, i ≤ j → j < i + d → f j = 0
  | 0, i => by simp [sm]; intro j h1 h2; omega
  | d + 1, i => by
    rw [sm]
    have ih := sm_zero (f := f) (d := d) (i := i + 1)
    constructor
    · intro h j h1 h2
      by_cases e : j = i
      · subst e; omega
      · exact ih.mp (by omega) j (by omega) (by omega)
    · intro h
      have := h i (by omega) (by omega)
      have := ih.mpr (fun j h1 h2 => h j (by omega) (by omega))
      omega
theorem sm_add (f h : Nat → Nat) : ∀ d i, sm (fun j => f j + h j) d i = sm f d i + sm h d i
  | 0, _ => rfl
  | d + 1, i => by rw [sm, sm, sm, sm_add f h d (i + 1)]; omega
theorem sm_le {f : Nat → Nat} {c : Nat} : ∀ {d i : Nat}, (∀ j, i ≤ j → j < i + d → f j ≤ c) → sm f d i ≤ d * c
  | 0, _, _ => by simp [sm]
  | d + 1, i, e => by
    have h1 := e i (by omega) (by omega)
    have h2 := sm_le (f := f) (c := c) (d := d) (i := i + 1) (fun j a b => e j (by omega) (by omega))
    rw [sm, Nat.succ_mul]
    omega
/-! glass -/
def wn (r z : Nat) : Nat := z - (z * r / 100 + 1)
theorem wn_lt {r z : Nat} (hr : r ≤ 99) (hz : 0 < z) : z * r / 100 + 1 ≤ z := by
  have h1 : z * r ≤ z * 99 := Nat.mul_le_mul_left z hr
  omega
theorem wn_le (r z : Nat) : wn r z ≤ z := by unfold wn; omega
theorem wn_dec {r z : Nat} (hz : 0 < z) : wn r z < z := by unfold wn; omega
theorem s_GB_worn (g : gb_Sg) {r z : Nat} (hr : r ≤ 99) (hz : z ≤ 999) : gb_call 97 [.int (nI z), .int (nI r)] gb_pG g = some (.int (nI (wn r z)), gb_pG, g) := by
  have hm : z * r ≤ 999 * 99 := Nat.mul_le_mul hz hr
  have e1 : nI z * nI r / 100 = nI (z * r / 100) := by
    rw [pk_mul, fa_lit]
    exact pk_div (by omega) (by decide) (by decide)
  have e3 : ¬ (100 : Int32) = 0 := by decide
  rw [cl_GB_wornByAYear]
  simp only [x_c_0, x_iload_0, x_iload_1, x_imul, x_c_100, x_idiv, x_c_1, x_iadd, x_isub, x_max, x_iret, bk_GB_wornByAYear_0, kil_int, kil_ref, kil_null, kil_long, kil_rA, psh_int, psh_long, psh_null, gI_gS, gL_gS, gR_gS, sI_gS, sL_gS, orf_some, Option.bind_some, List.length_cons, List.length_nil, Nat.reduceAdd, Nat.reduceLeDiff, if_true, if_false, Nat.zero_le, e1, if_neg e3, nI_1]
  by_cases h0 : z = 0
  · subst h0
    simp [wn]
    decide
  · have h1 := wn_lt hr (by omega : 0 < z)
    rw [pk_sub h1]
    simp (disch := first | omega | decide) only [nI_ltI, nI_leI, nI_eq, nI_ltL, nI_leL, L_ltI, L_leI, nI_eqL, L_eqI, oob_nI, ix_nI, oob_L, ix_L, nI_1, nI_add, nI_z, z_nI, nI_lt0, nI_ge0, nI_gt0, nI_le0, ne_eq, Nat.le_zero_eq, Nat.not_lt_zero, Nat.lt_irrefl, Nat.le_refl]
    unfold wn
    by_cases h2 : 0 < z - (z * r / 100 + 1)
    · rw [if_pos h2]
    · rw [if_neg h2, show z - (z * r / 100 + 1) = 0 by omega, nI_0]
theorem s_RM_worn (g : gb_Sg) {r z : Nat} (hr : r ≤ 99) (hz : z ≤ 999) : gb_call 167 [.int (nI z), .int (nI r)] gb_pG g = some (.int (nI (wn r z)), gb_pG, g) := by
  have hm : z * r ≤ 999 * 99 := Nat.mul_le_mul hz hr
  have e1 : nI z * nI r / 100 = nI (z * r / 100) := by
    rw [pk_mul, fa_lit]
    exact pk_div (by omega) (by decide) (by decide)
  have e3 : ¬ (100 : Int32) = 0 := by decide
  rw [cl_RM_worn]
  simp only [x_iload_0, x_iload_1, x_imul, x_c_100, x_idiv, x_isub, x_c_1, x_istore_2, x_iload_2, x_if_ge, x_c_0, x_goto, x_iret, tg_RM_worn_14, tg_RM_worn_15, bk_RM_worn_0, bk_RM_worn_14, bk_RM_worn_15, kil_int, kil_ref, kil_null, kil_long, kil_rA, psh_int, psh_long, psh_null, gI_gS, gL_gS, gR_gS, sI_gS, sL_gS, orf_some, Option.bind_some, List.length_cons, List.length_nil, Nat.reduceAdd, Nat.reduceLeDiff, if_true, if_false, Nat.zero_le, e1, if_neg e3]
  by_cases h0 : z = 0
  · subst h0
    simp [wn]
    decide
  · have h1 := wn_lt hr (by omega : 0 < z)
    rw [pk_sub (by omega), nI_pred' (by omega)]
    simp (disch := first | omega | decide) only [nI_ltI, nI_leI, nI_eq, nI_ltL, nI_leL, L_ltI, L_leI, nI_eqL, L_eqI, oob_nI, ix_nI, oob_L, ix_L, nI_1, nI_add, nI_z, z_nI, nI_lt0, nI_ge0, nI_gt0, nI_le0, ne_eq, Nat.le_zero_eq, Nat.not_lt_zero, Nat.lt_irrefl, Nat.le_refl]
    unfold wn
    simp
    rw [show z - z * r / 100 - 1 = z - (z * r / 100 + 1) by omega]
theorem s_GB_isGlass (z r : Int32) (g : gb_Sg) : gb_call 96 [.int z, .int r] gb_pG g = some (.int (if (1 ≤ z ∧ z ≤ 999) ∧ 0 ≤ r ∧ r ≤ 99 then 1 else 0), gb_pG, g) := by
  rw [cl_GB_isGlass]
  simp only [x_iload_0, x_c_1, x_c_999, xc_GB_within, x_if_eq, x_iload_1, x_c_0, x_c_99, x_goto, x_zret, tg_GB_isGlass_12, tg_GB_isGlass_13, bk_GB_isGlass_0, bk_GB_isGlass_12, bk_GB_isGlass_13, kil_int, kil_ref, kil_null, kil_long, kil_rA, psh_int, psh_long, psh_null, gI_gS, gL_gS, gR_gS, sI_gS, sL_gS, orf_some, Option.bind_some, List.length_cons, List.length_nil, Nat.reduceAdd, Nat.reduceLeDiff, if_true, if_false, Nat.zero_le, s_GB_within, ite_b1, ib_0, ib_1]
  by_cases h1 : 1 ≤ z ∧ z ≤ 999 <;> by_cases h2 : 0 ≤ r ∧ r ≤ 99 <;> simp [h1, h2]
theorem s_RM_isGlass (z r : Int32) (g : gb_Sg) : gb_call 168 [.int z, .int r] gb_pG g = some (.int (if (1 ≤ z ∧ z ≤ 999) ∧ 0 ≤ r ∧ r ≤ 99 then 1 else 0), gb_pG, g) := by
  rw [cl_RM_isGlass]
  simp only [x_iload_0, x_i2l, x_l_1, x_l_999, xc_RM_in, x_if_eq, x_iload_1, x_l_0, x_l_99, x_c_1, x_goto, x_c_0, x_zret, tg_RM_isGlass_14, tg_RM_isGlass_15, bk_RM_isGlass_0, bk_RM_isGlass_14, bk_RM_isGlass_15, kil_int, kil_ref, kil_null, kil_long, kil_rA, psh_int, psh_long, psh_null, gI_gS, gL_gS, gR_gS, sI_gS, sL_gS, orf_some, Option.bind_some, List.length_cons, List.length_nil, Nat.reduceAdd, Nat.reduceLeDiff, if_true, if_false, Nat.zero_le, s_RM_in, ite_b1, ib_0, ib_1]
  simp (disch := first | omega | decide) only [w_Lle, w_leL]
  by_cases h1 : 1 ≤ z ∧ z ≤ 999 <;> by_cases h2 : 0 ≤ r ∧ r ≤ 99 <;> simp [h1, h2]
theorem l_GB_glass (g : gb_Sg) {r y : Nat} (z0 : Int32) (hr : r ≤ 99) (hy : y ≤ 99) : ∀ d i v, d + i = y → v ≤ 999 → gb_ex 94 bk_GB_glass_15 [.ref (0 : Nat), .int z0, .int (nI r), .int (nI y), .int (nI v), .int (nI i)] [] gb_pG g = some (.int (nI (lp (fun _ a => wn r a) d i v)), gb_pG, g)
  | 0, i, v, e, hv => by
    rw [bk_GB_glass_15]
    simp only [x_iload_1, x_iload_2, xc_GB_isGlass, x_if_eq, x_iload_3, x_c_0, x_c_99, xc_GB_within, x_if_ne, x_c_m1, x_iret, x_istore_4, x_istore_5, x_iload_5, x_ic_ge, x_iload_4, xc_GB_wornByAYear, x_iinc_5_1, x_goto, tg_GB_glass_9, tg_GB_glass_11, tg_GB_glass_15, tg_GB_glass_24, bk_GB_glass_0, bk_GB_glass_9, bk_GB_glass_11, bk_GB_glass_24, kil_int, kil_ref, kil_null, kil_long, kil_rA, psh_int, psh_long, psh_null, gI_gS, gL_gS, gR_gS, sI_gS, sL_gS, orf_some, Option.bind_some, List.length_cons, List.length_nil, Nat.reduceAdd, Nat.reduceLeDiff, if_true, if_false, Nat.zero_le]
    simp (disch := first | omega | decide) only [nI_ltI, nI_leI, nI_eq, nI_ltL, nI_leL, L_ltI, L_leI, nI_eqL, L_eqI, oob_nI, ix_nI, oob_L, ix_L, nI_1, nI_add, nI_z, z_nI, nI_lt0, nI_ge0, nI_gt0, nI_le0, ne_eq, Nat.le_zero_eq, Nat.not_lt_zero, Nat.lt_irrefl, Nat.le_refl, lp, if_pos (show y ≤ i by omega)]
  | d + 1, i, v, e, hv => by
    have := wn_le r v
    rw [bk_GB_glass_15]
    simp only [x_iload_1, x_iload_2, xc_GB_isGlass, x_if_eq, x_iload_3, x_c_0, x_c_99, xc_GB_within, x_if_ne, x_c_m1, x_iret, x_istore_4, x_istore_5, x_iload_5, x_ic_ge, x_iload_4, xc_GB_wornByAYear, x_iinc_5_1, x_goto, tg_GB_glass_9, tg_GB_glass_11, tg_GB_glass_15, tg_GB_glass_24, bk_GB_glass_0, bk_GB_glass_9, bk_GB_glass_11, bk_GB_glass_24, kil_int, kil_ref, kil_null, kil_long, kil_rA, psh_int, psh_long, psh_null, gI_gS, gL_gS, gR_gS, sI_gS, sL_gS, orf_some, Option.bind_some, List.length_cons, List.length_nil, Nat.reduceAdd, Nat.reduceLeDiff, if_true, if_false, Nat.zero_le, s_GB_worn g hr hv]
    simp (disch := first | omega | decide) only [nI_ltI, nI_leI, nI_eq, nI_ltL, nI_leL, L_ltI, L_leI, nI_eqL, L_eqI, oob_nI, ix_nI, oob_L, ix_L, nI_1, nI_add, nI_z, z_nI, nI_lt0, nI_ge0, nI_gt0, nI_le0, ne_eq, Nat.le_zero_eq, Nat.not_lt_zero, Nat.lt_irrefl, Nat.le_refl, lp, if_neg (show ¬ y ≤ i by omega)]
    exact l_GB_glass g z0 hr hy d (i + 1) _ (by omega) (by omega)
theorem l_RM_glass (g : gb_Sg) {r y : Nat} (z0 : Int32) (hr : r ≤ 99) (hy : y ≤ 99) : ∀ d i v, d + i = y → v ≤ 999 → gb_ex 169 bk_RM_glass_16 [.ref (190 : Nat), .int z0, .int (nI r), .int (nI y), .int (nI v), .int (nI i)] [] gb_pG g = some (.int (nI (lp (fun _ a => wn r a) d i v)), gb_pG, g)
  | 0, i, v, e, hv => by
    rw [bk_RM_glass_16]
    simp only [x_iload_1, x_iload_2, xc_RM_isGlass, x_if_eq, x_iload_3, x_i2l, x_l_0, x_l_99, xc_RM_in, x_if_ne, x_c_m1, x_iret, x_istore_4, x_c_0, x_istore_5, x_iload_5, x_ic_ge, x_iload_4, xc_RM_worn, x_iinc_5_1, x_goto, tg_RM_glass_10, tg_RM_glass_12, tg_RM_glass_16, tg_RM_glass_25, bk_RM_glass_0, bk_RM_glass_10, bk_RM_glass_12, bk_RM_glass_25, kil_int, kil_ref, kil_null, kil_long, kil_rA, psh_int, psh_long, psh_null, gI_gS, gL_gS, gR_gS, sI_gS, sL_gS, orf_some, Option.bind_some, List.length_cons, List.length_nil, Nat.reduceAdd, Nat.reduceLeDiff, if_true, if_false, Nat.zero_le]
    simp (disch := first | omega | decide) only [nI_ltI, nI_leI, nI_eq, nI_ltL, nI_leL, L_ltI, L_leI, nI_eqL, L_eqI, oob_nI, ix_nI, oob_L, ix_L, nI_1, nI_add, nI_z, z_nI, nI_lt0, nI_ge0, nI_gt0, nI_le0, ne_eq, Nat.le_zero_eq, Nat.not_lt_zero, Nat.lt_irrefl, Nat.le_refl, lp, if_pos (show y ≤ i by omega)]
  | d + 1, i, v, e, hv => by
    have := wn_le r v
    rw [bk_RM_glass_16]
    simp only [x_iload_1, x_iload_2, xc_RM_isGlass, x_if_eq, x_iload_3, x_i2l, x_l_0, x_l_99, xc_RM_in, x_if_ne, x_c_m1, x_iret, x_istore_4, x_c_0, x_istore_5, x_iload_5, x_ic_ge, x_iload_4, xc_RM_worn, x_iinc_5_1, x_goto, tg_RM_glass_10, tg_RM_glass_12, tg_RM_glass_16, tg_RM_glass_25, bk_RM_glass_0, bk_RM_glass_10, bk_RM_glass_12, bk_RM_glass_25, kil_int, kil_ref, kil_null, kil_long, kil_rA, psh_int, psh_long, psh_null, gI_gS, gL_gS, gR_gS, sI_gS, sL_gS, orf_some, Option.bind_some, List.length_cons, List.length_nil, Nat.reduceAdd, Nat.reduceLeDiff, if_true, if_false, Nat.zero_le, s_RM_worn g hr hv]
    simp (disch := first | omega | decide) only [nI_ltI, nI_leI, nI_eq, nI_ltL, nI_leL, L_ltI, L_leI, nI_eqL, L_eqI, oob_nI, ix_nI, oob_L, ix_L, nI_1, nI_add, nI_z, z_nI, nI_lt0, nI_ge0, nI_gt0, nI_le0, ne_eq, Nat.le_zero_eq, Nat.not_lt_zero, Nat.lt_irrefl, Nat.le_refl, lp, if_neg (show ¬ y ≤ i by omega)]
    exact l_RM_glass g z0 hr hy d (i + 1) _ (by omega) (by omega)
theorem d_glass (g : gb_Sg) (z r y : Int32) : ∃ v, gb_call 94 [.ref (0 : Nat), .int z, .int r, .int y] gb_pG g = some (v, gb_pG, g) ∧ gb_call 169 [.ref (190 : Nat), .int z, .int r, .int y] gb_pG g = some (v, gb_pG, g) := by
  rw [cl_GB_glass, cl_RM_glass]
  simp only [x_iload_1, x_iload_2, xc_GB_isGlass, x_if_eq, x_iload_3, x_c_0, x_c_99, xc_GB_within, x_if_ne, x_c_m1, x_iret, x_istore_4, x_istore_5, x_iload_5, x_ic_ge, x_iload_4, xc_GB_wornByAYear, x_iinc_5_1, x_goto, tg_GB_glass_9, tg_GB_glass_11, tg_GB_glass_15, tg_GB_glass_24, bk_GB_glass_0, bk_GB_glass_9, bk_GB_glass_11, bk_GB_glass_24, kil_int, kil_ref, kil_null, kil_long, kil_rA, psh_int, psh_long, psh_null, gI_gS, gL_gS, gR_gS, sI_gS, sL_gS, orf_some, Option.bind_some, List.length_cons, List.length_nil, Nat.reduceAdd, Nat.reduceLeDiff, if_true, if_false, Nat.zero_le, x_iload_1, x_iload_2, xc_RM_isGlass, x_if_eq, x_iload_3, x_i2l, x_l_0, x_l_99, xc_RM_in, x_if_ne, x_c_m1, x_iret, x_istore_4, x_c_0, x_istore_5, x_iload_5, x_ic_ge, x_iload_4, xc_RM_worn, x_iinc_5_1, x_goto, tg_RM_glass_10, tg_RM_glass_12, tg_RM_glass_16, tg_RM_glass_25, bk_RM_glass_0, bk_RM_glass_10, bk_RM_glass_12, bk_RM_glass_25, kil_int, kil_ref, kil_null, kil_long, kil_rA, psh_int, psh_long, psh_null, gI_gS, gL_gS, gR_gS, sI_gS, sL_gS, orf_some, Option.bind_some, List.length_cons, List.length_nil, Nat.reduceAdd, Nat.reduceLeDiff, if_true, if_false, Nat.zero_le, s_GB_isGlass, s_RM_isGlass, s_GB_within, s_RM_in, ite_b1, ite_b2]
  simp (disch := first | omega | decide) only [w_Lle, w_leL]
  by_cases h1 : (1 ≤ z ∧ z ≤ 999) ∧ 0 ≤ r ∧ r ≤ 99
  · by_cases h2 : 0 ≤ y ∧ y ≤ 99
    · obtain ⟨z', a1, a2, rfl⟩ := nI_rng (by decide) (by decide) h1.1
      obtain ⟨r', b1, b2, rfl⟩ := nI_rng (by decide) (by decide) h1.2
      obtain ⟨y', c1, c2, rfl⟩ := nI_rng (by decide) (by decide) h2
      rw [if_neg (not_not_intro h1), if_pos h2, if_neg (not_not_intro h1), if_pos h2]
      have h3 := l_GB_glass g (nI z') b2 c2 y' 0 z' (by omega) a2
      have h4 := l_RM_glass g (nI z') b2 c2 y' 0 z' (by omega) a2
      rw [nI_0] at h3 h4
      exact ⟨_, h3, h4⟩
    · rw [if_neg (not_not_intro h1), if_neg h2, if_neg (not_not_intro h1), if_neg h2]
      exact ⟨_, rfl, rfl⟩
  · rw [if_pos h1, if_pos h1]
    exact ⟨_, rfl, rfl⟩
/-- years till it is gone -/
def yl (r : Nat) : Nat → Nat → Nat
  | 0, _ => 0
  | f + 1, v => if v = 0 then 0 else 1 + yl r f (wn r v)
theorem l_GB_life (g : gb_Sg) {r z : Nat} (hr : r ≤ 99) (hz : z ≤ 999) : ∀ f v y, v ≤ f → v + y ≤ z → gb_ex 95 bk_GB_life_10 [.ref (0 : Nat), .int (nI z), .int (nI r), .int (nI v), .int (nI y)] [] gb_pG g = some (.int (nI (y + yl r f v)), gb_pG, g)
  | 0, v, y, h, h2 => by
    have : v = 0 := by omega
    subst this
    rw [bk_GB_life_10]
    simp only [x_iload_1, x_iload_2, xc_GB_isGlass, x_if_ne, x_c_m1, x_iret, x_istore_3, x_c_0, x_istore_4, x_iload_3, x_if_le, x_iload_4, x_ic_ge, xc_GB_wornByAYear, x_iinc_4_1, x_goto, tg_GB_life_6, tg_GB_life_10, tg_GB_life_21, bk_GB_life_0, bk_GB_life_6, bk_GB_life_21, kil_int, kil_ref, kil_null, kil_long, kil_rA, psh_int, psh_long, psh_null, gI_gS, gL_gS, gR_gS, sI_gS, sL_gS, orf_some, Option.bind_some, List.length_cons, List.length_nil, Nat.reduceAdd, Nat.reduceLeDiff, if_true, if_false, Nat.zero_le]
    simp (disch := first | omega | decide) only [nI_ltI, nI_leI, nI_eq, nI_ltL, nI_leL, L_ltI, L_leI, nI_eqL, L_eqI, oob_nI, ix_nI, oob_L, ix_L, nI_1, nI_add, nI_z, z_nI, nI_lt0, nI_ge0, nI_gt0, nI_le0, ne_eq, Nat.le_zero_eq, Nat.not_lt_zero, Nat.lt_irrefl, Nat.le_refl, yl, if_true, Nat.add_zero]
  | f + 1, v, y, h, h2 => by
    rw [bk_GB_life_10]
    simp only [x_iload_1, x_iload_2, xc_GB_isGlass, x_if_ne, x_c_m1, x_iret, x_istore_3, x_c_0, x_istore_4, x_iload_3, x_if_le, x_iload_4, x_ic_ge, xc_GB_wornByAYear, x_iinc_4_1, x_goto, tg_GB_life_6, tg_GB_life_10, tg_GB_life_21, bk_GB_life_0, bk_GB_life_6, bk_GB_life_21, kil_int, kil_ref, kil_null, kil_long, kil_rA, psh_int, psh_long, psh_null, gI_gS, gL_gS, gR_gS, sI_gS, sL_gS, orf_some, Option.bind_some, List.length_cons, List.length_nil, Nat.reduceAdd, Nat.reduceLeDiff, if_true, if_false, Nat.zero_le]
    by_cases h0 : v = 0
    · subst h0
      simp (disch := first | omega | decide) only [nI_ltI, nI_leI, nI_eq, nI_ltL, nI_leL, L_ltI, L_leI, nI_eqL, L_eqI, oob_nI, ix_nI, oob_L, ix_L, nI_1, nI_add, nI_z, z_nI, nI_lt0, nI_ge0, nI_gt0, nI_le0, ne_eq, Nat.le_zero_eq, Nat.not_lt_zero, Nat.lt_irrefl, Nat.le_refl, yl, if_true, Nat.add_zero]
    · have hd := wn_dec (r := r) (z := v) (by omega)
      simp only [x_iload_1, x_iload_2, xc_GB_isGlass, x_if_ne, x_c_m1, x_iret, x_istore_3, x_c_0, x_istore_4, x_iload_3, x_if_le, x_iload_4, x_ic_ge, xc_GB_wornByAYear, x_iinc_4_1, x_goto, tg_GB_life_6, tg_GB_life_10, tg_GB_life_21, bk_GB_life_0, bk_GB_life_6, bk_GB_life_21, kil_int, kil_ref, kil_null, kil_long, kil_rA, psh_int, psh_long, psh_null, gI_gS, gL_gS, gR_gS, sI_gS, sL_gS, orf_some, Option.bind_some, List.length_cons, List.length_nil, Nat.reduceAdd, Nat.reduceLeDiff, if_true, if_false, Nat.zero_le, s_GB_worn g hr (show v ≤ 999 by omega)]
      simp (disch := first | omega | decide) only [nI_ltI, nI_leI, nI_eq, nI_ltL, nI_leL, L_ltI, L_leI, nI_eqL, L_eqI, oob_nI, ix_nI, oob_L, ix_L, nI_1, nI_add, nI_z, z_nI, nI_lt0, nI_ge0, nI_gt0, nI_le0, ne_eq, Nat.le_zero_eq, Nat.not_lt_zero, Nat.lt_irrefl, Nat.le_refl, yl, if_neg h0, if_neg (show ¬ z ≤ y by omega)]
      have ih := l_GB_life g hr hz f (wn r v) (y + 1) (by omega) (by omega)
      rw [ih]
      rw [show y + 1 + yl r f (wn r v) = y + (1 + yl r f (wn r v)) by omega]
theorem l_RM_life (g : gb_Sg) {r : Nat} (z0 : Int32) (hr : r ≤ 99) : ∀ f v y, v ≤ f → v ≤ 999 → y ≤ 999 - v → gb_ex 170 bk_RM_life_10 [.ref (190 : Nat), .int z0, .int (nI r), .int (nI v), .int (nI y)] [] gb_pG g = some (.int (nI (y + yl r f v)), gb_pG, g)
  | 0, v, y, h, h2, h3 => by
    have : v = 0 := by omega
    subst this
    rw [bk_RM_life_10]
    simp only [x_iload_1, x_iload_2, xc_RM_isGlass, x_if_ne, x_c_m1, x_iret, x_istore_3, x_c_0, x_istore_4, x_iload_3, x_if_le, xc_RM_worn, x_iinc_4_1, x_goto, x_iload_4, tg_RM_life_6, tg_RM_life_10, tg_RM_life_18, bk_RM_life_0, bk_RM_life_6, bk_RM_life_18, kil_int, kil_ref, kil_null, kil_long, kil_rA, psh_int, psh_long, psh_null, gI_gS, gL_gS, gR_gS, sI_gS, sL_gS, orf_some, Option.bind_some, List.length_cons, List.length_nil, Nat.reduceAdd, Nat.reduceLeDiff, if_true, if_false, Nat.zero_le]
    simp (disch := first | omega | decide) only [nI_ltI, nI_leI, nI_eq, nI_ltL, nI_leL, L_ltI, L_leI, nI_eqL, L_eqI, oob_nI, ix_nI, oob_L, ix_L, nI_1, nI_add, nI_z, z_nI, nI_lt0, nI_ge0, nI_gt0, nI_le0, ne_eq, Nat.le_zero_eq, Nat.not_lt_zero, Nat.lt_irrefl, Nat.le_refl, yl, if_true, Nat.add_zero]
  | f + 1, v, y, h, h2, h3 => by
    rw [bk_RM_life_10]
    simp only [x_iload_1, x_iload_2, xc_RM_isGlass, x_if_ne, x_c_m1, x_iret, x_istore_3, x_c_0, x_istore_4, x_iload_3, x_if_le, xc_RM_worn, x_iinc_4_1, x_goto, x_iload_4, tg_RM_life_6, tg_RM_life_10, tg_RM_life_18, bk_RM_life_0, bk_RM_life_6, bk_RM_life_18, kil_int, kil_ref, kil_null, kil_long, kil_rA, psh_int, psh_long, psh_null, gI_gS, gL_gS, gR_gS, sI_gS, sL_gS, orf_some, Option.bind_some, List.length_cons, List.length_nil, Nat.reduceAdd, Nat.reduceLeDiff, if_true, if_false, Nat.zero_le]
    by_cases h0 : v = 0
    · subst h0
      simp (disch := first | omega | decide) only [nI_ltI, nI_leI, nI_eq, nI_ltL, nI_leL, L_ltI, L_leI, nI_eqL, L_eqI, oob_nI, ix_nI, oob_L, ix_L, nI_1, nI_add, nI_z, z_nI, nI_lt0, nI_ge0, nI_gt0, nI_le0, ne_eq, Nat.le_zero_eq, Nat.not_lt_zero, Nat.lt_irrefl, Nat.le_refl, yl, if_true, Nat.add_zero]
    · have hd := wn_dec (r := r) (z := v) (by omega)
      simp only [x_iload_1, x_iload_2, xc_RM_isGlass, x_if_ne, x_c_m1, x_iret, x_istore_3, x_c_0, x_istore_4, x_iload_3, x_if_le, xc_RM_worn, x_iinc_4_1, x_goto, x_iload_4, tg_RM_life_6, tg_RM_life_10, tg_RM_life_18, bk_RM_life_0, bk_RM_life_6, bk_RM_life_18, kil_int, kil_ref, kil_null, kil_long, kil_rA, psh_int, psh_long, psh_null, gI_gS, gL_gS, gR_gS, sI_gS, sL_gS, orf_some, Option.bind_some, List.length_cons, List.length_nil, Nat.reduceAdd, Nat.reduceLeDiff, if_true, if_false, Nat.zero_le, s_RM_worn g hr h2]
      simp (disch := first | omega | decide) only [nI_ltI, nI_leI, nI_eq, nI_ltL, nI_leL, L_ltI, L_leI, nI_eqL, L_eqI, oob_nI, ix_nI, oob_L, ix_L, nI_1, nI_add, nI_z, z_nI, nI_lt0, nI_ge0, nI_gt0, nI_le0, ne_eq, Nat.le_zero_eq, Nat.not_lt_zero, Nat.lt_irrefl, Nat.le_refl, yl, if_neg h0]
      have ih := l_RM_life g z0 hr f (wn r v) (y + 1) (by omega) (by omega) (by omega)
      rw [ih]
      rw [show y + 1 + yl r f (wn r v) = y + (1 + yl r f (wn r v)) by omega]
theorem d_life (g : gb_Sg) (z r : Int32) : ∃ v, gb_call 95 [.ref (0 : Nat), .int z, .int r] gb_pG g = some (v, gb_pG, g) ∧ gb_call 170 [.ref (190 : Nat), .int z, .int r] gb_pG g = some (v, gb_pG, g) := by
  rw [cl_GB_life, cl_RM_life]
  simp only [x_iload_1, x_iload_2, xc_GB_isGlass, x_if_ne, x_c_m1, x_iret, x_istore_3, x_c_0, x_istore_4, x_iload_3, x_if_le, x_iload_4, x_ic_ge, xc_GB_wornByAYear, x_iinc_4_1, x_goto, tg_GB_life_6, tg_GB_life_10, tg_GB_life_21, bk_GB_life_0, bk_GB_life_6, bk_GB_life_21, kil_int, kil_ref, kil_null, kil_long, kil_rA, psh_int, psh_long, psh_null, gI_gS, gL_gS, gR_gS, sI_gS, sL_gS, orf_some, Option.bind_some, List.length_cons, List.length_nil, Nat.reduceAdd, Nat.reduceLeDiff, if_true, if_false, Nat.zero_le, x_iload_1, x_iload_2, xc_RM_isGlass, x_if_ne, x_c_m1, x_iret, x_istore_3, x_c_0, x_istore_4, x_iload_3, x_if_le, xc_RM_worn, x_iinc_4_1, x_goto, x_iload_4, tg_RM_life_6, tg_RM_life_10, tg_RM_life_18, bk_RM_life_0, bk_RM_life_6, bk_RM_life_18, kil_int, kil_ref, kil_null, kil_long, kil_rA, psh_int, psh_long, psh_null, gI_gS, gL_gS, gR_gS, sI_gS, sL_gS, orf_some, Option.bind_some, List.length_cons, List.length_nil, Nat.reduceAdd, Nat.reduceLeDiff, if_true, if_false, Nat.zero_le, s_GB_isGlass, s_RM_isGlass, ite_b1, ite_b2]
  by_cases h1 : (1 ≤ z ∧ z ≤ 999) ∧ 0 ≤ r ∧ r ≤ 99
  · obtain ⟨z', a1, a2, rfl⟩ := nI_rng (by decide) (by decide) h1.1
    obtain ⟨r', b1, b2, rfl⟩ := nI_rng (by decide) (by decide) h1.2
    rw [if_pos h1, if_pos h1]
    have h3 := l_GB_life g b2 a2 z' z' 0 (Nat.le_refl _) (by omega)
    have h4 := l_RM_life g (nI z') b2 z' z' 0 (Nat.le_refl _) a2 (by omega)
    rw [nI_0] at h3 h4
    exact ⟨_, h3, h4⟩
  · rw [if_neg h1, if_neg h1]
    exact ⟨_, rfl, rfl⟩
