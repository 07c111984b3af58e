/-! new cells, jumps, the library's own -/
theorem gI_s0 (g : gb_Sg) (a x y : Nat) : gI (s0 g a) x y = if x = a then 0 else gI g x y := rfl
theorem gL_s0 (g : gb_Sg) (a x y : Nat) : gL (s0 g a) x y = if x = a then 0 else gL g x y := rfl
theorem gR_s0 (g : gb_Sg) (a x y : Nat) : gR (s0 g a) x y = if x = a then none else gR g x y := rfl
theorem gI_s2 (g : gb_Sg) (a n x y : Nat) : gI (s2 g a n) x y = if a ≤ x ∧ x ≤ a + n then 0 else gI g x y := rfl
theorem gL_s2 (g : gb_Sg) (a n x y : Nat) : gL (s2 g a n) x y = if a ≤ x ∧ x ≤ a + n then 0 else gL g x y := rfl
theorem gR_s2 (g : gb_Sg) (a n x y : Nat) : gR (s2 g a n) x y = if x = a then (if y < n then some (a + 1 + y) else none) else if a ≤ x ∧ x ≤ a + n then none else gR g x y := rfl
theorem gb_msl_app (p q : gb_Pi) : gb_msl (p ++ q) = gb_msl p + gb_msl q := by simp [gb_msl]
theorem gb_lt_of_get {P : gb_Pi} {i : Nat} {q : Nat × Nat} (h : P[i]? = some q) : i < P.length := (List.getElem?_eq_some_iff.mp h).1
/-- cells more at the heap's end -/
theorem gb_Rep.grow {D : va_G} {b B : Nat} {U : State} {H H1 : Heap} {P Pn : gb_Pi} {g g' : gb_Sg} (hR : gb_Rep D b B U H P g) (hsz : H1.size = H.size + Pn.length) (ho : ∀ x, x < H.size → H1[x]? = H[x]?) (hg : ∀ i, i < P.length → gb_same g g' i) (hX : g'.2.2.2 = g.2.2.2)
    (hn : ∀ i q, Pn[i]? = some q → gb_cell D B U H1 g' (P.length + i) q) : gb_Rep D b B U H1 (P ++ Pn) g' := by
  obtain ⟨h1, h2, h3, h4⟩ := hR
  refine ⟨by rw [hsz, h1, List.length_append]; omega, h2, ?_, fun i q hq => ?_⟩
  · unfold gN gX at h3 ⊢
    rw [hX]
    exact h3.kept (ho b (by omega))
  · by_cases hl : i < P.length
    · rw [List.getElem?_append_left hl] at hq
      exact (h4 i q hq).kept (ho _ (by omega)) (hg i hl)
    · rw [List.getElem?_append_right (by omega)] at hq
      have := hn (i - P.length) q hq
      rw [show P.length + (i - P.length) = i by omega] at this
      exact this
theorem gb_same_s0 {g : gb_Sg} {a i : Nat} (h : i ≠ a) : gb_same g (s0 g a) i := ⟨fun j => by rw [gI_s0, if_neg h], fun j => by rw [gL_s0, if_neg h], fun j => by rw [gR_s0, if_neg h]⟩
theorem gb_same_s2 {g : gb_Sg} {a n i : Nat} (h : i < a) : gb_same g (s2 g a n) i := ⟨fun j => by rw [gI_s2, if_neg (by omega)], fun j => by rw [gL_s2, if_neg (by omega)], fun j => by rw [gR_s2, if_neg (by omega), if_neg (by omega)]⟩
theorem gb_fv_new {n f : Nat} (B : Nat) (g : gb_Sg) (a : Nat) (hk : gb_kd n f = gb_kt (gb_ty n f)) (h4 : gb_kd n f ≤ 3) : defaultValue (gb_ty n f) = gb_fv B (s0 g a) a n f := by
  unfold gb_fv
  simp only [gI_s0, gL_s0, gR_s0, if_true]
  rw [hk] at h4 ⊢
  revert h4
  cases gb_ty n f <;> intro h4 <;> first | rfl | (exact absurd h4 (by decide))
theorem gb_av_new (B : Nat) (g : gb_Sg) (a t : Nat) (ht : t ≤ 3) : gb_av B (s0 g a) a t = fun _ => defaultValue (gb_aty t) := by
  funext j
  unfold gb_av
  simp only [gI_s0, gL_s0, gR_s0, if_true]
  match t, ht with
  | 0, _ => rfl
  | 1, _ => rfl
  | 2, _ => rfl
  | 3, _ => rfl
  | t + 4, h => omega
theorem gb_atg_ty {t : ArrayType} (h : ¬ 3 < gb_atg t) : newarray.typeOf t = gb_aty (gb_atg t) := by
  cases t <;> first | rfl | (exact absurd (by decide) h)
theorem gb_arrw {t : ArrayType} (h : ¬ 3 < gb_atg t) : Cond.arrayClass (newarray.typeOf t) ∈ lw_tbl := by
  cases t <;> first | exact gb_arr_int | exact gb_arr_byte | exact gb_arr_boolean | exact gb_arr_long | (exact absurd (by decide) h)
theorem gb_cat_le {v : Value} : v.category ≤ 2 := by cases v <;> simp [Value.category]
theorem gb_sum_cat : ∀ (r : List Value) (n : Nat), r.length ≤ n → (r.map fun v => v.category).sum ≤ 2 * n
  | [], n, _ => by simp
  | v :: r, 0, h => by simp at h
  | v :: r, n + 1, h => by
    have h1 := gb_sum_cat r n (by simpa using h)
    have h2 := gb_cat_le (v := v)
    simp only [List.map_cons, List.sum_cons]
    omega
theorem gb_rest {b B : Nat} {r : List Value} (h : r.length ≤ 4) : ((r.map (gb_cv b B)).map fun v => v.category).sum ≤ 8 := gb_sum_cat _ 4 (by simpa using h)
theorem gb_kd_le : ∀ n, n < gb_cls.length → ∀ f, f < (gb_kds.getD n []).length → gb_kd n f ≤ 3 := by decide +kernel
section GBF
variable {p : Program} {l : Launch} {e : Env} {R : Room} {s : State} {m : MethodId} {args : Array Value} {below : List Frame} {meth : Method} {c : Code} {D : va_G} {b B k : Nat} {Q : State → Prop} {cells slots pc nx : Nat} {ls st ls' st' : List Value} {P P' : gb_Pi} {g g' : gb_Sg}
theorem gb_n_new {n : Nat} (C : gb_Ctx p R s m args meth c k) (hK : gb_K D s) (h : gb_chk k (.new n, pc, nx) = true) (hs : gb_stp (.new n) ls st P g = gb_nx ls' st' P' g') (hc : cells + (P'.length - P.length) ≤ R.cells) (hsl : slots + (gb_msl P' - gb_msl P) ≤ R.slots) (kk : gb_Go p l e R s m args below meth c D b B k Q (cells + (P'.length - P.length)) (slots + (gb_msl P' - gb_msl P)) (ls') (st') (nx) (P') (g')) : gb_Go p l e R s m args below meth c D b B k Q (cells) (slots) (ls) (st) (pc) (P) (g) := by
  obtain ⟨ci, len, hd, h⟩ := gb_chk_spec h
  simp only [gb_chkI] at h
  split at h
  · simp only [Bool.and_eq_true, decide_eq_true_eq] at h
    obtain ⟨⟨hlk, rfl, rfl⟩, hn⟩ := h
    simp only [gb_stp] at hs
    cases hs
    have e1 : (P ++ [(10 + n, (gb_kds.getD n []).length)]).length - P.length = 1 := by simp
    have e2 : gb_msl (P ++ [(10 + n, (gb_kds.getD n []).length)]) - gb_msl P = (gb_kds.getD n []).length := by rw [gb_msl_app]; simp [gb_msl]
    rw [e1] at hc kk
    rw [e2] at hsl kk
    intro H locs lsC hl hR hL
    obtain ⟨r, hr⟩ : ∃ r, gb_cls[n]? = some r := ⟨_, List.getElem?_eq_getElem hn⟩
    obtain ⟨z1, z2, z3, hin, hty, hnm, hkd⟩ := gb_clsOK n r hr
    have hKn := hK.1 n r hr
    have hts := gb_lays C hr
    have hlink := C.2.2.2.2.2.1 _ (gb_ktab_ok _ (gb_lk hlk)) rfl
    unfold gb_wK at hlink
    dsimp only at hlink
    have hnr : n ∈ List.range 11 := List.mem_range.mpr hn
    have hins := C.2.2.2.2.2.1 _ (gb_ins_ok n hnr) rfl
    have hini := C.2.2.2.2.2.1 _ (gb_ini_ok n (List.mem_range.mpr (Nat.lt_of_lt_of_le hn (by decide)))) rfl
    refine W.newcK C.1 C.2.1 C.2.2.2.2.1 hlink hins hini rfl hd hc hsl (by rw [← z1]; exact hKn.2.1) hR.1 fun H1 kC hkC f1 f2 f3 => ?_
    refine kk H1 locs lsC hl (hR.grow (by rw [f2, hR.1]; rfl) (fun x hx => f3 x (by rw [← hR.1]; exact hx)) (fun i hi => gb_same_s0 (by omega)) rfl (fun i q hq => ?_)) hL
    match i, hq with
    | 0, hq =>
      cases hq
      refine Or.inr ⟨n, r, rfl, hr, z3.symm, ?_⟩
      rw [Nat.add_zero]
      exact (u_born (gb_ty n) hts (fun w h => h) hKn hkC f1 hty).to (fun f hf => gb_fv_new B g P.length (hkd f hf) (gb_kd_le n hn f (by rw [← z3]; exact hf)))
    | i + 1, hq => simp at hq
  · cases h
theorem gb_n_newarray {t : ArrayType} (C : gb_Ctx p R s m args meth c k) (h : gb_chk k (.newarray t, pc, nx) = true) (hs : gb_stp (.newarray t) ls st P g = gb_nx ls' st' P' g') (hc : cells + (P'.length - P.length) ≤ R.cells) (hsl : slots + (gb_msl P' - gb_msl P) ≤ R.slots) (kk : gb_Go p l e R s m args below meth c D b B k Q (cells + (P'.length - P.length)) (slots + (gb_msl P' - gb_msl P)) (ls') (st') (nx) (P') (g')) : gb_Go p l e R s m args below meth c D b B k Q (cells) (slots) (ls) (st) (pc) (P) (g) := by
  obtain ⟨ci, len, hd, h⟩ := gb_chk_spec h
  simp only [gb_chkI] at h
  split at h
  · rename_i t'
    simp only [decide_eq_true_eq] at h
    obtain ⟨et, rfl, rfl⟩ := h
    subst et
    generalize t' = t at *
    simp only [gb_stp] at hs
    split at hs
    · rename_i n r
      split at hs
      · cases hs
      · rename_i hno
        cases hs
        have e1 : (P ++ [(gb_atg t, n.toNatClampNeg)]).length - P.length = 1 := by simp
        have e2 : gb_msl (P ++ [(gb_atg t, n.toNatClampNeg)]) - gb_msl P = n.toNatClampNeg := by rw [gb_msl_app]; simp [gb_msl]
        rw [e1] at hc kk
        rw [e2] at hsl kk
        have h1 : ¬ n < 0 := fun q => hno (Or.inl q)
        have h2 : n.toNatClampNeg ≤ 100000 := Nat.not_lt.mp fun q => hno (Or.inr (Or.inl q))
        have h3 : ¬ 3 < gb_atg t := fun q => hno (Or.inr (Or.inr q))
        intro H locs lsC hl hR hL
        have hbt : componentBytes (newarray.typeOf t) ≤ 8 := by cases t <;> decide
        have hby : n.toNatClampNeg * componentBytes (newarray.typeOf t) ≤ 536870912 := Nat.le_trans (Nat.mul_le_mul h2 hbt) (by decide)
        refine W.newaK C.1 C.2.1 (C.2.2.2.2.2.1 _ (gb_arrw h3) rfl) rfl hd rfl h1 rfl hby hc hsl hR.1 fun H1 cA f1 f2 f3 f4 => ?_
        refine kk H1 locs lsC hl (hR.grow (by rw [f2, hR.1]; rfl) (fun x hx => f3 x (by rw [← hR.1]; exact hx)) (fun i hi => gb_same_s0 (by omega)) rfl (fun i q hq => ?_)) hL
        match i, hq with
        | 0, hq =>
          cases hq
          rw [gb_atg_ty h3] at f1 f4
          refine Or.inl ⟨by dsimp only; omega, cA, ?_, f4⟩
          dsimp only
          rw [Nat.add_zero, gb_av_new B g P.length _ (by omega)]
          exact f1
        | i + 1, hq => simp at hq
    · cases hs
  · cases h
theorem gb_n_pop (C : gb_Ctx p R s m args meth c k) (h : gb_chk k (.pop, pc, nx) = true) (hs : gb_stp .pop ls st P g = gb_nx ls' st' P' g') (kk : gb_Go p l e R s m args below meth c D b B k Q (cells) (slots) (ls') (st') (nx) (P') (g')) : gb_Go p l e R s m args below meth c D b B k Q (cells) (slots) (ls) (st) (pc) (P) (g) := by
  obtain ⟨ci, len, hd, h⟩ := gb_chk_spec h
  simp only [gb_chkI] at h
  split at h
  · simp only [Bool.and_eq_true, decide_eq_true_eq] at h
    obtain ⟨⟨hlk, rfl, rfl⟩, hf, hlo⟩ := h
    simp only [gb_stp] at hs
    split at hs
    · split at hs
      · rename_i hr4
        cases hs
        intro H locs lsC hl hR hL
        have hlink := C.2.2.2.2.2.1 _ (gb_otab_ok _ hlk) rfl
        have hcat := gb_rest (b := b) (B := B) hr4
        exact W.objInit C.1 C.2.1 C.2.2.2.2.1 hlink (C.2.2.2.2.2.1 _ gb_obj_ok.1 rfl) (C.2.2.2.2.2.1 _ gb_obj_ok.2 rfl) rfl (hl.2.1.trans C.2.2.2.1.symm) rfl hd (Nat.le_trans hf C.2.2.2.2.2.2.2.1) (Nat.le_trans (show 2 * 0 + _ + 12 ≤ 23 by omega) (Nat.le_trans hlo C.2.2.2.2.2.2.2.2.1)) (kk H locs lsC hl hR hL)
      · cases hs
    · cases hs
  · cases h
theorem gb_n_fadd (C : gb_Ctx p R s m args meth c k) (h : gb_chk k (.fadd, pc, nx) = true) (hs : gb_stp .fadd ls st P g = gb_nx ls' st' P' g') (hc : cells ≤ R.cells) (hsl : slots ≤ R.slots) (kk : gb_Go p l e R s m args below meth c D b B k Q (cells) (slots) (ls') (st') (nx) (P') (g')) : gb_Go p l e R s m args below meth c D b B k Q (cells) (slots) (ls) (st) (pc) (P) (g) := by
  obtain ⟨ci, len, hd, h⟩ := gb_chk_spec h
  simp only [gb_chkI] at h
  split at h
  · simp only [Bool.and_eq_true, decide_eq_true_eq] at h
    obtain ⟨⟨hlk, rfl, rfl⟩, hf, hlo⟩ := h
    simp only [gb_stp] at hs
    split at hs
    · split at hs
      · rename_i hr4
        cases hs
        intro H locs lsC hl hR hL
        have hlink := C.2.2.2.2.2.1 _ (gb_jtab_ok _ (gb_lk hlk)) rfl
        have hcat := gb_rest (b := b) (B := B) hr4
        exact va_mmax C.1 C.2.1 (C.2.2.2.1.trans hl.2.1.symm) C.2.2.2.2.1 hlink (C.2.2.2.2.2.1 _ gb_math_max.1 rfl) (C.2.2.2.2.2.1 _ gb_math_ini rfl) (C.2.2.2.2.2.1 _ gb_math_max.2 rfl) (Nat.le_trans hf C.2.2.2.2.2.2.2.1) (Nat.le_trans (show _ + 13 ≤ 23 by omega) (Nat.le_trans hlo C.2.2.2.2.2.2.2.2.1)) hc hsl hd (kk H locs lsC hl hR hL)
      · cases hs
    · cases hs
  · cases h
theorem gb_n_fsub (C : gb_Ctx p R s m args meth c k) (h : gb_chk k (.fsub, pc, nx) = true) (hs : gb_stp .fsub ls st P g = gb_nx ls' st' P' g') (hc : cells ≤ R.cells) (hsl : slots ≤ R.slots) (kk : gb_Go p l e R s m args below meth c D b B k Q (cells) (slots) (ls') (st') (nx) (P') (g')) : gb_Go p l e R s m args below meth c D b B k Q (cells) (slots) (ls) (st) (pc) (P) (g) := by
  obtain ⟨ci, len, hd, h⟩ := gb_chk_spec h
  simp only [gb_chkI] at h
  split at h
  · simp only [Bool.and_eq_true, decide_eq_true_eq] at h
    obtain ⟨⟨hlk, rfl, rfl⟩, hf, hlo⟩ := h
    simp only [gb_stp] at hs
    split at hs
    · split at hs
      · rename_i hr4
        cases hs
        intro H locs lsC hl hR hL
        have hlink := C.2.2.2.2.2.1 _ (gb_jtab_ok _ (gb_lk hlk)) rfl
        have hcat := gb_rest (b := b) (B := B) hr4
        exact va_mmin C.1 C.2.1 (C.2.2.2.1.trans hl.2.1.symm) C.2.2.2.2.1 hlink (C.2.2.2.2.2.1 _ gb_math_min.1 rfl) (C.2.2.2.2.2.1 _ gb_math_ini rfl) (C.2.2.2.2.2.1 _ gb_math_min.2 rfl) (Nat.le_trans hf C.2.2.2.2.2.2.2.1) (Nat.le_trans (show _ + 13 ≤ 23 by omega) (Nat.le_trans hlo C.2.2.2.2.2.2.2.2.1)) hc hsl hd (kk H locs lsC hl hR hL)
      · cases hs
    · cases hs
  · cases h
theorem gb_n_dadd (C : gb_Ctx p R s m args meth c k) (h : gb_chk k (.dadd, pc, nx) = true) (hs : gb_stp .dadd ls st P g = gb_nx ls' st' P' g') (hc : cells ≤ R.cells) (hsl : slots ≤ R.slots) (kk : gb_Go p l e R s m args below meth c D b B k Q (cells) (slots) (ls') (st') (nx) (P') (g')) : gb_Go p l e R s m args below meth c D b B k Q (cells) (slots) (ls) (st) (pc) (P) (g) := by
  obtain ⟨ci, len, hd, h⟩ := gb_chk_spec h
  simp only [gb_chkI] at h
  split at h
  · simp only [Bool.and_eq_true, decide_eq_true_eq] at h
    obtain ⟨⟨hlk, rfl, rfl⟩, hf, hlo⟩ := h
    simp only [gb_stp] at hs
    split at hs
    · split at hs
      · rename_i hr4
        cases hs
        intro H locs lsC hl hR hL
        have hlink := C.2.2.2.2.2.1 _ (gb_jtab_ok _ (gb_lk hlk)) rfl
        have hcat := gb_rest (b := b) (B := B) hr4
        exact va_mmax_long C.1 C.2.1 (C.2.2.2.1.trans hl.2.1.symm) C.2.2.2.2.1 hlink (C.2.2.2.2.2.1 _ gb_math_maxl.1 rfl) (C.2.2.2.2.2.1 _ gb_math_ini rfl) (C.2.2.2.2.2.1 _ gb_math_maxl.2 rfl) (Nat.le_trans hf C.2.2.2.2.2.2.2.1) (Nat.le_trans (show _ + 15 ≤ 23 by omega) (Nat.le_trans hlo C.2.2.2.2.2.2.2.2.1)) hc hsl hd (kk H locs lsC hl hR hL)
      · cases hs
    · cases hs
  · cases h
/-! jumps -/
theorem gb_tg_spec {pcs : List Nat} {t off : Int} {pc : Nat} (h : gb_tg pcs t pc off = true) : ∃ q, pcs[t.toNat]? = some q ∧ (pc : Int) + off = (q : Int) := by
  unfold gb_tg at h
  simp only [Bool.and_eq_true] at h
  obtain ⟨-, h⟩ := h
  split at h
  · rename_i q hq
    exact ⟨q, hq, by simpa using h⟩
  · cases h
theorem gb_j_goto {t : Int} {tt : Nat} (C : gb_Ctx p R s m args meth c k) (h : gb_chk k (.goto t, pc, nx) = true) (hs : gb_stp (.goto t) ls st P g = gb_jp tt ls' st') (kk : ∀ q, (gb_pcs k)[tt]? = some q → gb_Go p l e R s m args below meth c D b B k Q (cells) (slots) (ls') (st') (q) (P) (g)) : gb_Go p l e R s m args below meth c D b B k Q (cells) (slots) (ls) (st) (pc) (P) (g) := by
  obtain ⟨hx, hb, -⟩ := C
  obtain ⟨ci, len, hd, h⟩ := gb_chk_spec h
  simp only [gb_chkI] at h
  split at h
  · simp only [Bool.and_eq_true, decide_eq_true_eq] at h
    obtain ⟨htg, rfl⟩ := h
    obtain ⟨q, hq, ht⟩ := gb_tg_spec htg
    simp only [gb_stp] at hs
    cases hs
    exact fun H locs lsC hl hR hL => lv_goto hx hb hd ht (kk q hq H locs lsC hl hR hL)
  · cases h
theorem gb_i_ifCond {cd : ClassFile.Cond} {t : Int} {x : Int32} {r : List Value} (C : gb_Ctx p R s m args meth c k) (h : gb_chk k (.ifCond cd t, pc, nx) = true) (kt : gb_cnd cd x 0 = true → ∀ q, (gb_pcs k)[t.toNat]? = some q → gb_Go p l e R s m args below meth c D b B k Q (cells) (slots) (ls) (r) (q) (P) (g)) (kf : ¬ gb_cnd cd x 0 = true → gb_Go p l e R s m args below meth c D b B k Q (cells) (slots) (ls) (r) (nx) (P) (g)) : gb_Go p l e R s m args below meth c D b B k Q (cells) (slots) (ls) (.int x :: r) (pc) (P) (g) := by
  obtain ⟨hx, hb, -⟩ := C
  obtain ⟨ci, len, hd, h⟩ := gb_chk_spec h
  simp only [gb_chkI] at h
  split at h
  · simp only [Bool.and_eq_true, decide_eq_true_eq] at h
    obtain ⟨⟨rfl, htg⟩, rfl, rfl⟩ := h
    obtain ⟨q, hq, ht⟩ := gb_tg_spec htg
    intro H locs lsC hl hR hL
    rename_i c' off
    cases c' <;> simp only [gb_cnd, decide_eq_true_eq] at kt kf
    · exact lv_if_eq hx hb hd ht (fun z => kt z q hq H locs lsC hl hR hL) (fun z => kf z H locs lsC hl hR hL)
    · exact lv_if_ne hx hb hd ht (fun z => kt z q hq H locs lsC hl hR hL) (fun z => kf (fun w => w z) H locs lsC hl hR hL)
    · exact lv_if_lt hx hb hd ht (fun z => kt z q hq H locs lsC hl hR hL) (fun z => kf z H locs lsC hl hR hL)
    · exact lv_if_ge hx hb hd ht (fun z => kt z q hq H locs lsC hl hR hL) (fun z => kf z H locs lsC hl hR hL)
    · exact lv_if_gt hx hb hd ht (fun z => kt z q hq H locs lsC hl hR hL) (fun z => kf z H locs lsC hl hR hL)
    · exact lv_if_le hx hb hd ht (fun z => kt z q hq H locs lsC hl hR hL) (fun z => kf z H locs lsC hl hR hL)
  · cases h
theorem gb_i_if_icmp {cd : ClassFile.Cond} {t : Int} {x y : Int32} {r : List Value} (C : gb_Ctx p R s m args meth c k) (h : gb_chk k (.if_icmp cd t, pc, nx) = true) (kt : gb_cnd cd x y = true → ∀ q, (gb_pcs k)[t.toNat]? = some q → gb_Go p l e R s m args below meth c D b B k Q (cells) (slots) (ls) (r) (q) (P) (g)) (kf : ¬ gb_cnd cd x y = true → gb_Go p l e R s m args below meth c D b B k Q (cells) (slots) (ls) (r) (nx) (P) (g)) : gb_Go p l e R s m args below meth c D b B k Q (cells) (slots) (ls) (.int y :: .int x :: r) (pc) (P) (g) := by
  obtain ⟨hx, hb, -⟩ := C
  obtain ⟨ci, len, hd, h⟩ := gb_chk_spec h
  simp only [gb_chkI] at h
  split at h
  · simp only [Bool.and_eq_true, decide_eq_true_eq] at h
    obtain ⟨⟨rfl, htg⟩, rfl, rfl⟩ := h
    obtain ⟨q, hq, ht⟩ := gb_tg_spec htg
    intro H locs lsC hl hR hL
    rename_i c' off
    cases c' <;> simp only [gb_cnd, decide_eq_true_eq] at kt kf
    · exact lv_icmp_eq hx hb hd ht (fun z => kt z q hq H locs lsC hl hR hL) (fun z => kf z H locs lsC hl hR hL)
    · exact lv_icmp_ne hx hb hd ht (fun z => kt z q hq H locs lsC hl hR hL) (fun z => kf (fun w => w z) H locs lsC hl hR hL)
    · exact lv_icmp_lt hx hb hd ht (fun z => kt z q hq H locs lsC hl hR hL) (fun z => kf z H locs lsC hl hR hL)
    · exact lv_icmp_ge hx hb hd ht (fun z => kt z q hq H locs lsC hl hR hL) (fun z => kf z H locs lsC hl hR hL)
    · exact lv_icmp_gt hx hb hd ht (fun z => kt z q hq H locs lsC hl hR hL) (fun z => kf z H locs lsC hl hR hL)
    · exact lv_icmp_le hx hb hd ht (fun z => kt z q hq H locs lsC hl hR hL) (fun z => kf z H locs lsC hl hR hL)
  · cases h
theorem gb_lsw {pcs : List Nat} {pc : Nat} {x d d' : Int} (hd : gb_tg pcs d pc d' = true) : ∀ (ps ps' : List (Int × Int)), ps.length = ps'.length → (ps.zip ps').all (fun q => decide (q.1.1 = q.2.1) && gb_tg pcs q.1.2 pc q.2.2) = true → gb_tg pcs (Op.lookupswitch.offset ps d x) pc (Op.lookupswitch.offset ps' d' x) = true
  | [], [], _, _ => by simpa [Op.lookupswitch.offset] using hd
  | [], _ :: _, h, _ => by simp at h
  | _ :: _, [], h, _ => by simp at h
  | (a, t) :: ps, (a', t') :: ps', h, hz => by
    simp only [List.zip_cons_cons, List.all_cons, Bool.and_eq_true, decide_eq_true_eq] at hz
    obtain ⟨⟨rfl, h1⟩, h2⟩ := hz
    rw [Op.lookupswitch.offset_cons, Op.lookupswitch.offset_cons]
    split
    · exact h1
    · exact gb_lsw hd ps ps' (by simpa using h) h2
theorem gb_j_lookup {d : Int} {ps : Array (Int × Int)} {tt : Nat} (C : gb_Ctx p R s m args meth c k) (h : gb_chk k (.lookupswitch d ps, pc, nx) = true) (hs : gb_stp (.lookupswitch d ps) ls st P g = gb_jp tt ls' st') (kk : ∀ q, (gb_pcs k)[tt]? = some q → gb_Go p l e R s m args below meth c D b B k Q (cells) (slots) (ls') (st') (q) (P) (g)) : gb_Go p l e R s m args below meth c D b B k Q (cells) (slots) (ls) (st) (pc) (P) (g) := by
  obtain ⟨hx, hb, -⟩ := C
  obtain ⟨ci, len, hd, h⟩ := gb_chk_spec h
  simp only [gb_chkI] at h
  split at h
  · simp only [Bool.and_eq_true] at h
    obtain ⟨⟨⟨h1, h2⟩, h3⟩, h4⟩ := h
    simp only [gb_stp] at hs
    split at hs
    · rename_i x r
      cases hs
      obtain ⟨q, hq, ht⟩ := gb_tg_spec (gb_lsw (x := x.toInt) h1 _ _ (by simpa using h2) h3)
      exact fun H locs lsC hl hR hL => lv_lookup hx hb hd h4 rfl ht (kk q hq H locs lsC hl hR hL)
    · cases hs
  · cases h
theorem gb_tsw {pcs : List Nat} {pc : Nat} : ∀ (os os' : List Int), os.length = os'.length → (os.zip os').all (fun q => gb_tg pcs q.1 pc q.2) = true → ∀ (i : Nat) (t : Int), os[i]? = some t → ∃ t', os'[i]? = some t' ∧ gb_tg pcs t pc t' = true
  | [], _, _, _, i, t, h => by simp at h
  | _ :: _, [], h, _, _, _, _ => by simp at h
  | a :: os, a' :: os', h, hz, 0, t, hi => by
    simp only [List.zip_cons_cons, List.all_cons, Bool.and_eq_true] at hz
    simp only [List.getElem?_cons_zero, Option.some.injEq] at hi
    subst hi
    exact ⟨a', rfl, hz.1⟩
  | a :: os, a' :: os', h, hz, i + 1, t, hi => by
    simp only [List.zip_cons_cons, List.all_cons, Bool.and_eq_true] at hz
    rw [List.getElem?_cons_succ] at hi ⊢
    exact gb_tsw os os' (by simpa using h) hz.2 i t hi
theorem gb_j_table {d lo hi : Int} {offs : Array Int} {tt : Nat} (C : gb_Ctx p R s m args meth c k) (h : gb_chk k (.tableswitch d lo hi offs, pc, nx) = true) (hs : gb_stp (.tableswitch d lo hi offs) ls st P g = gb_jp tt ls' st') (kk : ∀ q, (gb_pcs k)[tt]? = some q → gb_Go p l e R s m args below meth c D b B k Q (cells) (slots) (ls') (st') (q) (P) (g)) : gb_Go p l e R s m args below meth c D b B k Q (cells) (slots) (ls) (st) (pc) (P) (g) := by
  obtain ⟨hx, hb, -⟩ := C
  obtain ⟨ci, len, hd, h⟩ := gb_chk_spec h
  simp only [gb_chkI] at h
  split at h
  · simp only [Bool.and_eq_true, decide_eq_true_eq] at h
    obtain ⟨⟨⟨h1, rfl, rfl⟩, h2⟩, h3⟩ := h
    simp only [gb_stp] at hs
    split at hs
    · rename_i x r
      split at hs
      · rename_i hout
        cases hs
        obtain ⟨q, hq, ht⟩ := gb_tg_spec h1
        exact fun H locs lsC hl hR hL => lv_tableOut hx hb hd hout ht (kk q hq H locs lsC hl hR hL)
      · rename_i hin
        split at hs
        · rename_i t ho
          cases hs
          obtain ⟨t', h5, h6⟩ := gb_tsw _ _ (by simpa using h2) h3 _ t (by rw [Array.getElem?_toList]; exact ho)
          rw [Array.getElem?_toList] at h5
          obtain ⟨q, hq, ht⟩ := gb_tg_spec h6
          exact fun H locs lsC hl hR hL => lv_tableIn hx hb hd (fun z => hin (Or.inl z)) (fun z => hin (Or.inr z)) h5 ht (kk q hq H locs lsC hl hR hL)
        · cases hs
    · cases hs
  · cases h
end GBF
