/-! new T[n][m] -/
theorem gb_outer (c : ClassId) (N h0 : Nat) : ∀ i : Nat, Jvm.Free.Multi.outerC c N h0 i = arrV c N (fun j => va_rf (if j < i then some (h0 + 1 + j) else none))
  | 0 => by
    show ({ cls := c, slots := Array.replicate N .null, vm := .none } : Cell) = _
    rw [arrV_new]
    refine congrArg (arrV c N) (funext fun j => ?_)
    simp [va_rf]
  | i + 1 => by
    show (Jvm.Free.Multi.outerC c N h0 i).setSlot i (.ref (h0 + 1 + i)) = _
    rw [gb_outer c N h0 i, arrV_store]
    refine congrArg (arrV c N) (funext fun j => ?_)
    by_cases e : j = i
    · subst e
      simp [updV, va_rf]
    · by_cases h : j < i
      · simp [updV, e, h, Nat.lt_succ_of_lt h]
      · simp [updV, e, h, show ¬ j < i + 1 by omega]
section GBM
variable {p : Program} {l : Launch} {e : Env} {R : Room} {s : State} {m : MethodId} {args : Array Value} {below : List Frame} {meth : Method} {c : Code} {D : va_G} {b B k : Nat} {Q : State → Prop} {cells slots pc nx : Nat} {ls st ls' st' : List Value} {P P' : gb_Pi} {g g' : gb_Sg}
theorem gb_multi {ty : FieldType} {t q0 idx : Nat} {n q : Int32} {r : List Value} (C : gb_Ctx p R s m args meth c k) (hK : gb_K D s) (hov : gb_AO ty s) (hd : decode (gb_met k).2.1 pc = .ok (.multianewarray idx 2, 4)) (hlink : (Cond.classLink (gb_own (gb_mo k)) idx ("[" ++ (FieldType.array ty).toString)).before args s = true) (harr : Cond.arrayClass ty ∈ lw_tbl)
    (h1 : ¬ q < 0) (h2 : ¬ n < 0) (h3 : q.toNatClampNeg ≤ 100000) (h4 : n.toNatClampNeg ≤ 100000) (hty : gb_aty t = .array ty) (ht : t = 4 ∨ t = 5) (hq0 : gb_aty q0 = ty) (hq3 : q0 ≤ 3) (hcb : componentBytes ty ≤ 8) (hdf : fits ty (defaultValue ty) = true) (hdd : (defaultValue ty).isDefault = true)
    (hc : cells + (1 + n.toNatClampNeg) ≤ R.cells) (hsl : slots + (n.toNatClampNeg + n.toNatClampNeg * q.toNatClampNeg) ≤ R.slots)
    (kk : gb_Go p l e R s m args below meth c D b B k Q (cells + (1 + n.toNatClampNeg)) (slots + (n.toNatClampNeg + n.toNatClampNeg * q.toNatClampNeg)) (ls) (.ref P.length :: r) (pc + 4) (P ++ (t, n.toNatClampNeg) :: List.replicate n.toNatClampNeg (q0, q.toNatClampNeg)) (s2 g P.length n.toNatClampNeg)) : gb_Go p l e R s m args below meth c D b B k Q (cells) (slots) (ls) (.int q :: .int n :: r) (pc) (P) (g) := by
  intro H locs lsC hl hR hL T hT X
  obtain ⟨vm₁, cA, comp, -, fA, fC, hO, hI, X', step⟩ := X.multianewarray2F C.1 C.2.2.2.2.1 hlink (show (Cond.arrayOver (.array ty)).before args s = true from hov) (C.2.2.2.2.2.1 _ harr rfl) (g := F0 m pc lsC ((Value.int q :: .int n :: r).map (gb_cv b B))) rfl (by rw [C.2.1]; exact hd) rfl h2 h1 (by omega) (Nat.le_trans (Nat.mul_le_mul h3 hcb) (by decide)) (by omega) hdf hdd hc hsl
  generalize hF : Jvm.Free.Multi.fill (T.setVm vm₁) cA comp n.toNatClampNeg q.toNatClampNeg (defaultValue ty) n.toNatClampNeg = F at X' step
  have hTh : (T.setVm vm₁).heap = H := hT
  obtain ⟨f1, f2, -, -⟩ := Jvm.Free.Multi.fill_facts (T.setVm vm₁) cA comp n.toNatClampNeg q.toNatClampNeg (defaultValue ty) n.toNatClampNeg
  rw [hF, hTh] at f1 f2
  have hold : ∀ x : Nat, x < H.size → F.heap[x]? = H[x]? := fun x hx => by
    have := Jvm.Free.Multi.fill_old (T.setVm vm₁) cA comp n.toNatClampNeg q.toNatClampNeg (defaultValue ty) (a := x) (by rw [hTh]; exact hx) n.toNatClampNeg
    rw [hF, hTh] at this
    exact this
  have hrow : ∀ j : Nat, j < n.toNatClampNeg → F.heap[H.size + 1 + j]? = some (Jvm.Free.Multi.innerC comp q.toNatClampNeg (defaultValue ty)) := fun j hj => by
    have := Jvm.Free.Multi.fill_inner (T.setVm vm₁) cA comp n.toNatClampNeg q.toNatClampNeg (defaultValue ty) n.toNatClampNeg j hj
    rw [hF, hTh] at this
    exact this
  have hAr : ArrOfT s cA (.array ty) := fun N9 z9 => by
    obtain ⟨-, k9, hk9, cm9, hkk9⟩ := (hO 0 0 0).1
    exact ⟨(fun q hq => by cases hq), k9, hk9, cm9, hkk9⟩
  have hAi : ArrOfT s comp ty := fun N9 z9 => by
    obtain ⟨-, k9, hk9, cm9, hkk9⟩ := (hI 0 (defaultValue ty)).1
    exact ⟨(fun q hq => by cases hq), k9, hk9, cm9, hkk9⟩
  have hRn : gb_Rep D b B s F.heap (P ++ (t, n.toNatClampNeg) :: List.replicate n.toNatClampNeg (q0, q.toNatClampNeg)) (s2 g P.length n.toNatClampNeg) := by
    refine hR.grow (by rw [f1]; simp; omega) hold (fun i hi => gb_same_s2 hi) rfl (fun i z hz => ?_)
    match i, hz with
    | 0, hz =>
      cases hz
      refine Or.inl ⟨by dsimp only; omega, cA, ?_, by dsimp only; rw [hty]; exact hAr⟩
      dsimp only
      rw [Nat.add_zero, ← hR.1, f2, gb_outer]
      congr 2
      funext j
      have : gb_av B (s2 g P.length n.toNatClampNeg) P.length t j = gb_rf B (gR (s2 g P.length n.toNatClampNeg) P.length j) := by
        rcases ht with rfl | rfl <;> rfl
      rw [this, gR_s2, if_pos rfl]
      by_cases hj : j < n.toNatClampNeg
      · rw [if_pos hj, if_pos hj]
        simp only [va_rf, gb_rf]
        rw [hR.1]
        exact congrArg Value.ref (show (B + P.length + 1 + j : Nat) = B + (P.length + 1 + j) by omega)
      · rw [if_neg hj, if_neg hj]
        rfl
    | i + 1, hz =>
      rw [List.getElem?_cons_succ] at hz
      have hi : i < n.toNatClampNeg := by
        have := (List.getElem?_eq_some_iff.mp hz).1
        simpa using this
      have hz2 := List.eq_of_mem_replicate (List.mem_of_getElem? hz)
      subst hz2
      refine Or.inl ⟨by dsimp only; omega, comp, ?_, by dsimp only; rw [hq0]; exact hAi⟩
      dsimp only
      rw [show B + (P.length + (i + 1)) = H.size + 1 + i by rw [hR.1]; omega, hrow i hi]
      show some ({ cls := comp, slots := Array.replicate q.toNatClampNeg (defaultValue ty), vm := .none } : Cell) = _
      rw [arrV_new]
      congr 2
      funext j
      unfold gb_av
      simp only [gI_s2, gL_s2, gR_s2]
      rw [if_pos (show P.length ≤ P.length + (i + 1) ∧ P.length + (i + 1) ≤ P.length + n.toNatClampNeg by omega), if_pos (show P.length ≤ P.length + (i + 1) ∧ P.length + (i + 1) ≤ P.length + n.toNatClampNeg by omega), if_pos (show P.length ≤ P.length + (i + 1) ∧ P.length + (i + 1) ≤ P.length + n.toNatClampNeg by omega)]
      rw [← hq0]
      match q0, hq3 with
      | 0, _ => rfl
      | 1, _ => rfl
      | 2, _ => rfl
      | 3, _ => rfl
  obtain ⟨t2, a1, b1⟩ := kk F.heap locs lsC hl hRn hL F rfl (by rw [show cells + (1 + n.toNatClampNeg) = cells + 1 + n.toNatClampNeg by omega, show slots + (n.toNatClampNeg + n.toNatClampNeg * q.toNatClampNeg) = slots + n.toNatClampNeg + n.toNatClampNeg * q.toNatClampNeg by omega]; exact X')
  refine ⟨t2, step t2 ?_, b1⟩
  have e9 : T.heap.size = B + P.length := by rw [hT]; exact hR.1
  rw [e9]
  exact a1
theorem gb_n_multianewarray {t q1 : Nat} (C : gb_Ctx p R s m args meth c k) (hK : gb_K D s) (h : gb_chk k (.multianewarray t q1, pc, nx) = true) (hs : gb_stp (.multianewarray t q1) ls st P g = gb_nx ls' st' P' g') (hc : cells + (P'.length - P.length) ≤ R.cells) (hsl : slots + (gb_msl P' - gb_msl P) ≤ R.slots) (kk : gb_Go p l e R s m args below meth c D b B k Q (cells + (P'.length - P.length)) (slots + (gb_msl P' - gb_msl P)) (ls') (st') (nx) (P') (g')) : gb_Go p l e R s m args below meth c D b B k Q (cells) (slots) (ls) (st) (pc) (P) (g) := by
  obtain ⟨ci, len, hd, h⟩ := gb_chk_spec h
  simp only [gb_chkI] at h
  split at h
  · simp only [decide_eq_true_eq] at h
    obtain ⟨hlk, rfl, rfl, rfl⟩ := h
    simp only [gb_stp] at hs
    split at hs
    · rename_i q n r
      split at hs
      · cases hs
      · rename_i hno
        cases hs
        have a1 : ¬ q < 0 := fun z => hno (Or.inl z)
        have a2 : ¬ n < 0 := fun z => hno (Or.inr (Or.inl z))
        have a3 : q.toNatClampNeg ≤ 100000 := Nat.not_lt.mp fun z => hno (Or.inr (Or.inr (Or.inl z)))
        have a4 : n.toNatClampNeg ≤ 100000 := Nat.not_lt.mp fun z => hno (Or.inr (Or.inr (Or.inr (Or.inl z))))
        have a5 : t = 4 ∨ t = 5 := Classical.byContradiction fun z => hno (Or.inr (Or.inr (Or.inr (Or.inr z))))
        have e1 : (P ++ (t, n.toNatClampNeg) :: List.replicate n.toNatClampNeg (if t = 4 then 0 else 3, q.toNatClampNeg)).length - P.length = 1 + n.toNatClampNeg := by simp; omega
        have e2 : gb_msl (P ++ (t, n.toNatClampNeg) :: List.replicate n.toNatClampNeg (if t = 4 then 0 else 3, q.toNatClampNeg)) - gb_msl P = n.toNatClampNeg + n.toNatClampNeg * q.toNatClampNeg := by rw [gb_msl_app]; simp [gb_msl]
        rw [e1] at hc kk
        rw [e2] at hsl kk
        have hlink := C.2.2.2.2.2.1 _ (gb_ntab_ok _ (gb_lk hlk)) rfl
        unfold gb_wN at hlink
        dsimp only at hlink
        rcases a5 with rfl | rfl
        · exact gb_multi (ty := .int) (q0 := 0) C hK hK.2.2.1 hd hlink gb_arr_int a1 a2 a3 a4 rfl (Or.inl rfl) rfl (by decide) (by decide) rfl rfl hc hsl kk
        · exact gb_multi (ty := .long) (q0 := 3) C hK hK.2.2.2 hd hlink gb_arr_long a1 a2 a3 a4 rfl (Or.inr rfl) rfl (by decide) (by decide) rfl rfl hc hsl kk
    · cases hs
  · cases h
end GBM
