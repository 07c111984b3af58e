theorem gb_clsOK : ∀ (n : Nat) (q : vw_C), gb_cls[n]? = some q → q.1 = gb_own n ∧ q.2.1 = gb_T n ∧ q.2.2 = (gb_kds.getD n []).length ∧ (∀ w ∈ u_ws q.1 q.2.1 q.2.2, w ∈ lw_tbl) ∧ (∀ f, f < q.2.2 → parseFieldDescriptor (q.2.1 f).2.2.1 = some (gb_ty n f)) ∧ (∀ a, a < q.2.2 → ∀ b, b < q.2.2 → a ≠ b → (q.2.1 a).2.1 ≠ (q.2.1 b).2.1) ∧ ∀ f, f < q.2.2 → gb_kd n f = gb_kt (gb_ty n f) := by
  intro n q hq
  match n, hq with
  | 0, hq => cases hq; exact ⟨rfl, rfl, rfl, inX0, tyX0_ok, nmX0, by decide +kernel⟩
  | 1, hq => cases hq; exact ⟨rfl, rfl, rfl, inX1, tyX1_ok, nmX1, by decide +kernel⟩
  | 2, hq => cases hq; exact ⟨rfl, rfl, rfl, inX2, tyX2_ok, nmX2, by decide +kernel⟩
  | 3, hq => cases hq; exact ⟨rfl, rfl, rfl, inX3, tyX3_ok, nmX3, by decide +kernel⟩
  | 4, hq => cases hq; exact ⟨rfl, rfl, rfl, inX4, tyX4_ok, nmX4, by decide +kernel⟩
  | 5, hq => cases hq; exact ⟨rfl, rfl, rfl, inX5, tyX5_ok, nmX5, by decide +kernel⟩
  | 6, hq => cases hq; exact ⟨rfl, rfl, rfl, inX6, tyX6_ok, nmX6, by decide +kernel⟩
  | 7, hq => cases hq; exact ⟨rfl, rfl, rfl, inX7, tyX7_ok, nmX7, by decide +kernel⟩
  | 8, hq => cases hq; exact ⟨rfl, rfl, rfl, inX8, tyX8_ok, nmX8, by decide +kernel⟩
  | 9, hq => cases hq; exact ⟨rfl, rfl, rfl, inX9, tyX9_ok, nmX9, by decide +kernel⟩
  | 10, hq => cases hq; exact ⟨rfl, rfl, rfl, inX10, tyX10_ok, nmX10, by decide +kernel⟩
  | n + 11, hq => simp [gb_cls] at hq
theorem gb_math_ini : Cond.initialized "java/lang/Math" ∈ lw_tbl := List.mem_of_getElem? (i := 67) (by decide +kernel)
/-! the instructions that read and write cells -/
theorem gb_atag {P : gb_Pi} {a t : Nat} (h : atag P a = t) (ht : t ≠ 99) : P[a]? = some (t, alen P a) := by
  unfold atag at h
  unfold alen
  cases hq : P[a]? with
  | none => rw [hq] at h; exact absurd h.symm ht
  | some q =>
    rw [hq] at h
    obtain ⟨q1, q2⟩ := q
    dsimp only at h ⊢
    rw [h]
theorem gb_oob {i : Int32} {n : Nat} (h : ¬ oob i n = true) : ¬ (i < 0 ∨ n ≤ i.toNatClampNeg) := by
  unfold oob at h
  simpa using h
def gb_same (g g' : gb_Sg) (i : Nat) : Prop := (∀ j, gI g' i j = gI g i j) ∧ (∀ j, gL g' i j = gL g i j) ∧ ∀ j, gR g' i j = gR g i j
theorem gb_same.av {g g' : gb_Sg} {i : Nat} (h : gb_same g g' i) (B t : Nat) : gb_av B g' i t = gb_av B g i t := by
  funext j
  unfold gb_av
  split
  · rw [h.1]
  · rw [h.1]
  · rw [h.1]
  · rw [h.2.1]
  · rw [h.2.2]
theorem gb_same.fv {g g' : gb_Sg} {i : Nat} (h : gb_same g g' i) (B n : Nat) : gb_fv B g' i n = gb_fv B g i n := by
  funext j
  unfold gb_fv
  split
  · rw [h.1]
  · rw [h.1]
  · rw [h.2.1]
  · rw [h.2.2]
theorem gb_cell.kept {D : va_G} {B : Nat} {U : State} {H H1 : Heap} {g g' : gb_Sg} {i : Nat} {q : Nat × Nat} (h : gb_cell D B U H g i q) (hq : H1[B + i]? = H[B + i]?) (hg : gb_same g g' i) : gb_cell D B U H1 g' i q := by
  rcases h with ⟨h1, cA, h2, h3⟩ | ⟨n, r, h1, h2, h3, h4⟩
  · exact Or.inl ⟨h1, cA, by rw [hq, hg.av]; exact h2, h3⟩
  · exact Or.inr ⟨n, r, h1, h2, h3, by rw [hg.fv]; exact h4.kept hq⟩
theorem gb_Rep.set {D : va_G} {b B : Nat} {U : State} {H H1 : Heap} {P : gb_Pi} {g g' : gb_Sg} {a : Nat} {q : Nat × Nat} (hR : gb_Rep D b B U H P g) (hP : P[a]? = some q) (hsz : H1.size = H.size) (ho : ∀ x, x ≠ B + a → H1[x]? = H[x]?) (hg : ∀ i, i ≠ a → gb_same g g' i) (hX : g'.2.2.2 = g.2.2.2) (hc : gb_cell D B U H1 g' a q) : gb_Rep D b B U H1 P g' := by
  obtain ⟨h1, h2, h3, h4⟩ := hR
  refine ⟨hsz.trans h1, h2, ?_, fun i q' hq' => ?_⟩
  · unfold gN gX at h3 ⊢
    rw [hX]
    exact h3.kept (ho b (by omega))
  · by_cases e : i = a
    · subst e
      cases hP.symm.trans hq'
      exact hc
    · exact (h4 i q' hq').kept (ho _ (by omega)) (hg i e)
theorem gI_sI (g : gb_Sg) (a k : Nat) (v : Int32) (x y : Nat) : gI (sI g a k v) x y = if x = a ∧ y = k then v else gI g x y := rfl
theorem gL_sL (g : gb_Sg) (a k : Nat) (v : Int64) (x y : Nat) : gL (sL g a k v) x y = if x = a ∧ y = k then v else gL g x y := rfl
theorem gR_sR (g : gb_Sg) (a k : Nat) (v : Option Nat) (x y : Nat) : gR (sR g a k v) x y = if x = a ∧ y = k then v else gR g x y := rfl
theorem gL_sI (g : gb_Sg) (a k : Nat) (v : Int32) (x y : Nat) : gL (sI g a k v) x y = gL g x y := rfl
theorem gR_sI (g : gb_Sg) (a k : Nat) (v : Int32) (x y : Nat) : gR (sI g a k v) x y = gR g x y := rfl
theorem gI_sL (g : gb_Sg) (a k : Nat) (v : Int64) (x y : Nat) : gI (sL g a k v) x y = gI g x y := rfl
theorem gR_sL (g : gb_Sg) (a k : Nat) (v : Int64) (x y : Nat) : gR (sL g a k v) x y = gR g x y := rfl
theorem gI_sR (g : gb_Sg) (a k : Nat) (v : Option Nat) (x y : Nat) : gI (sR g a k v) x y = gI g x y := rfl
theorem gL_sR (g : gb_Sg) (a k : Nat) (v : Option Nat) (x y : Nat) : gL (sR g a k v) x y = gL g x y := rfl
theorem gN_sI (g : gb_Sg) (a k : Nat) (v : Int32) : gN (sI g a k v) = gN g := rfl
theorem gX_sI (g : gb_Sg) (a k : Nat) (v : Int32) : gX (sI g a k v) = gX g := rfl
theorem gN_sL (g : gb_Sg) (a k : Nat) (v : Int64) : gN (sL g a k v) = gN g := rfl
theorem gX_sL (g : gb_Sg) (a k : Nat) (v : Int64) : gX (sL g a k v) = gX g := rfl
theorem gN_sR (g : gb_Sg) (a k : Nat) (v : Option Nat) : gN (sR g a k v) = gN g := rfl
theorem gX_sR (g : gb_Sg) (a k : Nat) (v : Option Nat) : gX (sR g a k v) = gX g := rfl
theorem gb_same_sI {g : gb_Sg} {a k : Nat} {v : Int32} {i : Nat} (h : i ≠ a) : gb_same g (sI g a k v) i := ⟨fun j => by rw [gI_sI, if_neg (fun q => h q.1)], fun _ => rfl, fun _ => rfl⟩
theorem gb_same_sL {g : gb_Sg} {a k : Nat} {v : Int64} {i : Nat} (h : i ≠ a) : gb_same g (sL g a k v) i := ⟨fun _ => rfl, fun j => by rw [gL_sL, if_neg (fun q => h q.1)], fun _ => rfl⟩
theorem gb_same_sR {g : gb_Sg} {a k : Nat} {v : Option Nat} {i : Nat} (h : i ≠ a) : gb_same g (sR g a k v) i := ⟨fun _ => rfl, fun _ => rfl, fun j => by rw [gR_sR, if_neg (fun q => h q.1)]⟩
theorem gb_lay_good {C : String} {T : u_T} {N : Nat} {w : Cond} (h : w ∈ u_ws C T N) : goodWord w = true := by
  unfold u_ws at h
  obtain ⟨k, -, rfl⟩ := List.mem_map.mp h
  unfold u_lay
  split <;> rfl
section GBH
variable {p : Program} {l : Launch} {e : Env} {R : Room} {s : State} {m : MethodId} {args : Array Value} {below : List Frame} {meth : Method} {c : Code} {D : va_G} {b B k : Nat} {Q : State → Prop} {cells slots pc nx : Nat} {ls st ls' st' : List Value} {P P' : gb_Pi} {g g' : gb_Sg}
theorem gb_lays (C : gb_Ctx p R s m args meth c k) {n : Nat} {q : vw_C} (hq : gb_cls[n]? = some q) : ∀ w ∈ u_ws q.1 q.2.1 q.2.2, w.before args s = true :=
  fun w hw => C.2.2.2.2.2.1 w ((gb_clsOK n q hq).2.2.2.1 w hw) (gb_lay_good hw)
/-- an object of the class n at a -/
theorem gb_obj {H : Heap} {a n : Nat} {U : State} (hR : gb_Rep D b B U H P g) (hP : atag P a = 10 + n) (hn : n < gb_cls.length) : ∃ r : vw_C, gb_cls[n]? = some r ∧ P[a]? = some (10 + n, r.2.2) ∧ t_OB (B + a) (D.1 n) r.2.2 (D.2 n) H (gb_fv B g a n) := by
  have h99 : 10 + n ≠ 99 := by
    have : gb_cls.length = 11 := rfl
    omega
  have hp := gb_atag hP h99
  rcases hR.2.2.2 a _ hp with ⟨h1, -⟩ | ⟨n', r, h1, h2, h3, h4⟩
  · dsimp only at h1; omega
  · dsimp only at h1 h3
    have e : n' = n := by omega
    subst e
    exact ⟨r, h2, by rw [← h3]; exact hp, h4⟩
theorem gb_getf {H : Heap} {locs : List Loc} {lsC : Array Slot} {rest : List Value} {a n f idx : Nat} (C : gb_Ctx p R s m args meth c k) (hK : gb_K D s) (hR : gb_Rep D b B s H P g) (hP : atag P a = 10 + n) (hn : n < gb_cls.length) (hf : f < (gb_kds.getD n []).length) (hlk : gb_ftab.lookup (gb_mo k, idx) = some (n, f)) (hd : decode (gb_met k).2.1 pc = .ok (.getfield idx, 3))
    (kk : W p l e R s m args below meth c H locs cells slots Q (F0 m (pc + 3) lsC (gb_fv B g a n f :: rest))) : W p l e R s m args below meth c H locs cells slots Q (F0 m pc lsC (.ref (B + a) :: rest)) := by
  obtain ⟨r, hr, -, cell, q1, q2, q3, q4⟩ := gb_obj hR hP hn
  obtain ⟨e1, e2, e3, hin, hty, hnm, hkd⟩ := gb_clsOK n r hr
  obtain ⟨hS, hfc, kC, hkC, hkind⟩ := hK.1 n r hr
  rw [← e3] at hf
  obtain ⟨cf, kf, fi, fd, hi, hsl⟩ := hS f hf
  have hts := gb_lays C hr
  have hlink := C.2.2.2.2.2.1 _ (gb_ftab_ok _ (gb_lk hlk)) rfl
  unfold gb_wF at hlink
  dsimp only at hlink
  rw [← e2] at hlink
  refine W.getf C.1 C.2.1 C.2.2.2.2.1 hlink hi (u_facts hfc hkC (u_lays hts (fun w h => h) hf) hi).1 q1 (by rw [q3]; exact fun h => by cases h) (v := gb_fv B g a n f) ?_ rfl rfl hd kk
  rw [hsl, q4 f hf]
theorem gb_putf {H : Heap} {locs : List Loc} {lsC : Array Slot} {rest : List Value} {a n f idx : Nat} {v : Value} (C : gb_Ctx p R s m args meth c k) (hK : gb_K D s) (hR : gb_Rep D b B s H P g) (hP : atag P a = 10 + n) (hn : n < gb_cls.length) (hf : f < (gb_kds.getD n []).length) (hlk : gb_ftab.lookup (gb_mo k, idx) = some (n, f))
    (hfin : (gb_T n f).2.2.2 = false ∨ (gb_own (gb_mo k) = (gb_T n f).1 ∧ (gb_inf k).2.1 = 2)) (hnv : narrow (gb_ty n f) v = v) (hfv : fits (gb_ty n f) v = true) (hv : gb_fv B g' a n f = v) (hoth : ∀ j, j ≠ f → gb_fv B g' a n j = gb_fv B g a n j) (hg : ∀ i, i ≠ a → gb_same g g' i) (hX : g'.2.2.2 = g.2.2.2) (hL : ∀ q ∈ locs, B ≤ q.base) (hd : decode (gb_met k).2.1 pc = .ok (.putfield idx, 3))
    (kk : ∀ (H1 : Heap) (locs1 : List Loc), gb_Rep D b B s H1 P g' → (∀ q ∈ locs1, B ≤ q.base) → W p l e R s m args below meth c H1 locs1 cells slots Q (F0 m (pc + 3) lsC rest)) : W p l e R s m args below meth c H locs cells slots Q (F0 m pc lsC (v :: .ref (B + a) :: rest)) := by
  obtain ⟨r, hr, hp, cell, q1, q2, q3, q4⟩ := gb_obj hR hP hn
  obtain ⟨e1, e2, e3, hin, hty, hnm, hkd⟩ := gb_clsOK n r hr
  have hKn := hK.1 n r hr
  obtain ⟨hS, hfc, kC, hkC, hkind⟩ := hKn
  rw [← e3] at hf
  obtain ⟨cf, kf, fi, fd, hi, hsl⟩ := hS f hf
  have hts := gb_lays C hr
  have hap : ∀ x y, x < r.2.2 → y < r.2.2 → x ≠ y → (D.2 n) x ≠ (D.2 n) y := va_apart (own := "") hts (fun w h => h) (gb_ty n) hty hnm (cl := gb_cls) (tys := []) ⟨hK.1, fun k q h => by simp at h⟩ hr
  have hlink := C.2.2.2.2.2.1 _ (gb_ftab_ok _ (gb_lk hlk)) rfl
  unfold gb_wF at hlink
  dsimp only at hlink
  rw [← e2] at hlink hfin
  have hst := (u_facts hfc hkC (u_lays hts (fun w h => h) hf) hi).1
  have hlay := hts _ (u_in_lay hf)
  have fin : ∀ H' : Heap, H'[B + a]? = some (cell.setSlot (D.2 n f) v) → H'.size = H.size → (∀ q, q ≠ B + a → H'[q]? = H[q]?) → W p l e R s m args below meth c H' (locs ++ [⟨B + a, D.2 n f⟩]) cells slots Q (F0 m (pc + 3) lsC rest) := by
    intro H' f1 f2 f3
    refine kk H' _ (hR.set hp f2 f3 hg hX (Or.inr ⟨n, r, rfl, hr, rfl, ?_⟩)) (fun q hq => ?_)
    · refine t_OB.to (V := updV (gb_fv B g a n) f v) ⟨_, f1, q2, q3, t_set q4 hap hf v⟩ (fun j _ => ?_)
      by_cases ej : j = f
      · subst ej
        simp only [updV, if_true]
        exact hv.symm
      · simp only [updV, if_neg ej]
        exact (hoth j ej).symm
    · rcases List.mem_append.mp hq with h | h
      · exact hL q h
      · rw [List.mem_singleton.mp h]
        exact Nat.le_add_right _ _
  by_cases hfb : (r.2.1 f).2.2.2 = false
  · unfold u_lay at hlay
    rw [if_neg (by rw [hfb]; decide)] at hlay
    have h6 := u_store hfc hkC hkind hlay hi (hty f hf) hnv hfv
    refine W.putK C.1 C.2.1 (f := fd) ⟨C.2.2.2.2.1, hlink, ⟨_, _, _, hi⟩, hst⟩ (by rw [q2]; exact h6) q1 q3 (by rw [hsl]; exact k2_hasslot (q4 f hf)) rfl rfl hd fun H' f1 f2 f3 => ?_
    rw [hsl] at f1 ⊢
    exact fin H' f1 f2 f3
  · obtain ⟨hdecl, hinit⟩ := hfin.resolve_left hfb
    have hfb : (r.2.1 f).2.2.2 = true := by simpa using hfb
    unfold u_lay at hlay
    rw [if_pos hfb] at hlay
    have hcf : m.cls = cf := by
      obtain ⟨_, _, c', _, _, _, -, -, hf', -, -, -, hown2, -⟩ := Cond.laysFinal_spec hlay
      have z1 : c' = cf := by have := hi.symm.trans hf'; simp at this; exact this.1.symm
      rw [← hdecl] at hown2
      rw [← z1]; exact Option.some.inj (C.2.2.2.2.1.symm.trans hown2)
    have h6 := u_fits hfc hkC hkind (Or.inr hlay) hi (hty f hf) hnv hfv
    refine W.putFinK C.1 C.2.1 C.2.2.2.2.1 hlink hi hst hcf (C.2.2.2.2.2.2.1 hinit) (by rw [q2]; exact h6) q1 q3 (by rw [hsl]; exact k2_hasslot (q4 f hf)) rfl rfl hd fun H' f1 f2 f3 => ?_
    rw [hsl] at f1 ⊢
    exact fin H' f1 f2 f3
theorem gb_kt_ty {n f : Nat} (hn : n < gb_cls.length) (hf : f < (gb_kds.getD n []).length) : gb_kd n f = gb_kt (gb_ty n f) := by
  obtain ⟨r, hr⟩ : ∃ r, gb_cls[n]? = some r := ⟨_, List.getElem?_eq_getElem hn⟩
  obtain ⟨e1, e2, e3, hin, hty, hnm, hkd⟩ := gb_clsOK n r hr
  exact hkd f (by rw [e3]; exact hf)
theorem gb_n_getfield {n : Nat} (C : gb_Ctx p R s m args meth c k) (hK : gb_K D s) (h : gb_chk k (.getfield n, pc, nx) = true) (hs : gb_stp (.getfield n) ls st P g = gb_nx ls' st' P' g') (kk : gb_Go p l e R s m args below meth c D b B k Q (cells) (slots) (ls') (st') (nx) (P') (g')) : gb_Go p l e R s m args below meth c D b B k Q (cells) (slots) (ls) (st) (pc) (P) (g) := by
  obtain ⟨ci, len, hd, h⟩ := gb_chk_spec h
  simp only [gb_chkI] at h
  split at h
  · simp only [Bool.and_eq_true, decide_eq_true_eq] at h
    obtain ⟨⟨⟨hlk, rfl, rfl⟩, hn⟩, hf⟩ := h
    simp only [gb_stp] at hs
    split at hs
    · split at hs
      · rename_i htag
        intro H locs lsC hl hR hL
        refine gb_getf C hK hR htag hn hf hlk hd ?_
        unfold gb_fv
        split at hs
        · rename_i hkd
          cases hs
          rw [hkd]
          exact kk H locs lsC hl hR hL
        · rename_i hkd
          cases hs
          rw [hkd]
          exact kk H locs lsC hl hR hL
        · rename_i hkd
          split at hs
          · rename_i z hz
            cases hs
            rw [hkd]
            (try dsimp only)
            rw [hz]
            exact kk H locs lsC hl hR hL
          · cases hs
        · rename_i hkd
          cases hs
          rw [hkd]
          exact kk H locs lsC hl hR hL
        · cases hs
      · cases hs
    · cases hs
  · cases h
theorem gb_n_putfield {n : Nat} (C : gb_Ctx p R s m args meth c k) (hK : gb_K D s) (h : gb_chk k (.putfield n, pc, nx) = true) (hs : gb_stp (.putfield n) ls st P g = gb_nx ls' st' P' g') (kk : gb_Go p l e R s m args below meth c D b B k Q (cells) (slots) (ls') (st') (nx) (P') (g')) : gb_Go p l e R s m args below meth c D b B k Q (cells) (slots) (ls) (st) (pc) (P) (g) := by
  obtain ⟨ci, len, hd, h⟩ := gb_chk_spec h
  simp only [gb_chkI] at h
  split at h
  · simp only [Bool.and_eq_true, Bool.or_eq_true, decide_eq_true_eq] at h
    obtain ⟨⟨⟨⟨hlk, rfl, rfl⟩, hn⟩, hf⟩, hfin⟩ := h
    have hkt := gb_kt_ty hn hf
    simp only [gb_stp] at hs
    split at hs
    · split at hs
      · rename_i htag
        intro H locs lsC hl hR hL
        split at hs
        · rename_i hkd
          cases hs
          refine gb_putf (v := .int _) C hK hR htag hn hf hlk hfin ?_ ?_ ?_ (fun j hj => ?_) (fun i hi => gb_same_sI hi) rfl hL hd (fun H1 locs1 hR1 hL1 => kk H1 locs1 lsC hl hR1 hL1)
          · rw [hkd] at hkt; revert hkt; cases gb_ty (n / 64) (n % 64) <;> intro hkt <;> first | rfl | cases hkt
          · rw [hkd] at hkt; revert hkt; cases gb_ty (n / 64) (n % 64) <;> intro hkt <;> first | rfl | cases hkt
          · unfold gb_fv; rw [hkd, gI_sI, if_pos ⟨rfl, rfl⟩] <;> rfl
          · unfold gb_fv; simp only [gI_sI, gL_sI, gR_sI, if_neg (fun q : _ ∧ j = _ => hj q.2)]
        · rename_i hkd
          split at hs
          · rename_i hx01
            cases hs
            refine gb_putf (v := .int _) C hK hR htag hn hf hlk hfin ?_ ?_ ?_ (fun j hj => ?_) (fun i hi => gb_same_sI hi) rfl hL hd (fun H1 locs1 hR1 hL1 => kk H1 locs1 lsC hl hR1 hL1)
            · rw [hkd] at hkt; revert hkt; cases gb_ty (n / 64) (n % 64) <;> intro hkt <;> first | (rcases hx01 with rfl | rfl <;> rfl) | cases hkt
            · rw [hkd] at hkt; revert hkt; cases gb_ty (n / 64) (n % 64) <;> intro hkt <;> first | (rcases hx01 with rfl | rfl <;> rfl) | cases hkt
            · unfold gb_fv; rw [hkd, gI_sI, if_pos ⟨rfl, rfl⟩] <;> rfl
            · unfold gb_fv; simp only [gI_sI, gL_sI, gR_sI, if_neg (fun q : _ ∧ j = _ => hj q.2)]
          · cases hs
        · cases hs
      · cases hs
    · split at hs
      · rename_i htag
        intro H locs lsC hl hR hL
        split at hs
        · rename_i hkd
          cases hs
          refine gb_putf (v := .long _) C hK hR htag hn hf hlk hfin ?_ ?_ ?_ (fun j hj => ?_) (fun i hi => gb_same_sL hi) rfl hL hd (fun H1 locs1 hR1 hL1 => kk H1 locs1 lsC hl hR1 hL1)
          · rw [hkd] at hkt; revert hkt; cases gb_ty (n / 64) (n % 64) <;> intro hkt <;> first | rfl | cases hkt
          · rw [hkd] at hkt; revert hkt; cases gb_ty (n / 64) (n % 64) <;> intro hkt <;> first | rfl | cases hkt
          · unfold gb_fv; rw [hkd, gL_sL, if_pos ⟨rfl, rfl⟩] <;> rfl
          · unfold gb_fv; simp only [gI_sL, gL_sL, gR_sL, if_neg (fun q : _ ∧ j = _ => hj q.2)]
        · cases hs
      · cases hs
    · split at hs
      · rename_i htag
        intro H locs lsC hl hR hL
        split at hs
        · rename_i hkd
          cases hs
          refine gb_putf (v := .ref _) C hK hR htag hn hf hlk hfin ?_ ?_ ?_ (fun j hj => ?_) (fun i hi => gb_same_sR hi) rfl hL hd (fun H1 locs1 hR1 hL1 => kk H1 locs1 lsC hl hR1 hL1)
          · rw [hkd] at hkt; revert hkt; cases gb_ty (n / 64) (n % 64) <;> intro hkt <;> first | rfl | cases hkt
          · rw [hkd] at hkt; revert hkt; cases gb_ty (n / 64) (n % 64) <;> intro hkt <;> first | rfl | cases hkt
          · unfold gb_fv; rw [hkd, gR_sR, if_pos ⟨rfl, rfl⟩] <;> rfl
          · unfold gb_fv; simp only [gI_sR, gL_sR, gR_sR, if_neg (fun q : _ ∧ j = _ => hj q.2)]
        · cases hs
      · cases hs
    · cases hs
  · cases h
/-- an array of tag t at a -/
theorem gb_arr {H : Heap} {a t : Nat} {U : State} (hR : gb_Rep D b B U H P g) (hP : atag P a = t) (ht : t ≤ 5) : P[a]? = some (t, alen P a) ∧ ∃ cA : ClassId, H[B + a]? = some (arrV cA (alen P a) (gb_av B g a t)) ∧ ArrOfT U cA (gb_aty t) := by
  have hp := gb_atag hP (by omega)
  rcases hR.2.2.2 a _ hp with ⟨h1, cA, h2, h3⟩ | ⟨n', r, h1, -⟩
  · exact ⟨hp, cA, h2, h3⟩
  · dsimp only at h1; omega
theorem gb_n_iaload (C : gb_Ctx p R s m args meth c k) (h : gb_chk k (.iaload, pc, nx) = true) (hs : gb_stp .iaload ls st P g = gb_nx ls' st' P' g') (kk : gb_Go p l e R s m args below meth c D b B k Q (cells) (slots) (ls') (st') (nx) (P') (g')) : gb_Go p l e R s m args below meth c D b B k Q (cells) (slots) (ls) (st) (pc) (P) (g) := by
  obtain ⟨hx, hb, -⟩ := C
  obtain ⟨ci, len, hd, h⟩ := gb_chk_spec h
  simp only [gb_chkI, decide_eq_true_eq] at h
  obtain ⟨rfl, rfl, rfl⟩ := h
  simp only [gb_stp] at hs
  split at hs
  · split at hs
    · rename_i htag
      split at hs
      · cases hs
      · rename_i ho
        cases hs
        intro H locs lsC hl hR hL
        obtain ⟨hp, cA, h1, h2⟩ := gb_arr hR htag (by omega)
        have hin := gb_oob ho
        exact W.iald hx hb h1 (h2 _ _) (fun q => by cases q) (by rw [arrV_size]; exact hin) (by rw [arrV_read _ _ (by omega)]; rfl) rfl rfl hd (kk H locs lsC hl hR hL)
    · cases hs
  · split at hs
    · cases hs
    · rename_i ho
      cases hs
      intro H locs lsC hl hR hL
      obtain ⟨scr, h1, h2, h3, h4, h5⟩ := hR.2.2.1
      have hin := gb_oob ho
      exact W.iald hx hb h1 h2 h3 (by rw [h4]; exact hin) (h5 _ (by omega)) rfl rfl hd (kk H locs lsC hl hR hL)
  · cases hs
theorem gb_n_laload (C : gb_Ctx p R s m args meth c k) (h : gb_chk k (.laload, pc, nx) = true) (hs : gb_stp .laload ls st P g = gb_nx ls' st' P' g') (kk : gb_Go p l e R s m args below meth c D b B k Q (cells) (slots) (ls') (st') (nx) (P') (g')) : gb_Go p l e R s m args below meth c D b B k Q (cells) (slots) (ls) (st) (pc) (P) (g) := by
  obtain ⟨hx, hb, -⟩ := C
  obtain ⟨ci, len, hd, h⟩ := gb_chk_spec h
  simp only [gb_chkI, decide_eq_true_eq] at h
  obtain ⟨rfl, rfl, rfl⟩ := h
  simp only [gb_stp] at hs
  split at hs
  · split at hs
    · rename_i htag
      split at hs
      · cases hs
      · rename_i ho
        cases hs
        intro H locs lsC hl hR hL
        obtain ⟨hp, cA, h1, h2⟩ := gb_arr hR htag (by omega)
        have hin := gb_oob ho
        exact W.lald hx hb h1 (h2 _ _) (fun q => by cases q) (by rw [arrV_size]; exact hin) (by rw [arrV_read _ _ (by omega)]; rfl) rfl rfl hd (kk H locs lsC hl hR hL)
    · cases hs
  · cases hs
theorem gb_n_baload (C : gb_Ctx p R s m args meth c k) (h : gb_chk k (.baload, pc, nx) = true) (hs : gb_stp .baload ls st P g = gb_nx ls' st' P' g') (kk : gb_Go p l e R s m args below meth c D b B k Q (cells) (slots) (ls') (st') (nx) (P') (g')) : gb_Go p l e R s m args below meth c D b B k Q (cells) (slots) (ls) (st) (pc) (P) (g) := by
  obtain ⟨hx, hb, -⟩ := C
  obtain ⟨ci, len, hd, h⟩ := gb_chk_spec h
  simp only [gb_chkI, decide_eq_true_eq] at h
  obtain ⟨rfl, rfl, rfl⟩ := h
  simp only [gb_stp] at hs
  split at hs
  · split at hs
    · rename_i htag
      split at hs
      · cases hs
      · rename_i ho
        cases hs
        intro H locs lsC hl hR hL
        have hin := gb_oob ho
        rcases htag with htag | htag
        · obtain ⟨hp, cA, h1, h2⟩ := gb_arr hR htag (by omega)
          exact W.bald hx hb h1 (h2 _ _) (fun q => by cases q) (by rw [arrV_size]; exact hin) (by rw [arrV_read _ _ (by omega)]; rfl) rfl rfl hd (kk H locs lsC hl hR hL)
        · obtain ⟨hp, cA, h1, h2⟩ := gb_arr hR htag (by omega)
          exact W.zald hx hb h1 (h2 _ _) (fun q => by cases q) (by rw [arrV_size]; exact hin) (by rw [arrV_read _ _ (by omega)]; rfl) rfl rfl hd (kk H locs lsC hl hR hL)
    · cases hs
  · cases hs
theorem gb_n_aaload (C : gb_Ctx p R s m args meth c k) (h : gb_chk k (.aaload, pc, nx) = true) (hs : gb_stp .aaload ls st P g = gb_nx ls' st' P' g') (kk : gb_Go p l e R s m args below meth c D b B k Q (cells) (slots) (ls') (st') (nx) (P') (g')) : gb_Go p l e R s m args below meth c D b B k Q (cells) (slots) (ls) (st) (pc) (P) (g) := by
  obtain ⟨hx, hb, -⟩ := C
  obtain ⟨ci, len, hd, h⟩ := gb_chk_spec h
  simp only [gb_chkI, decide_eq_true_eq] at h
  obtain ⟨rfl, rfl, rfl⟩ := h
  simp only [gb_stp] at hs
  split at hs
  · split at hs
    · rename_i htag
      split at hs
      · cases hs
      · rename_i ho
        split at hs
        · rename_i z hz
          cases hs
          intro H locs lsC hl hR hL
          have hin := gb_oob ho
          rcases htag with htag | htag
          · obtain ⟨hp, cA, h1, h2⟩ := gb_arr hR htag (by omega)
            exact W.aald (v := .ref (B + z)) hx hb h1 (h2 _ _) rfl (fun q => by cases q) (by rw [arrV_size]; exact hin) (by rw [arrV_read _ _ (by omega)]; unfold ix at hz; simp only [gb_av, gb_rf, hz]) rfl rfl hd (kk H locs lsC hl hR hL)
          · obtain ⟨hp, cA, h1, h2⟩ := gb_arr hR htag (by omega)
            exact W.aald (v := .ref (B + z)) hx hb h1 (h2 _ _) rfl (fun q => by cases q) (by rw [arrV_size]; exact hin) (by rw [arrV_read _ _ (by omega)]; unfold ix at hz; simp only [gb_av, gb_rf, hz]) rfl rfl hd (kk H locs lsC hl hR hL)
        · cases hs
    · cases hs
  · cases hs
theorem gb_n_arraylength (C : gb_Ctx p R s m args meth c k) (h : gb_chk k (.arraylength, pc, nx) = true) (hs : gb_stp .arraylength ls st P g = gb_nx ls' st' P' g') (kk : gb_Go p l e R s m args below meth c D b B k Q (cells) (slots) (ls') (st') (nx) (P') (g')) : gb_Go p l e R s m args below meth c D b B k Q (cells) (slots) (ls) (st) (pc) (P) (g) := by
  obtain ⟨hx, hb, -⟩ := C
  obtain ⟨ci, len, hd, h⟩ := gb_chk_spec h
  simp only [gb_chkI, decide_eq_true_eq] at h
  obtain ⟨rfl, rfl, rfl⟩ := h
  simp only [gb_stp] at hs
  split at hs
  · split at hs
    · rename_i htag
      cases hs
      intro H locs lsC hl hR hL
      obtain ⟨hp, cA, h1, h2⟩ := gb_arr hR rfl htag
      exact W.alen (n := Int32.ofNat _) hx hb h1 (h2 _ _) (by rw [arrV_size] <;> rfl) rfl rfl hd (kk H locs lsC hl hR hL)
    · cases hs
  · cases hs
    intro H locs lsC hl hR hL
    obtain ⟨scr, h1, h2, h3, h4, h5⟩ := hR.2.2.1
    exact W.alen (n := Int32.ofNat _) hx hb h1 h2 (by rw [h4] <;> rfl) rfl rfl hd (kk H locs lsC hl hR hL)
  · cases hs
/-- an array of tag t at a, one element written -/
theorem gb_arr_set {H H1 : Heap} {a t j : Nat} {cA : ClassId} {v : Value} (hR : gb_Rep D b B s H P g) (hp : P[a]? = some (t, alen P a)) (ht : t ≤ 5) (h2 : ArrOfT s cA (gb_aty t)) (e : H1[B + a]? = some ((arrV cA (alen P a) (gb_av B g a t)).setSlot j v)) (z : H1.size = H.size) (o : ∀ q, q ≠ B + a → H1[q]? = H[q]?)
    (hg : ∀ i, i ≠ a → gb_same g g' i) (hX : g'.2.2.2 = g.2.2.2) (hv : gb_av B g' a t j = v) (hoth : ∀ i, i ≠ j → gb_av B g' a t i = gb_av B g a t i) : gb_Rep D b B s H1 P g' := by
  refine hR.set hp z o hg hX (Or.inl ⟨ht, cA, ?_, h2⟩)
  rw [e, arrV_store]
  congr 2
  funext i
  by_cases hi : i = j
  · subst hi
    simp only [updV, if_true]
    exact hv.symm
  · simp only [updV, if_neg hi]
    exact (hoth i hi).symm
theorem gb_loc {locs : List Loc} {a j : Nat} (hL : ∀ q ∈ locs, B ≤ q.base) : ∀ q ∈ locs ++ [(⟨B + a, j⟩ : Loc)], B ≤ q.base := by
  intro q hq
  rcases List.mem_append.mp hq with h | h
  · exact hL q h
  · rw [List.mem_singleton.mp h]
    exact Nat.le_add_right _ _
theorem gb_n_iastore (C : gb_Ctx p R s m args meth c k) (h : gb_chk k (.iastore, pc, nx) = true) (hs : gb_stp .iastore ls st P g = gb_nx ls' st' P' g') (kk : gb_Go p l e R s m args below meth c D b B k Q (cells) (slots) (ls') (st') (nx) (P') (g')) : gb_Go p l e R s m args below meth c D b B k Q (cells) (slots) (ls) (st) (pc) (P) (g) := by
  obtain ⟨hx, hb, -⟩ := C
  obtain ⟨ci, len, hd, h⟩ := gb_chk_spec h
  simp only [gb_chkI, decide_eq_true_eq] at h
  obtain ⟨rfl, rfl, rfl⟩ := h
  simp only [gb_stp] at hs
  split at hs
  · split at hs
    · rename_i htag
      split at hs
      · cases hs
      · rename_i ho
        cases hs
        intro H locs lsC hl hR hL
        obtain ⟨hp, cA, h1, h2⟩ := gb_arr hR htag (by omega)
        have hin := gb_oob ho
        refine W.iast hx hb h1 (h2 _ _) (fun q => by cases q) (by rw [arrV_size]; exact hin) rfl rfl hd (fun H1 f1 f2 f3 => kk H1 _ lsC hl (gb_arr_set hR hp (by omega) h2 f1 f2 f3 (fun i hi => gb_same_sI hi) rfl ?_ (fun i hi => ?_)) (gb_loc hL))
        · simp only [gb_av, gI_sI, ix, and_self, if_true]
        · simp only [gb_av, gI_sI, ix, if_neg (fun q : _ ∧ i = _ => hi q.2)]
    · cases hs
  · cases hs
theorem gb_n_lastore (C : gb_Ctx p R s m args meth c k) (h : gb_chk k (.lastore, pc, nx) = true) (hs : gb_stp .lastore ls st P g = gb_nx ls' st' P' g') (kk : gb_Go p l e R s m args below meth c D b B k Q (cells) (slots) (ls') (st') (nx) (P') (g')) : gb_Go p l e R s m args below meth c D b B k Q (cells) (slots) (ls) (st) (pc) (P) (g) := by
  obtain ⟨hx, hb, -⟩ := C
  obtain ⟨ci, len, hd, h⟩ := gb_chk_spec h
  simp only [gb_chkI, decide_eq_true_eq] at h
  obtain ⟨rfl, rfl, rfl⟩ := h
  simp only [gb_stp] at hs
  split at hs
  · split at hs
    · rename_i htag
      split at hs
      · cases hs
      · rename_i ho
        cases hs
        intro H locs lsC hl hR hL
        obtain ⟨hp, cA, h1, h2⟩ := gb_arr hR htag (by omega)
        have hin := gb_oob ho
        refine W.last hx hb h1 (h2 _ _) (fun q => by cases q) (by rw [arrV_size]; exact hin) rfl rfl hd (fun H1 f1 f2 f3 => kk H1 _ lsC hl (gb_arr_set hR hp (by omega) h2 f1 f2 f3 (fun i hi => gb_same_sL hi) rfl ?_ (fun i hi => ?_)) (gb_loc hL))
        · simp only [gb_av, gL_sL, ix, and_self, if_true]
        · simp only [gb_av, gL_sL, ix, if_neg (fun q : _ ∧ i = _ => hi q.2)]
    · cases hs
  · cases hs
theorem gb_n_bastore (C : gb_Ctx p R s m args meth c k) (h : gb_chk k (.bastore, pc, nx) = true) (hs : gb_stp .bastore ls st P g = gb_nx ls' st' P' g') (kk : gb_Go p l e R s m args below meth c D b B k Q (cells) (slots) (ls') (st') (nx) (P') (g')) : gb_Go p l e R s m args below meth c D b B k Q (cells) (slots) (ls) (st) (pc) (P) (g) := by
  obtain ⟨hx, hb, -⟩ := C
  obtain ⟨ci, len, hd, h⟩ := gb_chk_spec h
  simp only [gb_chkI, decide_eq_true_eq] at h
  obtain ⟨rfl, rfl, rfl⟩ := h
  simp only [gb_stp] at hs
  split at hs
  · split at hs
    · rename_i htag
      split at hs
      · cases hs
      · rename_i ho
        cases hs
        intro H locs lsC hl hR hL
        obtain ⟨hp, cA, h1, h2⟩ := gb_arr hR htag (by omega)
        have hin := gb_oob ho
        refine W.bast hx hb h1 (h2 _ _) (fun q => by cases q) (by rw [arrV_size]; exact hin) rfl rfl hd (fun H1 f1 f2 f3 => kk H1 _ lsC hl (gb_arr_set hR hp (by omega) h2 f1 f2 f3 (fun i hi => gb_same_sI hi) rfl ?_ (fun i hi => ?_)) (gb_loc hL))
        · simp only [gb_av, gI_sI, ix, and_self, if_true, narrow]
        · simp only [gb_av, gI_sI, ix, if_neg (fun q : _ ∧ i = _ => hi q.2)]
    · split at hs
      · rename_i htag
        split at hs
        · cases hs
        · rename_i ho
          cases hs
          intro H locs lsC hl hR hL
          obtain ⟨hp, cA, h1, h2⟩ := gb_arr hR htag (by omega)
          have hin := gb_oob ho
          refine W.zast hx hb h1 (h2 _ _) (fun q => by cases q) (by rw [arrV_size]; exact hin) rfl rfl hd (fun H1 f1 f2 f3 => kk H1 _ lsC hl (gb_arr_set hR hp (by omega) h2 f1 f2 f3 (fun i hi => gb_same_sI hi) rfl ?_ (fun i hi => ?_)) (gb_loc hL))
          · simp only [gb_av, gI_sI, ix, and_self, if_true, narrow]
          · simp only [gb_av, gI_sI, ix, if_neg (fun q : _ ∧ i = _ => hi q.2)]
      · cases hs
  · cases hs
end GBH
