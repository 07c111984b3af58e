def gb_Ctx (p : Program) (R : Room) (s : State) (m : MethodId) (args : Array Value) (meth : Method) (c : Code) (k : Nat) : Prop :=
  p.tables.exec = Jvm.exec ∧ c.code = (gb_met k).2.1 ∧ meth.sig.returnType = (gb_met k).2.2 ∧ c.maxLocals = (gb_inf k).1 ∧ s.vm.findClass (gb_own (gb_mo k)) = some m.cls ∧ (∀ w ∈ lw_tbl, goodWord w = true → w.before args s = true) ∧ ((gb_inf k).2.1 = 2 → meth.name = "<init>") ∧ (gb_inf k).2.2.2.2.1 ≤ R.frames ∧ (gb_inf k).2.2.2.2.2 ≤ R.locals ∧ meth.locks = false
/-- from every heap that holds the machine's state the walk goes on -/
def gb_Go (p : Program) (l : Launch) (e : Env) (R : Room) (s : State) (m : MethodId) (args : Array Value) (below : List Frame) (meth : Method) (c : Code) (D : va_G) (b B k : Nat) (Q : State → Prop) (cells slots : Nat) (ls st : List Value) (pc : Nat) (P : gb_Pi) (g : gb_Sg) : Prop :=
  ∀ (H : Heap) (locs : List Loc) (lsC : Array Slot), gb_lv b B lsC (gb_inf k).1 ls → gb_Rep D b B s H P g → (∀ q ∈ locs, B ≤ q.base) → W p l e R s m args below meth c H locs cells slots Q (F0 m pc lsC (st.map (gb_cv b B)))
theorem gb_chk_spec {k pc nx : Nat} {i : Instr} (h : gb_chk k (i, pc, nx) = true) : ∃ ci len, decode (gb_met k).2.1 pc = .ok (ci, len) ∧ gb_chkI k (gb_pcs k) pc nx i ci len = true := by
  unfold gb_chk at h
  dsimp only at h
  split at h
  · rename_i ci len hd
    exact ⟨ci, len, hd, h⟩
  · cases h
section GBN
variable {p : Program} {l : Launch} {e : Env} {R : Room} {s : State} {m : MethodId} {args : Array Value} {below : List Frame} {meth : Method} {c : Code} {D : va_G} {b B k : Nat} {Q : State → Prop} {cells slots pc nx : Nat} {ls st ls' st' : List Value} {P P' : gb_Pi} {g g' : gb_Sg}
theorem gb_n_iadd (C : gb_Ctx p R s m args meth c k) (h : gb_chk k (.iadd, pc, nx) = true) (hs : gb_stp .iadd ls st P g = gb_nx ls' st' P' g') (kk : gb_Go p l e R s m args below meth c D b B k Q (cells) (slots) (ls') (st') (nx) (P') (g')) : gb_Go p l e R s m args below meth c D b B k Q (cells) (slots) (ls) (st) (pc) (P) (g) := by
  obtain ⟨hx, hb, -⟩ := C
  obtain ⟨ci, len, hd, h⟩ := gb_chk_spec h
  simp only [gb_chkI, decide_eq_true_eq] at h
  obtain ⟨rfl, rfl, rfl⟩ := h
  simp only [gb_stp] at hs
  split at hs
  · cases hs
    exact fun H locs lsC hl hR hL => lv_iadd hx hb hd (kk H locs lsC hl hR hL)
  · cases hs
theorem gb_n_isub (C : gb_Ctx p R s m args meth c k) (h : gb_chk k (.isub, pc, nx) = true) (hs : gb_stp .isub ls st P g = gb_nx ls' st' P' g') (kk : gb_Go p l e R s m args below meth c D b B k Q (cells) (slots) (ls') (st') (nx) (P') (g')) : gb_Go p l e R s m args below meth c D b B k Q (cells) (slots) (ls) (st) (pc) (P) (g) := by
  obtain ⟨hx, hb, -⟩ := C
  obtain ⟨ci, len, hd, h⟩ := gb_chk_spec h
  simp only [gb_chkI, decide_eq_true_eq] at h
  obtain ⟨rfl, rfl, rfl⟩ := h
  simp only [gb_stp] at hs
  split at hs
  · cases hs
    exact fun H locs lsC hl hR hL => lv_isub hx hb hd (kk H locs lsC hl hR hL)
  · cases hs
theorem gb_n_imul (C : gb_Ctx p R s m args meth c k) (h : gb_chk k (.imul, pc, nx) = true) (hs : gb_stp .imul ls st P g = gb_nx ls' st' P' g') (kk : gb_Go p l e R s m args below meth c D b B k Q (cells) (slots) (ls') (st') (nx) (P') (g')) : gb_Go p l e R s m args below meth c D b B k Q (cells) (slots) (ls) (st) (pc) (P) (g) := by
  obtain ⟨hx, hb, -⟩ := C
  obtain ⟨ci, len, hd, h⟩ := gb_chk_spec h
  simp only [gb_chkI, decide_eq_true_eq] at h
  obtain ⟨rfl, rfl, rfl⟩ := h
  simp only [gb_stp] at hs
  split at hs
  · cases hs
    exact fun H locs lsC hl hR hL => lv_imul hx hb hd (kk H locs lsC hl hR hL)
  · cases hs
theorem gb_n_iand (C : gb_Ctx p R s m args meth c k) (h : gb_chk k (.iand, pc, nx) = true) (hs : gb_stp .iand ls st P g = gb_nx ls' st' P' g') (kk : gb_Go p l e R s m args below meth c D b B k Q (cells) (slots) (ls') (st') (nx) (P') (g')) : gb_Go p l e R s m args below meth c D b B k Q (cells) (slots) (ls) (st) (pc) (P) (g) := by
  obtain ⟨hx, hb, -⟩ := C
  obtain ⟨ci, len, hd, h⟩ := gb_chk_spec h
  simp only [gb_chkI, decide_eq_true_eq] at h
  obtain ⟨rfl, rfl, rfl⟩ := h
  simp only [gb_stp] at hs
  split at hs
  · cases hs
    exact fun H locs lsC hl hR hL => lv_iand hx hb hd (kk H locs lsC hl hR hL)
  · cases hs
theorem gb_n_ior (C : gb_Ctx p R s m args meth c k) (h : gb_chk k (.ior, pc, nx) = true) (hs : gb_stp .ior ls st P g = gb_nx ls' st' P' g') (kk : gb_Go p l e R s m args below meth c D b B k Q (cells) (slots) (ls') (st') (nx) (P') (g')) : gb_Go p l e R s m args below meth c D b B k Q (cells) (slots) (ls) (st) (pc) (P) (g) := by
  obtain ⟨hx, hb, -⟩ := C
  obtain ⟨ci, len, hd, h⟩ := gb_chk_spec h
  simp only [gb_chkI, decide_eq_true_eq] at h
  obtain ⟨rfl, rfl, rfl⟩ := h
  simp only [gb_stp] at hs
  split at hs
  · cases hs
    exact fun H locs lsC hl hR hL => lv_ior hx hb hd (kk H locs lsC hl hR hL)
  · cases hs
theorem gb_n_ixor (C : gb_Ctx p R s m args meth c k) (h : gb_chk k (.ixor, pc, nx) = true) (hs : gb_stp .ixor ls st P g = gb_nx ls' st' P' g') (kk : gb_Go p l e R s m args below meth c D b B k Q (cells) (slots) (ls') (st') (nx) (P') (g')) : gb_Go p l e R s m args below meth c D b B k Q (cells) (slots) (ls) (st) (pc) (P) (g) := by
  obtain ⟨hx, hb, -⟩ := C
  obtain ⟨ci, len, hd, h⟩ := gb_chk_spec h
  simp only [gb_chkI, decide_eq_true_eq] at h
  obtain ⟨rfl, rfl, rfl⟩ := h
  simp only [gb_stp] at hs
  split at hs
  · cases hs
    exact fun H locs lsC hl hR hL => lv_ixor hx hb hd (kk H locs lsC hl hR hL)
  · cases hs
theorem gb_n_ishl (C : gb_Ctx p R s m args meth c k) (h : gb_chk k (.ishl, pc, nx) = true) (hs : gb_stp .ishl ls st P g = gb_nx ls' st' P' g') (kk : gb_Go p l e R s m args below meth c D b B k Q (cells) (slots) (ls') (st') (nx) (P') (g')) : gb_Go p l e R s m args below meth c D b B k Q (cells) (slots) (ls) (st) (pc) (P) (g) := by
  obtain ⟨hx, hb, -⟩ := C
  obtain ⟨ci, len, hd, h⟩ := gb_chk_spec h
  simp only [gb_chkI, decide_eq_true_eq] at h
  obtain ⟨rfl, rfl, rfl⟩ := h
  simp only [gb_stp] at hs
  split at hs
  · cases hs
    exact fun H locs lsC hl hR hL => lv_ishl hx hb hd (kk H locs lsC hl hR hL)
  · cases hs
theorem gb_n_ishr (C : gb_Ctx p R s m args meth c k) (h : gb_chk k (.ishr, pc, nx) = true) (hs : gb_stp .ishr ls st P g = gb_nx ls' st' P' g') (kk : gb_Go p l e R s m args below meth c D b B k Q (cells) (slots) (ls') (st') (nx) (P') (g')) : gb_Go p l e R s m args below meth c D b B k Q (cells) (slots) (ls) (st) (pc) (P) (g) := by
  obtain ⟨hx, hb, -⟩ := C
  obtain ⟨ci, len, hd, h⟩ := gb_chk_spec h
  simp only [gb_chkI, decide_eq_true_eq] at h
  obtain ⟨rfl, rfl, rfl⟩ := h
  simp only [gb_stp] at hs
  split at hs
  · cases hs
    exact fun H locs lsC hl hR hL => lv_ishr hx hb hd (kk H locs lsC hl hR hL)
  · cases hs
theorem gb_n_ladd (C : gb_Ctx p R s m args meth c k) (h : gb_chk k (.ladd, pc, nx) = true) (hs : gb_stp .ladd ls st P g = gb_nx ls' st' P' g') (kk : gb_Go p l e R s m args below meth c D b B k Q (cells) (slots) (ls') (st') (nx) (P') (g')) : gb_Go p l e R s m args below meth c D b B k Q (cells) (slots) (ls) (st) (pc) (P) (g) := by
  obtain ⟨hx, hb, -⟩ := C
  obtain ⟨ci, len, hd, h⟩ := gb_chk_spec h
  simp only [gb_chkI, decide_eq_true_eq] at h
  obtain ⟨rfl, rfl, rfl⟩ := h
  simp only [gb_stp] at hs
  split at hs
  · cases hs
    exact fun H locs lsC hl hR hL => lv_ladd hx hb hd (kk H locs lsC hl hR hL)
  · cases hs
theorem gb_n_lsub (C : gb_Ctx p R s m args meth c k) (h : gb_chk k (.lsub, pc, nx) = true) (hs : gb_stp .lsub ls st P g = gb_nx ls' st' P' g') (kk : gb_Go p l e R s m args below meth c D b B k Q (cells) (slots) (ls') (st') (nx) (P') (g')) : gb_Go p l e R s m args below meth c D b B k Q (cells) (slots) (ls) (st) (pc) (P) (g) := by
  obtain ⟨hx, hb, -⟩ := C
  obtain ⟨ci, len, hd, h⟩ := gb_chk_spec h
  simp only [gb_chkI, decide_eq_true_eq] at h
  obtain ⟨rfl, rfl, rfl⟩ := h
  simp only [gb_stp] at hs
  split at hs
  · cases hs
    exact fun H locs lsC hl hR hL => lv_lsub hx hb hd (kk H locs lsC hl hR hL)
  · cases hs
theorem gb_n_lmul (C : gb_Ctx p R s m args meth c k) (h : gb_chk k (.lmul, pc, nx) = true) (hs : gb_stp .lmul ls st P g = gb_nx ls' st' P' g') (kk : gb_Go p l e R s m args below meth c D b B k Q (cells) (slots) (ls') (st') (nx) (P') (g')) : gb_Go p l e R s m args below meth c D b B k Q (cells) (slots) (ls) (st) (pc) (P) (g) := by
  obtain ⟨hx, hb, -⟩ := C
  obtain ⟨ci, len, hd, h⟩ := gb_chk_spec h
  simp only [gb_chkI, decide_eq_true_eq] at h
  obtain ⟨rfl, rfl, rfl⟩ := h
  simp only [gb_stp] at hs
  split at hs
  · cases hs
    exact fun H locs lsC hl hR hL => lv_lmul hx hb hd (kk H locs lsC hl hR hL)
  · cases hs
theorem gb_n_land (C : gb_Ctx p R s m args meth c k) (h : gb_chk k (.land, pc, nx) = true) (hs : gb_stp .land ls st P g = gb_nx ls' st' P' g') (kk : gb_Go p l e R s m args below meth c D b B k Q (cells) (slots) (ls') (st') (nx) (P') (g')) : gb_Go p l e R s m args below meth c D b B k Q (cells) (slots) (ls) (st) (pc) (P) (g) := by
  obtain ⟨hx, hb, -⟩ := C
  obtain ⟨ci, len, hd, h⟩ := gb_chk_spec h
  simp only [gb_chkI, decide_eq_true_eq] at h
  obtain ⟨rfl, rfl, rfl⟩ := h
  simp only [gb_stp] at hs
  split at hs
  · cases hs
    exact fun H locs lsC hl hR hL => lv_land hx hb hd (kk H locs lsC hl hR hL)
  · cases hs
theorem gb_n_lor (C : gb_Ctx p R s m args meth c k) (h : gb_chk k (.lor, pc, nx) = true) (hs : gb_stp .lor ls st P g = gb_nx ls' st' P' g') (kk : gb_Go p l e R s m args below meth c D b B k Q (cells) (slots) (ls') (st') (nx) (P') (g')) : gb_Go p l e R s m args below meth c D b B k Q (cells) (slots) (ls) (st) (pc) (P) (g) := by
  obtain ⟨hx, hb, -⟩ := C
  obtain ⟨ci, len, hd, h⟩ := gb_chk_spec h
  simp only [gb_chkI, decide_eq_true_eq] at h
  obtain ⟨rfl, rfl, rfl⟩ := h
  simp only [gb_stp] at hs
  split at hs
  · cases hs
    exact fun H locs lsC hl hR hL => lv_lor hx hb hd (kk H locs lsC hl hR hL)
  · cases hs
theorem gb_n_ineg (C : gb_Ctx p R s m args meth c k) (h : gb_chk k (.ineg, pc, nx) = true) (hs : gb_stp .ineg ls st P g = gb_nx ls' st' P' g') (kk : gb_Go p l e R s m args below meth c D b B k Q (cells) (slots) (ls') (st') (nx) (P') (g')) : gb_Go p l e R s m args below meth c D b B k Q (cells) (slots) (ls) (st) (pc) (P) (g) := by
  obtain ⟨hx, hb, -⟩ := C
  obtain ⟨ci, len, hd, h⟩ := gb_chk_spec h
  simp only [gb_chkI, decide_eq_true_eq] at h
  obtain ⟨rfl, rfl, rfl⟩ := h
  simp only [gb_stp] at hs
  split at hs
  · cases hs
    exact fun H locs lsC hl hR hL => lv_ineg hx hb hd (kk H locs lsC hl hR hL)
  · cases hs
theorem gb_n_iushr (C : gb_Ctx p R s m args meth c k) (h : gb_chk k (.iushr, pc, nx) = true) (hs : gb_stp .iushr ls st P g = gb_nx ls' st' P' g') (kk : gb_Go p l e R s m args below meth c D b B k Q (cells) (slots) (ls') (st') (nx) (P') (g')) : gb_Go p l e R s m args below meth c D b B k Q (cells) (slots) (ls) (st) (pc) (P) (g) := by
  obtain ⟨hx, hb, -⟩ := C
  obtain ⟨ci, len, hd, h⟩ := gb_chk_spec h
  simp only [gb_chkI, decide_eq_true_eq] at h
  obtain ⟨rfl, rfl, rfl⟩ := h
  simp only [gb_stp] at hs
  split at hs
  · cases hs
    exact fun H locs lsC hl hR hL => lv_iushr hx hb hd rfl (kk H locs lsC hl hR hL)
  · cases hs
theorem gb_n_lushr (C : gb_Ctx p R s m args meth c k) (h : gb_chk k (.lushr, pc, nx) = true) (hs : gb_stp .lushr ls st P g = gb_nx ls' st' P' g') (kk : gb_Go p l e R s m args below meth c D b B k Q (cells) (slots) (ls') (st') (nx) (P') (g')) : gb_Go p l e R s m args below meth c D b B k Q (cells) (slots) (ls) (st) (pc) (P) (g) := by
  obtain ⟨hx, hb, -⟩ := C
  obtain ⟨ci, len, hd, h⟩ := gb_chk_spec h
  simp only [gb_chkI, decide_eq_true_eq] at h
  obtain ⟨rfl, rfl, rfl⟩ := h
  simp only [gb_stp] at hs
  split at hs
  · cases hs
    exact fun H locs lsC hl hR hL => lv_lushr hx hb hd rfl (kk H locs lsC hl hR hL)
  · cases hs
theorem gb_n_lshl (C : gb_Ctx p R s m args meth c k) (h : gb_chk k (.lshl, pc, nx) = true) (hs : gb_stp .lshl ls st P g = gb_nx ls' st' P' g') (kk : gb_Go p l e R s m args below meth c D b B k Q (cells) (slots) (ls') (st') (nx) (P') (g')) : gb_Go p l e R s m args below meth c D b B k Q (cells) (slots) (ls) (st) (pc) (P) (g) := by
  obtain ⟨hx, hb, -⟩ := C
  obtain ⟨ci, len, hd, h⟩ := gb_chk_spec h
  simp only [gb_chkI, decide_eq_true_eq] at h
  obtain ⟨rfl, rfl, rfl⟩ := h
  simp only [gb_stp] at hs
  split at hs
  · cases hs
    exact fun H locs lsC hl hR hL => lv_lshl hx hb hd rfl (kk H locs lsC hl hR hL)
  · cases hs
theorem gb_n_lshr (C : gb_Ctx p R s m args meth c k) (h : gb_chk k (.lshr, pc, nx) = true) (hs : gb_stp .lshr ls st P g = gb_nx ls' st' P' g') (kk : gb_Go p l e R s m args below meth c D b B k Q (cells) (slots) (ls') (st') (nx) (P') (g')) : gb_Go p l e R s m args below meth c D b B k Q (cells) (slots) (ls) (st) (pc) (P) (g) := by
  obtain ⟨hx, hb, -⟩ := C
  obtain ⟨ci, len, hd, h⟩ := gb_chk_spec h
  simp only [gb_chkI, decide_eq_true_eq] at h
  obtain ⟨rfl, rfl, rfl⟩ := h
  simp only [gb_stp] at hs
  split at hs
  · cases hs
    exact fun H locs lsC hl hR hL => lv_lshr hx hb hd rfl (kk H locs lsC hl hR hL)
  · cases hs
theorem gb_n_i2l (C : gb_Ctx p R s m args meth c k) (h : gb_chk k (.i2l, pc, nx) = true) (hs : gb_stp .i2l ls st P g = gb_nx ls' st' P' g') (kk : gb_Go p l e R s m args below meth c D b B k Q (cells) (slots) (ls') (st') (nx) (P') (g')) : gb_Go p l e R s m args below meth c D b B k Q (cells) (slots) (ls) (st) (pc) (P) (g) := by
  obtain ⟨hx, hb, -⟩ := C
  obtain ⟨ci, len, hd, h⟩ := gb_chk_spec h
  simp only [gb_chkI, decide_eq_true_eq] at h
  obtain ⟨rfl, rfl, rfl⟩ := h
  simp only [gb_stp] at hs
  split at hs
  · cases hs
    exact fun H locs lsC hl hR hL => lv_i2l hx hb hd rfl (kk H locs lsC hl hR hL)
  · cases hs
theorem gb_n_l2i (C : gb_Ctx p R s m args meth c k) (h : gb_chk k (.l2i, pc, nx) = true) (hs : gb_stp .l2i ls st P g = gb_nx ls' st' P' g') (kk : gb_Go p l e R s m args below meth c D b B k Q (cells) (slots) (ls') (st') (nx) (P') (g')) : gb_Go p l e R s m args below meth c D b B k Q (cells) (slots) (ls) (st) (pc) (P) (g) := by
  obtain ⟨hx, hb, -⟩ := C
  obtain ⟨ci, len, hd, h⟩ := gb_chk_spec h
  simp only [gb_chkI, decide_eq_true_eq] at h
  obtain ⟨rfl, rfl, rfl⟩ := h
  simp only [gb_stp] at hs
  split at hs
  · cases hs
    exact fun H locs lsC hl hR hL => lv_l2i hx hb hd rfl (kk H locs lsC hl hR hL)
  · cases hs
theorem gb_n_i2b (C : gb_Ctx p R s m args meth c k) (h : gb_chk k (.i2b, pc, nx) = true) (hs : gb_stp .i2b ls st P g = gb_nx ls' st' P' g') (kk : gb_Go p l e R s m args below meth c D b B k Q (cells) (slots) (ls') (st') (nx) (P') (g')) : gb_Go p l e R s m args below meth c D b B k Q (cells) (slots) (ls) (st) (pc) (P) (g) := by
  obtain ⟨hx, hb, -⟩ := C
  obtain ⟨ci, len, hd, h⟩ := gb_chk_spec h
  simp only [gb_chkI, decide_eq_true_eq] at h
  obtain ⟨rfl, rfl, rfl⟩ := h
  simp only [gb_stp] at hs
  split at hs
  · cases hs
    exact fun H locs lsC hl hR hL => lv_i2b hx hb hd rfl (kk H locs lsC hl hR hL)
  · cases hs
theorem gb_n_lcmp (C : gb_Ctx p R s m args meth c k) (h : gb_chk k (.lcmp, pc, nx) = true) (hs : gb_stp .lcmp ls st P g = gb_nx ls' st' P' g') (kk : gb_Go p l e R s m args below meth c D b B k Q (cells) (slots) (ls') (st') (nx) (P') (g')) : gb_Go p l e R s m args below meth c D b B k Q (cells) (slots) (ls) (st) (pc) (P) (g) := by
  obtain ⟨hx, hb, -⟩ := C
  obtain ⟨ci, len, hd, h⟩ := gb_chk_spec h
  simp only [gb_chkI, decide_eq_true_eq] at h
  obtain ⟨rfl, rfl, rfl⟩ := h
  simp only [gb_stp] at hs
  split at hs
  · cases hs
    exact fun H locs lsC hl hR hL => W.lcmp hx hb hd (kk H locs lsC hl hR hL)
  · cases hs
theorem gb_n_idiv (C : gb_Ctx p R s m args meth c k) (h : gb_chk k (.idiv, pc, nx) = true) (hs : gb_stp .idiv ls st P g = gb_nx ls' st' P' g') (kk : gb_Go p l e R s m args below meth c D b B k Q (cells) (slots) (ls') (st') (nx) (P') (g')) : gb_Go p l e R s m args below meth c D b B k Q (cells) (slots) (ls) (st) (pc) (P) (g) := by
  obtain ⟨hx, hb, -⟩ := C
  obtain ⟨ci, len, hd, h⟩ := gb_chk_spec h
  simp only [gb_chkI, decide_eq_true_eq] at h
  obtain ⟨rfl, rfl, rfl⟩ := h
  simp only [gb_stp] at hs
  split at hs
  · split at hs
    · cases hs
    · rename_i hne
      cases hs
      exact fun H locs lsC hl hR hL => lv_idiv hx hb hd hne (kk H locs lsC hl hR hL)
  · cases hs
theorem gb_n_irem (C : gb_Ctx p R s m args meth c k) (h : gb_chk k (.irem, pc, nx) = true) (hs : gb_stp .irem ls st P g = gb_nx ls' st' P' g') (kk : gb_Go p l e R s m args below meth c D b B k Q (cells) (slots) (ls') (st') (nx) (P') (g')) : gb_Go p l e R s m args below meth c D b B k Q (cells) (slots) (ls) (st) (pc) (P) (g) := by
  obtain ⟨hx, hb, -⟩ := C
  obtain ⟨ci, len, hd, h⟩ := gb_chk_spec h
  simp only [gb_chkI, decide_eq_true_eq] at h
  obtain ⟨rfl, rfl, rfl⟩ := h
  simp only [gb_stp] at hs
  split at hs
  · split at hs
    · cases hs
    · rename_i hne
      cases hs
      exact fun H locs lsC hl hR hL => lv_irem hx hb hd hne (kk H locs lsC hl hR hL)
  · cases hs
theorem gb_n_ldiv (C : gb_Ctx p R s m args meth c k) (h : gb_chk k (.ldiv, pc, nx) = true) (hs : gb_stp .ldiv ls st P g = gb_nx ls' st' P' g') (kk : gb_Go p l e R s m args below meth c D b B k Q (cells) (slots) (ls') (st') (nx) (P') (g')) : gb_Go p l e R s m args below meth c D b B k Q (cells) (slots) (ls) (st) (pc) (P) (g) := by
  obtain ⟨hx, hb, -⟩ := C
  obtain ⟨ci, len, hd, h⟩ := gb_chk_spec h
  simp only [gb_chkI, decide_eq_true_eq] at h
  obtain ⟨rfl, rfl, rfl⟩ := h
  simp only [gb_stp] at hs
  split at hs
  · split at hs
    · cases hs
    · rename_i hne
      cases hs
      exact fun H locs lsC hl hR hL => lv_ldiv hx hb hd hne (kk H locs lsC hl hR hL)
  · cases hs
theorem gb_n_lrem (C : gb_Ctx p R s m args meth c k) (h : gb_chk k (.lrem, pc, nx) = true) (hs : gb_stp .lrem ls st P g = gb_nx ls' st' P' g') (kk : gb_Go p l e R s m args below meth c D b B k Q (cells) (slots) (ls') (st') (nx) (P') (g')) : gb_Go p l e R s m args below meth c D b B k Q (cells) (slots) (ls) (st) (pc) (P) (g) := by
  obtain ⟨hx, hb, -⟩ := C
  obtain ⟨ci, len, hd, h⟩ := gb_chk_spec h
  simp only [gb_chkI, decide_eq_true_eq] at h
  obtain ⟨rfl, rfl, rfl⟩ := h
  simp only [gb_stp] at hs
  split at hs
  · split at hs
    · cases hs
    · rename_i hne
      cases hs
      exact fun H locs lsC hl hR hL => lv_lrem hx hb hd hne (kk H locs lsC hl hR hL)
  · cases hs
theorem gb_n_dup (C : gb_Ctx p R s m args meth c k) (h : gb_chk k (.dup, pc, nx) = true) (hs : gb_stp .dup ls st P g = gb_nx ls' st' P' g') (kk : gb_Go p l e R s m args below meth c D b B k Q (cells) (slots) (ls') (st') (nx) (P') (g')) : gb_Go p l e R s m args below meth c D b B k Q (cells) (slots) (ls) (st) (pc) (P) (g) := by
  obtain ⟨hx, hb, -⟩ := C
  obtain ⟨ci, len, hd, h⟩ := gb_chk_spec h
  simp only [gb_chkI, decide_eq_true_eq] at h
  obtain ⟨rfl, rfl, rfl⟩ := h
  simp only [gb_stp] at hs
  split at hs
  · cases hs
    exact fun H locs lsC hl hR hL => lv_dup hx hb hd rfl (kk H locs lsC hl hR hL)
  · cases hs
    exact fun H locs lsC hl hR hL => lv_dup hx hb hd rfl (kk H locs lsC hl hR hL)
  · cases hs
theorem gb_n_dup2 (C : gb_Ctx p R s m args meth c k) (h : gb_chk k (.dup2, pc, nx) = true) (hs : gb_stp .dup2 ls st P g = gb_nx ls' st' P' g') (kk : gb_Go p l e R s m args below meth c D b B k Q (cells) (slots) (ls') (st') (nx) (P') (g')) : gb_Go p l e R s m args below meth c D b B k Q (cells) (slots) (ls) (st) (pc) (P) (g) := by
  obtain ⟨hx, hb, -⟩ := C
  obtain ⟨ci, len, hd, h⟩ := gb_chk_spec h
  simp only [gb_chkI, decide_eq_true_eq] at h
  obtain ⟨rfl, rfl, rfl⟩ := h
  simp only [gb_stp] at hs
  split at hs
  · cases hs
    exact fun H locs lsC hl hR hL => lv_dup2_11 hx hb hd rfl rfl (kk H locs lsC hl hR hL)
  · cases hs
theorem gb_n_iload {i : Nat} (C : gb_Ctx p R s m args meth c k) (h : gb_chk k (.iload i, pc, nx) = true) (hs : gb_stp (.iload i) ls st P g = gb_nx ls' st' P' g') (kk : gb_Go p l e R s m args below meth c D b B k Q (cells) (slots) (ls') (st') (nx) (P') (g')) : gb_Go p l e R s m args below meth c D b B k Q (cells) (slots) (ls) (st) (pc) (P) (g) := by
  obtain ⟨hx, hb, -⟩ := C
  obtain ⟨ci, len, hd, h⟩ := gb_chk_spec h
  simp only [gb_stp] at hs
  split at hs
  · rename_i x hv
    cases hs
    simp only [gb_chkI] at h
    split at h
    · simp only [decide_eq_true_eq] at h
      obtain ⟨rfl, rfl, rfl⟩ := h
      exact fun H locs lsC hl hR hL => lv_iload hx hb hd (gb_lv_at hl hv rfl) (kk H locs lsC hl hR hL)
    · simp only [decide_eq_true_eq] at h
      obtain ⟨rfl, rfl, rfl⟩ := h
      exact fun H locs lsC hl hR hL => lv_iload_n hx hb hd rfl (gb_lv_at hl hv rfl) (kk H locs lsC hl hR hL)
    · cases h
  · cases hs
theorem gb_n_lload {i : Nat} (C : gb_Ctx p R s m args meth c k) (h : gb_chk k (.lload i, pc, nx) = true) (hs : gb_stp (.lload i) ls st P g = gb_nx ls' st' P' g') (kk : gb_Go p l e R s m args below meth c D b B k Q (cells) (slots) (ls') (st') (nx) (P') (g')) : gb_Go p l e R s m args below meth c D b B k Q (cells) (slots) (ls) (st) (pc) (P) (g) := by
  obtain ⟨hx, hb, -⟩ := C
  obtain ⟨ci, len, hd, h⟩ := gb_chk_spec h
  simp only [gb_stp] at hs
  split at hs
  · rename_i x hv
    cases hs
    simp only [gb_chkI] at h
    split at h
    · simp only [decide_eq_true_eq] at h
      obtain ⟨rfl, rfl, rfl⟩ := h
      exact fun H locs lsC hl hR hL => lv_lload hx hb hd (gb_lv_at hl hv rfl) (kk H locs lsC hl hR hL)
    · simp only [decide_eq_true_eq] at h
      obtain ⟨rfl, rfl, rfl⟩ := h
      exact fun H locs lsC hl hR hL => lv_lload_n hx hb hd rfl (gb_lv_at hl hv rfl) (kk H locs lsC hl hR hL)
    · cases h
  · cases hs
theorem gb_n_aload {i : Nat} (C : gb_Ctx p R s m args meth c k) (h : gb_chk k (.aload i, pc, nx) = true) (hs : gb_stp (.aload i) ls st P g = gb_nx ls' st' P' g') (kk : gb_Go p l e R s m args below meth c D b B k Q (cells) (slots) (ls') (st') (nx) (P') (g')) : gb_Go p l e R s m args below meth c D b B k Q (cells) (slots) (ls) (st) (pc) (P) (g) := by
  obtain ⟨hx, hb, -⟩ := C
  obtain ⟨ci, len, hd, h⟩ := gb_chk_spec h
  simp only [gb_stp] at hs
  split at hs
  · rename_i x hv
    cases hs
    simp only [gb_chkI] at h
    split at h
    · simp only [decide_eq_true_eq] at h
      obtain ⟨rfl, rfl, rfl⟩ := h
      exact fun H locs lsC hl hR hL => lv_aload hx hb hd (gb_lv_at hl hv rfl) (kk H locs lsC hl hR hL)
    · simp only [decide_eq_true_eq] at h
      obtain ⟨rfl, rfl, rfl⟩ := h
      exact fun H locs lsC hl hR hL => lv_aload_n hx hb hd rfl (gb_lv_at hl hv rfl) (kk H locs lsC hl hR hL)
    · cases h
  · rename_i x hv
    cases hs
    simp only [gb_chkI] at h
    split at h
    · simp only [decide_eq_true_eq] at h
      obtain ⟨rfl, rfl, rfl⟩ := h
      exact fun H locs lsC hl hR hL => lv_aload hx hb hd (gb_lv_at hl hv rfl) (kk H locs lsC hl hR hL)
    · simp only [decide_eq_true_eq] at h
      obtain ⟨rfl, rfl, rfl⟩ := h
      exact fun H locs lsC hl hR hL => lv_aload_n hx hb hd rfl (gb_lv_at hl hv rfl) (kk H locs lsC hl hR hL)
    · cases h
  · cases hs
theorem gb_n_istore {i : Nat} (C : gb_Ctx p R s m args meth c k) (h : gb_chk k (.istore i, pc, nx) = true) (hs : gb_stp (.istore i) ls st P g = gb_nx ls' st' P' g') (kk : gb_Go p l e R s m args below meth c D b B k Q (cells) (slots) (ls') (st') (nx) (P') (g')) : gb_Go p l e R s m args below meth c D b B k Q (cells) (slots) (ls) (st) (pc) (P) (g) := by
  obtain ⟨hx, hb, -⟩ := C
  obtain ⟨ci, len, hd, h⟩ := gb_chk_spec h
  simp only [gb_stp] at hs
  split at hs
  · split at hs
    · rename_i hlt
      cases hs
      simp only [gb_chkI] at h
      split at h
      · simp only [decide_eq_true_eq] at h
        obtain ⟨rfl, rfl, rfl⟩ := h
        exact fun H locs lsC hl hR hL => lv_istore hx hb hd hl.2 (by rw [← hl.1]; exact hlt) rfl (fun ls2 h2 => kk H locs ls2 (gb_lv_st1 hl.1 (by rw [← hl.1]; exact hlt) rfl h2) hR hL)
      · simp only [decide_eq_true_eq] at h
        obtain ⟨rfl, rfl, rfl⟩ := h
        exact fun H locs lsC hl hR hL => lv_istore_n hx hb hd rfl hl.2 (by rw [← hl.1]; exact hlt) rfl (fun ls2 h2 => kk H locs ls2 (gb_lv_st1 hl.1 (by rw [← hl.1]; exact hlt) rfl h2) hR hL)
      · cases h
    · cases hs
  · cases hs
theorem gb_n_astore {i : Nat} (C : gb_Ctx p R s m args meth c k) (h : gb_chk k (.astore i, pc, nx) = true) (hs : gb_stp (.astore i) ls st P g = gb_nx ls' st' P' g') (kk : gb_Go p l e R s m args below meth c D b B k Q (cells) (slots) (ls') (st') (nx) (P') (g')) : gb_Go p l e R s m args below meth c D b B k Q (cells) (slots) (ls) (st) (pc) (P) (g) := by
  obtain ⟨hx, hb, -⟩ := C
  obtain ⟨ci, len, hd, h⟩ := gb_chk_spec h
  simp only [gb_stp] at hs
  split at hs
  · split at hs
    · rename_i hlt
      cases hs
      simp only [gb_chkI] at h
      split at h
      · simp only [decide_eq_true_eq] at h
        obtain ⟨rfl, rfl, rfl⟩ := h
        exact fun H locs lsC hl hR hL => lv_astore hx hb hd hl.2 (by rw [← hl.1]; exact hlt) rfl (fun ls2 h2 => kk H locs ls2 (gb_lv_st1 hl.1 (by rw [← hl.1]; exact hlt) rfl h2) hR hL)
      · simp only [decide_eq_true_eq] at h
        obtain ⟨rfl, rfl, rfl⟩ := h
        exact fun H locs lsC hl hR hL => lv_astore_n hx hb hd rfl hl.2 (by rw [← hl.1]; exact hlt) rfl (fun ls2 h2 => kk H locs ls2 (gb_lv_st1 hl.1 (by rw [← hl.1]; exact hlt) rfl h2) hR hL)
      · cases h
    · cases hs
  · cases hs
theorem gb_n_lstore {i : Nat} (C : gb_Ctx p R s m args meth c k) (h : gb_chk k (.lstore i, pc, nx) = true) (hs : gb_stp (.lstore i) ls st P g = gb_nx ls' st' P' g') (kk : gb_Go p l e R s m args below meth c D b B k Q (cells) (slots) (ls') (st') (nx) (P') (g')) : gb_Go p l e R s m args below meth c D b B k Q (cells) (slots) (ls) (st) (pc) (P) (g) := by
  obtain ⟨hx, hb, -⟩ := C
  obtain ⟨ci, len, hd, h⟩ := gb_chk_spec h
  simp only [gb_stp] at hs
  split at hs
  · split at hs
    · rename_i hlt
      cases hs
      simp only [gb_chkI] at h
      split at h
      · simp only [decide_eq_true_eq] at h
        obtain ⟨rfl, rfl, rfl⟩ := h
        exact fun H locs lsC hl hR hL => lv_lstore hx hb hd hl.2 (by rw [← hl.1]; exact hlt) rfl (fun ls2 h2 => kk H locs ls2 (gb_lv_st2 hl.1 (by rw [← hl.1]; exact hlt) rfl h2) hR hL)
      · simp only [decide_eq_true_eq] at h
        obtain ⟨rfl, rfl, rfl⟩ := h
        exact fun H locs lsC hl hR hL => lv_lstore_n hx hb hd rfl hl.2 (by rw [← hl.1]; exact hlt) rfl (fun ls2 h2 => kk H locs ls2 (gb_lv_st2 hl.1 (by rw [← hl.1]; exact hlt) rfl h2) hR hL)
      · cases h
    · cases hs
  · cases hs
theorem gb_n_iinc {i : Nat} {d : Int} (C : gb_Ctx p R s m args meth c k) (h : gb_chk k (.iinc i d, pc, nx) = true) (hs : gb_stp (.iinc i d) ls st P g = gb_nx ls' st' P' g') (kk : gb_Go p l e R s m args below meth c D b B k Q (cells) (slots) (ls') (st') (nx) (P') (g')) : gb_Go p l e R s m args below meth c D b B k Q (cells) (slots) (ls) (st) (pc) (P) (g) := by
  obtain ⟨hx, hb, -⟩ := C
  obtain ⟨ci, len, hd, h⟩ := gb_chk_spec h
  simp only [gb_stp] at hs
  split at hs
  · rename_i x hv
    cases hs
    have hi := (List.getElem?_eq_some_iff.mp hv).1
    simp only [gb_chkI] at h
    split at h
    · simp only [decide_eq_true_eq] at h
      obtain ⟨rfl, rfl, rfl, rfl⟩ := h
      intro H locs lsC hl hR hL
      obtain ⟨q, hq⟩ := List.getElem?_of_mem ((gb_al_mem (b := b) (B := B)).mpr ⟨_, hv, rfl, rfl⟩)
      exact lv_iinc hx hb hd hl.2 hq rfl (by rw [← hl.1]; exact hi) rfl (fun ls2 h2 => kk H locs ls2 (gb_lv_st1 hl.1 (by rw [← hl.1]; exact hi) rfl h2) hR hL)
    · cases h
  · cases hs
theorem gb_n_sipush {d : Int} (C : gb_Ctx p R s m args meth c k) (h : gb_chk k (.sipush d, pc, nx) = true) (hs : gb_stp (.sipush d) ls st P g = gb_nx ls' st' P' g') (kk : gb_Go p l e R s m args below meth c D b B k Q (cells) (slots) (ls') (st') (nx) (P') (g')) : gb_Go p l e R s m args below meth c D b B k Q (cells) (slots) (ls) (st) (pc) (P) (g) := by
  obtain ⟨hx, hb, -, -, hown, hts, -⟩ := C
  obtain ⟨ci, len, hd, h⟩ := gb_chk_spec h
  simp only [gb_stp] at hs
  cases hs
  simp only [gb_chkI] at h
  split at h
  · simp only [decide_eq_true_eq] at h
    obtain ⟨rfl, rfl, rfl⟩ := h
    exact fun H locs lsC hl hR hL => lv_iconst hx hb hd rfl (kk H locs lsC hl hR hL)
  · simp only [decide_eq_true_eq] at h
    obtain ⟨h1, rfl, rfl⟩ := h
    exact fun H locs lsC hl hR hL => lv_bipush hx hb hd h1 (kk H locs lsC hl hR hL)
  · simp only [decide_eq_true_eq] at h
    obtain ⟨h1, rfl, rfl⟩ := h
    exact fun H locs lsC hl hR hL => lv_sipush hx hb hd h1 (kk H locs lsC hl hR hL)
  · simp only [decide_eq_true_eq] at h
    obtain ⟨h1, rfl, rfl⟩ := h
    exact fun H locs lsC hl hR hL => lv_ldc hx hb hown (hts _ (gb_ctab_ok _ (gb_lk h1)) rfl) hd (kk H locs lsC hl hR hL)
  · simp only [decide_eq_true_eq] at h
    obtain ⟨h1, rfl, rfl⟩ := h
    exact fun H locs lsC hl hR hL => lv_ldcw hx hb hown (hts _ (gb_ctab_ok _ (gb_lk h1)) rfl) hd (kk H locs lsC hl hR hL)
  · cases h
theorem gb_n_bipush {d : Int} (C : gb_Ctx p R s m args meth c k) (h : gb_chk k (.bipush d, pc, nx) = true) (hs : gb_stp (.bipush d) ls st P g = gb_nx ls' st' P' g') (kk : gb_Go p l e R s m args below meth c D b B k Q (cells) (slots) (ls') (st') (nx) (P') (g')) : gb_Go p l e R s m args below meth c D b B k Q (cells) (slots) (ls) (st) (pc) (P) (g) := by
  obtain ⟨hx, hb, -, -, hown, hts, -⟩ := C
  obtain ⟨ci, len, hd, h⟩ := gb_chk_spec h
  simp only [gb_stp] at hs
  cases hs
  simp only [gb_chkI] at h
  split at h
  · simp only [decide_eq_true_eq] at h
    obtain ⟨h1, rfl, rfl⟩ := h
    exact fun H locs lsC hl hR hL => lv_lconst hx hb hd h1 (kk H locs lsC hl hR hL)
  · simp only [decide_eq_true_eq] at h
    obtain ⟨h1, rfl, rfl⟩ := h
    exact fun H locs lsC hl hR hL => lv_ldc2 hx hb hown (hts _ (gb_ltab_ok _ (gb_lk h1)) rfl) hd (kk H locs lsC hl hR hL)
  · cases h
end GBN
