/-! THE WALK: what the small machine does, the machine does -/
theorem gb_stp_app {i : Instr} {ls st ls' st' : List Value} {P P' : gb_Pi} {g g' : gb_Sg} (h : gb_stp i ls st P g = gb_nx ls' st' P' g') : ∃ Pn, P' = P ++ Pn := by
  cases i <;> simp only [gb_stp] at h <;> (repeat' split at h) <;> first | (cases h; exact ⟨[], (List.append_nil _).symm⟩) | (cases h; exact ⟨_, rfl⟩) | cases h
theorem gb_run_app : ∀ (n m : Nat) (r : List Instr) (ls st : List Value) (P : gb_Pi) (g : gb_Sg) (x : Value × gb_Pi × gb_Sg), gb_run n m r ls st P g = some x → ∃ Pn, x.2.1 = P ++ Pn
  | 0, _, _, _, _, _, _, _, h => by simp [gb_run] at h
  | n + 1, m, [], ls, st, P, g, x, h => by simp [gb_run] at h
  | n + 1, m, i :: r, ls, st, P, g, x, h => by
    rw [gb_run] at h
    generalize ho : gb_stp i ls st P g = o at h
    match o, ho, h with
    | some (.inl q), ho, h =>
      obtain ⟨P1, e1⟩ := gb_stp_app ho
      obtain ⟨P2, e2⟩ := gb_run_app n _ _ _ _ _ _ _ h
      exact ⟨P1 ++ P2, by rw [e2, e1, List.append_assoc]⟩
    | some (.inr (.inl q)), ho, h => exact gb_run_app n _ _ _ _ _ _ _ h
    | some (.inr (.inr (.inl v))), ho, h => cases h; exact ⟨[], (List.append_nil _).symm⟩
    | some (.inr (.inr (.inr q))), ho, h =>
      dsimp only at h
      cases h1 : gb_run n q.1 (gb_prog q.1) (gb_ent (gb_inf q.1).1 (q.2.2.take q.2.1).reverse) [] P g with
      | none => rw [h1] at h; cases h
      | some w =>
        rw [h1] at h
        obtain ⟨P1, e1⟩ := gb_run_app n _ _ _ _ _ _ _ h1
        obtain ⟨P2, e2⟩ := gb_run_app n _ _ _ _ _ _ _ h
        exact ⟨P1 ++ P2, by rw [e2, e1, List.append_assoc]⟩
theorem gb_len_of {P P' Pn : gb_Pi} (h : P' = P ++ Pn) : P'.length = P.length + Pn.length ∧ gb_msl P' = gb_msl P + gb_msl Pn := by
  subst h
  exact ⟨List.length_append, gb_msl_app _ _⟩
theorem gb_row_at {k j pc : Nat} {i : Instr} {r : List Instr} (hk : k < 188) (hj : gb_tgt k j = i :: r) (hpc : (gb_pcs k)[j]? = some pc) : ∃ nx, gb_chk k (i, pc, nx) = true ∧ (r ≠ [] → (gb_pcs k)[j + 1]? = some nx) ∧ r = gb_tgt k (j + 1) := by
  have h := gb_rows_ok k hk
  unfold gb_rowsOK at h
  simp only [Bool.and_eq_true, decide_eq_true_eq] at h
  obtain ⟨⟨hlen, -⟩, hall⟩ := h
  unfold gb_tgt at hj ⊢
  have hi : (gb_prog k)[j]? = some i := by
    have : ((gb_prog k).drop j)[0]? = some i := by rw [hj]; rfl
    rw [List.getElem?_drop] at this
    exact this
  have hr : r = (gb_prog k).drop (j + 1) := by
    have := congrArg (List.drop 1) hj
    rw [List.drop_drop] at this
    simpa using this.symm
  have hjl : j < (gb_pcs k).length := (List.getElem?_eq_some_iff.mp hpc).1
  obtain ⟨nx, hnx⟩ : ∃ nx, ((gb_pcs k).drop 1 ++ [0])[j]? = some nx := by
    have : j < ((gb_pcs k).drop 1 ++ [0]).length := by simp; omega
    exact ⟨_, List.getElem?_eq_getElem this⟩
  have hz : (gb_rows k)[j]? = some (i, pc, nx) := by
    unfold gb_rows
    have hz1 : ((gb_pcs k).zip ((gb_pcs k).drop 1 ++ [0]))[j]? = some (pc, nx) := List.getElem?_zip_eq_some (z := (pc, nx)).mpr ⟨hpc, hnx⟩
    exact List.getElem?_zip_eq_some (z := (i, pc, nx)).mpr ⟨hi, hz1⟩
  refine ⟨nx, List.all_eq_true.mp hall _ (List.mem_of_getElem? hz), fun hne => ?_, hr⟩
  have hl2 : j + 1 < (gb_prog k).length := by
    rcases Nat.lt_or_ge (j + 1) (gb_prog k).length with q | q
    · exact q
    · exact absurd (hr.trans (List.drop_eq_nil_of_le q)) hne
  rw [List.getElem?_append_left (by simp; omega), List.getElem?_drop] at hnx
  rw [Nat.add_comm j 1]
  exact hnx
/-- the arguments as the first locals -/
theorem gb_lex_len (b B : Nat) : ∀ as : List Value, as.all gb_ok = true → (lg_sl (as.map (gb_cv b B))).length = (gb_lex as).length
  | [], _ => rfl
  | v :: as, h => by
    simp only [List.all_cons, Bool.and_eq_true] at h
    have ih := gb_lex_len b B as h.2
    unfold lg_sl at ih ⊢
    simp only [List.map_cons, List.flatMap_cons, List.length_append]
    rw [ih]
    cases v <;> simp [gb_cv, Value.category, gb_lex] <;> first | omega | (simp [gb_ok] at h)
theorem gb_lex_args (b B : Nat) : ∀ (as : List Value) (i j : Nat) (v : Value), as.all gb_ok = true → (gb_lex as)[j]? = some v → gb_ok v = true → (i + j, gb_cv b B v) ∈ lv_args i (as.map (gb_cv b B))
  | [], i, j, v, _, h, _ => by simp [gb_lex] at h
  | .long x :: as, i, 0, v, ha, h, ho => by
    simp only [gb_lex, List.getElem?_cons_zero, Option.some.injEq] at h
    subst h
    simp [lv_args]
  | .long x :: as, i, 1, v, ha, h, ho => by
    simp only [gb_lex, List.getElem?_cons_succ, List.getElem?_cons_zero, Option.some.injEq] at h
    subst h
    simp [gb_ok] at ho
  | .long x :: as, i, j + 2, v, ha, h, ho => by
    simp only [gb_lex, List.getElem?_cons_succ] at h
    simp only [List.all_cons, Bool.and_eq_true] at ha
    have ih := gb_lex_args b B as (i + 2) j v ha.2 h ho
    simp only [List.map_cons, lv_args, gb_cv, Value.category, if_true]
    refine List.mem_cons_of_mem _ ?_
    rw [show i + (j + 2) = i + 2 + j by omega]
    exact ih
  | .int x :: as, i, 0, v, ha, h, ho => by
    simp only [gb_lex, List.getElem?_cons_zero, Option.some.injEq] at h
    subst h
    simp [lv_args]
  | .int x :: as, i, j + 1, v, ha, h, ho => by
    simp only [gb_lex, List.getElem?_cons_succ] at h
    simp only [List.all_cons, Bool.and_eq_true] at ha
    have ih := gb_lex_args b B as (i + 1) j v ha.2 h ho
    simp only [List.map_cons, lv_args, gb_cv, Value.category]
    refine List.mem_cons_of_mem _ ?_
    rw [show i + (j + 1) = i + 1 + j by omega]
    exact ih
  | .ref x :: as, i, 0, v, ha, h, ho => by
    simp only [gb_lex, List.getElem?_cons_zero, Option.some.injEq] at h
    subst h
    simp [lv_args]
  | .ref x :: as, i, j + 1, v, ha, h, ho => by
    simp only [gb_lex, List.getElem?_cons_succ] at h
    simp only [List.all_cons, Bool.and_eq_true] at ha
    have ih := gb_lex_args b B as (i + 1) j v ha.2 h ho
    simp only [List.map_cons, lv_args, gb_cv, Value.category]
    refine List.mem_cons_of_mem _ ?_
    rw [show i + (j + 1) = i + 1 + j by omega]
    exact ih
  | .retAddr x :: as, i, 0, v, ha, h, ho => by
    simp only [gb_lex, List.getElem?_cons_zero, Option.some.injEq] at h
    subst h
    simp [lv_args]
  | .retAddr x :: as, i, j + 1, v, ha, h, ho => by
    simp only [gb_lex, List.getElem?_cons_succ] at h
    simp only [List.all_cons, Bool.and_eq_true] at ha
    have ih := gb_lex_args b B as (i + 1) j v ha.2 h ho
    simp only [List.map_cons, lv_args, gb_cv, Value.category]
    refine List.mem_cons_of_mem _ ?_
    rw [show i + (j + 1) = i + 1 + j by omega]
    exact ih
  | .float x :: as, i, j, v, ha, h, ho => by simp [gb_ok] at ha
  | .double x :: as, i, j, v, ha, h, ho => by simp [gb_ok] at ha
  | .null :: as, i, j, v, ha, h, ho => by simp [gb_ok] at ha
theorem gb_ent_lv (b B : Nat) {as : List Value} {n : Nat} (ha : as.all gb_ok = true) (hn : (gb_lex as).length ≤ n) : gb_lv b B (lg_sl (as.map (gb_cv b B)) ++ List.replicate (n - (lg_sl (as.map (gb_cv b B))).length) Slot.unset).toArray n (gb_ent n as) := by
  refine ⟨by unfold gb_ent; simp; omega, ?_⟩
  have h := lv_entry (as.map (gb_cv b B)) (n := n) (by rw [gb_lex_len b B as ha]; exact hn)
  refine gb_has_sub h fun q hq => ?_
  obtain ⟨j, w⟩ := q
  obtain ⟨v, h1, h2, rfl⟩ := gb_al_mem.mp hq
  unfold gb_ent at h1
  by_cases hj : j < (gb_lex as).length
  · rw [List.getElem?_append_left hj] at h1
    have := gb_lex_args b B as 0 j v ha h1 h2
    rw [Nat.zero_add] at this
    exact this
  · rw [List.getElem?_append_right (by omega)] at h1
    have := List.eq_of_mem_replicate (List.mem_of_getElem? h1)
    subst this
    simp [gb_ok] at h2
theorem gb_stp_cl {i : Instr} {ls st : List Value} {P : gb_Pi} {g : gb_Sg} {q : Nat × Nat × List Value} (h : gb_stp i ls st P g = some (.inr (.inr (.inr q)))) : i = .invokeinterface q.1 q.2.1 ∧ q.2.2 = st ∧ gb_rcv q.1 (st.take q.2.1).reverse P = true := by
  cases i <;> simp only [gb_stp] at h <;> (repeat' split at h) <;> first | cases h | skip
  rename_i hc
  exact ⟨rfl, rfl, hc.2.2⟩
theorem gb_stp_rt {i : Instr} {ls st : List Value} {P : gb_Pi} {g : gb_Sg} {v : Value} (h : gb_stp i ls st P g = gb_rt v) : (i = .ireturn ∧ ∃ x, st = [.int x] ∧ v = .int x) ∨ (i = .areturn ∧ ∃ x, st = [.int x] ∧ v = .int x ∧ (x = 0 ∨ x = 1)) ∨ (i = .lreturn ∧ ∃ x, st = [.long x] ∧ v = .long x) ∨ (i = .return_ ∧ st = [] ∧ v = .null) := by
  cases i <;> simp only [gb_stp] at h <;> (repeat' split at h) <;> first | (cases h; exact Or.inl ⟨rfl, _, rfl, rfl⟩) | (cases h; rename_i hx; exact Or.inr (Or.inl ⟨rfl, _, rfl, rfl, hx⟩)) | (cases h; exact Or.inr (Or.inr (Or.inl ⟨rfl, _, rfl, rfl⟩))) | (cases h; exact Or.inr (Or.inr (Or.inr ⟨rfl, rfl, rfl⟩))) | cases h
section GBW
variable {p : Program} {l : Launch} {e : Env} {R : Room} {s : State} {m : MethodId} {args : Array Value} {below : List Frame} {meth : Method} {c : Code} {D : va_G} {b B k : Nat} {Q : State → Prop} {cells slots pc nx : Nat} {ls st ls' st' : List Value} {P P' : gb_Pi} {g g' : gb_Sg}
theorem gb_nxt {i : Instr} (C : gb_Ctx p R s m args meth c k) (hK : gb_K D s) (h : gb_chk k (i, pc, nx) = true) (hs : gb_stp i ls st P g = gb_nx ls' st' P' g') (hc : cells + (P'.length - P.length) ≤ R.cells) (hsl : slots + (gb_msl P' - gb_msl P) ≤ R.slots) (kk : gb_Go p l e R s m args below meth c D b B k Q (cells + (P'.length - P.length)) (slots + (gb_msl P' - gb_msl P)) (ls') (st') (nx) (P') (g')) : gb_Go p l e R s m args below meth c D b B k Q (cells) (slots) (ls) (st) (pc) (P) (g) := by
  have pure : P' = P → gb_Go p l e R s m args below meth c D b B k Q (cells) (slots) (ls') (st') (nx) (P') (g') := by
    intro e1
    rw [e1] at kk ⊢
    simpa using kk
  have hcc : cells ≤ R.cells := by omega
  have hss : slots ≤ R.slots := by omega
  cases i with
  | new n => exact gb_n_new C hK h hs hc hsl kk
  | newarray t => exact gb_n_newarray C h hs hc hsl kk
  | multianewarray t q => exact gb_n_multianewarray C hK h hs hc hsl kk
  | iload n => exact gb_n_iload C h hs (pure (by simp only [gb_stp] at hs; (repeat' split at hs) <;> cases hs <;> rfl))
  | lload n => exact gb_n_lload C h hs (pure (by simp only [gb_stp] at hs; (repeat' split at hs) <;> cases hs <;> rfl))
  | aload n => exact gb_n_aload C h hs (pure (by simp only [gb_stp] at hs; (repeat' split at hs) <;> cases hs <;> rfl))
  | istore n => exact gb_n_istore C h hs (pure (by simp only [gb_stp] at hs; (repeat' split at hs) <;> cases hs <;> rfl))
  | astore n => exact gb_n_astore C h hs (pure (by simp only [gb_stp] at hs; (repeat' split at hs) <;> cases hs <;> rfl))
  | lstore n => exact gb_n_lstore C h hs (pure (by simp only [gb_stp] at hs; (repeat' split at hs) <;> cases hs <;> rfl))
  | iinc n d => exact gb_n_iinc C h hs (pure (by simp only [gb_stp] at hs; (repeat' split at hs) <;> cases hs <;> rfl))
  | sipush d => exact gb_n_sipush C h hs (pure (by simp only [gb_stp] at hs; (repeat' split at hs) <;> cases hs <;> rfl))
  | bipush d => exact gb_n_bipush C h hs (pure (by simp only [gb_stp] at hs; (repeat' split at hs) <;> cases hs <;> rfl))
  | iadd => exact gb_n_iadd C h hs (pure (by simp only [gb_stp] at hs; (repeat' split at hs) <;> cases hs <;> rfl))
  | isub => exact gb_n_isub C h hs (pure (by simp only [gb_stp] at hs; (repeat' split at hs) <;> cases hs <;> rfl))
  | imul => exact gb_n_imul C h hs (pure (by simp only [gb_stp] at hs; (repeat' split at hs) <;> cases hs <;> rfl))
  | iand => exact gb_n_iand C h hs (pure (by simp only [gb_stp] at hs; (repeat' split at hs) <;> cases hs <;> rfl))
  | ior => exact gb_n_ior C h hs (pure (by simp only [gb_stp] at hs; (repeat' split at hs) <;> cases hs <;> rfl))
  | ixor => exact gb_n_ixor C h hs (pure (by simp only [gb_stp] at hs; (repeat' split at hs) <;> cases hs <;> rfl))
  | ishl => exact gb_n_ishl C h hs (pure (by simp only [gb_stp] at hs; (repeat' split at hs) <;> cases hs <;> rfl))
  | ishr => exact gb_n_ishr C h hs (pure (by simp only [gb_stp] at hs; (repeat' split at hs) <;> cases hs <;> rfl))
  | ladd => exact gb_n_ladd C h hs (pure (by simp only [gb_stp] at hs; (repeat' split at hs) <;> cases hs <;> rfl))
  | lsub => exact gb_n_lsub C h hs (pure (by simp only [gb_stp] at hs; (repeat' split at hs) <;> cases hs <;> rfl))
  | lmul => exact gb_n_lmul C h hs (pure (by simp only [gb_stp] at hs; (repeat' split at hs) <;> cases hs <;> rfl))
  | land => exact gb_n_land C h hs (pure (by simp only [gb_stp] at hs; (repeat' split at hs) <;> cases hs <;> rfl))
  | lor => exact gb_n_lor C h hs (pure (by simp only [gb_stp] at hs; (repeat' split at hs) <;> cases hs <;> rfl))
  | ineg => exact gb_n_ineg C h hs (pure (by simp only [gb_stp] at hs; (repeat' split at hs) <;> cases hs <;> rfl))
  | iushr => exact gb_n_iushr C h hs (pure (by simp only [gb_stp] at hs; (repeat' split at hs) <;> cases hs <;> rfl))
  | lushr => exact gb_n_lushr C h hs (pure (by simp only [gb_stp] at hs; (repeat' split at hs) <;> cases hs <;> rfl))
  | lshl => exact gb_n_lshl C h hs (pure (by simp only [gb_stp] at hs; (repeat' split at hs) <;> cases hs <;> rfl))
  | lshr => exact gb_n_lshr C h hs (pure (by simp only [gb_stp] at hs; (repeat' split at hs) <;> cases hs <;> rfl))
  | i2l => exact gb_n_i2l C h hs (pure (by simp only [gb_stp] at hs; (repeat' split at hs) <;> cases hs <;> rfl))
  | l2i => exact gb_n_l2i C h hs (pure (by simp only [gb_stp] at hs; (repeat' split at hs) <;> cases hs <;> rfl))
  | i2b => exact gb_n_i2b C h hs (pure (by simp only [gb_stp] at hs; (repeat' split at hs) <;> cases hs <;> rfl))
  | lcmp => exact gb_n_lcmp C h hs (pure (by simp only [gb_stp] at hs; (repeat' split at hs) <;> cases hs <;> rfl))
  | idiv => exact gb_n_idiv C h hs (pure (by simp only [gb_stp] at hs; (repeat' split at hs) <;> cases hs <;> rfl))
  | irem => exact gb_n_irem C h hs (pure (by simp only [gb_stp] at hs; (repeat' split at hs) <;> cases hs <;> rfl))
  | ldiv => exact gb_n_ldiv C h hs (pure (by simp only [gb_stp] at hs; (repeat' split at hs) <;> cases hs <;> rfl))
  | lrem => exact gb_n_lrem C h hs (pure (by simp only [gb_stp] at hs; (repeat' split at hs) <;> cases hs <;> rfl))
  | dup => exact gb_n_dup C h hs (pure (by simp only [gb_stp] at hs; (repeat' split at hs) <;> cases hs <;> rfl))
  | dup2 => exact gb_n_dup2 C h hs (pure (by simp only [gb_stp] at hs; (repeat' split at hs) <;> cases hs <;> rfl))
  | pop => exact gb_n_pop C h hs (pure (by simp only [gb_stp] at hs; (repeat' split at hs) <;> cases hs <;> rfl))
  | iaload => exact gb_n_iaload C h hs (pure (by simp only [gb_stp] at hs; (repeat' split at hs) <;> cases hs <;> rfl))
  | laload => exact gb_n_laload C h hs (pure (by simp only [gb_stp] at hs; (repeat' split at hs) <;> cases hs <;> rfl))
  | baload => exact gb_n_baload C h hs (pure (by simp only [gb_stp] at hs; (repeat' split at hs) <;> cases hs <;> rfl))
  | aaload => exact gb_n_aaload C h hs (pure (by simp only [gb_stp] at hs; (repeat' split at hs) <;> cases hs <;> rfl))
  | arraylength => exact gb_n_arraylength C h hs (pure (by simp only [gb_stp] at hs; (repeat' split at hs) <;> cases hs <;> rfl))
  | iastore => exact gb_n_iastore C h hs (pure (by simp only [gb_stp] at hs; (repeat' split at hs) <;> cases hs <;> rfl))
  | lastore => exact gb_n_lastore C h hs (pure (by simp only [gb_stp] at hs; (repeat' split at hs) <;> cases hs <;> rfl))
  | bastore => exact gb_n_bastore C h hs (pure (by simp only [gb_stp] at hs; (repeat' split at hs) <;> cases hs <;> rfl))
  | getfield n => exact gb_n_getfield C hK h hs (pure (by simp only [gb_stp] at hs; (repeat' split at hs) <;> cases hs <;> rfl))
  | putfield n => exact gb_n_putfield C hK h hs (pure (by simp only [gb_stp] at hs; (repeat' split at hs) <;> cases hs <;> rfl))
  | fadd => exact gb_n_fadd C h hs hcc hss (pure (by simp only [gb_stp] at hs; (repeat' split at hs) <;> cases hs <;> rfl))
  | fsub => exact gb_n_fsub C h hs hcc hss (pure (by simp only [gb_stp] at hs; (repeat' split at hs) <;> cases hs <;> rfl))
  | dadd => exact gb_n_dadd C h hs hcc hss (pure (by simp only [gb_stp] at hs; (repeat' split at hs) <;> cases hs <;> rfl))
  | ifCond cd t =>
    have e1 : P' = P := by simp only [gb_stp] at hs; (repeat' split at hs) <;> cases hs <;> rfl
    have kk1 := pure e1
    simp only [gb_stp] at hs
    split at hs
    · split at hs
      · cases hs
      · rename_i hcn
        cases hs
        exact gb_i_ifCond C h (fun z => absurd z hcn) (fun _ => kk1)
    · cases hs
  | if_icmp cd t =>
    have e1 : P' = P := by simp only [gb_stp] at hs; (repeat' split at hs) <;> cases hs <;> rfl
    have kk1 := pure e1
    simp only [gb_stp] at hs
    split at hs
    · split at hs
      · cases hs
      · rename_i hcn
        cases hs
        exact gb_i_if_icmp C h (fun z => absurd z hcn) (fun _ => kk1)
    · cases hs
  | _ => (simp only [gb_stp] at hs; (repeat' split at hs) <;> cases hs)
theorem gb_jmp {i : Instr} {tt : Nat} (C : gb_Ctx p R s m args meth c k) (h : gb_chk k (i, pc, nx) = true) (hs : gb_stp i ls st P g = gb_jp tt ls' st') (kk : ∀ q, (gb_pcs k)[tt]? = some q → gb_Go p l e R s m args below meth c D b B k Q (cells) (slots) (ls') (st') (q) (P) (g)) : gb_Go p l e R s m args below meth c D b B k Q (cells) (slots) (ls) (st) (pc) (P) (g) := by
  cases i with
  | goto t => exact gb_j_goto C h hs kk
  | lookupswitch d ps => exact gb_j_lookup C h hs kk
  | tableswitch d lo hi offs => exact gb_j_table C h hs kk
  | ifCond cd t =>
    simp only [gb_stp] at hs
    split at hs
    · split at hs
      · rename_i hcn
        cases hs
        exact gb_i_ifCond C h (fun _ => kk) (fun z => absurd hcn z)
      · cases hs
    · cases hs
  | if_icmp cd t =>
    simp only [gb_stp] at hs
    split at hs
    · split at hs
      · rename_i hcn
        cases hs
        exact gb_i_if_icmp C h (fun _ => kk) (fun z => absurd hcn z)
      · cases hs
    · cases hs
  | _ => (simp only [gb_stp] at hs; (repeat' split at hs) <;> cases hs)
end GBW
/-- what a run of n steps at the most does, the machine does -/
def gb_Walk (l : Launch) (D : va_G) (b B n : Nat) : Prop := ∀ (k j : Nat) (ls st : List Value) (P : gb_Pi) (g : gb_Sg) (v : Value) (P' : gb_Pi) (g' : gb_Sg), k < 188 → gb_run n k (gb_tgt k j) ls st P g = some (v, P', g') →
  ∀ (p : Program) (e : Env) (R : Room) (s : State) (m : MethodId) (args : Array Value) (below : List Frame) (meth : Method) (c : Code) (Q : State → Prop) (cells slots : Nat), gb_Ctx p R s m args meth c k → gb_K D s → cells + (P'.length - P.length) ≤ R.cells → slots + (gb_msl P' - gb_msl P) ≤ R.slots →
  (∀ (i : Instr) (ls1 st1 : List Value) (pc nx : Nat), gb_chk k (i, pc, nx) = true → gb_stp i ls1 st1 P' g' = gb_rt v → gb_Go p l e R s m args below meth c D b B k Q (cells + (P'.length - P.length)) (slots + (gb_msl P' - gb_msl P)) (ls1) (st1) (pc) (P') (g')) →
  ∀ pc, (gb_pcs k)[j]? = some pc → gb_Go p l e R s m args below meth c D b B k Q (cells) (slots) (ls) (st) (pc) (P) (g)
theorem gb_con {l : Launch} {D : va_G} {b B n : Nat} (ih : gb_Walk l D b B n) {y : Nat} {as : List Value} {P P' : gb_Pi} {g g' : gb_Sg} {v : Value} (h1 : 1 ≤ y) (h2 : y < 188) (hr : gb_run n y (gb_prog y) (gb_ent (gb_inf y).1 as) [] P g = some (v, P', g')) (ha : as.all gb_ok = true) (hn : (gb_lex as).length ≤ (gb_inf y).1) : gb_Con l D b B y as P g v P' g' := by
  have hmo := gb_mOK_at h1 h2
  unfold gb_mOK at hmo
  simp only [Bool.and_eq_true, decide_eq_true_eq] at hmo
  obtain ⟨⟨⟨⟨⟨m1, m2⟩, m3⟩, m4⟩, m5⟩, m6⟩ := hmo
  refine Met.ofW (cc := (gb_met y).2.1) (maxL := (gb_inf y).1) (ret := (gb_met y).2.2) m3 rfl ?_
  intro p e s m args below meth c s₁ Bd hml hv
  obtain ⟨rfl, hK, hR⟩ := hv
  have hts := atoms_spec (ws := gb_ws y) Bd.pre
  have hown : s.vm.findClass (gb_met y).1.cls = some m.cls := findClass_of_methodNamed Bd.named
  have hname : meth.name = (gb_met y).1.name := (name_of_methodNamed Bd.named Bd.method).1
  have C : gb_Ctx p (gb_rm y (P'.length - P.length) (gb_msl P' - gb_msl P)) s m ((as.map (gb_cv b B)).toArray) meth c y := by
    refine ⟨Bd.exec, Bd.bytes, Bd.returns, hml, by rw [← m1]; exact hown, fun w hw hg => hts w (List.mem_cons_of_mem _ (List.mem_filter.mpr ⟨hw, hg⟩)), fun hk2 => ?_, Nat.le_refl _, Nat.le_refl _, Bd.notSynchronized⟩
    rw [hk2] at m6
    simp only [Bool.and_eq_true, decide_eq_true_eq] at m6
    rw [hname]
    exact m6.1.1.1.1.2
  have h00 : (gb_pcs y)[0]? = some 0 := by
    have h := gb_rows_ok y h2
    unfold gb_rowsOK at h
    simp only [Bool.and_eq_true, decide_eq_true_eq] at h
    exact h.1.2
  have hl := gb_ent_lv b B (n := (gb_inf y).1) ha hn
  rw [lg_entry_eq]
  have hlocks := Bd.notSynchronized
  have key := ih y 0 (gb_ent (gb_inf y).1 as) [] P g v P' g' h2 hr p e (gb_rm y (P'.length - P.length) (gb_msl P' - gb_msl P)) s m ((as.map (gb_cv b B)).toArray) below meth c (MQ below (gb_Qc D b B v P' g') ((as.map (gb_cv b B)).toArray) s (P'.length - P.length) (gb_msl P' - gb_msl P) (fun q => B ≤ q)) 0 0 C hK (by rw [Nat.zero_add]; exact Nat.le_refl _) (by rw [Nat.zero_add]; exact Nat.le_refl _) ?_ 0 h00
  · exact key s.heap [] _ hl hR (fun q hq => by cases hq)
  · intro i ls1 st1 pc nx hchk hst
    rw [Nat.zero_add, Nat.zero_add]
    intro H locs lsC hl1 hR1 hL1
    obtain ⟨ci, len, hd, hci⟩ := gb_chk_spec hchk
    have hq : ∀ t : State, t.heap = H → s.WarmedH t.vm → gb_Qc D b B v P' g' ((as.map (gb_cv b B)).toArray) s (.returned (gb_rv b B v)) t := fun t ht hW => ⟨rfl, by rw [ht]; exact hR1.moved hW.alike⟩
    rcases gb_stp_rt hst with ⟨rfl, x, rfl, rfl⟩ | ⟨rfl, x, rfl, rfl, hx⟩ | ⟨rfl, x, rfl, rfl⟩ | ⟨rfl, rfl, rfl⟩
    · simp only [gb_chkI, Bool.and_eq_true, decide_eq_true_eq] at hci
      obtain ⟨⟨rfl, rfl⟩, hrt⟩ := hci
      exact W.iret C.1 C.2.1 (C.2.2.1.trans hrt) hq hL1 hd hlocks
    · simp only [gb_chkI, Bool.and_eq_true, decide_eq_true_eq] at hci
      obtain ⟨⟨rfl, rfl⟩, hrt⟩ := hci
      exact W.zret C.1 C.2.1 (C.2.2.1.trans hrt) (by rcases hx with rfl | rfl <;> rfl) hq hL1 hd hlocks
    · simp only [gb_chkI, Bool.and_eq_true, decide_eq_true_eq] at hci
      obtain ⟨⟨rfl, rfl⟩, hrt⟩ := hci
      exact W.lret C.1 C.2.1 (C.2.2.1.trans hrt) hq hL1 hd hlocks
    · simp only [gb_chkI, Bool.and_eq_true, decide_eq_true_eq] at hci
      obtain ⟨⟨rfl, rfl⟩, hrt⟩ := hci
      exact W.vret C.1 C.2.1 (C.2.2.1.trans hrt) hq hL1 hd hlocks
theorem gb_walk (l : Launch) (D : va_G) (b B : Nat) : ∀ n, gb_Walk l D b B n
  | 0 => fun k j ls st P g v P' g' _ h => by simp [gb_run] at h
  | n + 1 => by
    intro k j ls st P g v P' g' hk h p e R s m args below meth c Q cells slots C hK hc hsl hret pc hpc
    have ih := gb_walk l D b B n
    cases hi : gb_tgt k j with
    | nil => rw [hi] at h; simp [gb_run] at h
    | cons i r =>
      rw [hi] at h
      obtain ⟨nx, hchk, hnx, hr⟩ := gb_row_at hk hi hpc
      rw [gb_run] at h
      generalize ho : gb_stp i ls st P g = o at h
      match o, ho, h with
      | some (.inl (lsm, stm, Pm, gm)), ho, h =>
        dsimp only at h
        have hne : r ≠ [] := fun q => by rw [q] at h; cases n <;> simp [gb_run] at h
        obtain ⟨P1, e1⟩ := gb_stp_app ho
        obtain ⟨P2, e2⟩ := gb_run_app _ _ _ _ _ _ _ _ h
        dsimp only at e2
        obtain ⟨l1, s1⟩ := gb_len_of e1
        obtain ⟨l2, s2⟩ := gb_len_of e2
        refine gb_nxt C hK hchk ho (by omega) (by omega) ?_
        rw [hr] at h
        refine ih k (j + 1) _ _ _ _ v P' g' hk h p e R s m args below meth c Q _ _ C hK (by omega) (by omega) (fun i1 ls1 st1 pc1 nx1 h1 h2 => ?_) nx (hnx hne)
        have := hret i1 ls1 st1 pc1 nx1 h1 h2
        rw [show cells + (Pm.length - P.length) + (P'.length - Pm.length) = cells + (P'.length - P.length) by omega, show slots + (gb_msl Pm - gb_msl P) + (gb_msl P' - gb_msl Pm) = slots + (gb_msl P' - gb_msl P) by omega]
        exact this
      | some (.inr (.inl (tt, lsm, stm))), ho, h =>
        refine gb_jmp C hchk ho (fun pc2 hpc2 => ?_)
        exact ih k tt _ _ _ _ v P' g' hk h p e R s m args below meth c Q _ _ C hK hc hsl hret pc2 hpc2
      | some (.inr (.inr (.inl v1))), ho, h =>
        cases h
        have := hret i ls st pc nx hchk ho
        simpa using this
      | some (.inr (.inr (.inr q))), ho, h =>
        dsimp only at h
        obtain ⟨rfl, hq, hrc⟩ := gb_stp_cl ho
        obtain ⟨y, qn, st0⟩ := q
        dsimp only at hq hrc h hchk
        subst hq
        cases h1 : gb_run n y (gb_prog y) (gb_ent (gb_inf y).1 (st0.take qn).reverse) [] P g with
        | none => rw [h1] at h; cases h
        | some w =>
          rw [h1] at h
          obtain ⟨w1, w2, w3⟩ := w
          dsimp only at h
          have hne : r ≠ [] := fun q => by rw [q] at h; cases n <;> simp [gb_run] at h
          obtain ⟨P1, e1⟩ := gb_run_app _ _ _ _ _ _ _ _ h1
          obtain ⟨P2, e2⟩ := gb_run_app _ _ _ _ _ _ _ _ h
          dsimp only at e1 e2
          obtain ⟨l1, s1⟩ := gb_len_of e1
          obtain ⟨l2, s2⟩ := gb_len_of e2
          have hy : 1 ≤ y ∧ y < gb_metL.length := by
            obtain ⟨ci, len, hd, hci⟩ := gb_chk_spec hchk
            simp only [gb_chkI, Bool.and_eq_true, decide_eq_true_eq] at hci
            exact ⟨hci.1.1, hci.1.2.1⟩
          unfold gb_rcv at hrc
          simp only [Bool.and_eq_true, decide_eq_true_eq] at hrc
          have hcon := gb_con ih hy.1 hy.2 h1 hrc.1.1.2 hrc.1.2
          refine gb_c_call C hK hchk ho hcon (by omega) (by omega) ?_
          rw [hr] at h
          refine ih k (j + 1) _ _ _ _ v P' g' hk h p e R s m args below meth c Q _ _ C hK (by omega) (by omega) (fun i1 ls1 st1 pc1 nx1 h1 h2 => ?_) nx (hnx hne)
          have := hret i1 ls1 st1 pc1 nx1 h1 h2
          rw [show cells + (w2.length - P.length) + (P'.length - w2.length) = cells + (P'.length - P.length) by omega, show slots + (gb_msl w2 - gb_msl P) + (gb_msl P' - gb_msl w2) = slots + (gb_msl P' - gb_msl P) by omega]
          exact this
