/-! THE CLAIM OUT OF ONE WALK OF THE LAW'S BODY. Your part is whole_start (and what it stands on); all else here is the same for every law, but numbers. -/
def R_law : String := "GaleBeachLaw"
def lw_P (b : Addr) (xs : List Int32) (args : Array Value) (s : State) : Prop := args = #[.ref b] ∧ s.IntsAt b xs ∧ xs.length ≤ 3072 ∧ (Jvm.Cond.and given_1 narrow_1).before args s = true
def lw_Q (_ : Array Value) (s : State) (o : Outcome) (t : State) : Prop := o = .returned (some (.int 1)) ∧ Framed s o t [] 600000 7302250
def lw_Z (below : List Frame) (a : Array Value) (s : State) : State → Prop := fun t => ∃ o, t.status = .running ∧ Ended t below o ∧ lw_Q a s o t
/-- the law's own end, with 1 on the stack, nothing written that was there before, its room as the claim has it -/
theorem lw_ret {p : Program} {l : Launch} {e : Env} {s : State} {m : MethodId} {below : List Frame} {meth : Method} {c : Code} {b : Nat} (hx : p.tables.exec = Jvm.exec) (hb : c.code = code) (hr : meth.sig.returnType = ret) (hlocks : meth.locks = false) {pc : Nat} {H : Heap} {ls : Array Slot} (hdg : decode code pc = .ok (.ireturn, 1)) : W p l e room_1 s m #[Value.ref b] below meth c H [] 600000 7302250 (lw_Z below #[Value.ref b] s) (F0 m pc ls [.int 1]) := by
  intro T hT X
  obtain ⟨fs, hret, hrun, hended, hW, hframe⟩ := X.leave (v := some (.int 1)) (hlocks := hlocks) (fun h => by rw [hr] at h; cases h)
  have hmeth' : T.vm.method? m = some meth := X.method'
  refine ⟨T.setFrames fs, ?_, .returned (some (.int 1)), hrun, hended, rfl, ⟨_, rfl⟩, hW, hframe⟩
  jvm_step X.here [X.here.top, hx, hb, hdg, hmeth', hr, ret, narrow_b1]
  (try refine ⟨rfl, ?_⟩); (try refine ⟨rfl, ?_⟩)
  first | (intro acts; rw [hret _ acts rfl rfl rfl]) | rw [hret _ _ rfl rfl rfl]
  exact Steps.refl _
/-- what holds at the law's entry: the machine, the code, the tables' words (any of lw_tbl by 'hts w (by decide +kernel)'), the script of L ints xs at the cell b, what the Statement gives of the start (any of its parts by flat_of_before) -/
def lw_At (p : Program) (s : State) (m : MethodId) (meth : Method) (c : Code) (b L : Nat) (xs : Nat → Int32) : Prop :=
  p.tables.exec = Jvm.exec ∧ c.code = code ∧ meth.sig.returnType = ret ∧ c.maxLocals = 4 ∧ s.vm.findClass R_law = some m.cls ∧ (∀ w ∈ lw_tbl, w.before #[Value.ref b] s = true) ∧ va_X b L xs s s.heap ∧ b < s.heap.size ∧ meth.locks = false ∧ (Jvm.Cond.and given_1 narrow_1).before #[Value.ref b] s = true
/-- the small machine before the law: no cell, the script -/
def gb_g0 (L : Nat) (xs : Nat → Int32) : gb_Sg := (fun _ _ => 0, fun _ _ => 0, fun _ _ => none, L, xs)
set_option maxHeartbeats 4000000 in
set_option maxRecDepth 100000 in
/-- the law's walk out of the small machine's -/
theorem gb_start {p : Program} {e : Env} {s : State} {m : MethodId} {below : List Frame} {meth : Method} {c : Code} (l : Launch) {b L : Nat} {xs : Nat → Int32} {P' : gb_Pi} {g' : gb_Sg} (hlaw : gb_call 0 [.retAddr 0] [] (gb_g0 L xs) = some (.int 1, P', g')) (hc : P'.length ≤ 600000) (hsl : gb_msl P' ≤ 7302250) (C0 : lw_At p s m meth c b L xs) : W p l e room_1 s m #[Value.ref b] below meth c s.heap [] 0 0 (lw_Z below #[Value.ref b] s) (entryFrame m ([Value.ref b] : List Value).toArray 4) := by
  obtain ⟨hx, hb, hr, hml, hown, hts, hX, hbl, hlocks, hgv⟩ := id C0
  have hk : ∀ n : Nat, ∃ (cC : ClassId) (iS : Nat → Nat), ∀ q : vw_C, gb_cls[n]? = some q → u_Kn s q.1 q.2.1 q.2.2 cC iS := by
    intro n
    cases hq : gb_cls[n]? with
    | none => exact ⟨0, fun _ => 0, fun q h => by cases h⟩
    | some q =>
      obtain ⟨e1, e2, e3, hin, -⟩ := gb_clsOK n q hq
      have hn : n < 11 := (List.getElem?_eq_some_iff.mp hq).1
      have hi := hts _ (gb_ins_ok n (List.mem_range.mpr hn))
      rw [← e1] at hi
      obtain ⟨cC, iS, h⟩ := u_known (C := q.1) (T := q.2.1) (N := q.2.2) hts hin hi
      exact ⟨cC, iS, fun q' h' => by cases h'; exact h⟩
  obtain ⟨D, hD⟩ : ∃ D : va_G, ∀ (n : Nat) (q : vw_C), gb_cls[n]? = some q → u_Kn s q.1 q.2.1 q.2.2 (D.1 n) (D.2 n) :=
    ⟨(fun n => (hk n).choose, fun n => (hk n).choose_spec.choose), fun n q h => (hk n).choose_spec.choose_spec q h⟩
  have hK : gb_K D s := by
    refine ⟨hD, fun x hx hn => ?_, hts _ gb_ovr_int, hts _ gb_ovr_long⟩
    have h1 := hts _ (gb_mtab_ok x hx)
    unfold gb_wM at h1 ⊢
    rw [if_pos hn] at h1 ⊢
    exact va_Nw.of rfl h1
  have C : gb_Ctx p room_1 s m #[Value.ref b] meth c 0 :=
    ⟨hx, hb, hr, hml, hown, fun w hw _ => hts w hw, fun h => absurd h (by decide), by decide, by decide, hlocks⟩
  have hR : gb_Rep D b s.heap.size s s.heap [] (gb_g0 L xs) := ⟨rfl, hbl, hX, fun i q h => by simp at h⟩
  obtain ⟨n, hn⟩ := gb_ex_iff.mp hlaw
  have h00 : (gb_pcs 0)[0]? = some 0 := by
    have h := gb_rows_ok 0 (by decide)
    unfold gb_rowsOK at h
    simp only [Bool.and_eq_true, decide_eq_true_eq] at h
    exact h.1.2
  have hl := gb_ent_lv b s.heap.size (as := [.retAddr 0]) (n := 4) rfl (by decide)
  rw [lg_entry_eq]
  have key := gb_walk l D b s.heap.size n 0 0 _ _ _ _ (.int 1) P' g' (by decide) hn p e room_1 s m #[Value.ref b] below meth c (lw_Z below #[Value.ref b] s) 0 0 C hK (by rw [Nat.zero_add]; exact Nat.le_trans (Nat.sub_le _ _) hc) (by rw [Nat.zero_add]; exact Nat.le_trans (Nat.sub_le _ _) hsl) ?_ 0 h00
  · exact key s.heap [] _ hl hR (fun q hq => by cases hq)
  · intro i ls1 st1 pc nx hchk hst H locs lsC hl1 hR1 hL1
    obtain ⟨ci, len, hd, hci⟩ := gb_chk_spec hchk
    refine va_forget hL1 ?_
    refine W.widen (k := 600000) (n := 7302250) (by rw [Nat.zero_add]; exact Nat.le_trans (Nat.sub_le _ _) hc) (by rw [Nat.zero_add]; exact Nat.le_trans (Nat.sub_le _ _) hsl) ?_
    rcases gb_stp_rt hst with ⟨rfl, x, rfl, hv⟩ | ⟨rfl, x, rfl, hv, hx2⟩ | ⟨rfl, x, rfl, hv⟩ | ⟨rfl, rfl, hv⟩
    · cases hv
      simp only [gb_chkI, Bool.and_eq_true, decide_eq_true_eq] at hci
      obtain ⟨⟨rfl, rfl⟩, -⟩ := hci
      exact lw_ret hx hb hr hlocks hd
    · cases hv
      simp only [gb_chkI, Bool.and_eq_true, decide_eq_true_eq] at hci
      obtain ⟨⟨rfl, rfl⟩, -⟩ := hci
      exact lw_ret hx hb hr hlocks hd
    · cases hv
    · cases hv
