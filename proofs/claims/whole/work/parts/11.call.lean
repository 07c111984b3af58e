/-! calls -/
def gb_ws (y : Nat) : List Cond := Cond.code (gb_met y).1 (gb_met y).2.1 (gb_inf y).1 (gb_met y).2.2 :: lw_tbl.filter goodWord
def gb_rm (y mc ms : Nat) : Room := { frames := (gb_inf y).2.2.2.2.1, cells := mc, slots := ms, locals := (gb_inf y).2.2.2.2.2 }
def gb_Pc (D : va_G) (b B : Nat) (as : List Value) (P : gb_Pi) (g : gb_Sg) : Array Value → State → Prop := fun a U => a = (as.map (gb_cv b B)).toArray ∧ gb_K D U ∧ gb_Rep D b B U U.heap P g
def gb_rv (b B : Nat) (v : Value) : Option Value := match v with
  | .null => none
  | v => some (gb_cv b B v)
def gb_Qc (D : va_G) (b B : Nat) (v : Value) (P : gb_Pi) (g : gb_Sg) : Array Value → State → Outcome → State → Prop := fun _ _ o t => o = .returned (gb_rv b B v) ∧ gb_Rep D b B t t.heap P g
def gb_Con (l : Launch) (D : va_G) (b B y : Nat) (as : List Value) (P : gb_Pi) (g : gb_Sg) (v : Value) (P' : gb_Pi) (g' : gb_Sg) : Prop :=
  Met l (gb_met y).1 (gb_ws y) (gb_rm y (P'.length - P.length) (gb_msl P' - gb_msl P)) (gb_Pc D b B as P g) (gb_Qc D b B v P' g') (P'.length - P.length) (gb_msl P' - gb_msl P) (fun q => B ≤ q)
theorem gb_K.warm {D : va_G} {s U : State} (hW : s.WarmedH U.vm) (h : gb_K D s) : gb_K D U := by
  refine ⟨fun n q hq => u_Kn_moved hW.alike (h.1 n q hq), fun x hx hn => ?_, gb_AO.moved hW.alike h.2.2.1, gb_AO.moved hW.alike h.2.2.2⟩
  have h1 := h.2.1 x hx hn
  unfold gb_wM at h1 ⊢
  rw [if_pos hn] at h1 ⊢
  exact va_Nw.warmM hW h1
theorem gb_K.eq {D : va_G} {s U : State} (hv : s.vm = U.vm) (h : gb_K D s) : gb_K D U := by
  have ha : s.vm.Alike U.vm := by rw [hv]; exact Vm.Alike.refl _
  refine ⟨fun n q hq => u_Kn_moved ha (h.1 n q hq), fun x hx hn => ?_, gb_AO.moved ha h.2.2.1, gb_AO.moved ha h.2.2.2⟩
  have h1 := h.2.1 x hx hn
  unfold gb_wM at h1 ⊢
  rw [if_pos hn] at h1 ⊢
  exact va_Nw.same rfl hv h1
theorem gb_blind (D : va_G) (b B : Nat) (as : List Value) (P : gb_Pi) (g : gb_Sg) : FrameBlind (gb_Pc D b B as P g) :=
  fun a U _ _ h => ⟨h.1, gb_K.eq (s := U) rfl h.2.1, gb_Rep.moved (u := U) (Vm.Alike.refl U.vm) h.2.2⟩
theorem gb_mOK_at {y : Nat} (h1 : 1 ≤ y) (h2 : y < gb_metL.length) : gb_mOK y = true := by
  have h := List.all_eq_true.mp gb_mOK_ok (y - 1) (List.mem_range.mpr (by have : gb_metL.length = 188 := rfl; omega))
  rw [show y - 1 + 1 = y by omega] at h
  exact h
theorem gb_cod_at {y : Nat} (h1 : 1 ≤ y) (h2 : y < gb_metL.length) : Cond.code (gb_met y).1 (gb_met y).2.1 (gb_inf y).1 (gb_met y).2.2 ∈ lw_tbl :=
  gb_cod_ok y (List.mem_map.mpr ⟨y - 1, List.mem_range.mpr (by have : gb_metL.length = 188 := rfl; omega), by omega⟩)
theorem gb_psh {b B : Nat} (v : Value) (r : List Value) : (psh v r).map (gb_cv b B) = (gb_rv b B v).toList ++ r.map (gb_cv b B) := by
  cases v <;> rfl
section GBC
variable {p : Program} {l : Launch} {e : Env} {R : Room} {s : State} {m : MethodId} {args : Array Value} {below : List Frame} {meth : Method} {c : Code} {D : va_G} {b B k : Nat} {Q : State → Prop} {cells slots pc nx : Nat} {ls st ls' st' : List Value} {P P' : gb_Pi} {g g' : gb_Sg}
theorem gb_after {H : Heap} {locs : List Loc} {lsC : Array Slot} {st0 rest : List Value} {mc ms : Nat} {a : Array Value} {v : Value} (hr : va_Run p l e R s m args below meth c H locs cells slots mc ms (F0 m pc lsC st0) rest (gb_Qc D b B v P' g' a) (fun q => B ≤ q)) (hL : ∀ q ∈ locs, B ≤ q.base)
    (kk : ∀ (H1 : Heap) (locs1 : List Loc), gb_Rep D b B s H1 P' g' → (∀ q ∈ locs1, B ≤ q.base) → W p l e R s m args below meth c H1 locs1 (cells + mc) (slots + ms) Q (F0 m (pc + 3) lsC ((gb_rv b B v).toList ++ rest))) : W p l e R s m args below meth c H locs cells slots Q (F0 m pc lsC st0) := by
  intro T hT X
  obtain ⟨v', st₀, t, T', L, h0, X', hL', e1, e2, ⟨hv, hRep⟩, stp⟩ := hr T hT X
  cases hv
  obtain ⟨t2, a1, b1⟩ := kk T'.heap (locs ++ L) (by rw [e1]; exact gb_Rep.moved (by rw [← e2]; exact X'.warmed.alike.symm) hRep) (fun q hq => (List.mem_append.mp hq).elim (hL q) (hL' q)) T' rfl X'
  exact ⟨t2, stp t2 a1, b1⟩
theorem gb_words (C : gb_Ctx p R s m args meth c k) {y : Nat} (h1 : 1 ≤ y) (h2 : y < gb_metL.length) : ∀ w ∈ gb_ws y, ∀ (a' : Array Value) (U : State), s.WarmedH U.vm → w.before a' U = true := by
  intro w hw a' U hW
  have : w ∈ lw_tbl ∧ goodWord w = true := by
    rcases List.mem_cons.mp hw with rfl | hw
    · exact ⟨gb_cod_at h1 h2, rfl⟩
    · exact List.mem_filter.mp hw
  exact word_at hW (good_of_word this.2) (C.2.2.2.2.2.1 w this.1 this.2)
theorem gb_c_call {y n : Nat} {v : Value} (C : gb_Ctx p R s m args meth c k) (hK : gb_K D s) (h : gb_chk k (.invokeinterface y n, pc, nx) = true) (hs : gb_stp (.invokeinterface y n) ls st P g = gb_cl y n st) (hcon : gb_Con l D b B y (st.take n).reverse P g v P' g') (hc : cells + (P'.length - P.length) ≤ R.cells) (hsl : slots + (gb_msl P' - gb_msl P) ≤ R.slots)
    (kk : gb_Go p l e R s m args below meth c D b B k Q (cells + (P'.length - P.length)) (slots + (gb_msl P' - gb_msl P)) (ls) (psh v (st.drop n)) (nx) (P') (g')) : gb_Go p l e R s m args below meth c D b B k Q (cells) (slots) (ls) (st) (pc) (P) (g) := by
  obtain ⟨ci, len, hd, hci⟩ := gb_chk_spec h
  clear h
  simp only [gb_chkI, Bool.and_eq_true, decide_eq_true_eq] at hci
  obtain ⟨⟨hy1, hy2, hn, hfr, hlo, rfl, rfl⟩, hci⟩ := hci
  have hmo := gb_mOK_at hy1 hy2
  unfold gb_mOK at hmo
  simp only [Bool.and_eq_true, decide_eq_true_eq] at hmo
  obtain ⟨⟨⟨⟨⟨m1, m2⟩, m3⟩, m4⟩, m5⟩, m6⟩ := hmo
  simp only [gb_stp] at hs
  split at hs
  · rename_i hcond
    obtain ⟨c1, c2, c3⟩ := hcond
    intro H locs lsC hl hR hL
    have hcat := gb_rest (b := b) (B := B) c2
    have hpre : ∀ U : State, U.heap = H → s.WarmedH U.vm → gb_Pc D b B (st.take n).reverse P g (((st.take n).reverse.map (gb_cv b B)).toArray) U := fun U hU hW => ⟨rfl, hK.warm hW, by rw [hU]; exact hR.moved hW.alike⟩
    have hini : (Cond.initialized (gb_met y).1.cls).before args s = true := by
      rw [m1]
      exact C.2.2.2.2.2.1 _ (gb_ini_ok _ (List.mem_range.mpr m2)) rfl
    have hcode := C.2.2.2.2.2.1 _ (gb_cod_at hy1 hy2) rfl
    have hws := gb_words C hy1 hy2
    have hfr' : (gb_rm y (P'.length - P.length) (gb_msl P' - gb_msl P)).frames + 1 ≤ R.frames := Nat.le_trans hfr C.2.2.2.2.2.2.2.1
    have hlo' : 8 + ((gb_inf y).1 + 11) + (gb_rm y (P'.length - P.length) (gb_msl P' - gb_msl P)).locals ≤ R.locals := Nat.le_trans hlo C.2.2.2.2.2.2.2.2.1
    have hlen : ∀ nn : Nat, (parseMethodDescriptor (gb_met y).1.desc).map (fun d => d.parameters.length) = some nn → ∀ sig, parseMethodDescriptor (gb_met y).1.desc = some sig → nn = sig.parameters.length := by
      intro nn hnn sig hsig
      rw [hsig] at hnn
      exact (Option.some.inj hnn).symm
    have hfix : CallFix p m c (gb_met k).2.1 (gb_inf k).1 s args (([] : List Cond)) (gb_own (gb_mo k)) := ⟨C.1, C.2.1, C.2.2.2.1, C.2.2.2.2.1, fun w hw => by cases hw⟩
    have hsz : (F0 m pc lsC (st.map (gb_cv b B))).locals.size = (gb_inf k).1 := hl.2.1
    have hfin : ∀ (a : Array Value), va_Run p l e R s m args below meth c H locs cells slots (P'.length - P.length) (gb_msl P' - gb_msl P) (F0 m pc lsC (st.map (gb_cv b B))) ((st.drop n).map (gb_cv b B)) (gb_Qc D b B v P' g' a) (fun q => B ≤ q) → W p l e R s m args below meth c H locs cells slots Q (F0 m pc lsC (st.map (gb_cv b B))) := by
      intro a hr
      exact gb_after hr hL (fun H1 locs1 hR1 hL1 => by rw [← gb_psh]; exact kk H1 locs1 lsC hl hR1 hL1)
    have hsplit : st.map (gb_cv b B) = (st.take n).map (gb_cv b B) ++ (st.drop n).map (gb_cv b B) := by rw [← List.map_append, List.take_append_drop]
    unfold gb_rcv at c3
    simp only [Bool.and_eq_true, decide_eq_true_eq] at c3
    obtain ⟨⟨⟨r1, r2⟩, r3⟩, r4⟩ := c3
    split at hci
    · -- invokevirtual
      rename_i i
      simp only [Bool.and_eq_true, Bool.or_eq_true, decide_eq_true_eq] at hci
      obtain ⟨hk0, hlk⟩ := hci
      rw [hk0] at m5 m6
      simp only [Bool.and_eq_true, decide_eq_true_eq] at m6
      obtain ⟨⟨⟨⟨v1, v2⟩, v3⟩, v4⟩, v5⟩ := m6
      rw [v3] at r4
      have hnargs : (gb_inf y).2.2.2.1 - 1 + 1 = (gb_inf y).2.2.2.1 := by omega
      dsimp only at r4
      generalize hras : (st.take n).reverse = as at *
      match as, r4 with
      | .ref a :: as', r4 =>
        simp only [decide_eq_true_eq] at r4
        have hst : (st.take n) = as'.reverse ++ [.ref a] := by
          have := congrArg List.reverse hras
          simpa using this
        obtain ⟨r, hr, hp, cell, q1, q2, q3, q4⟩ := gb_obj hR r4 v4
        obtain ⟨z1, -⟩ := gb_clsOK _ r hr
        have hKn := hK.1 _ r hr
        have hPV : PreV s H (gb_met y).1.cls (B + a) (gb_Pc D b B (.ref a :: as') P g) (as'.map (gb_cv b B)) :=
          ⟨gb_blind D b B _ P g, ⟨cell, q1, by rw [q3]; rfl, by rw [m1, ← z1, q2]; exact hKn.2.1⟩, hpre⟩
        have hAs : (as'.map (gb_cv b B)).length = (gb_inf y).2.2.2.1 - 1 := by
          rw [List.length_map]
          simp only [List.length_cons] at r1
          omega
        have hstack : (F0 m pc lsC (st.map (gb_cv b B))).stack = (as'.map (gb_cv b B)).reverse ++ .ref (B + a) :: (st.drop n).map (gb_cv b B) := by
          show st.map (gb_cv b B) = _
          rw [hsplit, hst]
          simp [gb_cv]
        have hin := C.2.2.2.2.2.1 _ (gb_insM_ok y v2) rfl
        have hse := C.2.2.2.2.2.1 _ (gb_virM_ok y v1) rfl
        rcases hlk with hlk | hlk
        · have hlink := C.2.2.2.2.2.1 _ (gb_mtab_ok _ (gb_lk hlk)) rfl
          refine hfin _ (va_runV hfix hcon ⟨⟨rfl, rfl, hfr', hlo', hws, List.mem_cons_self, hcode, hini, m4, hlen _ m5, hlink⟩, hin, hse⟩ hPV rfl hAs hsz hstack (lv_room hcat) hd ⟨hc, hsl⟩)
        · have hlink := va_Nw.use (A := args) rfl (hK.2.1 _ (gb_lk hlk) rfl)
          refine hfin _ (va_runVN hfix hcon ⟨⟨⟨rfl, rfl, hfr', hlo', hws, List.mem_cons_self⟩, hcode, hini, m4, hlen _ m5, hlink⟩, hin, hse⟩ hPV rfl hAs hsz hstack (lv_room hcat) hd ⟨hc, hsl⟩)
    · -- invokestatic
      rename_i i
      simp only [Bool.and_eq_true, Bool.or_eq_true, decide_eq_true_eq] at hci
      obtain ⟨hk0, hlk⟩ := hci
      rw [hk0] at m5 m6
      simp only [Bool.and_eq_true, decide_eq_true_eq] at m6
      obtain ⟨v1, v2⟩ := m6
      have hAs : ((st.take n).reverse.map (gb_cv b B)).length = (gb_inf y).2.2.2.1 - 0 := by
        rw [List.length_map, r1]
        omega
      have hstack : (F0 m pc lsC (st.map (gb_cv b B))).stack = ((st.take n).reverse.map (gb_cv b B)).reverse ++ (st.drop n).map (gb_cv b B) := by
        show st.map (gb_cv b B) = _
        rw [hsplit]
        simp
      have hst := C.2.2.2.2.2.1 _ (gb_staM_ok y v1) rfl
      have hPS : PreS s H (gb_Pc D b B (st.take n).reverse P g) ((st.take n).reverse.map (gb_cv b B)) := ⟨gb_blind D b B _ P g, hpre⟩
      rcases hlk with hlk | hlk
      · have hlink := C.2.2.2.2.2.1 _ (gb_mtab_ok _ (gb_lk hlk)) rfl
        refine hfin _ (va_runS hfix hcon ⟨⟨rfl, rfl, hfr', hlo', hws, List.mem_cons_self, hcode, hini, m4, hlen _ m5, hlink⟩, hst⟩ hPS rfl hAs hsz hstack (lv_room hcat) hd ⟨hc, hsl⟩)
      · have hlink := va_Nw.use (A := args) rfl (hK.2.1 _ (gb_lk hlk) rfl)
        refine hfin _ (va_runSN hfix hcon ⟨⟨⟨rfl, rfl, hfr', hlo', hws, List.mem_cons_self⟩, hcode, hini, m4, hlen _ m5, hlink⟩, hst, trivial⟩ hPS rfl hAs hsz hstack (lv_room hcat) hd ⟨hc, hsl⟩)
    · -- invokespecial
      rename_i i
      simp only [Bool.and_eq_true, Bool.or_eq_true, decide_eq_true_eq] at hci
      obtain ⟨hk0, hlk⟩ := hci
      rw [hk0] at m5 m6
      simp only [Bool.and_eq_true, decide_eq_true_eq] at m6
      obtain ⟨⟨⟨⟨⟨v1, v2⟩, v3⟩, v4⟩, v5⟩, v6⟩ := m6
      rw [v4] at r4
      dsimp only at r4
      generalize hras : (st.take n).reverse = as at *
      match as, r4 with
      | .ref a :: as', r4 =>
        have hst : (st.take n) = as'.reverse ++ [.ref a] := by
          have := congrArg List.reverse hras
          simpa using this
        have hPS : PreS s H (gb_Pc D b B (.ref a :: as') P g) (.ref (B + a) :: as'.map (gb_cv b B)) := ⟨gb_blind D b B _ P g, hpre⟩
        have hAs : (as'.map (gb_cv b B)).length = (gb_inf y).2.2.2.1 - 1 := by
          rw [List.length_map]
          simp only [List.length_cons] at r1
          omega
        have hstack : (F0 m pc lsC (st.map (gb_cv b B))).stack = (as'.map (gb_cv b B)).reverse ++ .ref (B + a) :: (st.drop n).map (gb_cv b B) := by
          show st.map (gb_cv b B) = _
          rw [hsplit, hst]
          simp [gb_cv]
        have hin := C.2.2.2.2.2.1 _ (gb_insM_ok y v1) rfl
        rw [v3] at hcode
        have hmem : Cond.code (gb_met y).1 (gb_met y).2.1 (gb_inf y).1 none ∈ gb_ws y := by
          rw [← v3]
          exact List.mem_cons_self
        rcases hlk with hlk | hlk
        · have hlink := C.2.2.2.2.2.1 _ (gb_mtab_ok _ (gb_lk hlk)) rfl
          refine hfin _ (va_runI hfix hcon ⟨⟨rfl, rfl, hfr', hlo', hws, hmem, hcode, hini, m4, hlen _ m5, hlink⟩, v2, hin⟩ hPS rfl hAs hsz hstack (lv_room hcat) hd ⟨hc, hsl⟩)
        · have hlink := va_Nw.use (A := args) rfl (hK.2.1 _ (gb_lk hlk) rfl)
          refine hfin _ (va_runIN hfix hcon ⟨⟨⟨rfl, rfl, hfr', hlo', hws, hmem⟩, hcode, hini, m4, hlen _ m5, hlink⟩, v2, hin⟩ hPS rfl hAs hsz hstack (lv_room hcat) hd ⟨hc, hsl⟩)
    · cases hci
  · cases hs
end GBC
