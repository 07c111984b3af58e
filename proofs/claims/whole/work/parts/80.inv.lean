/-! what every step of the law keeps -/
def rtB : Instr → Bool
  | .lreturn => true
  | .return_ => true
  | _ => false
theorem v_run (m : Nat) (hm : ∀ i, i ∈ gb_prog m → rtB i = false) : ∀ (n : Nat) (r : List Instr) (ls st : List Value) (p : gb_Pi) (g : gb_Sg) (v : Value) (p' : gb_Pi) (g' : gb_Sg), (∀ i, i ∈ r → rtB i = false) → gb_run n m r ls st p g = some (v, p', g') → ∃ x, v = .int x
  | 0, _, _, _, _, _, _, _, _, _, h => by simp [gb_run] at h
  | n + 1, [], _, _, _, _, _, _, _, _, h => by simp [gb_run] at h
  | n + 1, i :: r, ls, st, p, g, v, p', g', hr, h => by
    rw [gb_run] at h
    have hr2 : ∀ j, j ∈ r → rtB j = false := fun j hj => hr j (List.mem_cons_of_mem _ hj)
    cases e : gb_stp i ls st p g with
    | none => rw [e] at h; cases h
    | some o =>
      rw [e] at h
      match o, e, h with
      | .inl q, _, h => exact v_run m hm n _ _ _ _ _ _ _ _ hr2 h
      | .inr (.inl q), _, h => exact v_run m hm n _ _ _ _ _ _ _ _ (fun j hj => hm j (List.mem_of_mem_drop hj)) h
      | .inr (.inr (.inl w)), e, h =>
        have hi := hr i (List.mem_cons_self ..)
        injection h with h
        injection h with h1 h2
        subst h1
        rcases gb_stp_rt e with ⟨rfl, x, _, hv⟩ | ⟨rfl, x, _, hv, _⟩ | ⟨rfl, x, _, _⟩ | ⟨rfl, _⟩
        · exact ⟨x, hv⟩
        · exact ⟨x, hv⟩
        · cases hi
        · cases hi
      | .inr (.inr (.inr q)), _, h =>
        dsimp only at h
        cases h1 : gb_run n q.1 (gb_prog q.1) (gb_ent (gb_inf q.1).1 (q.2.2.take q.2.1).reverse) [] p g with
        | none => rw [h1] at h; cases h
        | some w => rw [h1] at h; exact v_run m hm n _ _ _ _ _ _ _ _ hr2 h
theorem v_int {m : Nat} {as : List Value} {p p' : gb_Pi} {g g' : gb_Sg} {v : Value} (hm : (gb_prog m).all (fun i => !rtB i) = true) (h : gb_call m as p g = some (v, p', g')) : ∃ x, v = .int x := by
  obtain ⟨n, hn⟩ := gb_ex_iff.mp h
  have hm' : ∀ i, i ∈ gb_prog m → rtB i = false := fun i hi => by
    have := List.all_eq_true.mp hm i hi
    simpa using this
  exact v_run m hm' n _ _ _ _ _ _ _ _ hm' hn
theorem d_fell2 (I : Nat → Nat → Int32) (J : Nat → Nat → Int64) (q : Bool × Bool) (X : Nat × (Nat → Int32)) {N : Nat} {w : Nat → Nat} (h : nums I N w) (k : Int32) : ∃ v J', gb_call 89 [.ref (0 : Nat), .int k] gb_pG (gS I J q X) = some (v, gb_pG, gS I J q X) ∧ gb_call 164 [.ref (190 : Nat), .int k] gb_pG (gS I J q X) = some (v, gb_pG, gS I J' q X) ∧ J' 59 = J 59 := by
  have hm := nums_mx h
  have hj := nums_J h
  obtain ⟨h1, h2, h3, h4, h5⟩ := h
  have a1 := s_SH_greatest I J q X h1 h2 hj.1
  have a2 := s_RM_greatest I J q X h1 h3 hj.2
  generalize mx w N = M at hm a1 a2
  have hT : M * N ≤ 9999 * 20 := Nat.mul_le_mul hm.2 h1
  obtain ⟨T, eT⟩ : ∃ T, T = M * N + M - N := ⟨_, rfl⟩
  have e1 : nI M * nI N + nI M - nI N = nI T := by rw [pk_mul, nI_add, pk_sub (by omega), eT]
  have e2 : lN M * lN N + lN M - lN N = lN T := by rw [lN_mul, lN_add, lN_sub (by omega), eT]
  have e3 : (nI N).toInt64 = lN N := nI_l (by omega)
  have e4 : (nI M).toInt64 = lN M := nI_l (by omega)
  have eJ : upJ (upJ J 190 32 (lN (T / Nat.gcd T N))) 190 33 (lN (N / Nat.gcd T N)) 59 = J 59 := by rw [upJ_ne (by omega), upJ_ne (by omega)]
  rw [cl_GB_fell, cl_RM_fell]
  by_cases c2 : N = 0
  · simp only [x_iload_1, x_c_0, x_c_2, xc_GB_within, x_if_ne, x_c_m1, x_iret, x_aload_0, x_get_578, x_get_394, x_istore_2, x_iload_2, x_c_1, x_ic_ge, x_c_m2, xc_SH_greatestNumber, x_istore_3, x_iload_3, x_imul, x_iadd, x_isub, x_istore_4, x_ic_ne, x_iload_4, xc_GB_shortened, x_goto, tg_GB_fell_7, tg_GB_fell_16, tg_GB_fell_24, tg_GB_fell_40, tg_GB_fell_44, bk_GB_fell_0, bk_GB_fell_7, bk_GB_fell_16, bk_GB_fell_24, bk_GB_fell_40, bk_GB_fell_44, kil_int, kil_ref, kil_null, kil_long, kil_rA, psh_int, psh_long, psh_null, gI_gS, gL_gS, gR_gS, sI_gS, sL_gS, orf_some, Option.bind_some, List.length_cons, List.length_nil, Nat.reduceAdd, Nat.reduceLeDiff, if_true, if_false, Nat.zero_le, x_iload_1, x_i2l, x_l_0, x_l_2, xc_RM_in, x_if_ne, x_c_m1, x_iret, x_aload_0, x_get_663, x_c_0, x_iald, x_istore_2, x_iload_2, x_c_m2, xc_RM_greatest, x_istore_3, x_iload_3, x_lmul, x_ladd, x_lsub, xc_RM_lowest, x_goto, x_c_1, x_ic_ne, x_get_672, x_get_673, x_l2i, tg_RM_fell_8, tg_RM_fell_17, tg_RM_fell_40, tg_RM_fell_46, tg_RM_fell_48, bk_RM_fell_0, bk_RM_fell_8, bk_RM_fell_17, bk_RM_fell_40, bk_RM_fell_46, bk_RM_fell_48, kil_int, kil_ref, kil_null, kil_long, kil_rA, psh_int, psh_long, psh_null, gI_gS, gL_gS, gR_gS, sI_gS, sL_gS, orf_some, Option.bind_some, List.length_cons, List.length_nil, Nat.reduceAdd, Nat.reduceLeDiff, if_true, if_false, Nat.zero_le, s_GB_within, s_RM_in, ite_b2, at_0, at_23, at_190, at_210, al_210, rw_0_2, rw_190_23, h2, a1, a2]
    simp (disch := first | omega | decide | assumption | simp only [List.length_cons, List.length_nil, Nat.reduceAdd, Nat.reduceLeDiff]) only [w_Lle, w_leL, nI_ltI, nI_leI, nI_eq, nI_ltL, nI_leL, L_ltI, L_leI, nI_eqL, L_eqI, oob_nI, ix_nI, oob_L, ix_L, nI_1, nI_add, nI_z, z_nI, nI_lt0, nI_ge0, nI_gt0, nI_le0, ne_eq, Nat.le_zero_eq, Nat.not_lt_zero, Nat.lt_irrefl, Nat.le_refl, h3, c2]
    by_cases c1 : 0 ≤ k ∧ k ≤ 2
    · rw [if_pos c1, if_pos c1]
      exact ⟨_, J, rfl, rfl, rfl⟩
    · rw [if_neg c1, if_neg c1]
      exact ⟨_, J, rfl, rfl, rfl⟩
  · have b1 := s_GB_shortened (gS I J q X) (p := T) (a := T) (b := N) (by omega) (by omega) (by omega) (by omega)
    have b2 := s_GB_shortened (gS I J q X) (p := N) (a := T) (b := N) (by omega) (by omega) (by omega) (by omega)
    have b3 := s_RM_lowest I J q X (a := T) (b := N) (by omega) (by omega) (by omega)
    simp (disch := first | omega | decide | assumption | simp only [List.length_cons, List.length_nil, Nat.reduceAdd, Nat.reduceLeDiff]) only [x_iload_1, x_c_0, x_c_2, xc_GB_within, x_if_ne, x_c_m1, x_iret, x_aload_0, x_get_578, x_get_394, x_istore_2, x_iload_2, x_c_1, x_ic_ge, x_c_m2, xc_SH_greatestNumber, x_istore_3, x_iload_3, x_imul, x_iadd, x_isub, x_istore_4, x_ic_ne, x_iload_4, xc_GB_shortened, x_goto, tg_GB_fell_7, tg_GB_fell_16, tg_GB_fell_24, tg_GB_fell_40, tg_GB_fell_44, bk_GB_fell_0, bk_GB_fell_7, bk_GB_fell_16, bk_GB_fell_24, bk_GB_fell_40, bk_GB_fell_44, kil_int, kil_ref, kil_null, kil_long, kil_rA, psh_int, psh_long, psh_null, gI_gS, gL_gS, gR_gS, sI_gS, sL_gS, orf_some, Option.bind_some, List.length_cons, List.length_nil, Nat.reduceAdd, Nat.reduceLeDiff, if_true, if_false, Nat.zero_le, x_iload_1, x_i2l, x_l_0, x_l_2, xc_RM_in, x_if_ne, x_c_m1, x_iret, x_aload_0, x_get_663, x_c_0, x_iald, x_istore_2, x_iload_2, x_c_m2, xc_RM_greatest, x_istore_3, x_iload_3, x_lmul, x_ladd, x_lsub, xc_RM_lowest, x_goto, x_c_1, x_ic_ne, x_get_672, x_get_673, x_l2i, tg_RM_fell_8, tg_RM_fell_17, tg_RM_fell_40, tg_RM_fell_46, tg_RM_fell_48, bk_RM_fell_0, bk_RM_fell_8, bk_RM_fell_17, bk_RM_fell_40, bk_RM_fell_46, bk_RM_fell_48, kil_int, kil_ref, kil_null, kil_long, kil_rA, psh_int, psh_long, psh_null, gI_gS, gL_gS, gR_gS, sI_gS, sL_gS, orf_some, Option.bind_some, List.length_cons, List.length_nil, Nat.reduceAdd, Nat.reduceLeDiff, if_true, if_false, Nat.zero_le, s_GB_within, s_RM_in, ite_b2, at_0, at_23, at_190, at_210, al_210, rw_0_2, rw_190_23, h2, a1, a2, e1, b1, b2, w_Lle, w_leL, nI_ltI, nI_leI, nI_eq, nI_ltL, nI_leL, L_ltI, L_leI, nI_eqL, L_eqI, oob_nI, ix_nI, oob_L, ix_L, nI_1, nI_add, nI_z, z_nI, nI_lt0, nI_ge0, nI_gt0, nI_le0, ne_eq, Nat.le_zero_eq, Nat.not_lt_zero, Nat.lt_irrefl, Nat.le_refl, h3, if_neg c2, if_pos c2, e2, e3, e4, b3, lN_32, c2, not_false_eq_true, Bool.false_eq_true]
    by_cases c1 : 0 ≤ k ∧ k ≤ 2
    · rw [if_pos c1, if_pos c1]
      by_cases k0 : k = 0
      · subst k0
        simp only [ne_eq, not_true_eq_false, not_false_eq_true, if_true, if_false, show ((1 : Int32) = 0) = False from by decide, if_pos (show 1 ≤ N by omega)]
        exact ⟨_, _, rfl, rfl, rfl⟩
      · by_cases k1 : k = 1
        · subst k1
          simp (disch := first | omega | decide | assumption | simp only [List.length_cons, List.length_nil, Nat.reduceAdd, Nat.reduceLeDiff]) only [up_at, upd_at, upJ_at, updL_at, Nat.reduceEqDiff, if_true, if_false, ne_eq, not_true_eq_false, not_false_eq_true, if_true, if_false, show ((1 : Int32) = 0) = False from by decide, lN_32, if_pos (show 1 ≤ N by omega)]
          exact ⟨_, _, rfl, rfl, eJ⟩
        · simp (disch := first | omega | decide | assumption | simp only [List.length_cons, List.length_nil, Nat.reduceAdd, Nat.reduceLeDiff]) only [up_at, upd_at, upJ_at, updL_at, Nat.reduceEqDiff, if_true, if_false, ne_eq, not_true_eq_false, not_false_eq_true, if_true, if_false, show ((1 : Int32) = 0) = False from by decide, k0, k1, lN_32, if_pos (show 1 ≤ N by omega)]
          exact ⟨_, _, rfl, rfl, eJ⟩
    · rw [if_neg c1, if_neg c1]
      exact ⟨_, J, rfl, rfl, rfl⟩
theorem txt_fr {I I' : Nat → Nat → Int32} {L : Nat} (h : txt I L) (e1 : I' 1 1 = I 1 1) (e2 : I' 2 = I 2) (e3 : I' 190 0 = I 190 0) (e4 : I' 191 = I 191) : txt I' L := by
  unfold txt at h ⊢; rw [e1, e2, e3, e4]; exact h
theorem shr_fr {I I' : Nat → Nat → Int32} {K : Nat} {c : Nat → Nat → Nat} (h : shr I K c) (e1 : I' 190 18 = I 190 18) (e : ∀ a, (23 ≤ a ∧ a ≤ 35) ∨ (206 ≤ a ∧ a ≤ 211) → I' a = I a) : shr I' K c := by
  unfold shr at h ⊢
  rw [e1, e 23 (by omega), e 24 (by omega), e 25 (by omega), e 26 (by omega), e 27 (by omega), e 28 (by omega), e 29 (by omega), e 30 (by omega), e 31 (by omega), e 32 (by omega), e 33 (by omega), e 34 (by omega), e 35 (by omega), e 206 (by omega), e 207 (by omega), e 208 (by omega), e 209 (by omega), e 210 (by omega), e 211 (by omega)]; exact h
theorem stf_fr2 {I I' : Nat → Nat → Int32} {S : Nat → Nat → Nat} {C : Nat → Nat} (h : stf I S C) (e : ∀ a, (65 ≤ a ∧ a ≤ 78) ∨ a = 212 ∨ a = 213 → I' a = I a) : stf I' S C := by
  obtain ⟨h1, h2, h3⟩ := h
  refine ⟨fun t k ht hk => ?_, fun t v ht hv => ?_, fun t ht => ?_⟩
  · rw [e _ (by omega), e 212 (by omega)]; exact h1 t k ht hk
  · rw [e _ (by omega)]; exact h2 t v ht hv
  · rw [e 78 (by omega), e 213 (by omega)]; exact h3 t ht
theorem fnd_fr {I I' : Nat → Nat → Int32} {c c' : Nat → Nat → Nat} {nk nc : Nat} (h : fnd I c nk nc) (hc : c' 0 0 ≤ c 0 0) (e : ∀ a, 24 ≤ a → a ≤ 26 → I' a = I a) : fnd I' c' nk nc := by
  intro i hi
  rw [e 24 (by omega) (by omega), e 25 (by omega) (by omega), e 26 (by omega) (by omega)]; exact h i (by omega)
theorem rpt_fr {I I' : Nat → Nat → Int32} {c c' : Nat → Nat → Nat} {nk nc : Nat} (h : rpt I c nk nc) (hc : c' 1 0 ≤ c 1 0) (e : ∀ a, 27 ≤ a → a ≤ 31 → I' a = I a) : rpt I' c' nk nc := by
  intro i hi
  rw [e 27 (by omega) (by omega), e 28 (by omega) (by omega), e 29 (by omega) (by omega), e 30 (by omega) (by omega), e 31 (by omega) (by omega)]; exact h i (by omega)
theorem nmb_fr {I I' : Nat → Nat → Int32} {c c' : Nat → Nat → Nat} (h : nmb I c) (hc : c' 2 0 ≤ c 2 0) (e : I' 32 = I 32) : nmb I' c' := by
  unfold nmb
  rw [e]; exact ⟨fun i hi => h.1 i (by omega), fun i j hij hj => h.2 i j hij (by omega)⟩
theorem mR_fr2 {I I' : Nat → Nat → Int32} {N : Nat → Nat} {D : Nat → Nat → Int} (ho : oB N D) (h : mR I 0 N D) (e : ∀ a j, 192 ≤ a → a ≤ 202 → j < hw a → I' a j = I a j) : mR I' 0 N D := by
  obtain ⟨⟨o1, o2, o3, o4, o5, o6⟩, -⟩ := ho
  obtain ⟨⟨a1, a2, a3, a4, a5⟩, b1, b2, b3, b4⟩ := h
  refine ⟨⟨?_, ?_, ?_, ?_, ?_⟩, fun r j hr hj => ?_, fun r j hr hj => ?_, fun r j hr hj => ?_, fun r j hr hj => ?_⟩
  · rw [e 192 0 (by omega) (by omega) (by decide)]; exact a1
  · rw [e 193 0 (by omega) (by omega) (by decide)]; exact a2
  · rw [e 195 0 (by omega) (by omega) (by decide)]; exact a3
  · rw [e 197 0 (by omega) (by omega) (by decide)]; exact a4
  · rw [e 199 0 (by omega) (by omega) (by decide)]; exact a5
  · rw [e 194 _ (by omega) (by omega) (by rw [show hw 194 = 24 from rfl]; omega)]; exact b1 r j hr hj
  · rw [e 196 _ (by omega) (by omega) (by rw [show hw 196 = 36 from rfl]; omega)]; exact b2 r j hr hj
  · rw [e 198 _ (by omega) (by omega) (by rw [show hw 198 = 24 from rfl]; omega)]; exact b3 r j hr hj
  · rw [e 200 _ (by omega) (by omega) (by rw [show hw 200 = 40 from rfl]; omega)]; exact b4 r j hr hj
theorem lay_fr2 {I I' : Nat → Nat → Int32} {q : Bool × Bool} {N : Nat → Nat} {D : Nat → Nat → Int} (h : lay I q N D) (eb : ∀ a, gb_bb q ≤ a → a ≤ gb_bb q + 16 → I' a = I a) (em : ∀ a j, 192 ≤ a → a ≤ 202 → j < hw a → I' a j = I a j) : lay I' q N D :=
  ⟨cR_fr h.1 (fun a ha => eb a (by omega) (by omega)), mR_fr2 h.2.2 h.2.1 em, h.2.2⟩
theorem kR_fr2 {I I' : Nat → Nat → Int32} {r : Nat} {E : Nat → Nat → Nat} (h : kR I 0 r E) (hr : r ≤ 10) (e1 : I' 201 0 = I 201 0) (e2 : ∀ j, j < 130 → I' 202 j = I 202 j) : kR I' 0 r E := by
  obtain ⟨h1, h2⟩ := h
  refine ⟨by rw [e1]; exact h1, fun j hj => ⟨(h2 j hj).1, fun k hk hk2 => ?_⟩⟩
  rw [e2 _ (by omega)]; exact (h2 j hj).2 k hk hk2
def iw (I : Nat → Nat → Int32) (J : Nat → Nat → Int64) (q : Bool × Bool) (L K : Nat) (c S : Nat → Nat → Nat) (C N : Nat → Nat) (D : Nat → Nat → Int) (r : Nat) (E : Nat → Nat → Nat) : Prop :=
  (txt I L ∧ shr I K c ∧ stf I S C) ∧ (fnd I c (N 3) (N 0) ∧ rpt I c (N 3) (N 0) ∧ nmb I c) ∧ (lay I q N D ∧ kn I N D ∧ ∀ l, l < N 4 → mW I N D l) ∧ (lR I (gb_lb q) r E ∧ kR I 0 r E ∧ r ≤ 10) ∧ ∀ p, p ≤ 16 → J 59 p = 0
def iv (I : Nat → Nat → Int32) (J : Nat → Nat → Int64) (q : Bool × Bool) : Prop := ∃ L K c S C N D r E, iw I J q L K c S C N D r E
theorem iw_fr {I I' : Nat → Nat → Int32} {J J' : Nat → Nat → Int64} {q : Bool × Bool} {L K : Nat} {c S : Nat → Nat → Nat} {C N : Nat → Nat} {D : Nat → Nat → Int} {r : Nat} {E : Nat → Nat → Nat} (h : iw I J q L K c S C N D r E)
    (e1 : I' 1 1 = I 1 1) (e2 : I' 190 0 = I 190 0) (e3 : I' 190 18 = I 190 18) (ea : ∀ a, a = 2 ∨ (23 ≤ a ∧ a ≤ 35) ∨ (65 ≤ a ∧ a ≤ 78) ∨ a = 191 ∨ (203 ≤ a ∧ a ≤ 213) → I' a = I a)
    (eb : ∀ a, gb_bb q ≤ a → a ≤ gb_bb q + 16 → I' a = I a) (em : ∀ a j, 192 ≤ a → a ≤ 202 → j < hw a → I' a j = I a j) (el : ∀ a, gb_lb q ≤ a → a ≤ gb_lb q + 37 → I' a = I a) (ek : kn I' N D) (eJ : J' 59 = J 59) : iw I' J' q L K c S C N D r E := by
  obtain ⟨⟨h1, h2, h3⟩, ⟨h4, h5, h6⟩, ⟨h7, h8, h9⟩, ⟨h10, h11, h12⟩, h13⟩ := h
  refine ⟨⟨txt_fr h1 e1 (ea 2 (by omega)) e2 (ea 191 (by omega)), shr_fr h2 e3 (fun a ha => ea a (by omega)), stf_fr2 h3 (fun a ha => ea a (by omega))⟩, ⟨fnd_fr h4 (Nat.le_refl _) (fun a _ _ => ea a (by omega)), rpt_fr h5 (Nat.le_refl _) (fun a _ _ => ea a (by omega)), nmb_fr h6 (Nat.le_refl _) (ea 32 (by omega))⟩, ⟨lay_fr2 h7 eb em, ek, fun l hl => mW_fr (h9 l hl) (fun a _ _ => ea a (by omega))⟩, ⟨lR_fr h10 h12 el, kR_fr2 h11 h12 (em 201 0 (by omega) (by omega) (by decide)) (fun j hj => em 202 j (by omega) (by omega) hj), h12⟩, fun p hp => by rw [eJ]; exact h13 p hp⟩
/-- the class and the model at one call: the same int, and what is kept is kept -/
def okI (m1 m2 : Nat) (as : List Value) (I : Nat → Nat → Int32) (J : Nat → Nat → Int64) (q : Bool × Bool) (X : Nat × (Nat → Int32)) : Prop :=
  ∃ r I1 J1 q1 I2 J2, gb_call m1 (.ref (0 : Nat) :: as) gb_pG (gS I J q X) = some (.int r, gb_pG, gS I1 J1 q1 X) ∧ gb_call m2 (.ref (190 : Nat) :: as) gb_pG (gS I1 J1 q1 X) = some (.int r, gb_pG, gS I2 J2 q1 X) ∧ iv I2 J2 q1
def okJ (m1 m2 : Nat) (as : List Value) (I : Nat → Nat → Int32) (J : Nat → Nat → Int64) (q : Bool × Bool) (X : Nat × (Nat → Int32)) : Prop :=
  ∃ r I1 J1 q1 I2 J2, gb_call m1 (.ref (0 : Nat) :: as) gb_pG (gS I J q X) = some (.long r, gb_pG, gS I1 J1 q1 X) ∧ gb_call m2 (.ref (190 : Nat) :: as) gb_pG (gS I1 J1 q1 X) = some (.long r, gb_pG, gS I2 J2 q1 X) ∧ iv I2 J2 q1
theorem ok_same {m1 m2 : Nat} {as : List Value} {I : Nat → Nat → Int32} {J : Nat → Nat → Int64} {q : Bool × Bool} {X : Nat × (Nat → Int32)} (h : iv I J q) (hm : (gb_prog m1).all (fun i => !rtB i) = true) (hd : ∃ v, gb_call m1 (.ref (0 : Nat) :: as) gb_pG (gS I J q X) = some (v, gb_pG, gS I J q X) ∧ gb_call m2 (.ref (190 : Nat) :: as) gb_pG (gS I J q X) = some (v, gb_pG, gS I J q X)) : okI m1 m2 as I J q X := by
  obtain ⟨v, h1, h2⟩ := hd
  obtain ⟨x, rfl⟩ := v_int hm h1
  exact ⟨x, I, J, q, I, J, h1, h2, h⟩
