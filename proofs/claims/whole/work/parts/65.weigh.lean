def clG (I : Nat → Nat → Int32) (k : Nat) (G : Option (Nat × Nat) → Bool) : Prop := ∀ c, c < 16 → ∃ m : Int, I (41 + k) c = zI m ∧ -1 ≤ m ∧ m ≤ 999 ∧ ∀ t : Nat, t ≤ 999 → ((t : Int) ≤ m ↔ G (some (c, t)) = true)
theorem clG_of {I R : Nat → Nat → Int32} {q : Bool × Bool} {nk n k : Nat} (h : clr I q R nk n) (hk : k < nk) : clG I k (gs R q n k) := by
  intro c hc
  obtain ⟨m, m1, m2, m3, m4⟩ := h k c hk hc
  refine ⟨m, m1, m2, m3, fun t ht => ?_⟩
  rw [m4 t ht]
  show _ ↔ la _ n 0 = true
  rw [la_true]
  constructor
  · rintro ⟨j, j1, j2⟩
    exact ⟨j, by omega, by omega, j2⟩
  · rintro ⟨j, j1, j2, j3⟩
    exact ⟨j, by omega, j3⟩
theorem l_weigh (J : Nat → Nat → Int64) (q : Bool × Bool) (X : Nat × (Nat → Int32)) {N : Nat → Nat} {D : Nat → Nat → Int} (ho : oB N D) {l hr k b : Nat} (hl : l < N 4) (hk : k < 6) (hh : hr ≤ 999) {G : Option (Nat × Nat) → Bool} (G0 : G none = false) : ∀ d i I A (Bc : Nat → Nat) (z8 z9 : Value), d + i = Wn D l → A + d ≤ 10000 → (∀ w, w < Wn D l → I (6 + l) w = rC (wo N D l w) ∧ I (15 + l) w = rT (wo N D l w)) → clG I k G → I 47 l = nI A → (∀ c, c < 16 → I (49 + l) c = nI (Bc c)) →
    ∃ I', gb_ex 29 bk_OU_weigh_25 [.ref (39 : Nat), .ref b, .ref (3 : Nat), .int (nI l), .int (nI hr), .ref (41 + k), .int (nI (Wn D l)), .int (nI i), z8, z9] [] gb_pG (gS I J q X) = some (.null, gb_pG, gS I' J q X) ∧ I' 47 l = nI (A + sm (fun w => cb (!G (wo N D l w))) d i) ∧ (∀ c, c < 16 → I' (49 + l) c = nI (Bc c + sm (fun w => cb (ash c c 0 hr (wo N D l w) && !G (wo N D l w))) d i)) ∧ (∀ j, j ≠ l → I' 47 j = I 47 j) ∧ ∀ y, y ≠ 47 → y ≠ 49 + l → I' y = I y
  | 0, i, I, A, Bc, z8, z9, e, hA, hv, hG, h47, h49 => by
    have hwb := Wn_b ho hl
    refine ⟨I, ?_, by rw [sm, Nat.add_zero]; exact h47, fun c hc => by rw [sm, Nat.add_zero]; exact h49 c hc, fun _ _ => rfl, fun _ _ _ => rfl⟩
    rw [bk_OU_weigh_25]
    simp (disch := first | omega | decide | assumption | simp only [List.length_cons, List.length_nil, Nat.reduceAdd, Nat.reduceLeDiff]) only [x_aload_0, x_get_256, x_aload_1, x_get_9, x_iload_3, x_iald, x_aald, x_aaldJ, x_astore_5, xc_BE_worldsOf, x_istore_6, x_get_258, x_c_0, xc_JA_fill_53178, x_get_257, x_iast, x_istore_7, x_iload_7, x_iload_6, x_ic_ge, x_c_110, x_aload_2, x_get_67, x_istore_8, x_get_68, x_istore_9, x_iload_8, x_c_m1, x_ic_ne, x_dup2, x_c_1, x_iadd, x_goto, x_iload_9, x_aload_5, x_ic_le, x_iload_4, x_ic_gt, x_iinc_7_1, x_vret, tg_OU_weigh_25, tg_OU_weigh_57, tg_OU_weigh_83, tg_OU_weigh_85, bk_OU_weigh_0, bk_OU_weigh_57, bk_OU_weigh_83, bk_OU_weigh_85, kil_int, kil_ref, kil_null, kil_long, kil_rA, psh_int, psh_long, psh_null, gI_gS, gL_gS, gR_gS, sI_gS, sL_gS, orf_some, Option.bind_some, List.length_cons, List.length_nil, Nat.reduceAdd, Nat.reduceLeDiff, if_true, if_false, Nat.zero_le, nI_ltI, nI_leI, nI_eq, nI_ltL, nI_leL, L_ltI, L_leI, nI_eqL, L_eqI, oob_nI, ix_nI, oob_L, ix_L, nI_1, nI_add, nI_z, z_nI, nI_lt0, nI_ge0, nI_gt0, nI_le0, ne_eq, Nat.le_zero_eq, Nat.not_lt_zero, Nat.lt_irrefl, Nat.le_refl, i10, true_or, ne_eq, not_true_eq_false, not_false_eq_true, Bool.false_eq_true, true_and, and_true, and_self, if_true, if_false, or_true, false_or, or_false, or_self, false_and, and_false, Nat.one_ne_zero, n01, Nat.reduceEqDiff, if_pos (show Wn D l ≤ i by omega)]
  | d + 1, i, I, A, Bc, z8, z9, e, hA, hv, hG, h47, h49 => by
    have hwb := Wn_b ho hl
    have hl8 : l < 8 := by have := ho.1.2.2.2.2.2; omega
    have o2 := ho.1.2.1
    have t6 := atr_5 (k := l) hl8
    have t15 := atr_14 (k := l) hl8
    have t49 := atr_48 (k := l) hl8
    have tk := atr_40 (k := k) hk
    obtain ⟨v1, v2⟩ := hv i (by omega)
    have fin : ∀ (I1 : Nat → Nat → Int32) (A1 : Nat) (Bc1 : Nat → Nat) (y8 y9 : Value), (∀ y, y ≠ 47 → y ≠ 49 + l → I1 y = I y) → (∀ j, j ≠ l → I1 47 j = I 47 j) → I1 47 l = nI A1 → (∀ c, c < 16 → I1 (49 + l) c = nI (Bc1 c)) → A1 = A + cb (!G (wo N D l i)) → (∀ c, c < 16 → Bc1 c = Bc c + cb (ash c c 0 hr (wo N D l i) && !G (wo N D l i))) → ∃ I', gb_ex 29 bk_OU_weigh_25 [.ref (39 : Nat), .ref b, .ref (3 : Nat), .int (nI l), .int (nI hr), .ref (41 + k), .int (nI (Wn D l)), .int (nI (i + 1)), y8, y9] [] gb_pG (gS I1 J q X) = some (.null, gb_pG, gS I' J q X) ∧ I' 47 l = nI (A + sm (fun w => cb (!G (wo N D l w))) (d + 1) i) ∧ (∀ c, c < 16 → I' (49 + l) c = nI (Bc c + sm (fun w => cb (ash c c 0 hr (wo N D l w) && !G (wo N D l w))) (d + 1) i)) ∧ (∀ j, j ≠ l → I' 47 j = I 47 j) ∧ ∀ y, y ≠ 47 → y ≠ 49 + l → I' y = I y := by
      intro I1 A1 Bc1 y8 y9 hf hj h47' h49' hA1 hB1
      have hcb : cb (!G (wo N D l i)) ≤ 1 := by cases G (wo N D l i) <;> decide
      obtain ⟨I', r1, r2, r3, r4, r5⟩ := l_weigh J q X ho (b := b) hl hk hh G0 d (i + 1) I1 A1 Bc1 y8 y9 (by omega) (by omega) (fun w hw => by rw [hf (6 + l) (by omega) (by omega), hf (15 + l) (by omega) (by omega)]; exact hv w hw) (fun c hc => by rw [hf (41 + k) (by omega) (by omega)]; exact hG c hc) h47' h49'
      refine ⟨I', r1, ?_, fun c hc => ?_, fun j hjl => by rw [r4 j hjl, hj j hjl], fun y y1 y2 => by rw [r5 y y1 y2, hf y y1 y2]⟩
      · rw [r2, hA1, sm, Nat.add_assoc]
      · rw [r3 c hc, hB1 c hc, sm, Nat.add_assoc]
    cases ew : wo N D l i with
    | none =>
      rw [ew] at v1 v2 fin
      have v1 : I (6 + l) i = -1 := v1
      have v2 : I (15 + l) i = -1 := v2
      obtain ⟨I', r1, r2⟩ := fin (up I 47 l (nI (A + 1))) (A + 1) Bc (.int (-1)) (.int (-1)) (fun y y1 y2 => up_ne y1) (fun j hj => by rw [up_same, upd_ne hj]) (by rw [up_same, upd_same]) (fun c hc => by rw [up_ne (by omega)]; exact h49 c hc) (by rw [G0]; rfl) (fun c hc => rfl)
      refine ⟨I', ?_, r2⟩
      rw [bk_OU_weigh_25, ← r1]
      clear r1 r2 fin hv hG
      simp (disch := first | omega | decide | assumption | simp only [List.length_cons, List.length_nil, Nat.reduceAdd, Nat.reduceLeDiff]) only [x_aload_0, x_get_256, x_aload_1, x_get_9, x_iload_3, x_iald, x_aald, x_aaldJ, x_astore_5, xc_BE_worldsOf, x_istore_6, x_get_258, x_c_0, xc_JA_fill_53178, x_get_257, x_iast, x_istore_7, x_iload_7, x_iload_6, x_ic_ge, x_c_110, x_aload_2, x_get_67, x_istore_8, x_get_68, x_istore_9, x_iload_8, x_c_m1, x_ic_ne, x_dup2, x_c_1, x_iadd, x_goto, x_iload_9, x_aload_5, x_ic_le, x_iload_4, x_ic_gt, x_iinc_7_1, x_vret, tg_OU_weigh_25, tg_OU_weigh_57, tg_OU_weigh_83, tg_OU_weigh_85, bk_OU_weigh_0, bk_OU_weigh_57, bk_OU_weigh_83, bk_OU_weigh_85, kil_int, kil_ref, kil_null, kil_long, kil_rA, psh_int, psh_long, psh_null, gI_gS, gL_gS, gR_gS, sI_gS, sL_gS, orf_some, Option.bind_some, List.length_cons, List.length_nil, Nat.reduceAdd, Nat.reduceLeDiff, if_true, if_false, Nat.zero_le, at_3, at_5, at_14, at_39, at_47, al_5, al_14, al_47, rw_3_3, rw_3_4, rw_5, rw_14, rw_39_1, alr_5, alr_14, oob_nI, ix_nI, nI_1, nI_leI, L_leI, i10, true_or, ne_eq, not_true_eq_false, not_false_eq_true, Bool.false_eq_true, true_and, and_true, and_self, if_true, if_false, or_true, false_or, or_false, or_self, false_and, and_false, Nat.one_ne_zero, n01, Nat.reduceEqDiff, if_neg (show ¬ Wn D l ≤ i by omega), if_neg (show ¬ 110 ≤ i by omega), v1, v2, h47]
    | some p =>
      have hp := wo_b ho hl ew
      rw [ew] at v1 v2 fin
      have v1 : I (6 + l) i = nI p.1 := v1
      have v2 : I (15 + l) i = nI p.2 := v2
      have k1 : ¬ nI p.1 = -1 := fun h => by
        have h1 : (-1 : Int32) < 0 := by decide
        rw [← h] at h1
        exact nI_pos (by omega) h1
      obtain ⟨m, m1, m2, m3, m4⟩ := hG p.1 (by omega)
      have m4 := m4 p.2 hp.2
      have k2 : nI p.2 ≤ zI m ↔ (p.2 : Int) ≤ m := by rw [zI_nI, zI_leI (by omega) (by omega) (by omega) (by omega)]
      have hash : ∀ c, ash c c 0 hr (some p) = decide (c = p.1 ∧ p.2 ≤ hr) := fun c => by
        show decide ((c ≤ p.1 ∧ p.1 ≤ c) ∧ (0 ≤ p.2 ∧ p.2 ≤ hr)) = _
        rw [decide_eq_decide]
        omega
      by_cases cg : G (some p) = true
      · obtain ⟨I', r1, r2⟩ := fin I A Bc (.int (nI p.1)) (.int (nI p.2)) (fun _ _ _ => rfl) (fun _ _ => rfl) h47 h49 (by rw [cg]; rfl) (fun c hc => by rw [cg, Bool.not_true, Bool.and_false]; rfl)
        refine ⟨I', ?_, r2⟩
        have k3 : nI p.2 ≤ zI m := k2.mpr (m4.mpr cg)
        rw [bk_OU_weigh_25, ← r1]
        clear r1 r2 fin hv hG m4
        simp (disch := first | omega | decide | assumption | simp only [List.length_cons, List.length_nil, Nat.reduceAdd, Nat.reduceLeDiff]) only [x_aload_0, x_get_256, x_aload_1, x_get_9, x_iload_3, x_iald, x_aald, x_aaldJ, x_astore_5, xc_BE_worldsOf, x_istore_6, x_get_258, x_c_0, xc_JA_fill_53178, x_get_257, x_iast, x_istore_7, x_iload_7, x_iload_6, x_ic_ge, x_c_110, x_aload_2, x_get_67, x_istore_8, x_get_68, x_istore_9, x_iload_8, x_c_m1, x_ic_ne, x_dup2, x_c_1, x_iadd, x_goto, x_iload_9, x_aload_5, x_ic_le, x_iload_4, x_ic_gt, x_iinc_7_1, x_vret, tg_OU_weigh_25, tg_OU_weigh_57, tg_OU_weigh_83, tg_OU_weigh_85, bk_OU_weigh_0, bk_OU_weigh_57, bk_OU_weigh_83, bk_OU_weigh_85, kil_int, kil_ref, kil_null, kil_long, kil_rA, psh_int, psh_long, psh_null, gI_gS, gL_gS, gR_gS, sI_gS, sL_gS, orf_some, Option.bind_some, List.length_cons, List.length_nil, Nat.reduceAdd, Nat.reduceLeDiff, if_true, if_false, Nat.zero_le, at_3, at_5, at_14, at_39, at_47, al_5, al_14, al_47, rw_3_3, rw_3_4, rw_5, rw_14, rw_39_1, alr_5, alr_14, alr_40, oob_nI, ix_nI, nI_1, nI_leI, L_leI, i10, true_or, ne_eq, not_true_eq_false, not_false_eq_true, Bool.false_eq_true, true_and, and_true, and_self, if_true, if_false, or_true, false_or, or_false, or_self, false_and, and_false, Nat.one_ne_zero, n01, Nat.reduceEqDiff, if_neg (show ¬ Wn D l ≤ i by omega), if_neg (show ¬ 110 ≤ i by omega), v1, v2, k1, m1, k3]
      · have k3 : ¬ nI p.2 ≤ zI m := fun h => cg (m4.mp (k2.mp h))
        have cgf : G (some p) = false := by cases hx : G (some p) with | true => exact absurd hx cg | false => rfl
        by_cases ch : p.2 ≤ hr
        · obtain ⟨I', r1, r2⟩ := fin (up (up I 47 l (nI (A + 1))) (49 + l) p.1 (nI (Bc p.1 + 1))) (A + 1) (fun c => if c = p.1 then Bc c + 1 else Bc c) (.int (nI p.1)) (.int (nI p.2)) (fun y y1 y2 => by rw [up_ne y2, up_ne y1]) (fun j hj => by rw [up_ne (by omega), up_same, upd_ne hj]) (by rw [up_ne (by omega), up_same, upd_same]) (fun c hc => by
            rw [up_same, upd_at, up_ne (by omega)]
            by_cases ec : c = p.1
            · rw [if_pos ec, if_pos ec, ec]
            · rw [if_neg ec, if_neg ec]; exact h49 c hc) (by rw [cgf]; rfl) (fun c hc => by
            rw [cgf, hash, Bool.not_false, Bool.and_true]
            by_cases ec : c = p.1
            · rw [if_pos ec, decide_eq_true ⟨ec, ch⟩]; rfl
            · rw [if_neg ec, decide_eq_false (fun h => ec h.1)]; rfl)
          refine ⟨I', ?_, r2⟩
          have g49 := h49 p.1 (by omega)
          rw [bk_OU_weigh_25, ← r1]
          clear r1 r2 fin hv hG m4 h49
          simp (disch := first | omega | decide | assumption | simp only [List.length_cons, List.length_nil, Nat.reduceAdd, Nat.reduceLeDiff]) only [x_aload_0, x_get_256, x_aload_1, x_get_9, x_iload_3, x_iald, x_aald, x_aaldJ, x_astore_5, xc_BE_worldsOf, x_istore_6, x_get_258, x_c_0, xc_JA_fill_53178, x_get_257, x_iast, x_istore_7, x_iload_7, x_iload_6, x_ic_ge, x_c_110, x_aload_2, x_get_67, x_istore_8, x_get_68, x_istore_9, x_iload_8, x_c_m1, x_ic_ne, x_dup2, x_c_1, x_iadd, x_goto, x_iload_9, x_aload_5, x_ic_le, x_iload_4, x_ic_gt, x_iinc_7_1, x_vret, tg_OU_weigh_25, tg_OU_weigh_57, tg_OU_weigh_83, tg_OU_weigh_85, bk_OU_weigh_0, bk_OU_weigh_57, bk_OU_weigh_83, bk_OU_weigh_85, kil_int, kil_ref, kil_null, kil_long, kil_rA, psh_int, psh_long, psh_null, gI_gS, gL_gS, gR_gS, sI_gS, sL_gS, orf_some, Option.bind_some, List.length_cons, List.length_nil, Nat.reduceAdd, Nat.reduceLeDiff, if_true, if_false, Nat.zero_le, at_3, at_5, at_14, at_39, at_47, at_48, al_5, al_14, al_47, al_48, rw_3_3, rw_3_4, rw_5, rw_14, rw_39_1, rw_39_2, rw_48, alr_5, alr_14, alr_40, alr_48, oob_nI, ix_nI, nI_1, nI_leI, L_leI, nI_ltI, i10, true_or, ne_eq, not_true_eq_false, not_false_eq_true, Bool.false_eq_true, true_and, and_true, and_self, if_true, if_false, or_true, false_or, or_false, or_self, false_and, and_false, Nat.one_ne_zero, n01, Nat.reduceEqDiff, if_neg (show ¬ Wn D l ≤ i by omega), if_neg (show ¬ 110 ≤ i by omega), v1, v2, k1, m1, k3, h47, up_ne, if_neg (show ¬ hr < p.2 by omega), g49]
        · obtain ⟨I', r1, r2⟩ := fin (up I 47 l (nI (A + 1))) (A + 1) Bc (.int (nI p.1)) (.int (nI p.2)) (fun y y1 y2 => up_ne y1) (fun j hj => by rw [up_same, upd_ne hj]) (by rw [up_same, upd_same]) (fun c hc => by rw [up_ne (by omega)]; exact h49 c hc) (by rw [cgf]; rfl) (fun c hc => by
            rw [hash, decide_eq_false (fun h => ch h.2), Bool.false_and]; rfl)
          refine ⟨I', ?_, r2⟩
          rw [bk_OU_weigh_25, ← r1]
          clear r1 r2 fin hv hG m4
          simp (disch := first | omega | decide | assumption | simp only [List.length_cons, List.length_nil, Nat.reduceAdd, Nat.reduceLeDiff]) only [x_aload_0, x_get_256, x_aload_1, x_get_9, x_iload_3, x_iald, x_aald, x_aaldJ, x_astore_5, xc_BE_worldsOf, x_istore_6, x_get_258, x_c_0, xc_JA_fill_53178, x_get_257, x_iast, x_istore_7, x_iload_7, x_iload_6, x_ic_ge, x_c_110, x_aload_2, x_get_67, x_istore_8, x_get_68, x_istore_9, x_iload_8, x_c_m1, x_ic_ne, x_dup2, x_c_1, x_iadd, x_goto, x_iload_9, x_aload_5, x_ic_le, x_iload_4, x_ic_gt, x_iinc_7_1, x_vret, tg_OU_weigh_25, tg_OU_weigh_57, tg_OU_weigh_83, tg_OU_weigh_85, bk_OU_weigh_0, bk_OU_weigh_57, bk_OU_weigh_83, bk_OU_weigh_85, kil_int, kil_ref, kil_null, kil_long, kil_rA, psh_int, psh_long, psh_null, gI_gS, gL_gS, gR_gS, sI_gS, sL_gS, orf_some, Option.bind_some, List.length_cons, List.length_nil, Nat.reduceAdd, Nat.reduceLeDiff, if_true, if_false, Nat.zero_le, at_3, at_5, at_14, at_39, at_47, al_5, al_14, al_47, rw_3_3, rw_3_4, rw_5, rw_14, rw_39_1, alr_5, alr_14, alr_40, oob_nI, ix_nI, nI_1, nI_leI, L_leI, nI_ltI, i10, true_or, ne_eq, not_true_eq_false, not_false_eq_true, Bool.false_eq_true, true_and, and_true, and_self, if_true, if_false, or_true, false_or, or_false, or_self, false_and, and_false, Nat.one_ne_zero, n01, Nat.reduceEqDiff, if_neg (show ¬ Wn D l ≤ i by omega), if_neg (show ¬ 110 ≤ i by omega), v1, v2, k1, m1, k3, h47, up_ne, if_pos (show hr < p.2 by omega)]
theorem s_weigh (I : Nat → Nat → Int32) (J : Nat → Nat → Int64) (q : Bool × Bool) (X : Nat × (Nat → Int32)) {N : Nat → Nat} {D : Nat → Nat → Int} (hL : lay I q N D) {l hr : Nat} (hl : l < N 4) (hh : hr ≤ 999) {G : Option (Nat × Nat) → Bool} (G0 : G none = false) (hv : ∀ w, w < Wn D l → I (6 + l) w = rC (wo N D l w) ∧ I (15 + l) w = rT (wo N D l w)) (hG : clG I (kl D l) G) : ∃ I', gb_call 29 [.ref (39 : Nat), .ref (gb_bb q), .ref (3 : Nat), .int (nI l), .int (nI hr)] gb_pG (gS I J q X) = some (.null, gb_pG, gS I' J q X) ∧ I' 47 l = nI (cn N D l (fun o _ => !G o)) ∧ (∀ c, c < 16 → I' (49 + l) c = nI (cn N D l (fun o _ => ash c c 0 hr o && !G o))) ∧ (∀ j, j ≠ l → I' 47 j = I 47 j) ∧ ∀ y, y ≠ 47 → y ≠ 49 + l → I' y = I y := by
  have hbb := gb_bb_r q
  have hl8 : l < 8 := by have := hL.2.2.1.2.2.2.2.2; omega
  obtain ⟨⟨k1, k2⟩, -⟩ := lfa hL.2.2 hl
  have hk6 : kl D l < 6 := by have := hL.2.2.1.2.2.2.2.1; omega
  have hwb := Wn_b hL.2.2 hl
  have f9 := (hL.1.2.2.2.2 l hl).1
  rw [k1, ← zI_nI] at f9
  have hwo := s_worldsOf I J q X hL hl
  have t49 := atr_48 (k := l) hl8
  obtain ⟨I1, p1, p2, p3⟩ := s_fill I J q X (a := 49 + l) (n := 16) t49 (alr_48 hl8) (by omega) 0
  obtain ⟨I', r1, r2, r3, r4, r5⟩ := l_weigh J q X hL.2.2 (b := gb_bb q) (k := kl D l) hl hk6 hh G0 (Wn D l) 0 (up I1 47 l 0) 0 (fun _ => 0) .null .null (by omega) (by omega) (fun w hw => by rw [up_ne (by omega), up_ne (by omega), p3 (6 + l) (by omega), p3 (15 + l) (by omega)]; exact hv w hw) (fun c hc => by rw [up_ne (by omega), p3 (41 + kl D l) (by omega)]; exact hG c hc) (by rw [up_same, upd_same]; rfl) (fun c hc => by rw [up_ne (by omega), p2, if_pos hc]; rfl)
  refine ⟨I', ?_, by rw [r2, Nat.zero_add]; rfl, fun c hc => by rw [r3 c hc, Nat.zero_add]; rfl, fun j hj => by rw [r4 j hj, up_same, upd_ne hj, p3 47 (by omega)], fun y y1 y2 => by rw [r5 y y1 y2, up_ne y1, p3 y y2]⟩
  rw [cl_OU_weigh, ← r1]
  simp (disch := first | omega | decide | assumption | simp only [List.length_cons, List.length_nil, Nat.reduceAdd, Nat.reduceLeDiff, bb_at, bb_t1, bb_t2, bb_t3, bb_t4, bb_t5, bb_t6, bb_t7, bb_t8, bb_t9, bb_t10, bb_t11, bb_t12, bb_t13, bb_t14, bb_t15, bb_t16, bs_at, bs_t1, bs_t2, bs_t3, bs_t4, bs_t5, bs_t6, bs_t7, bs_t8, bs_t9, bs_t10, bs_t11, bs_t12, bs_t13, bs_t14, bs_t15, bs_t16, lb_at, lb_t1, lb_t2, lb_t13, lb_t24, lb_t35, lb_t36, lb_t37, lq_at, lq_t1, lq_t2, lq_t13, lq_t24, lq_t35, lq_t36, lq_t37]) only [x_aload_0, x_get_256, x_aload_1, x_get_9, x_iload_3, x_iald, x_aald, x_aaldJ, x_astore_5, xc_BE_worldsOf, x_istore_6, x_get_258, x_c_0, xc_JA_fill_53178, x_get_257, x_iast, x_istore_7, x_iload_7, x_iload_6, x_ic_ge, x_c_110, x_aload_2, x_get_67, x_istore_8, x_get_68, x_istore_9, x_iload_8, x_c_m1, x_ic_ne, x_dup2, x_c_1, x_iadd, x_goto, x_iload_9, x_aload_5, x_ic_le, x_iload_4, x_ic_gt, x_iinc_7_1, x_vret, tg_OU_weigh_25, tg_OU_weigh_57, tg_OU_weigh_83, tg_OU_weigh_85, bk_OU_weigh_0, bk_OU_weigh_57, bk_OU_weigh_83, bk_OU_weigh_85, kil_int, kil_ref, kil_null, kil_long, kil_rA, psh_int, psh_long, psh_null, gI_gS, gL_gS, gR_gS, sI_gS, sL_gS, orf_some, Option.bind_some, List.length_cons, List.length_nil, Nat.reduceAdd, Nat.reduceLeDiff, if_true, if_false, Nat.zero_le, at_39, at_40, at_47, at_48, al_40, al_47, al_48, rw_39_0, rw_39_1, rw_39_2, rw_40, rw_48, bb_r0, bb_r2, bb_r4, bb_r5, bb_r6, bb_r7, bb_r9, bb_r10, bb_r11, bb_r12, bb_r13, bb_w1, bb_w2, bb_w5, bb_w6, bb_w7, bs_r0, bs_r2, bs_r4, bs_r5, bs_r6, bs_r7, bs_r9, bs_r10, bs_r11, bs_r12, bs_r13, bs_w1, bs_w2, bs_w5, bs_w6, bs_w7, lb_r1, lb_r2, lb_r3, lb_r4, lb_r5, lb_r6, lb_r7, lq_r1, lq_r2, lq_r3, lq_r4, lq_r5, lq_r6, lq_r7, bb_l1, bb_l3, bb_l4, bb_l5, bb_l6, bb_l7, bb_l8, bb_l9, bb_l10, bb_l11, bb_l12, bb_l13, bb_l14, bb_l15, bb_l16, bs_l1, bs_l3, bs_l4, bs_l5, bs_l6, bs_l7, bs_l8, bs_l9, bs_l10, bs_l11, bs_l12, bs_l13, bs_l14, bs_l15, bs_l16, lb_l1, lb_l2, lb_l13, lb_l24, lb_l35, lb_l36, lb_l37, lq_l1, lq_l2, lq_l13, lq_l24, lq_l35, lq_l36, lq_l37, oob_nI, ix_nI, i10, true_or, ne_eq, not_true_eq_false, not_false_eq_true, Bool.false_eq_true, true_and, and_true, and_self, if_true, if_false, or_true, false_or, or_false, or_self, false_and, and_false, Nat.one_ne_zero, n01, Nat.reduceEqDiff, f9, hwo, p1]
  rfl
theorem l_leftOf (I : Nat → Nat → Int32) (J : Nat → Nat → Int64) (q : Bool × Bool) (X : Nat × (Nat → Int32)) {N : Nat → Nat} {D : Nat → Nat → Int} {nr : Nat} (hL : lay I q N D) (hr : rp0 I nr) {l : Nat} (hl : l < N 4) (hW : mW I N D l) : ∀ d i k, d + i = Wn D l → gb_ex 154 bk_RM_leftOf_6 [.ref (190 : Nat), .int (nI l), .int (nI k), .int (nI (110 * l + i))] [] gb_pG (gS I J q X) = some (.int (nI (k + sm (fun w => cb (!gs I q nr (kl D l) (wo N D l w))) d i)), gb_pG, gS I J q X)
  | 0, i, k, e => by
    have hl8 : l < 8 := by have := hL.2.2.1.2.2.2.2.2; omega
    have hwb := Wn_b hL.2.2 hl
    have hm := hW.1
    rw [bk_RM_leftOf_6]
    simp (disch := first | omega | decide | assumption | simp only [List.length_cons, List.length_nil, Nat.reduceAdd, Nat.reduceLeDiff]) only [x_c_0, x_istore_2, x_c_110, x_iload_1, x_imul, x_istore_3, x_iload_3, x_aload_0, x_get_654, x_iald, x_iadd, x_ic_ge, x_iload_2, xc_RM_isGainsaid, x_if_eq, x_goto, x_c_1, x_iinc_3_1, x_iret, tg_RM_leftOf_6, tg_RM_leftOf_24, tg_RM_leftOf_25, tg_RM_leftOf_29, bk_RM_leftOf_0, bk_RM_leftOf_24, bk_RM_leftOf_25, bk_RM_leftOf_29, kil_int, kil_ref, kil_null, kil_long, kil_rA, psh_int, psh_long, psh_null, gI_gS, gL_gS, gR_gS, sI_gS, sL_gS, orf_some, Option.bind_some, List.length_cons, List.length_nil, Nat.reduceAdd, Nat.reduceLeDiff, if_true, if_false, Nat.zero_le, at_190, at_203, al_203, rw_190_14, nI_mL, nI_add, nI_ltI, nI_leI, nI_eq, nI_ltL, nI_leL, L_ltI, L_leI, nI_eqL, L_eqI, oob_nI, ix_nI, oob_L, ix_L, nI_1, nI_add, nI_z, z_nI, nI_lt0, nI_ge0, nI_gt0, nI_le0, ne_eq, Nat.le_zero_eq, Nat.not_lt_zero, Nat.lt_irrefl, Nat.le_refl, i10, true_or, ne_eq, not_true_eq_false, not_false_eq_true, Bool.false_eq_true, true_and, and_true, and_self, if_true, if_false, or_true, false_or, or_false, or_self, false_and, and_false, Nat.one_ne_zero, n01, Nat.reduceEqDiff, hm, if_pos (show 110 * l + Wn D l ≤ 110 * l + i by omega), sm, Nat.add_zero]
  | d + 1, i, k, e => by
    have hl8 : l < 8 := by have := hL.2.2.1.2.2.2.2.2; omega
    have hwb := Wn_b hL.2.2 hl
    have hm := hW.1
    have hg := s_isGainsaid I J q X hL hr hl hW (w := i) (by omega)
    have ih := fun k => l_leftOf I J q X hL hr hl hW d (i + 1) k (by omega)
    have ei : 110 * l + (i + 1) = 110 * l + i + 1 := by omega
    rw [ei] at ih
    rw [bk_RM_leftOf_6, sm]
    generalize gs I q nr (kl D l) (wo N D l i) = g at hg ⊢
    simp (disch := first | omega | decide | assumption | simp only [List.length_cons, List.length_nil, Nat.reduceAdd, Nat.reduceLeDiff]) only [x_c_0, x_istore_2, x_c_110, x_iload_1, x_imul, x_istore_3, x_iload_3, x_aload_0, x_get_654, x_iald, x_iadd, x_ic_ge, x_iload_2, xc_RM_isGainsaid, x_if_eq, x_goto, x_c_1, x_iinc_3_1, x_iret, tg_RM_leftOf_6, tg_RM_leftOf_24, tg_RM_leftOf_25, tg_RM_leftOf_29, bk_RM_leftOf_0, bk_RM_leftOf_24, bk_RM_leftOf_25, bk_RM_leftOf_29, kil_int, kil_ref, kil_null, kil_long, kil_rA, psh_int, psh_long, psh_null, gI_gS, gL_gS, gR_gS, sI_gS, sL_gS, orf_some, Option.bind_some, List.length_cons, List.length_nil, Nat.reduceAdd, Nat.reduceLeDiff, if_true, if_false, Nat.zero_le, at_190, at_203, al_203, rw_190_14, nI_mL, nI_add, nI_ltI, nI_leI, nI_eq, nI_ltL, nI_leL, L_ltI, L_leI, nI_eqL, L_eqI, oob_nI, ix_nI, oob_L, ix_L, nI_1, nI_add, nI_z, z_nI, nI_lt0, nI_ge0, nI_gt0, nI_le0, ne_eq, Nat.le_zero_eq, Nat.not_lt_zero, Nat.lt_irrefl, Nat.le_refl, i10, true_or, ne_eq, not_true_eq_false, not_false_eq_true, Bool.false_eq_true, true_and, and_true, and_self, if_true, if_false, or_true, false_or, or_false, or_self, false_and, and_false, Nat.one_ne_zero, n01, Nat.reduceEqDiff, hm, if_neg (show ¬ 110 * l + Wn D l ≤ 110 * l + i by omega), hg, ite_b1, ih, i2b]
    cases g
    · simp only [i10, true_or, ne_eq, not_true_eq_false, not_false_eq_true, Bool.false_eq_true, true_and, and_true, and_self, if_true, if_false, or_true, false_or, or_false, or_self, false_and, and_false, Nat.one_ne_zero, n01, Nat.reduceEqDiff, Bool.not_false, cb, if_true, Bool.false_eq_true, not_false_eq_true, Nat.add_assoc]
    · simp only [i10, true_or, ne_eq, not_true_eq_false, not_false_eq_true, Bool.false_eq_true, true_and, and_true, and_self, if_true, if_false, or_true, false_or, or_false, or_self, false_and, and_false, Nat.one_ne_zero, n01, Nat.reduceEqDiff, Bool.not_true, cb, if_false, Bool.false_eq_true, not_true_eq_false, Nat.zero_add, Nat.add_zero]
theorem s_leftOf (I : Nat → Nat → Int32) (J : Nat → Nat → Int64) (q : Bool × Bool) (X : Nat × (Nat → Int32)) {N : Nat → Nat} {D : Nat → Nat → Int} {nr : Nat} (hL : lay I q N D) (hr : rp0 I nr) {l : Nat} (hl : l < N 4) (hW : mW I N D l) : gb_call 154 [.ref (190 : Nat), .int (nI l)] gb_pG (gS I J q X) = some (.int (nI (cn N D l (fun o _ => !gs I q nr (kl D l) o))), gb_pG, gS I J q X) := by
  have := l_leftOf I J q X hL hr hl hW (Wn D l) 0 0 (by omega)
  rw [Nat.zero_add] at this
  unfold cn
  rw [← this, cl_RM_leftOf]
  simp only [x_c_0, x_istore_2, x_c_110, x_iload_1, x_imul, x_istore_3, x_iload_3, x_aload_0, x_get_654, x_iald, x_iadd, x_ic_ge, x_iload_2, xc_RM_isGainsaid, x_if_eq, x_goto, x_c_1, x_iinc_3_1, x_iret, tg_RM_leftOf_6, tg_RM_leftOf_24, tg_RM_leftOf_25, tg_RM_leftOf_29, bk_RM_leftOf_0, bk_RM_leftOf_24, bk_RM_leftOf_25, bk_RM_leftOf_29, kil_int, kil_ref, kil_null, kil_long, kil_rA, psh_int, psh_long, psh_null, gI_gS, gL_gS, gR_gS, sI_gS, sL_gS, orf_some, Option.bind_some, List.length_cons, List.length_nil, Nat.reduceAdd, Nat.reduceLeDiff, if_true, if_false, Nat.zero_le, nI_mL, Nat.add_zero]
  rfl
theorem gs_none (I : Nat → Nat → Int32) (q : Bool × Bool) (nr k : Nat) : gs I q nr k none = false := rfl
theorem gs_fr {I I' : Nat → Nat → Int32} {q : Bool × Bool} {nr k : Nat} (hI : ∀ a, (27 ≤ a ∧ a ≤ 31) ∨ (80 ≤ a ∧ a ≤ 113) → I' a = I a) : gs I' q nr k = gs I q nr k := by
  have := gb_bb_r q
  funext o
  cases o with
  | none => rfl
  | some p =>
    show la (sn I' _ _ _ _) _ _ = la (sn I _ _ _ _) _ _
    unfold sn
    rw [hI 27 (by omega), hI 28 (by omega), hI 29 (by omega), hI 30 (by omega), hI 31 (by omega), hI (gb_bb q + 10) (by omega)]
theorem clG_fr {I I' : Nat → Nat → Int32} {k : Nat} {G : Option (Nat × Nat) → Bool} (h : clG I k G) (hI : I' (41 + k) = I (41 + k)) : clG I' k G := by
  unfold clG at h ⊢
  rw [hI]
  exact h
theorem kn_fr {I I' : Nat → Nat → Int32} {N : Nat → Nat} {D : Nat → Nat → Int} (ho : oB N D) (h : kn I N D) (hI : ∀ a, 4 ≤ a → a ≤ 22 → I' a = I a) : kn I' N D := by
  intro l hl
  have : l < 8 := by have := ho.1.2.2.2.2.2; omega
  rw [hI 4 (by omega) (by omega), hI (6 + l) (by omega) (by omega), hI (15 + l) (by omega) (by omega)]
  exact h l hl
/-- what the outlook's scratch may change -/
def frO (I I' : Nat → Nat → Int32) : Prop := ∀ a, ¬ (3 ≤ a ∧ a ≤ 22) → ¬ (41 ≤ a ∧ a ≤ 56) → I' a = I a
theorem d_left (I : Nat → Nat → Int32) (J : Nat → Nat → Int64) (q : Bool × Bool) (X : Nat × (Nat → Int32)) {N : Nat → Nat} {D : Nat → Nat → Int} {cc : Nat → Nat → Nat} (hL : lay I q N D) (hr : rp0 I (cc 1 0)) (hrp : rpt I cc (N 3) (N 0)) (hk : kn I N D) (hW : ∀ l, l < N 4 → mW I N D l) (l : Int32) : ∃ r I1, gb_call 83 [.ref (0 : Nat), .int l] gb_pG (gS I J q X) = some (r, gb_pG, gS I1 J q X) ∧ gb_call 155 [.ref (190 : Nat), .int l] gb_pG (gS I1 J q X) = some (r, gb_pG, gS I1 J q X) ∧ kn I1 N D ∧ frO I I1 := by
  have hz := bsz_of hL
  have s1 := s_GB_isLoss I J q X hz l
  have u1 := s_RM_isLoss I J q X hz l
  by_cases c1 : 0 ≤ l ∧ l ≤ dn (N 4)
  · obtain ⟨l', l1, rfl⟩ := (dn_le (by have := hz.2.2.2.2.2.2.2.2; omega)).mp c1
    have hl8 : l' < 8 := by have := hL.2.2.1.2.2.2.2.2; omega
    obtain ⟨⟨k1, k2⟩, -⟩ := lfa hL.2.2 l1
    have hk6 : kl D l' < 6 := by have := hL.2.2.1.2.2.2.2.1; omega
    obtain ⟨I1, a1, a2, a3⟩ := s_reports I J q X hL hr.1 hr.2.1 hrp
    have hL1 : lay I1 q N D := lay_fr hL (fun a ha => a3 a (by omega))
    obtain ⟨I2, b1, b2, b3, b4⟩ := s_settle I1 J q X hL1 (kn_fr hL.2.2 hk (fun a x1 x2 => a3 a (by omega))) l1
    have hL2 : lay I2 q N D := lay_fr hL1 (fun a ha => b4 a (by omega))
    obtain ⟨I3, d1, d2, d3, d4, d5⟩ := s_weigh I2 J q X hL2 (hr := 999) l1 (by omega) (gs_none I q (cc 1 0) (kl D l')) b3 (clG_fr (clG_of a2 k2) (b4 _ (by omega)))
    have hf : ∀ a, ¬ (3 ≤ a ∧ a ≤ 22) → ¬ (41 ≤ a ∧ a ≤ 56) → I3 a = I a := fun a x1 x2 => by rw [d5 a (by omega) (by omega), b4 a x1, a3 a (by omega)]
    have hL3 : lay I3 q N D := lay_fr hL (fun a ha => hf a (by omega) (by omega))
    have hr3 := rp0_fr hr (I' := I3) (fun a ha => hf a (by omega) (by omega))
    have hm := s_leftOf I3 J q X hL3 hr3 l1 (mW_fr (hW l' l1) (fun a x1 x2 => hf a (by omega) (by omega)))
    rw [gs_fr (fun a ha => hf a (by omega) (by omega))] at hm
    have u1' := s_RM_isLoss I3 J q X (bsz_of hL3) (nI l')
    have d1 : gb_call 29 [.ref (39 : Nat), .ref (gb_bb q), .ref (3 : Nat), .int (nI l'), .int 999] gb_pG (gS I2 J q X) = _ := d1
    refine ⟨.int (nI (cn N D l' (fun o _ => !gs I q (cc 1 0) (kl D l') o))), I3, ?_, ?_, kn_fr hL.2.2 b2 (fun a x1 x2 => d5 a (by omega) (by omega)), hf⟩
    · rw [cl_GB_left]
      simp (disch := first | omega | decide | assumption | simp only [List.length_cons, List.length_nil, Nat.reduceAdd, Nat.reduceLeDiff, bb_at, bb_t1, bb_t2, bb_t3, bb_t4, bb_t5, bb_t6, bb_t7, bb_t8, bb_t9, bb_t10, bb_t11, bb_t12, bb_t13, bb_t14, bb_t15, bb_t16, bs_at, bs_t1, bs_t2, bs_t3, bs_t4, bs_t5, bs_t6, bs_t7, bs_t8, bs_t9, bs_t10, bs_t11, bs_t12, bs_t13, bs_t14, bs_t15, bs_t16, lb_at, lb_t1, lb_t2, lb_t13, lb_t24, lb_t35, lb_t36, lb_t37, lq_at, lq_t1, lq_t2, lq_t13, lq_t24, lq_t35, lq_t36, lq_t37]) only [x_aload_0, x_iload_1, xc_GB_isLoss, x_if_ne, x_c_m1, x_iret, x_get_580, x_get_582, x_get_578, xc_OU_readReports, x_get_577, xc_LA_settle, x_c_999, xc_OU_weigh, x_get_257, x_iald, tg_GB_left_6, bk_GB_left_0, bk_GB_left_6, kil_int, kil_ref, kil_null, kil_long, kil_rA, psh_int, psh_long, psh_null, gI_gS, gL_gS, gR_gS, sI_gS, sL_gS, orf_some, Option.bind_some, List.length_cons, List.length_nil, Nat.reduceAdd, Nat.reduceLeDiff, if_true, if_false, Nat.zero_le, at_0, at_3, at_39, at_47, al_47, rw_0_1, rw_0_2, rw_0_4, rw_0_6, rw_39_1, s1, ite_b1, ite_b2, c1, i10, true_or, ne_eq, not_true_eq_false, not_false_eq_true, Bool.false_eq_true, true_and, and_true, and_self, if_true, if_false, or_true, false_or, or_false, or_self, false_and, and_false, Nat.one_ne_zero, n01, Nat.reduceEqDiff, a1, b1, d1, oob_nI, ix_nI, d2]
    · rw [cl_RM_left]
      simp (disch := first | omega | decide | assumption | simp only [List.length_cons, List.length_nil, Nat.reduceAdd, Nat.reduceLeDiff, bb_at, bb_t1, bb_t2, bb_t3, bb_t4, bb_t5, bb_t6, bb_t7, bb_t8, bb_t9, bb_t10, bb_t11, bb_t12, bb_t13, bb_t14, bb_t15, bb_t16, bs_at, bs_t1, bs_t2, bs_t3, bs_t4, bs_t5, bs_t6, bs_t7, bs_t8, bs_t9, bs_t10, bs_t11, bs_t12, bs_t13, bs_t14, bs_t15, bs_t16, lb_at, lb_t1, lb_t2, lb_t13, lb_t24, lb_t35, lb_t36, lb_t37, lq_at, lq_t1, lq_t2, lq_t13, lq_t24, lq_t35, lq_t36, lq_t37]) only [x_aload_0, x_iload_1, xc_RM_isLoss, x_if_eq, xc_RM_leftOf, x_goto, x_c_m1, x_iret, tg_RM_left_8, tg_RM_left_9, bk_RM_left_0, bk_RM_left_8, bk_RM_left_9, kil_int, kil_ref, kil_null, kil_long, kil_rA, psh_int, psh_long, psh_null, gI_gS, gL_gS, gR_gS, sI_gS, sL_gS, orf_some, Option.bind_some, List.length_cons, List.length_nil, Nat.reduceAdd, Nat.reduceLeDiff, if_true, if_false, Nat.zero_le, at_190, u1', ite_b1, c1, i10, true_or, ne_eq, not_true_eq_false, not_false_eq_true, Bool.false_eq_true, true_and, and_true, and_self, if_true, if_false, or_true, false_or, or_false, or_self, false_and, and_false, Nat.one_ne_zero, n01, Nat.reduceEqDiff, hm]
  · refine ⟨.int (-1), I, ?_, ?_, hk, fun _ _ _ => rfl⟩
    · rw [cl_GB_left]
      simp (disch := first | omega | decide | assumption | simp only [List.length_cons, List.length_nil, Nat.reduceAdd, Nat.reduceLeDiff, bb_at, bb_t1, bb_t2, bb_t3, bb_t4, bb_t5, bb_t6, bb_t7, bb_t8, bb_t9, bb_t10, bb_t11, bb_t12, bb_t13, bb_t14, bb_t15, bb_t16, bs_at, bs_t1, bs_t2, bs_t3, bs_t4, bs_t5, bs_t6, bs_t7, bs_t8, bs_t9, bs_t10, bs_t11, bs_t12, bs_t13, bs_t14, bs_t15, bs_t16, lb_at, lb_t1, lb_t2, lb_t13, lb_t24, lb_t35, lb_t36, lb_t37, lq_at, lq_t1, lq_t2, lq_t13, lq_t24, lq_t35, lq_t36, lq_t37]) only [x_aload_0, x_iload_1, xc_GB_isLoss, x_if_ne, x_c_m1, x_iret, x_get_580, x_get_582, x_get_578, xc_OU_readReports, x_get_577, xc_LA_settle, x_c_999, xc_OU_weigh, x_get_257, x_iald, tg_GB_left_6, bk_GB_left_0, kil_int, kil_ref, kil_null, kil_long, kil_rA, psh_int, psh_long, psh_null, gI_gS, gL_gS, gR_gS, sI_gS, sL_gS, orf_some, Option.bind_some, List.length_cons, List.length_nil, Nat.reduceAdd, Nat.reduceLeDiff, if_true, if_false, Nat.zero_le, s1, ite_b1, ite_b2, c1, i10, true_or, ne_eq, not_true_eq_false, not_false_eq_true, Bool.false_eq_true, true_and, and_true, and_self, if_true, if_false, or_true, false_or, or_false, or_self, false_and, and_false, Nat.one_ne_zero, n01, Nat.reduceEqDiff]
    · rw [cl_RM_left]
      simp (disch := first | omega | decide | assumption | simp only [List.length_cons, List.length_nil, Nat.reduceAdd, Nat.reduceLeDiff, bb_at, bb_t1, bb_t2, bb_t3, bb_t4, bb_t5, bb_t6, bb_t7, bb_t8, bb_t9, bb_t10, bb_t11, bb_t12, bb_t13, bb_t14, bb_t15, bb_t16, bs_at, bs_t1, bs_t2, bs_t3, bs_t4, bs_t5, bs_t6, bs_t7, bs_t8, bs_t9, bs_t10, bs_t11, bs_t12, bs_t13, bs_t14, bs_t15, bs_t16, lb_at, lb_t1, lb_t2, lb_t13, lb_t24, lb_t35, lb_t36, lb_t37, lq_at, lq_t1, lq_t2, lq_t13, lq_t24, lq_t35, lq_t36, lq_t37]) only [x_aload_0, x_iload_1, xc_RM_isLoss, x_if_eq, xc_RM_leftOf, x_goto, x_c_m1, x_iret, tg_RM_left_8, tg_RM_left_9, bk_RM_left_0, bk_RM_left_8, bk_RM_left_9, kil_int, kil_ref, kil_null, kil_long, kil_rA, psh_int, psh_long, psh_null, gI_gS, gL_gS, gR_gS, sI_gS, sL_gS, orf_some, Option.bind_some, List.length_cons, List.length_nil, Nat.reduceAdd, Nat.reduceLeDiff, if_true, if_false, Nat.zero_le, u1, ite_b1, c1, i10, true_or, ne_eq, not_true_eq_false, not_false_eq_true, Bool.false_eq_true, true_and, and_true, and_self, if_true, if_false, or_true, false_or, or_false, or_self, false_and, and_false, Nat.one_ne_zero, n01, Nat.reduceEqDiff]
