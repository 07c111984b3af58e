/-! the model reads an item of a beach -/
theorem hw_c : hw 192 = 1 ∧ hw 193 = 1 ∧ hw 194 = 24 ∧ hw 195 = 1 ∧ hw 196 = 36 ∧ hw 197 = 1 ∧ hw 198 = 24 ∧ hw 199 = 1 ∧ hw 200 = 40 ∧ hw 201 = 1 ∧ hw 202 = 130 := by decide
theorem mi_0 (I : Nat → Nat → Int32) (J : Nat → Nat → Int64) (q : Bool × Bool) (X : Nat × (Nat → Int32)) {L : Nat} {B : Nat → Nat} {N : Nat → Nat} {D : Nat → Nat → Int} (h : rd I L B) (hR : mR I 1 N D) {p : Nat} (hp : p ≤ 1000) (hb : B p = 110) : ∃ g a I', gb_call 124 [.ref (190 : Nat)] gb_pG (gS (md I (nI p) 1) J q X) = some (.null, gb_pG, gS (md I' (nI a) (nI g)) J q X) ∧ g ≤ 1 ∧ fM I I' ∧ (g = 1 ↔ (∀ j, j < 1 → okn B (p + 1) 1 j) ∧ rng N 0 (nz B (p + 1))) ∧ (g = 1 → mR I' 1 (adN N 0 (nz B (p + 1))) (adD N D 0 (nz B (p + 1))) ∧ a = pp B (p + 1) 1) := by
  obtain ⟨r1, a1, g1, w1, x1, y1, c1, d1⟩ := s_value I J q X h (p + 1) 1 16 (by omega)
  obtain ⟨ge, we, xe, ce⟩ := s_ends I J q X h (a := a1) (g := g1) x1 (by omega)
  have run := x_item_0 I J q X h hp hb w1 we xe
  obtain ⟨ch1, ch2⟩ := ch_1 c1 d1 ce
  clear c1 d1 ce w1 we
  have z0 := nz_b B (p + 1) 0
  simp (disch := first | omega | decide | assumption | simp only [List.length_cons, List.length_nil, Nat.reduceAdd, Nat.reduceLeDiff]) only [zI_Lle, zI_leL] at ch1
  obtain ⟨⟨m0, m1, m2, m3, m4⟩, -⟩ := id hR
  refine ⟨ge, a1 + 1, _, run, xe, fM_up (fM_refl I) (by decide) (by decide) (by decide), ?_, fun cg => ?_⟩
  · rw [ch1]
    constructor
    · rintro ⟨ok, q0⟩
      exact ⟨ok, Or.inl ⟨rfl, by omega⟩⟩
    · rintro ⟨ok, a | a | a | a | a⟩
      · exact ⟨ok, by omega⟩
      all_goals exact absurd a.1 (by decide)
  · obtain ⟨ea, rfl⟩ := ch2 cg
    have q0 := (ch1.mp cg).2
    refine ⟨?_, ea⟩
    rw [if_pos cg]
    refine mR_ad hR (by omega) (fun _ => by omega) (fun i hi => ?_) (fun r j hr hj => ?_) (fun r j hr hj => ?_) (fun r j hr hj => ?_) (fun r j hr hj => ?_)
    · have : i = 0 ∨ i = 1 ∨ i = 2 ∨ i = 3 ∨ i = 4 := by omega
      rcases this with rfl | rfl | rfl | rfl | rfl <;> simp (disch := first | omega | decide | assumption | simp only [List.length_cons, List.length_nil, Nat.reduceAdd, Nat.reduceLeDiff]) only [i10, true_or, ne_eq, not_true_eq_false, not_false_eq_true, Bool.false_eq_true, true_and, and_true, and_self, if_true, if_false, or_true, false_or, or_false, or_self, false_and, and_false, Nat.one_ne_zero, n01, Nat.reduceEqDiff, up_ne, up_same, upd_same, m1, m2, m3, m4]
    all_goals simp (disch := first | omega | decide | assumption | simp only [List.length_cons, List.length_nil, Nat.reduceAdd, Nat.reduceLeDiff]) only [up_ne, i10, true_or, ne_eq, not_true_eq_false, not_false_eq_true, Bool.false_eq_true, true_and, and_true, and_self, if_true, if_false, or_true, false_or, or_false, or_self, false_and, and_false, Nat.one_ne_zero, n01, Nat.reduceEqDiff]
theorem mi_1 (I : Nat → Nat → Int32) (J : Nat → Nat → Int64) (q : Bool × Bool) (X : Nat × (Nat → Int32)) {L : Nat} {B : Nat → Nat} {N : Nat → Nat} {D : Nat → Nat → Int} (h : rd I L B) (hR : mR I 1 N D) {p : Nat} (hp : p ≤ 1000) (hb : B p = 116) (o : N 1 ≤ 12) : ∃ g a I', gb_call 124 [.ref (190 : Nat)] gb_pG (gS (md I (nI p) 1) J q X) = some (.null, gb_pG, gS (md I' (nI a) (nI g)) J q X) ∧ g ≤ 1 ∧ fM I I' ∧ (g = 1 ↔ (∀ j, j < 2 → okn B (p + 1) 2 j) ∧ rng N 1 (nz B (p + 1))) ∧ (g = 1 → mR I' 1 (adN N 1 (nz B (p + 1))) (adD N D 1 (nz B (p + 1))) ∧ a = pp B (p + 1) 2) := by
  obtain ⟨r1, a1, g1, w1, x1, y1, c1, d1⟩ := s_value I J q X h (p + 1) (-9) 9 (by omega)
  obtain ⟨r2, a2, g2, w2, x2, y2, c2, d2⟩ := s_more I J q X h (a := a1) (g := g1) (-9) 9 x1 (by omega)
  obtain ⟨ge, we, xe, ce⟩ := s_ends I J q X h (a := a2) (g := g2) x2 (by omega)
  obtain ⟨⟨m0, m1, m2, m3, m4⟩, -⟩ := id hR
  have run := x_item_1 I J q X h hp hb w1 w2 we xe m1 o
  obtain ⟨ch1, ch2⟩ := ch_2 c1 d1 c2 d2 ce
  clear c1 d1 c2 d2 ce w1 w2 we
  have z0 := nz_b B (p + 1) 0
  have z1 := nz_b B (p + 1) 1
  simp (disch := first | omega | decide | assumption | simp only [List.length_cons, List.length_nil, Nat.reduceAdd, Nat.reduceLeDiff]) only [zI_Lle, zI_leL, zI_Nle] at ch1
  by_cases cc : ge = 1 ∧ N 1 < 12
  · rw [if_pos cc] at run
    obtain ⟨ea, rfl, rfl⟩ := ch2 cc.1
    obtain ⟨ok, q0, q1⟩ := ch1.mp cc.1
    refine ⟨1, a2 + 1, _, run, by omega, fM_up (fM_up (fM_up (fM_refl I) (by decide) (by decide) (by rw [hw_c.2.2.1]; omega)) (by decide) (by decide) (by rw [hw_c.2.2.1]; omega)) (by decide) (by decide) (by decide), ⟨fun _ => ⟨ok, Or.inr (Or.inl ⟨rfl, cc.2, by omega, by omega⟩)⟩, fun _ => rfl⟩, fun _ => ⟨?_, ea⟩⟩
    clear run ch1 ch2 ok
    refine mR_ad hR (by omega) (fun x => absurd x (by decide)) (fun i hi => ?_) (fun r j hr hj => ?_) (fun r j hr hj => ?_) (fun r j hr hj => ?_) (fun r j hr hj => ?_)
    · have : i = 0 ∨ i = 1 ∨ i = 2 ∨ i = 3 ∨ i = 4 := by omega
      rcases this with rfl | rfl | rfl | rfl | rfl <;> simp (disch := first | omega | decide | assumption | simp only [List.length_cons, List.length_nil, Nat.reduceAdd, Nat.reduceLeDiff]) only [i10, true_or, ne_eq, not_true_eq_false, not_false_eq_true, Bool.false_eq_true, true_and, and_true, and_self, if_true, if_false, or_true, false_or, or_false, or_self, false_and, and_false, Nat.one_ne_zero, n01, Nat.reduceEqDiff, up_ne, up_same, upd_same, m0, m2, m3, m4]
    · simp (disch := first | omega | decide | assumption | simp only [List.length_cons, List.length_nil, Nat.reduceAdd, Nat.reduceLeDiff]) only [up_ne, up_same, upd_at, i10, true_or, ne_eq, not_true_eq_false, not_false_eq_true, Bool.false_eq_true, true_and, and_true, and_self, if_true, if_false, or_true, false_or, or_false, or_self, false_and, and_false, Nat.one_ne_zero, n01, Nat.reduceEqDiff]
      have : r = 0 ∨ r = 1 := by omega
      by_cases ej : j = N 1
      · subst ej
        rcases this with rfl | rfl
        · rw [if_neg (by omega), if_pos (by omega), if_pos rfl]
        · rw [if_pos (by omega), if_pos rfl]
      · rw [if_neg (by omega), if_neg (by omega), if_neg ej]
    all_goals simp (disch := first | omega | decide | assumption | simp only [List.length_cons, List.length_nil, Nat.reduceAdd, Nat.reduceLeDiff]) only [up_ne, i10, true_or, ne_eq, not_true_eq_false, not_false_eq_true, Bool.false_eq_true, true_and, and_true, and_self, if_true, if_false, or_true, false_or, or_false, or_self, false_and, and_false, Nat.one_ne_zero, n01, Nat.reduceEqDiff]
  · rw [if_neg cc] at run
    refine ⟨0, a2 + 1, I, run, by omega, fM_refl I, ⟨fun x => absurd x (by decide), ?_⟩, fun x => absurd x (by decide)⟩
    rintro ⟨ok, a | a | a | a | a⟩
    · exact absurd a.1 (by decide)
    · exact absurd ⟨ch1.mpr ⟨ok, by omega, by omega⟩, a.2.1⟩ cc
    all_goals exact absurd a.1 (by decide)
theorem mi_2 (I : Nat → Nat → Int32) (J : Nat → Nat → Int64) (q : Bool × Bool) (X : Nat × (Nat → Int32)) {L : Nat} {B : Nat → Nat} {N : Nat → Nat} {D : Nat → Nat → Int} (h : rd I L B) (hR : mR I 1 N D) {p : Nat} (hp : p ≤ 1000) (hb : B p = 119) (o : N 2 ≤ 12) : ∃ g a I', gb_call 124 [.ref (190 : Nat)] gb_pG (gS (md I (nI p) 1) J q X) = some (.null, gb_pG, gS (md I' (nI a) (nI g)) J q X) ∧ g ≤ 1 ∧ fM I I' ∧ (g = 1 ↔ (∀ j, j < 3 → okn B (p + 1) 3 j) ∧ rng N 2 (nz B (p + 1))) ∧ (g = 1 → mR I' 1 (adN N 2 (nz B (p + 1))) (adD N D 2 (nz B (p + 1))) ∧ a = pp B (p + 1) 3) := by
  obtain ⟨r1, a1, g1, w1, x1, y1, c1, d1⟩ := s_value I J q X h (p + 1) 0 999 (by omega)
  obtain ⟨r2, a2, g2, w2, x2, y2, c2, d2⟩ := s_more I J q X h (a := a1) (g := g1) (-99) 99 x1 (by omega)
  obtain ⟨r3, a3, g3, w3, x3, y3, c3, d3⟩ := s_more I J q X h (a := a2) (g := g2) (-99) 99 x2 (by omega)
  obtain ⟨ge, we, xe, ce⟩ := s_ends I J q X h (a := a3) (g := g3) x3 (by omega)
  obtain ⟨⟨m0, m1, m2, m3, m4⟩, -⟩ := id hR
  have run := x_item_2 I J q X h hp hb w1 w2 w3 we xe m2 o
  obtain ⟨ch1, ch2⟩ := ch_3 c1 d1 c2 d2 c3 d3 ce
  clear c1 d1 c2 d2 c3 d3 ce w1 w2 w3 we
  have z0 := nz_b B (p + 1) 0
  have z1 := nz_b B (p + 1) 1
  have z2 := nz_b B (p + 1) 2
  simp (disch := first | omega | decide | assumption | simp only [List.length_cons, List.length_nil, Nat.reduceAdd, Nat.reduceLeDiff]) only [zI_Lle, zI_leL, zI_Nle] at ch1
  by_cases cc : ge = 1 ∧ N 2 < 12
  · rw [if_pos cc] at run
    obtain ⟨ea, rfl, rfl, rfl⟩ := ch2 cc.1
    obtain ⟨ok, q0, q1, q2⟩ := ch1.mp cc.1
    refine ⟨1, a3 + 1, _, run, by omega, fM_up (fM_up (fM_up (fM_up (fM_refl I) (by decide) (by decide) (by rw [hw_c.2.2.2.2.1]; omega)) (by decide) (by decide) (by rw [hw_c.2.2.2.2.1]; omega)) (by decide) (by decide) (by rw [hw_c.2.2.2.2.1]; omega)) (by decide) (by decide) (by decide), ⟨fun _ => ⟨ok, Or.inr (Or.inr (Or.inl ⟨rfl, cc.2, by omega, by omega, by omega⟩))⟩, fun _ => rfl⟩, fun _ => ⟨?_, ea⟩⟩
    clear run ch1 ch2 ok
    refine mR_ad hR (by omega) (fun x => absurd x (by decide)) (fun i hi => ?_) (fun r j hr hj => ?_) (fun r j hr hj => ?_) (fun r j hr hj => ?_) (fun r j hr hj => ?_)
    · have : i = 0 ∨ i = 1 ∨ i = 2 ∨ i = 3 ∨ i = 4 := by omega
      rcases this with rfl | rfl | rfl | rfl | rfl <;> simp (disch := first | omega | decide | assumption | simp only [List.length_cons, List.length_nil, Nat.reduceAdd, Nat.reduceLeDiff]) only [i10, true_or, ne_eq, not_true_eq_false, not_false_eq_true, Bool.false_eq_true, true_and, and_true, and_self, if_true, if_false, or_true, false_or, or_false, or_self, false_and, and_false, Nat.one_ne_zero, n01, Nat.reduceEqDiff, up_ne, up_same, upd_same, m0, m1, m3, m4]
    · simp (disch := first | omega | decide | assumption | simp only [List.length_cons, List.length_nil, Nat.reduceAdd, Nat.reduceLeDiff]) only [up_ne, i10, true_or, ne_eq, not_true_eq_false, not_false_eq_true, Bool.false_eq_true, true_and, and_true, and_self, if_true, if_false, or_true, false_or, or_false, or_self, false_and, and_false, Nat.one_ne_zero, n01, Nat.reduceEqDiff]
    · simp (disch := first | omega | decide | assumption | simp only [List.length_cons, List.length_nil, Nat.reduceAdd, Nat.reduceLeDiff]) only [up_ne, up_same, upd_at, i10, true_or, ne_eq, not_true_eq_false, not_false_eq_true, Bool.false_eq_true, true_and, and_true, and_self, if_true, if_false, or_true, false_or, or_false, or_self, false_and, and_false, Nat.one_ne_zero, n01, Nat.reduceEqDiff]
      have : r = 0 ∨ r = 1 ∨ r = 2 := by omega
      by_cases ej : j = N 2
      · subst ej
        rcases this with rfl | rfl | rfl
        · rw [if_neg (by omega), if_neg (by omega), if_pos (by omega), if_pos rfl]
        · rw [if_neg (by omega), if_pos (by omega), if_pos rfl]
        · rw [if_pos (by omega), if_pos rfl]
      · rw [if_neg (by omega), if_neg (by omega), if_neg (by omega), if_neg ej]
    all_goals simp (disch := first | omega | decide | assumption | simp only [List.length_cons, List.length_nil, Nat.reduceAdd, Nat.reduceLeDiff]) only [up_ne, i10, true_or, ne_eq, not_true_eq_false, not_false_eq_true, Bool.false_eq_true, true_and, and_true, and_self, if_true, if_false, or_true, false_or, or_false, or_self, false_and, and_false, Nat.one_ne_zero, n01, Nat.reduceEqDiff]
  · rw [if_neg cc] at run
    refine ⟨0, a3 + 1, I, run, by omega, fM_refl I, ⟨fun x => absurd x (by decide), ?_⟩, fun x => absurd x (by decide)⟩
    rintro ⟨ok, a | a | a | a | a⟩
    · exact absurd a.1 (by decide)
    · exact absurd a.1 (by decide)
    · exact absurd ⟨ch1.mpr ⟨ok, by omega, by omega, by omega⟩, a.2.1⟩ cc
    all_goals exact absurd a.1 (by decide)
theorem mi_3 (I : Nat → Nat → Int32) (J : Nat → Nat → Int64) (q : Bool × Bool) (X : Nat × (Nat → Int32)) {L : Nat} {B : Nat → Nat} {N : Nat → Nat} {D : Nat → Nat → Int} (h : rd I L B) (hR : mR I 1 N D) {p : Nat} (hp : p ≤ 1000) (hb : B p = 107) (o : N 3 ≤ 6) : ∃ g a I', gb_call 124 [.ref (190 : Nat)] gb_pG (gS (md I (nI p) 1) J q X) = some (.null, gb_pG, gS (md I' (nI a) (nI g)) J q X) ∧ g ≤ 1 ∧ fM I I' ∧ (g = 1 ↔ (∀ j, j < 4 → okn B (p + 1) 4 j) ∧ rng N 3 (nz B (p + 1))) ∧ (g = 1 → mR I' 1 (adN N 3 (nz B (p + 1))) (adD N D 3 (nz B (p + 1))) ∧ a = pp B (p + 1) 4) := by
  obtain ⟨r1, a1, g1, w1, x1, y1, c1, d1⟩ := s_value I J q X h (p + 1) 0 10 (by omega)
  obtain ⟨r2, a2, g2, w2, x2, y2, c2, d2⟩ := s_more I J q X h (a := a1) (g := g1) 0 10 x1 (by omega)
  obtain ⟨r3, a3, g3, w3, x3, y3, c3, d3⟩ := s_more I J q X h (a := a2) (g := g2) 0 9 x2 (by omega)
  obtain ⟨r4, a4, g4, w4, x4, y4, c4, d4⟩ := s_more I J q X h (a := a3) (g := g3) 0 999 x3 (by omega)
  obtain ⟨ge, we, xe, ce⟩ := s_ends I J q X h (a := a4) (g := g4) x4 (by omega)
  obtain ⟨⟨m0, m1, m2, m3, m4⟩, -⟩ := id hR
  have run := x_kindItem I J q X w1 w2 w3 w4 we xe m3 o
  obtain ⟨ch1, ch2⟩ := ch_4 c1 d1 c2 d2 c3 d3 c4 d4 ce
  clear c1 d1 c2 d2 c3 d3 c4 d4 ce w1 w2 w3 w4 we
  have z0 := nz_b B (p + 1) 0
  have z1 := nz_b B (p + 1) 1
  have z2 := nz_b B (p + 1) 2
  have z3 := nz_b B (p + 1) 3
  simp (disch := first | omega | decide | assumption | simp only [List.length_cons, List.length_nil, Nat.reduceAdd, Nat.reduceLeDiff]) only [zI_Lle, zI_leL, zI_Nle] at ch1
  by_cases cc : ge = 1 ∧ r1 ≤ r2 ∧ N 3 < 6
  · rw [if_pos cc] at run
    obtain ⟨ea, rfl, rfl, rfl, rfl⟩ := ch2 cc.1
    obtain ⟨ok, q0, q1, q2, q3⟩ := ch1.mp cc.1
    have q5 := cc.2.1
    rw [zI_leI (by omega) (by omega) (by omega) (by omega)] at q5
    refine ⟨1, a4 + 1, _, x_item_3 I J q X h hp hb run, by omega, fM_up (fM_up (fM_up (fM_up (fM_up (fM_refl I) (by decide) (by decide) (by rw [hw_c.2.2.2.2.2.2.1]; omega)) (by decide) (by decide) (by rw [hw_c.2.2.2.2.2.2.1]; omega)) (by decide) (by decide) (by rw [hw_c.2.2.2.2.2.2.1]; omega)) (by decide) (by decide) (by rw [hw_c.2.2.2.2.2.2.1]; omega)) (by decide) (by decide) (by decide), ⟨fun _ => ⟨ok, Or.inr (Or.inr (Or.inr (Or.inl ⟨rfl, cc.2.2, by omega, by omega, by omega, by omega⟩)))⟩, fun _ => rfl⟩, fun _ => ⟨?_, ea⟩⟩
    clear run ch1 ch2 ok
    refine mR_ad hR (by omega) (fun x => absurd x (by decide)) (fun i hi => ?_) (fun r j hr hj => ?_) (fun r j hr hj => ?_) (fun r j hr hj => ?_) (fun r j hr hj => ?_)
    · have : i = 0 ∨ i = 1 ∨ i = 2 ∨ i = 3 ∨ i = 4 := by omega
      rcases this with rfl | rfl | rfl | rfl | rfl <;> simp (disch := first | omega | decide | assumption | simp only [List.length_cons, List.length_nil, Nat.reduceAdd, Nat.reduceLeDiff]) only [i10, true_or, ne_eq, not_true_eq_false, not_false_eq_true, Bool.false_eq_true, true_and, and_true, and_self, if_true, if_false, or_true, false_or, or_false, or_self, false_and, and_false, Nat.one_ne_zero, n01, Nat.reduceEqDiff, up_ne, up_same, upd_same, m0, m1, m2, m4]
    · simp (disch := first | omega | decide | assumption | simp only [List.length_cons, List.length_nil, Nat.reduceAdd, Nat.reduceLeDiff]) only [up_ne, i10, true_or, ne_eq, not_true_eq_false, not_false_eq_true, Bool.false_eq_true, true_and, and_true, and_self, if_true, if_false, or_true, false_or, or_false, or_self, false_and, and_false, Nat.one_ne_zero, n01, Nat.reduceEqDiff]
    · simp (disch := first | omega | decide | assumption | simp only [List.length_cons, List.length_nil, Nat.reduceAdd, Nat.reduceLeDiff]) only [up_ne, i10, true_or, ne_eq, not_true_eq_false, not_false_eq_true, Bool.false_eq_true, true_and, and_true, and_self, if_true, if_false, or_true, false_or, or_false, or_self, false_and, and_false, Nat.one_ne_zero, n01, Nat.reduceEqDiff]
    · simp (disch := first | omega | decide | assumption | simp only [List.length_cons, List.length_nil, Nat.reduceAdd, Nat.reduceLeDiff]) only [up_ne, up_same, upd_at, i10, true_or, ne_eq, not_true_eq_false, not_false_eq_true, Bool.false_eq_true, true_and, and_true, and_self, if_true, if_false, or_true, false_or, or_false, or_self, false_and, and_false, Nat.one_ne_zero, n01, Nat.reduceEqDiff]
      have : r = 0 ∨ r = 1 ∨ r = 2 ∨ r = 3 := by omega
      by_cases ej : j = N 3
      · subst ej
        rcases this with rfl | rfl | rfl | rfl
        · rw [if_neg (by omega), if_neg (by omega), if_neg (by omega), if_pos (by omega), if_pos rfl]
        · rw [if_neg (by omega), if_neg (by omega), if_pos rfl, if_pos rfl]
        · rw [if_neg (by omega), if_pos rfl, if_pos rfl]
        · rw [if_pos rfl, if_pos rfl]
      · rw [if_neg (by omega), if_neg (by omega), if_neg (by omega), if_neg (by omega), if_neg ej]
    · simp (disch := first | omega | decide | assumption | simp only [List.length_cons, List.length_nil, Nat.reduceAdd, Nat.reduceLeDiff]) only [up_ne, i10, true_or, ne_eq, not_true_eq_false, not_false_eq_true, Bool.false_eq_true, true_and, and_true, and_self, if_true, if_false, or_true, false_or, or_false, or_self, false_and, and_false, Nat.one_ne_zero, n01, Nat.reduceEqDiff]
  · rw [if_neg cc] at run
    refine ⟨0, a4 + 1, I, x_item_3 I J q X h hp hb run, by omega, fM_refl I, ⟨fun x => absurd x (by decide), ?_⟩, fun x => absurd x (by decide)⟩
    rintro ⟨ok, a | a | a | a | a⟩
    · exact absurd a.1 (by decide)
    · exact absurd a.1 (by decide)
    · exact absurd a.1 (by decide)
    · have cg := ch1.mpr ⟨ok, by omega, by omega, by omega, by omega⟩
      obtain ⟨-, rfl, rfl, -, -⟩ := ch2 cg
      exact absurd ⟨cg, (zI_leI (by omega) (by omega) (by omega) (by omega)).mpr (by omega), a.2.1⟩ cc
    · exact absurd a.1 (by decide)
theorem mi_4 (I : Nat → Nat → Int32) (J : Nat → Nat → Int64) (q : Bool × Bool) (X : Nat × (Nat → Int32)) {L : Nat} {B : Nat → Nat} {N : Nat → Nat} {D : Nat → Nat → Int} (h : rd I L B) (hR : mR I 1 N D) {p : Nat} (hp : p ≤ 1000) (hb : B p = 108) (o3 : N 3 ≤ 6) (o : N 4 ≤ 8) : ∃ g a I', gb_call 124 [.ref (190 : Nat)] gb_pG (gS (md I (nI p) 1) J q X) = some (.null, gb_pG, gS (md I' (nI a) (nI g)) J q X) ∧ g ≤ 1 ∧ fM I I' ∧ (g = 1 ↔ (∀ j, j < 5 → okn B (p + 1) 5 j) ∧ rng N 4 (nz B (p + 1))) ∧ (g = 1 → mR I' 1 (adN N 4 (nz B (p + 1))) (adD N D 4 (nz B (p + 1))) ∧ a = pp B (p + 1) 5) := by
  obtain ⟨r1, a1, g1, w1, x1, y1, c1, d1⟩ := s_value I J q X h (p + 1) 0 (dn (N 3)) (by omega)
  obtain ⟨r2, a2, g2, w2, x2, y2, c2, d2⟩ := s_more I J q X h (a := a1) (g := g1) 0 159 x1 (by omega)
  obtain ⟨r3, a3, g3, w3, x3, y3, c3, d3⟩ := s_more I J q X h (a := a2) (g := g2) 1 99 x2 (by omega)
  obtain ⟨r4, a4, g4, w4, x4, y4, c4, d4⟩ := s_more I J q X h (a := a3) (g := g3) 0 999 x3 (by omega)
  obtain ⟨r5, a5, g5, w5, x5, y5, c5, d5⟩ := s_more I J q X h (a := a4) (g := g4) 0 999 x4 (by omega)
  obtain ⟨ge, we, xe, ce⟩ := s_ends I J q X h (a := a5) (g := g5) x5 (by omega)
  obtain ⟨⟨m0, m1, m2, m3, m4⟩, -⟩ := id hR
  have run := x_lossItem I J q X w1 w2 w3 w4 w5 we xe m3 m4 o
  obtain ⟨ch1, ch2⟩ := ch_5 c1 d1 c2 d2 c3 d3 c4 d4 c5 d5 ce
  clear c1 d1 c2 d2 c3 d3 c4 d4 c5 d5 ce w1 w2 w3 w4 w5 we
  have z0 := nz_b B (p + 1) 0
  have z1 := nz_b B (p + 1) 1
  have z2 := nz_b B (p + 1) 2
  have z3 := nz_b B (p + 1) 3
  have z4 := nz_b B (p + 1) 4
  simp (disch := first | omega | decide | assumption | simp only [List.length_cons, List.length_nil, Nat.reduceAdd, Nat.reduceLeDiff]) only [zI_dn, zI_Lle, zI_leL, zI_Nle] at ch1
  by_cases cc : ge = 1 ∧ (r4 ≤ r5 ∧ r5 ≤ r4 + 9) ∧ N 4 < 8
  · rw [if_pos cc] at run
    obtain ⟨ea, rfl, rfl, rfl, rfl, rfl⟩ := ch2 cc.1
    obtain ⟨ok, q0, q1, q2, q3, q4⟩ := ch1.mp cc.1
    have q5 := cc.2.1
    rw [zI_leI (by omega) (by omega) (by omega) (by omega), zI_p9 (by omega) (by omega) (by omega) (by omega)] at q5
    refine ⟨1, a5 + 1, _, x_item_4 I J q X h hp hb run, by omega, fM_up (fM_up (fM_up (fM_up (fM_up (fM_up (fM_refl I) (by decide) (by decide) (by rw [hw_c.2.2.2.2.2.2.2.2.1]; omega)) (by decide) (by decide) (by rw [hw_c.2.2.2.2.2.2.2.2.1]; omega)) (by decide) (by decide) (by rw [hw_c.2.2.2.2.2.2.2.2.1]; omega)) (by decide) (by decide) (by rw [hw_c.2.2.2.2.2.2.2.2.1]; omega)) (by decide) (by decide) (by rw [hw_c.2.2.2.2.2.2.2.2.1]; omega)) (by decide) (by decide) (by decide), ⟨fun _ => ⟨ok, Or.inr (Or.inr (Or.inr (Or.inr ⟨rfl, cc.2.2, by omega, by omega, by omega, by omega, by omega, by omega⟩)))⟩, fun _ => rfl⟩, fun _ => ⟨?_, ea⟩⟩
    clear run ch1 ch2 ok
    refine mR_ad hR (by omega) (fun x => absurd x (by decide)) (fun i hi => ?_) (fun r j hr hj => ?_) (fun r j hr hj => ?_) (fun r j hr hj => ?_) (fun r j hr hj => ?_)
    · have : i = 0 ∨ i = 1 ∨ i = 2 ∨ i = 3 ∨ i = 4 := by omega
      rcases this with rfl | rfl | rfl | rfl | rfl <;> simp (disch := first | omega | decide | assumption | simp only [List.length_cons, List.length_nil, Nat.reduceAdd, Nat.reduceLeDiff]) only [i10, true_or, ne_eq, not_true_eq_false, not_false_eq_true, Bool.false_eq_true, true_and, and_true, and_self, if_true, if_false, or_true, false_or, or_false, or_self, false_and, and_false, Nat.one_ne_zero, n01, Nat.reduceEqDiff, up_ne, up_same, upd_same, m0, m1, m2, m3]
    · simp (disch := first | omega | decide | assumption | simp only [List.length_cons, List.length_nil, Nat.reduceAdd, Nat.reduceLeDiff]) only [up_ne, i10, true_or, ne_eq, not_true_eq_false, not_false_eq_true, Bool.false_eq_true, true_and, and_true, and_self, if_true, if_false, or_true, false_or, or_false, or_self, false_and, and_false, Nat.one_ne_zero, n01, Nat.reduceEqDiff]
    · simp (disch := first | omega | decide | assumption | simp only [List.length_cons, List.length_nil, Nat.reduceAdd, Nat.reduceLeDiff]) only [up_ne, i10, true_or, ne_eq, not_true_eq_false, not_false_eq_true, Bool.false_eq_true, true_and, and_true, and_self, if_true, if_false, or_true, false_or, or_false, or_self, false_and, and_false, Nat.one_ne_zero, n01, Nat.reduceEqDiff]
    · simp (disch := first | omega | decide | assumption | simp only [List.length_cons, List.length_nil, Nat.reduceAdd, Nat.reduceLeDiff]) only [up_ne, i10, true_or, ne_eq, not_true_eq_false, not_false_eq_true, Bool.false_eq_true, true_and, and_true, and_self, if_true, if_false, or_true, false_or, or_false, or_self, false_and, and_false, Nat.one_ne_zero, n01, Nat.reduceEqDiff]
    · simp (disch := first | omega | decide | assumption | simp only [List.length_cons, List.length_nil, Nat.reduceAdd, Nat.reduceLeDiff]) only [up_ne, up_same, upd_at, i10, true_or, ne_eq, not_true_eq_false, not_false_eq_true, Bool.false_eq_true, true_and, and_true, and_self, if_true, if_false, or_true, false_or, or_false, or_self, false_and, and_false, Nat.one_ne_zero, n01, Nat.reduceEqDiff]
      have : r = 0 ∨ r = 1 ∨ r = 2 ∨ r = 3 ∨ r = 4 := by omega
      by_cases ej : j = N 4
      · subst ej
        rcases this with rfl | rfl | rfl | rfl | rfl
        · rw [if_neg (by omega), if_neg (by omega), if_neg (by omega), if_neg (by omega), if_pos (by omega), if_pos rfl]
        · rw [if_neg (by omega), if_neg (by omega), if_neg (by omega), if_pos rfl, if_pos rfl]
        · rw [if_neg (by omega), if_neg (by omega), if_pos rfl, if_pos rfl]
        · rw [if_neg (by omega), if_pos rfl, if_pos rfl]
        · rw [if_pos rfl, if_pos rfl]
      · rw [if_neg (by omega), if_neg (by omega), if_neg (by omega), if_neg (by omega), if_neg (by omega), if_neg ej]
  · rw [if_neg cc] at run
    refine ⟨0, a5 + 1, I, x_item_4 I J q X h hp hb run, by omega, fM_refl I, ⟨fun x => absurd x (by decide), ?_⟩, fun x => absurd x (by decide)⟩
    rintro ⟨ok, a | a | a | a | a⟩
    · exact absurd a.1 (by decide)
    · exact absurd a.1 (by decide)
    · exact absurd a.1 (by decide)
    · exact absurd a.1 (by decide)
    · have cg := ch1.mpr ⟨ok, by omega, by omega, by omega, by omega, by omega⟩
      obtain ⟨-, rfl, rfl, rfl, rfl, rfl⟩ := ch2 cg
      exact absurd ⟨cg, ⟨(zI_leI (by omega) (by omega) (by omega) (by omega)).mpr (by omega), (zI_p9 (by omega) (by omega) (by omega) (by omega)).mpr (by omega)⟩, a.2.1⟩ cc
theorem s_item (I : Nat → Nat → Int32) (J : Nat → Nat → Int64) (q : Bool × Bool) (X : Nat × (Nat → Int32)) {L : Nat} {B : Nat → Nat} {N : Nat → Nat} {D : Nat → Nat → Int} (h : rd I L B) (hR : mR I 1 N D) (ho : oB N D) {p : Nat} (hp : p ≤ 1000) : ∃ g a I', gb_call 124 [.ref (190 : Nat)] gb_pG (gS (md I (nI p) 1) J q X) = some (.null, gb_pG, gS (md I' (nI a) (nI g)) J q X) ∧ g ≤ 1 ∧ fM I I' ∧ (g = 0 → ∀ c, c < 5 → ¬ acc N B p c) ∧ (g = 1 → ∃ c, c < 5 ∧ acc N B p c ∧ mR I' 1 (adN N c (nz B (p + 1))) (adD N D c (nz B (p + 1))) ∧ a = pp B (p + 1) (c + 1)) := by
  obtain ⟨⟨o1, o2, o3, o4, o5, o6⟩, -⟩ := id ho
  have fin : ∀ c, c < 5 → B p = lett c → (∃ g a I', gb_call 124 [.ref (190 : Nat)] gb_pG (gS (md I (nI p) 1) J q X) = some (.null, gb_pG, gS (md I' (nI a) (nI g)) J q X) ∧ g ≤ 1 ∧ fM I I' ∧ (g = 1 ↔ (∀ j, j < c + 1 → okn B (p + 1) (c + 1) j) ∧ rng N c (nz B (p + 1))) ∧ (g = 1 → mR I' 1 (adN N c (nz B (p + 1))) (adD N D c (nz B (p + 1))) ∧ a = pp B (p + 1) (c + 1))) → ∃ g a I', gb_call 124 [.ref (190 : Nat)] gb_pG (gS (md I (nI p) 1) J q X) = some (.null, gb_pG, gS (md I' (nI a) (nI g)) J q X) ∧ g ≤ 1 ∧ fM I I' ∧ (g = 0 → ∀ c, c < 5 → ¬ acc N B p c) ∧ (g = 1 → ∃ c, c < 5 ∧ acc N B p c ∧ mR I' 1 (adN N c (nz B (p + 1))) (adD N D c (nz B (p + 1))) ∧ a = pp B (p + 1) (c + 1)) := by
    rintro c hc hb ⟨g, a, I', e1, e2, e3, e4, e5⟩
    refine ⟨g, a, I', e1, e2, e3, fun g0 c' hc' ha => ?_, fun g1 => ⟨c, hc, ⟨hb, e4.mp g1⟩, e5 g1⟩⟩
    have := lett_inj c hc c' hc' (by rw [← hb, ha.1])
    subst this
    have := e4.mpr ha.2
    omega
  by_cases b0 : B p = 110
  · exact fin 0 (by omega) b0 (mi_0 I J q X h hR hp b0)
  · by_cases b1 : B p = 116
    · exact fin 1 (by omega) b1 (mi_1 I J q X h hR hp b1 o3)
    · by_cases b2 : B p = 119
      · exact fin 2 (by omega) b2 (mi_2 I J q X h hR hp b2 o4)
      · by_cases b3 : B p = 107
        · exact fin 3 (by omega) b3 (mi_3 I J q X h hR hp b3 o5)
        · by_cases b4 : B p = 108
          · exact fin 4 (by omega) b4 (mi_4 I J q X h hR hp b4 o5 o6)
          · refine ⟨0, p + 1, I, x_item_n I J q X h hp b0 b1 b2 b3 b4, by omega, fM_refl I, fun _ c hc ha => ?_, fun x => absurd x (by decide)⟩
            have := ha.1
            unfold lett at this
            split at this
            · exact b0 this
            · split at this
              · exact b1 this
              · split at this
                · exact b2 this
                · split at this
                  · exact b3 this
                  · exact b4 this
