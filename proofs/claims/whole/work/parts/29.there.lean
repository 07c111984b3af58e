theorem la_true {f : Nat → Bool} : ∀ {d i : Nat}, la f d i = true ↔ ∃ j, i ≤ j ∧ j < i + d ∧ f j = true
  | 0, i => by
    simp [la]
    intro j h1 h2
    omega
  | d + 1, i => by
    rw [la, Bool.or_eq_true, la_true (d := d) (i := i + 1)]
    constructor
    · rintro (h | ⟨j, h1, h2, h3⟩)
      · exact ⟨i, by omega, by omega, h⟩
      · exact ⟨j, by omega, by omega, h3⟩
    · rintro ⟨j, h1, h2, h3⟩
      by_cases e : j = i
      · subst e; exact Or.inl h3
      · exact Or.inr ⟨j, by omega, by omega, h3⟩
theorem nums_of {I : Nat → Nat → Int32} {K : Nat} {c : Nat → Nat → Nat} (h : shr I K c) (hn : nmb I c) : nums I (c 2 0) (fun j => ix (I 32 j)) := by
  obtain ⟨⟨k1, k2, k3⟩, ⟨n1, n2, n3⟩, hk, hl, ⟨b1, b2, b3⟩, m1, m2, f1, f2, f3⟩ := h
  obtain ⟨g1, g2⟩ := hn
  refine ⟨b3, n3, (hl 0 (by omega)).2.2, fun j hj => ?_, fun i j hij hj => ?_⟩
  · obtain ⟨w, w1, w2, w3⟩ := g1 j hj
    have := f3 0 j (by omega) hj
    rw [show 20 * 0 + j = j by omega] at this
    dsimp only
    rw [this, w3, ix_nI (by omega)]
    exact ⟨rfl, rfl, w1, w2⟩
  · obtain ⟨w, w1, w2, w3⟩ := g1 j hj
    obtain ⟨w', w4, w5, w6⟩ := g1 i (by omega)
    have := g2 i j hij hj
    rw [w3, w6] at this
    dsimp only
    rw [w3, w6, ix_nI (by omega), ix_nI (by omega)]
    intro e
    exact this (by rw [e])
theorem d_number (I : Nat → Nat → Int32) (J : Nat → Nat → Int64) (q : Bool × Bool) (X : Nat × (Nat → Int32)) {K : Nat} {c : Nat → Nat → Nat} (h : shr I K c) (hn : nmb I c) (v : Int32) : ∃ r I1 I2 c', gb_call 88 [.ref (0 : Nat), .int v] gb_pG (gS I J q X) = some (.int r, gb_pG, gS I1 J q X) ∧ gb_call 161 [.ref (190 : Nat), .int v] gb_pG (gS I1 J q X) = some (.int r, gb_pG, gS I2 J q X) ∧ shr I2 K c' ∧ nmb I2 c' ∧ (∀ m, m ≠ 2 → c' m = c m) ∧ (∀ y, 24 ≤ y → y ≤ 31 → I2 y = I y) ∧ frF I I2 := by
  have h0 := h
  obtain ⟨⟨k1, k2, k3⟩, ⟨n1, n2, n3⟩, hk, hl, ⟨b1, b2, b3⟩, m1, m2, f1, f2, f3⟩ := h
  obtain ⟨g1, g2⟩ := hn
  have l0 := (hl 0 (by omega)).2.2
  have s1 := s_GB_number I J q X v b3 n3
  have hla : la (fun j => decide (I 211 j = v)) (c 2 0) 0 = la (fun j => decide (I 32 j = v)) (c 2 0) 0 := la_congr fun j _ hj => by
    have := f3 0 j (by omega) (by omega)
    rw [show 20 * 0 + j = j by omega] at this
    rw [this]
  by_cases c1 : 1 ≤ v ∧ v ≤ 9999
  · by_cases c2 : la (fun j => decide (I 32 j = v)) (c 2 0) 0 = true
    · refine ⟨-2, I, I, c, ?_, ?_, h0, ⟨g1, g2⟩, fun _ _ => rfl, fun _ _ _ => rfl, fun _ _ _ _ => rfl, fun _ _ _ => rfl⟩
      · rw [s1, if_neg (not_not_intro c1), if_pos c2]
      · rw [s_RM_number I J q X v b3 l0, if_neg (not_not_intro c1), hla, if_pos c2]
    · obtain ⟨N, hN⟩ : ∃ N, N = c 2 0 := ⟨_, rfl⟩
      by_cases c3 : N = 20
      · refine ⟨-3, I, I, c, ?_, ?_, h0, ⟨g1, g2⟩, fun _ _ => rfl, fun _ _ _ => rfl, fun _ _ _ _ => rfl, fun _ _ _ => rfl⟩
        · rw [s1, if_neg (not_not_intro c1), if_neg c2, if_pos (by omega)]
        · rw [s_RM_number I J q X v b3 l0, if_neg (not_not_intro c1), hla, if_neg c2, if_pos (by omega)]
      · rw [if_neg (not_not_intro c1), if_neg c2, if_neg (by omega), ← hN] at s1
        obtain ⟨I1, e1⟩ : ∃ I1, I1 = up (up I 32 N v) 23 10 (nI (N + 1)) := ⟨_, rfl⟩
        obtain ⟨I2, e2⟩ : ∃ I2, I2 = up (up I1 211 N v) 210 0 (nI (N + 1)) := ⟨_, rfl⟩
        rw [← e1] at s1
        have l1 : I1 210 0 = nI N := by rw [e1]; simp (disch := first | omega | decide | assumption | simp only [List.length_cons, List.length_nil, Nat.reduceAdd, Nat.reduceLeDiff]) only [up_ne]; rw [hN]; exact l0
        have l2 : I1 211 = I 211 := by rw [e1]; simp (disch := first | omega | decide | assumption | simp only [List.length_cons, List.length_nil, Nat.reduceAdd, Nat.reduceLeDiff]) only [up_ne]
        have q32 : ∀ j, I2 32 j = if j = N then v else I 32 j := fun j => by rw [e2, e1]; simp (disch := first | omega | decide | assumption | simp only [List.length_cons, List.length_nil, Nat.reduceAdd, Nat.reduceLeDiff]) only [up_ne, up_same]; rfl
        have q23 : ∀ j, I2 23 j = if j = 10 then nI (N + 1) else I 23 j := fun j => by rw [e2, e1]; simp (disch := first | omega | decide | assumption | simp only [List.length_cons, List.length_nil, Nat.reduceAdd, Nat.reduceLeDiff]) only [up_ne, up_same]; rfl
        have q210 : ∀ j, I2 210 j = if j = 0 then nI (N + 1) else I 210 j := fun j => by rw [e2, e1]; simp (disch := first | omega | decide | assumption | simp only [List.length_cons, List.length_nil, Nat.reduceAdd, Nat.reduceLeDiff]) only [up_ne, up_same]; rfl
        have q211 : ∀ j, I2 211 j = if j = N then v else I 211 j := fun j => by rw [e2, e1]; simp (disch := first | omega | decide | assumption | simp only [List.length_cons, List.length_nil, Nat.reduceAdd, Nat.reduceLeDiff]) only [up_ne, up_same]; rfl
        have qf : ∀ a, a ≠ 23 → a ≠ 32 → ¬ (210 ≤ a ∧ a ≤ 211) → I2 a = I a := fun a a0 a1 a2 => by rw [e2, e1]; simp (disch := first | omega | decide | assumption | simp only [List.length_cons, List.length_nil, Nat.reduceAdd, Nat.reduceLeDiff]) only [up_ne]
        have hnew : ∀ j, j < N → I 32 j ≠ v := by
          intro j hj e
          exact c2 (la_true.mpr ⟨j, by omega, by omega, by simp [e]⟩)
        refine ⟨nI (N + 1), I1, I2, inc c 2, s1, ?_, ⟨⟨k1, ?_, ?_⟩, ⟨?_, ?_, ?_⟩, ?_, ?_, ⟨?_, ?_, ?_⟩, inc_le m1, inc_mo m2, ?_, ?_, ?_⟩, ⟨?_, ?_⟩, ?_, ?_, ?_, ?_⟩
        · rw [s_RM_number I1 J q X v (show N ≤ 20 by omega) l1, if_neg (not_not_intro c1), l2, hN, hla, if_neg c2, if_neg (by omega), e2, hN]
        · rw [q23, if_neg (by omega)]; exact k2
        · rw [qf 190 (by omega) (by omega) (by omega)]; exact k3
        · rw [q23, if_neg (by omega)]; simpa [inc] using n1
        · rw [q23, if_neg (by omega)]; simpa [inc] using n2
        · rw [q23, if_pos rfl]; simp [inc, hN]
        · intro j hj
          rw [qf 33 (by omega) (by omega) (by omega), qf 34 (by omega) (by omega) (by omega), qf 35 (by omega) (by omega) (by omega)]
          simpa [inc] using hk j hj
        · intro l hl2
          have := hl l hl2
          rw [q210, qf 206 (by omega) (by omega) (by omega), qf 208 (by omega) (by omega) (by omega)]
          by_cases e : l = 0
          · subst e
            simp only [if_true]
            refine ⟨by simpa [inc] using this.1, by simpa [inc] using this.2.1, by simp [inc, hN]⟩
          · simpa [inc, e] using this
        · simpa [inc] using b1
        · simpa [inc] using b2
        · simp [inc]; omega
        · intro l i hl2 hi
          rw [qf 207 (by omega) (by omega) (by omega), qf 24 (by omega) (by omega) (by omega), qf 25 (by omega) (by omega) (by omega), qf 26 (by omega) (by omega) (by omega)]
          exact f1 l i hl2 (by simpa [inc] using hi)
        · intro l i hl2 hi
          rw [qf 209 (by omega) (by omega) (by omega), qf 27 (by omega) (by omega) (by omega), qf 28 (by omega) (by omega) (by omega), qf 29 (by omega) (by omega) (by omega), qf 30 (by omega) (by omega) (by omega), qf 31 (by omega) (by omega) (by omega)]
          exact f2 l i hl2 (by simpa [inc] using hi)
        · intro l i hl2 hi
          rw [q211, q32]
          have hm := m1 2 l hl2
          by_cases e : l = 0 ∧ i = N
          · obtain ⟨rfl, rfl⟩ := e
            simp
          · have hi' : i < c 2 l := by
              unfold inc at hi
              by_cases e2 : l = 0
              · subst e2; simp at hi; omega
              · simpa [e2] using hi
            rw [if_neg (by omega), if_neg (by omega)]
            exact f3 l i hl2 hi'
        · intro i hi
          rw [q32]
          by_cases ei : i = N
          · obtain ⟨w, a5, a6, a7⟩ := nI_rng (by decide) (by decide) c1
            rw [if_pos ei]
            exact ⟨w, a5, a6, a7⟩
          · rw [if_neg ei]
            refine g1 i ?_
            simp [inc] at hi
            omega
        · intro i j hij hj
          simp [inc] at hj
          rw [q32, q32, if_neg (show ¬ i = N by omega)]
          by_cases ej : j = N
          · rw [if_pos ej]
            exact hnew i (by omega)
          · rw [if_neg ej]
            exact g2 i j hij (by omega)
        · intro m hm
          funext l
          simp [inc, hm]
        · intro y y1 y2
          exact qf y (by omega) (by omega) (by omega)
        · intro y y1 y2 y3
          rw [q23, if_neg y3]
        · intro a a1 a2
          exact qf a (by omega) (by omega) (by omega)
  · refine ⟨-1, I, I, c, ?_, ?_, h0, ⟨g1, g2⟩, fun _ _ => rfl, fun _ _ _ => rfl, fun _ _ _ _ => rfl, fun _ _ _ => rfl⟩
    · rw [s1, if_pos c1]
    · rw [s_RM_number I J q X v b3 l0, if_pos c1]
