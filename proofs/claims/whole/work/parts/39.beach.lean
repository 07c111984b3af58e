/-! a beach as numbers: N cells, tides, winds, kinds, losses; D its rows -/
def lett (c : Nat) : Nat := if c = 0 then 110 else if c = 1 then 116 else if c = 2 then 119 else if c = 3 then 107 else 108
def bas (c : Nat) : Nat := if c = 1 then 0 else if c = 2 then 2 else if c = 3 then 5 else if c = 4 then 9 else 100
def rng (N : Nat → Nat) (c : Nat) (z : Nat → Int) : Prop :=
  (c = 0 ∧ 1 ≤ z 0 ∧ z 0 ≤ 16) ∨
  (c = 1 ∧ N 1 < 12 ∧ (-9 ≤ z 0 ∧ z 0 ≤ 9) ∧ (-9 ≤ z 1 ∧ z 1 ≤ 9)) ∨
  (c = 2 ∧ N 2 < 12 ∧ (0 ≤ z 0 ∧ z 0 ≤ 999) ∧ (-99 ≤ z 1 ∧ z 1 ≤ 99) ∧ (-99 ≤ z 2 ∧ z 2 ≤ 99)) ∨
  (c = 3 ∧ N 3 < 6 ∧ (0 ≤ z 0 ∧ z 0 ≤ 10) ∧ (z 0 ≤ z 1 ∧ z 1 ≤ 10) ∧ (0 ≤ z 2 ∧ z 2 ≤ 9) ∧ (0 ≤ z 3 ∧ z 3 ≤ 999)) ∨
  (c = 4 ∧ N 4 < 8 ∧ (0 ≤ z 0 ∧ z 0 < (N 3 : Int)) ∧ (0 ≤ z 1 ∧ z 1 ≤ 159) ∧ (1 ≤ z 2 ∧ z 2 ≤ 99) ∧ (0 ≤ z 3 ∧ z 3 ≤ 999) ∧ (0 ≤ z 4 ∧ z 4 ≤ 999) ∧ (z 3 ≤ z 4 ∧ z 4 ≤ z 3 + 9))
def acc (N : Nat → Nat) (B : Nat → Nat) (p c : Nat) : Prop := B p = lett c ∧ (∀ j, j < c + 1 → okn B (p + 1) (c + 1) j) ∧ rng N c (nz B (p + 1))
def adN (N : Nat → Nat) (c : Nat) (z : Nat → Int) : Nat → Nat := fun i => if i = c then (if c = 0 then (z 0).toNat else N c + 1) else N i
def adD (N : Nat → Nat) (D : Nat → Nat → Int) (c : Nat) (z : Nat → Int) : Nat → Nat → Int := fun r j => if bas c ≤ r ∧ r < bas c + (c + 1) ∧ j = N c then z (r - bas c) else D r j
def wsr (I : Nat → Nat → Int32) (b : Nat) (N : Nat → Nat) (D : Nat → Nat → Int) : Prop := ∃ (ns : Nat) (s : Nat → Nat), I (b + 2) 4 = nI ns ∧ ns ≤ N 2 ∧
  (∀ j, j < ns → s j < N 2 ∧ I (b + 5) j = zI (D 2 (s j)) ∧ I (b + 6) j = zI (D 3 (s j)) ∧ I (b + 7) j = zI (D 4 (s j)) ∧ ∀ k, s j < k → k < N 2 → D 2 k ≠ D 2 (s j)) ∧
  (∀ i j, i < j → j < ns → D 2 (s i) < D 2 (s j)) ∧ ∀ k, k < N 2 → ∃ j, j < ns ∧ D 2 (s j) = D 2 k
def cR (I : Nat → Nat → Int32) (b : Nat) (N : Nat → Nat) (D : Nat → Nat → Int) : Prop :=
  (I b 1 = nI (N 0) ∧ I (b + 2) 0 = nI (N 1) ∧ I (b + 2) 3 = nI (N 2) ∧ I b 3 = nI (N 3) ∧ I b 8 = nI (N 4)) ∧
  (∀ j, j < N 1 → I (b + 3) j = zI (D 0 j) ∧ I (b + 4) j = zI (D 1 j)) ∧ wsr I b N D ∧
  (∀ j, j < N 3 → I (b + 8) j = zI (D 5 j) ∧ I (b + 9) j = zI (D 6 j) ∧ I (b + 10) j = zI (D 7 j) ∧ I (b + 11) j = zI (D 8 j)) ∧
  (∀ j, j < N 4 → I (b + 12) j = zI (D 9 j) ∧ I (b + 13) j = zI (D 10 j) ∧ I (b + 14) j = zI (D 11 j) ∧ I (b + 15) j = zI (D 12 j) ∧ I (b + 16) j = zI (D 13 j))
def oB (N : Nat → Nat) (D : Nat → Nat → Int) : Prop := (1 ≤ N 0 ∧ N 0 ≤ 16 ∧ N 1 ≤ 12 ∧ N 2 ≤ 12 ∧ N 3 ≤ 6 ∧ N 4 ≤ 8) ∧
  (∀ j, j < N 1 → (-9 ≤ D 0 j ∧ D 0 j ≤ 9) ∧ (-9 ≤ D 1 j ∧ D 1 j ≤ 9)) ∧
  (∀ j, j < N 2 → (0 ≤ D 2 j ∧ D 2 j ≤ 999) ∧ (-99 ≤ D 3 j ∧ D 3 j ≤ 99) ∧ (-99 ≤ D 4 j ∧ D 4 j ≤ 99)) ∧
  (∀ j, j < N 3 → (0 ≤ D 5 j ∧ D 5 j ≤ 10) ∧ (D 5 j ≤ D 6 j ∧ D 6 j ≤ 10) ∧ (0 ≤ D 7 j ∧ D 7 j ≤ 9) ∧ (0 ≤ D 8 j ∧ D 8 j ≤ 999)) ∧
  (∀ j, j < N 4 → (0 ≤ D 9 j ∧ D 9 j < (N 3 : Int)) ∧ (0 ≤ D 10 j ∧ D 10 j ≤ 159) ∧ (1 ≤ D 11 j ∧ D 11 j ≤ 99) ∧ (0 ≤ D 12 j ∧ D 12 j ≤ 999) ∧ (0 ≤ D 13 j ∧ D 13 j ≤ 999) ∧ (D 12 j ≤ D 13 j ∧ D 13 j ≤ D 12 j + 9))
theorem adN_c {N : Nat → Nat} {c : Nat} {z : Nat → Int} (h : c ≠ 0) : adN N c z c = N c + 1 := by unfold adN; rw [if_pos rfl, if_neg h]
theorem adN_0 {N : Nat → Nat} {z : Nat → Int} : adN N 0 z 0 = (z 0).toNat := rfl
theorem adN_n {N : Nat → Nat} {c i : Nat} {z : Nat → Int} (h : i ≠ c) : adN N c z i = N i := if_neg h
theorem adD_n {N : Nat → Nat} {D : Nat → Nat → Int} {c r j : Nat} {z : Nat → Int} (h : ¬ (bas c ≤ r ∧ r < bas c + (c + 1))) : adD N D c z r j = D r j := if_neg (fun e => h ⟨e.1, e.2.1⟩)
theorem adD_o {N : Nat → Nat} {D : Nat → Nat → Int} {c r j : Nat} {z : Nat → Int} (h : j ≠ N c) : adD N D c z r j = D r j := if_neg (fun e => h e.2.2)
theorem adD_c {N : Nat → Nat} {D : Nat → Nat → Int} {c r : Nat} {z : Nat → Int} (h1 : bas c ≤ r) (h2 : r < bas c + (c + 1)) : adD N D c z r (N c) = z (r - bas c) := if_pos ⟨h1, h2, rfl⟩
theorem oB_ad {N : Nat → Nat} {D : Nat → Nat → Int} {c : Nat} {z : Nat → Int} (h : oB N D) (hr : rng N c z) : oB (adN N c z) (adD N D c z) := by
  obtain ⟨⟨a0, a1, a2, a3, a4, a5⟩, h1, h2, h3, h4⟩ := h
  rcases hr with ⟨rfl, r1, r2⟩ | ⟨rfl, r1, r2, r3⟩ | ⟨rfl, r1, r2, r3, r4⟩ | ⟨rfl, r1, r2, r3, r4, r5⟩ | ⟨rfl, r1, r2, r3, r4, r5, r6, r7⟩
  · have e : ∀ r j, r < 100 → adD N D 0 z r j = D r j := fun r j hr => adD_n (by simp [bas]; omega)
    refine ⟨⟨?_, ?_, a2, a3, a4, a5⟩, ?_, ?_, ?_, ?_⟩
    · rw [adN_0]; omega
    · rw [adN_0]; omega
    all_goals
      intro j hj
      rw [adN_n (by omega)] at hj
      simp only [e _ _ (show (0 : Nat) < 100 by omega), e _ _ (show (1 : Nat) < 100 by omega), e _ _ (show (2 : Nat) < 100 by omega), e _ _ (show (3 : Nat) < 100 by omega), e _ _ (show (4 : Nat) < 100 by omega), e _ _ (show (5 : Nat) < 100 by omega), e _ _ (show (6 : Nat) < 100 by omega), e _ _ (show (7 : Nat) < 100 by omega), e _ _ (show (8 : Nat) < 100 by omega), e _ _ (show (9 : Nat) < 100 by omega), e _ _ (show (10 : Nat) < 100 by omega), e _ _ (show (11 : Nat) < 100 by omega), e _ _ (show (12 : Nat) < 100 by omega), e _ _ (show (13 : Nat) < 100 by omega), adN_n (show (3 : Nat) ≠ 0 by omega)]
    · exact h1 j hj
    · exact h2 j hj
    · exact h3 j hj
    · exact h4 j hj
  · refine ⟨⟨a0, a1, by rw [adN_c (by omega)]; omega, a3, a4, a5⟩, ?_, h2, h3, h4⟩
    intro j hj
    rw [adN_c (by omega)] at hj
    by_cases e : j = N 1
    · subst e
      exact ⟨by rw [adD_c (by decide) (by decide)]; exact r2, by rw [adD_c (by decide) (by decide)]; exact r3⟩
    · rw [adD_o e, adD_o e]
      exact h1 j (by omega)
  · refine ⟨⟨a0, a1, a2, by rw [adN_c (by omega)]; omega, a4, a5⟩, h1, ?_, h3, h4⟩
    intro j hj
    rw [adN_c (by omega)] at hj
    by_cases e : j = N 2
    · subst e
      exact ⟨by rw [adD_c (by decide) (by decide)]; exact r2, by rw [adD_c (by decide) (by decide)]; exact r3, by rw [adD_c (by decide) (by decide)]; exact r4⟩
    · rw [adD_o e, adD_o e, adD_o e]
      exact h2 j (by omega)
  · refine ⟨⟨a0, a1, a2, a3, by rw [adN_c (by omega)]; omega, a5⟩, h1, h2, ?_, ?_⟩
    · intro j hj
      rw [adN_c (by omega)] at hj
      by_cases e : j = N 3
      · subst e
        rw [adD_c (by decide) (by decide), adD_c (by decide) (by decide), adD_c (by decide) (by decide), adD_c (by decide) (by decide)]
        exact ⟨r2, r3, r4, r5⟩
      · rw [adD_o e, adD_o e, adD_o e, adD_o e]
        exact h3 j (by omega)
    · intro j hj
      rw [adN_n (by omega)] at hj
      have := h4 j hj
      rw [adN_c (by omega), adD_n (by decide), adD_n (by decide), adD_n (by decide), adD_n (by decide), adD_n (by decide)]
      exact ⟨⟨this.1.1, by omega⟩, this.2⟩
  · refine ⟨⟨a0, a1, a2, a3, a4, by rw [adN_c (by omega)]; omega⟩, h1, h2, h3, ?_⟩
    intro j hj
    rw [adN_c (by omega)] at hj
    rw [adN_n (by omega)]
    by_cases e : j = N 4
    · subst e
      rw [adD_c (by decide) (by decide), adD_c (by decide) (by decide), adD_c (by decide) (by decide), adD_c (by decide) (by decide), adD_c (by decide) (by decide)]
      exact ⟨r2, r3, r4, r5, r6, r7⟩
    · rw [adD_o e, adD_o e, adD_o e, adD_o e, adD_o e]
      exact h4 j (by omega)
/-! the same in the machine's numbers -/
theorem zI_Lle {a : Int} {n : Nat} (hn : n ≤ 100000) (h1 : -100000 ≤ a) (h2 : a ≤ 100000) : (no_index (OfNat.ofNat n) : Int32) ≤ zI a ↔ (n : Int) ≤ a := by rw [fa_lit, zI_nI, zI_leI (by omega) (by omega) (by omega) (by omega)]
theorem zI_leL {a : Int} {n : Nat} (hn : n ≤ 100000) (h1 : -100000 ≤ a) (h2 : a ≤ 100000) : zI a ≤ (no_index (OfNat.ofNat n) : Int32) ↔ a ≤ (n : Int) := by rw [fa_lit, zI_nI, zI_leI (by omega) (by omega) (by omega) (by omega)]
theorem zI_Nle {a : Int} {n : Nat} (hn : n ≤ 100000) (h1 : -100000 ≤ a) (h2 : a ≤ 100000) : (-(no_index (OfNat.ofNat n)) : Int32) ≤ zI a ↔ -(n : Int) ≤ a := by rw [fa_lit, nI_neg, zI_leI (by omega) (by omega) (by omega) (by omega)]
theorem zI_dn {a : Int} {n : Nat} (hn : n ≤ 100000) (h1 : -100000 ≤ a) (h2 : a ≤ 100000) : zI a ≤ dn n ↔ a < (n : Int) := by
  cases n with
  | zero =>
    show zI a ≤ zI (-1) ↔ _
    rw [zI_leI (by omega) (by omega) (by omega) (by omega)]
    omega
  | succ n =>
    show zI a ≤ nI n ↔ _
    rw [zI_nI, zI_leI (by omega) (by omega) (by omega) (by omega)]
    omega
theorem zI_p9 {a b : Int} (h1 : -100000 ≤ a) (h2 : a ≤ 100000) (h3 : -100000 ≤ b) (h4 : b ≤ 100000) : zI a ≤ zI b + 9 ↔ a ≤ b + 9 := by
  rw [show (9 : Int32) = zI 9 from rfl, zI_add, zI_leI (by omega) (by omega) (by omega) (by omega)]
/-- a new wind in the sorted rows -/
theorem wsr_ad {I I' : Nat → Nat → Int32} {b : Nat} {N : Nat → Nat} {D : Nat → Nat → Int} {z : Nat → Int} {ns : Nat} {s : Nat → Nat} (ho : oB N D) (hr : 0 ≤ z 0 ∧ z 0 ≤ 999) (h2 : ns ≤ N 2)
    (h3 : ∀ j, j < ns → s j < N 2 ∧ I (b + 5) j = zI (D 2 (s j)) ∧ I (b + 6) j = zI (D 3 (s j)) ∧ I (b + 7) j = zI (D 4 (s j)) ∧ ∀ k, s j < k → k < N 2 → D 2 k ≠ D 2 (s j))
    (h4 : ∀ i j, i < j → j < ns → D 2 (s i) < D 2 (s j)) (h5 : ∀ k, k < N 2 → ∃ j, j < ns ∧ D 2 (s j) = D 2 k)
    {row : Nat} (w1 : row ≤ ns) (w2 : ∀ j, j < row → I (b + 5) j < zI (z 0)) (w3 : row < ns → ¬ I (b + 5) row < zI (z 0))
    (w4 : ((row < ns ∧ I (b + 5) row = zI (z 0)) ∧ I' (b + 2) 4 = nI ns ∧ ∀ j, I' (b + 5) j = (if j = row then zI (z 0) else I (b + 5) j) ∧ I' (b + 6) j = (if j = row then zI (z 1) else I (b + 6) j) ∧ I' (b + 7) j = (if j = row then zI (z 2) else I (b + 7) j)) ∨
     (¬ (row < ns ∧ I (b + 5) row = zI (z 0)) ∧ I' (b + 2) 4 = nI (ns + 1) ∧ ∀ j, I' (b + 5) j = (if j = row then zI (z 0) else if row < j ∧ j ≤ ns then I (b + 5) (j - 1) else I (b + 5) j) ∧ I' (b + 6) j = (if j = row then zI (z 1) else if row < j ∧ j ≤ ns then I (b + 6) (j - 1) else I (b + 6) j) ∧ I' (b + 7) j = (if j = row then zI (z 2) else if row < j ∧ j ≤ ns then I (b + 7) (j - 1) else I (b + 7) j))) :
    wsr I' b (adN N 2 z) (adD N D 2 z) := by
  have hd : ∀ j, j < ns → 0 ≤ D 2 (s j) ∧ D 2 (s j) ≤ 999 := fun j hj => (ho.2.2.1 _ (h3 j hj).1).1
  have hN : adN N 2 z 2 = N 2 + 1 := adN_c (by omega)
  have c2 : adD N D 2 z 2 (N 2) = z 0 := adD_c (by decide) (by decide)
  have c3 : adD N D 2 z 3 (N 2) = z 1 := adD_c (by decide) (by decide)
  have c4 : adD N D 2 z 4 (N 2) = z 2 := adD_c (by decide) (by decide)
  have co : ∀ r k, k < N 2 → adD N D 2 z r k = D r k := fun r k hk => adD_o (by omega)
  have w2' : ∀ j, j < row → D 2 (s j) < z 0 := fun j hj => by
    have a := h3 j (by omega)
    have d := hd j (by omega)
    have := w2 j hj
    rw [a.2.1, zI_ltI (by omega) (by omega) (by omega) (by omega)] at this
    exact this
  have w3' : row < ns → z 0 ≤ D 2 (s row) := fun hj => by
    have a := h3 row hj
    have d := hd row hj
    have := w3 hj
    rw [a.2.1, zI_ltI (by omega) (by omega) (by omega) (by omega)] at this
    omega
  rcases w4 with ⟨⟨e1, e2⟩, e3, e4⟩ | ⟨e1, e3, e4⟩
  · have eh : D 2 (s row) = z 0 := by
      have a := h3 row e1
      have d := hd row e1
      rw [a.2.1, zI_eqI (by omega) (by omega) (by omega) (by omega)] at e2
      exact e2
    refine ⟨ns, fun j => if j = row then N 2 else s j, e3, by omega, fun j hj => ?_, fun i j hij hj => ?_, fun k hk => ?_⟩
    · obtain ⟨f5, f6, f7⟩ := e4 j
      dsimp only
      by_cases ej : j = row
      · subst ej
        simp only [if_true] at f5 f6 f7 ⊢
        rw [c2, c3, c4]
        exact ⟨by omega, f5, f6, f7, fun k k1 k2 => by omega⟩
      · simp only [if_neg ej] at f5 f6 f7 ⊢
        obtain ⟨a1, a2, a3, a4, a5⟩ := h3 j hj
        rw [co _ _ a1, co _ _ a1, co _ _ a1]
        refine ⟨by omega, by rw [f5, a2], by rw [f6, a3], by rw [f7, a4], fun k k1 k2 => ?_⟩
        by_cases ek : k = N 2
        · rw [ek, c2, ← eh]
          rcases Nat.lt_or_ge j row with q | q
          · have := h4 j row q e1; omega
          · have := h4 row j (by omega) hj; omega
        · rw [co _ _ (by omega)]
          exact a5 k k1 (by omega)
    · have key : ∀ i, i < ns → adD N D 2 z 2 (if i = row then N 2 else s i) = D 2 (s i) := fun i hi => by
        by_cases ei : i = row
        · rw [if_pos ei, c2, ei, eh]
        · rw [if_neg ei, co _ _ (h3 i hi).1]
      dsimp only
      rw [key i (by omega), key j hj]
      exact h4 i j hij hj
    · have key : ∀ i, i < ns → adD N D 2 z 2 (if i = row then N 2 else s i) = D 2 (s i) := fun i hi => by
        by_cases ei : i = row
        · rw [if_pos ei, c2, ei, eh]
        · rw [if_neg ei, co _ _ (h3 i hi).1]
      by_cases ek : k = N 2
      · refine ⟨row, e1, ?_⟩
        rw [key row e1, ek, c2, eh]
      · obtain ⟨j, j1, j2⟩ := h5 k (by omega)
        refine ⟨j, j1, ?_⟩
        rw [key j j1, j2, co _ _ (by omega)]
  · have w3n : row < ns → z 0 < D 2 (s row) := fun hj => by
      have a := h3 row hj
      have d := hd row hj
      have b1 := w3' hj
      have : ¬ D 2 (s row) = z 0 := fun e => e1 ⟨hj, by rw [a.2.1, e]⟩
      omega
    have w5 : ∀ j, row ≤ j → j < ns → z 0 < D 2 (s j) := fun j j1 j2 => by
      by_cases ej : j = row
      · subst ej; exact w3n j2
      · have := w3n (by omega)
        have := h4 row j (by omega) j2
        omega
    refine ⟨ns + 1, fun j => if j = row then N 2 else if row < j then s (j - 1) else s j, e3, by omega, fun j hj => ?_, fun i j hij hj => ?_, fun k hk => ?_⟩
    · obtain ⟨f5, f6, f7⟩ := e4 j
      dsimp only
      by_cases ej : j = row
      · subst ej
        simp only [if_true] at f5 f6 f7 ⊢
        rw [c2, c3, c4]
        exact ⟨by omega, f5, f6, f7, fun k k1 k2 => by omega⟩
      · simp only [if_neg ej] at f5 f6 f7 ⊢
        by_cases el : row < j
        · simp only [if_pos el, if_pos (show row < j ∧ j ≤ ns by omega)] at f5 f6 f7 ⊢
          obtain ⟨a1, a2, a3, a4, a5⟩ := h3 (j - 1) (by omega)
          rw [co _ _ a1, co _ _ a1, co _ _ a1]
          refine ⟨by omega, by rw [f5, a2], by rw [f6, a3], by rw [f7, a4], fun k k1 k2 => ?_⟩
          by_cases ek : k = N 2
          · rw [ek, c2]
            have := w5 (j - 1) (by omega) (by omega)
            omega
          · rw [co _ _ (by omega)]
            exact a5 k k1 (by omega)
        · simp only [if_neg el, if_neg (show ¬ (row < j ∧ j ≤ ns) by omega)] at f5 f6 f7 ⊢
          obtain ⟨a1, a2, a3, a4, a5⟩ := h3 j (by omega)
          rw [co _ _ a1, co _ _ a1, co _ _ a1]
          refine ⟨by omega, by rw [f5, a2], by rw [f6, a3], by rw [f7, a4], fun k k1 k2 => ?_⟩
          by_cases ek : k = N 2
          · rw [ek, c2]
            have := w2' j (by omega)
            omega
          · rw [co _ _ (by omega)]
            exact a5 k k1 (by omega)
    · have key : ∀ i, i < ns + 1 → adD N D 2 z 2 (if i = row then N 2 else if row < i then s (i - 1) else s i) = if i = row then z 0 else if row < i then D 2 (s (i - 1)) else D 2 (s i) := fun i hi => by
        by_cases ei : i = row
        · rw [if_pos ei, if_pos ei, c2]
        · rw [if_neg ei, if_neg ei]
          by_cases el : row < i
          · rw [if_pos el, if_pos el, co _ _ (h3 (i - 1) (by omega)).1]
          · rw [if_neg el, if_neg el, co _ _ (h3 i (by omega)).1]
      dsimp only
      rw [key i (by omega), key j hj]
      by_cases ei : i = row
      · rw [if_pos ei, if_neg (by omega), if_pos (by omega)]
        exact w5 (j - 1) (by omega) (by omega)
      · rw [if_neg ei]
        by_cases el : row < i
        · rw [if_pos el, if_neg (by omega), if_pos (by omega)]
          exact h4 _ _ (by omega) (by omega)
        · rw [if_neg el]
          by_cases ej : j = row
          · rw [if_pos ej]; exact w2' i (by omega)
          · rw [if_neg ej]
            by_cases el2 : row < j
            · rw [if_pos el2]
              have := w2' i (by omega)
              have := w5 (j - 1) (by omega) (by omega)
              omega
            · rw [if_neg el2]
              exact h4 i j hij (by omega)
    · by_cases ek : k = N 2
      · refine ⟨row, by omega, ?_⟩
        dsimp only
        rw [if_pos rfl, ek]
      · obtain ⟨j, j1, j2⟩ := h5 k (by omega)
        by_cases el : j < row
        · refine ⟨j, by omega, ?_⟩
          dsimp only
          rw [if_neg (by omega), if_neg (by omega), co _ _ (h3 j j1).1, co _ _ (by omega), j2]
        · refine ⟨j + 1, by omega, ?_⟩
          dsimp only
          rw [if_neg (by omega), if_pos (by omega), Nat.add_sub_cancel, co _ _ (h3 j j1).1, co _ _ (by omega), j2]
