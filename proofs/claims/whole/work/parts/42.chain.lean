/-! the model reads the numbers of an item -/
theorem ch_1 {B : Nat → Nat} {P ge g1 a1 : Nat} {r1 l0 h0 : Int32} (c1 : g1 = 1 ↔ vok B P l0 h0) (d1 : g1 = 1 → a1 = tnp B 1 P ∧ r1 = zI (tnz B 1 P)) (ce : ge = 1 ↔ g1 = 1 ∧ B a1 = 59) : (ge = 1 ↔ (∀ j, j < 1 → okn B P 1 j) ∧ (l0 ≤ zI (nz B P 0) ∧ zI (nz B P 0) ≤ h0)) ∧ (ge = 1 → a1 + 1 = pp B P 1 ∧ r1 = zI (nz B P 0)) := by
  constructor
  · constructor
    · intro e
      obtain ⟨e1, s1⟩ := ce.mp e
      have v0 := c1.mp e1
      obtain ⟨rfl, rfl⟩ := d1 e1
      refine ⟨fun j hj => ?_, v0.2.2⟩
      have : j = 0 := by omega
      subst this
      exact ⟨v0.1, s1⟩
    · rintro ⟨ok, q0⟩
      have k0 := ok 0 (by omega)
      have t0 : B (tnp B 1 P) = 59 := k0.2
      have m0 : vok B P l0 h0 := ⟨k0.1, by rw [t0]; omega, q0.1, q0.2⟩
      have e1 := c1.mpr m0
      obtain ⟨rfl, rfl⟩ := d1 e1
      exact ce.mpr ⟨e1, t0⟩
  · intro e
    obtain ⟨e1, s1⟩ := ce.mp e
    have v0 := c1.mp e1
    obtain ⟨rfl, rfl⟩ := d1 e1
    exact ⟨rfl, rfl⟩
theorem ch_2 {B : Nat → Nat} {P ge g1 a1 g2 a2 : Nat} {r1 l0 h0 r2 l1 h1 : Int32} (c1 : g1 = 1 ↔ vok B P l0 h0) (d1 : g1 = 1 → a1 = tnp B 1 P ∧ r1 = zI (tnz B 1 P)) (c2 : g2 = 1 ↔ g1 = 1 ∧ B a1 = 44 ∧ vok B (a1 + 1) l1 h1) (d2 : g2 = 1 → a2 = tnp B 1 (a1 + 1) ∧ r2 = zI (tnz B 1 (a1 + 1))) (ce : ge = 1 ↔ g2 = 1 ∧ B a2 = 59) : (ge = 1 ↔ (∀ j, j < 2 → okn B P 2 j) ∧ (l0 ≤ zI (nz B P 0) ∧ zI (nz B P 0) ≤ h0) ∧ (l1 ≤ zI (nz B P 1) ∧ zI (nz B P 1) ≤ h1)) ∧ (ge = 1 → a2 + 1 = pp B P 2 ∧ r1 = zI (nz B P 0) ∧ r2 = zI (nz B P 1)) := by
  constructor
  · constructor
    · intro e
      obtain ⟨e2, s2⟩ := ce.mp e
      obtain ⟨e1, s1, v1⟩ := c2.mp e2
      have v0 := c1.mp e1
      obtain ⟨rfl, rfl⟩ := d1 e1
      obtain ⟨rfl, rfl⟩ := d2 e2
      refine ⟨fun j hj => ?_, v0.2.2, v1.2.2⟩
      have : j = 0 ∨ j = 1 := by omega
      rcases this with rfl | rfl
      · exact ⟨v0.1, s1⟩
      · exact ⟨v1.1, s2⟩
    · rintro ⟨ok, q0, q1⟩
      have k0 := ok 0 (by omega)
      have t0 : B (tnp B 1 P) = 44 := k0.2
      have m0 : vok B P l0 h0 := ⟨k0.1, by rw [t0]; omega, q0.1, q0.2⟩
      have e1 := c1.mpr m0
      obtain ⟨rfl, rfl⟩ := d1 e1
      have k1 := ok 1 (by omega)
      have t1 : B (tnp B 1 (pp B P 1)) = 59 := k1.2
      have m1 : vok B (pp B P 1) l1 h1 := ⟨k1.1, by rw [t1]; omega, q1.1, q1.2⟩
      have e2 := c2.mpr ⟨e1, t0, m1⟩
      obtain ⟨rfl, rfl⟩ := d2 e2
      exact ce.mpr ⟨e2, t1⟩
  · intro e
    obtain ⟨e2, s2⟩ := ce.mp e
    obtain ⟨e1, s1, v1⟩ := c2.mp e2
    have v0 := c1.mp e1
    obtain ⟨rfl, rfl⟩ := d1 e1
    obtain ⟨rfl, rfl⟩ := d2 e2
    exact ⟨rfl, rfl, rfl⟩
theorem ch_3 {B : Nat → Nat} {P ge g1 a1 g2 a2 g3 a3 : Nat} {r1 l0 h0 r2 l1 h1 r3 l2 h2 : Int32} (c1 : g1 = 1 ↔ vok B P l0 h0) (d1 : g1 = 1 → a1 = tnp B 1 P ∧ r1 = zI (tnz B 1 P)) (c2 : g2 = 1 ↔ g1 = 1 ∧ B a1 = 44 ∧ vok B (a1 + 1) l1 h1) (d2 : g2 = 1 → a2 = tnp B 1 (a1 + 1) ∧ r2 = zI (tnz B 1 (a1 + 1))) (c3 : g3 = 1 ↔ g2 = 1 ∧ B a2 = 44 ∧ vok B (a2 + 1) l2 h2) (d3 : g3 = 1 → a3 = tnp B 1 (a2 + 1) ∧ r3 = zI (tnz B 1 (a2 + 1))) (ce : ge = 1 ↔ g3 = 1 ∧ B a3 = 59) : (ge = 1 ↔ (∀ j, j < 3 → okn B P 3 j) ∧ (l0 ≤ zI (nz B P 0) ∧ zI (nz B P 0) ≤ h0) ∧ (l1 ≤ zI (nz B P 1) ∧ zI (nz B P 1) ≤ h1) ∧ (l2 ≤ zI (nz B P 2) ∧ zI (nz B P 2) ≤ h2)) ∧ (ge = 1 → a3 + 1 = pp B P 3 ∧ r1 = zI (nz B P 0) ∧ r2 = zI (nz B P 1) ∧ r3 = zI (nz B P 2)) := by
  constructor
  · constructor
    · intro e
      obtain ⟨e3, s3⟩ := ce.mp e
      obtain ⟨e2, s2, v2⟩ := c3.mp e3
      obtain ⟨e1, s1, v1⟩ := c2.mp e2
      have v0 := c1.mp e1
      obtain ⟨rfl, rfl⟩ := d1 e1
      obtain ⟨rfl, rfl⟩ := d2 e2
      obtain ⟨rfl, rfl⟩ := d3 e3
      refine ⟨fun j hj => ?_, v0.2.2, v1.2.2, v2.2.2⟩
      have : j = 0 ∨ j = 1 ∨ j = 2 := by omega
      rcases this with rfl | rfl | rfl
      · exact ⟨v0.1, s1⟩
      · exact ⟨v1.1, s2⟩
      · exact ⟨v2.1, s3⟩
    · rintro ⟨ok, q0, q1, q2⟩
      have k0 := ok 0 (by omega)
      have t0 : B (tnp B 1 P) = 44 := k0.2
      have m0 : vok B P l0 h0 := ⟨k0.1, by rw [t0]; omega, q0.1, q0.2⟩
      have e1 := c1.mpr m0
      obtain ⟨rfl, rfl⟩ := d1 e1
      have k1 := ok 1 (by omega)
      have t1 : B (tnp B 1 (pp B P 1)) = 44 := k1.2
      have m1 : vok B (pp B P 1) l1 h1 := ⟨k1.1, by rw [t1]; omega, q1.1, q1.2⟩
      have e2 := c2.mpr ⟨e1, t0, m1⟩
      obtain ⟨rfl, rfl⟩ := d2 e2
      have k2 := ok 2 (by omega)
      have t2 : B (tnp B 1 (pp B P 2)) = 59 := k2.2
      have m2 : vok B (pp B P 2) l2 h2 := ⟨k2.1, by rw [t2]; omega, q2.1, q2.2⟩
      have e3 := c3.mpr ⟨e2, t1, m2⟩
      obtain ⟨rfl, rfl⟩ := d3 e3
      exact ce.mpr ⟨e3, t2⟩
  · intro e
    obtain ⟨e3, s3⟩ := ce.mp e
    obtain ⟨e2, s2, v2⟩ := c3.mp e3
    obtain ⟨e1, s1, v1⟩ := c2.mp e2
    have v0 := c1.mp e1
    obtain ⟨rfl, rfl⟩ := d1 e1
    obtain ⟨rfl, rfl⟩ := d2 e2
    obtain ⟨rfl, rfl⟩ := d3 e3
    exact ⟨rfl, rfl, rfl, rfl⟩
theorem ch_4 {B : Nat → Nat} {P ge g1 a1 g2 a2 g3 a3 g4 a4 : Nat} {r1 l0 h0 r2 l1 h1 r3 l2 h2 r4 l3 h3 : Int32} (c1 : g1 = 1 ↔ vok B P l0 h0) (d1 : g1 = 1 → a1 = tnp B 1 P ∧ r1 = zI (tnz B 1 P)) (c2 : g2 = 1 ↔ g1 = 1 ∧ B a1 = 44 ∧ vok B (a1 + 1) l1 h1) (d2 : g2 = 1 → a2 = tnp B 1 (a1 + 1) ∧ r2 = zI (tnz B 1 (a1 + 1))) (c3 : g3 = 1 ↔ g2 = 1 ∧ B a2 = 44 ∧ vok B (a2 + 1) l2 h2) (d3 : g3 = 1 → a3 = tnp B 1 (a2 + 1) ∧ r3 = zI (tnz B 1 (a2 + 1))) (c4 : g4 = 1 ↔ g3 = 1 ∧ B a3 = 44 ∧ vok B (a3 + 1) l3 h3) (d4 : g4 = 1 → a4 = tnp B 1 (a3 + 1) ∧ r4 = zI (tnz B 1 (a3 + 1))) (ce : ge = 1 ↔ g4 = 1 ∧ B a4 = 59) : (ge = 1 ↔ (∀ j, j < 4 → okn B P 4 j) ∧ (l0 ≤ zI (nz B P 0) ∧ zI (nz B P 0) ≤ h0) ∧ (l1 ≤ zI (nz B P 1) ∧ zI (nz B P 1) ≤ h1) ∧ (l2 ≤ zI (nz B P 2) ∧ zI (nz B P 2) ≤ h2) ∧ (l3 ≤ zI (nz B P 3) ∧ zI (nz B P 3) ≤ h3)) ∧ (ge = 1 → a4 + 1 = pp B P 4 ∧ r1 = zI (nz B P 0) ∧ r2 = zI (nz B P 1) ∧ r3 = zI (nz B P 2) ∧ r4 = zI (nz B P 3)) := by
  constructor
  · constructor
    · intro e
      obtain ⟨e4, s4⟩ := ce.mp e
      obtain ⟨e3, s3, v3⟩ := c4.mp e4
      obtain ⟨e2, s2, v2⟩ := c3.mp e3
      obtain ⟨e1, s1, v1⟩ := c2.mp e2
      have v0 := c1.mp e1
      obtain ⟨rfl, rfl⟩ := d1 e1
      obtain ⟨rfl, rfl⟩ := d2 e2
      obtain ⟨rfl, rfl⟩ := d3 e3
      obtain ⟨rfl, rfl⟩ := d4 e4
      refine ⟨fun j hj => ?_, v0.2.2, v1.2.2, v2.2.2, v3.2.2⟩
      have : j = 0 ∨ j = 1 ∨ j = 2 ∨ j = 3 := by omega
      rcases this with rfl | rfl | rfl | rfl
      · exact ⟨v0.1, s1⟩
      · exact ⟨v1.1, s2⟩
      · exact ⟨v2.1, s3⟩
      · exact ⟨v3.1, s4⟩
    · rintro ⟨ok, q0, q1, q2, q3⟩
      have k0 := ok 0 (by omega)
      have t0 : B (tnp B 1 P) = 44 := k0.2
      have m0 : vok B P l0 h0 := ⟨k0.1, by rw [t0]; omega, q0.1, q0.2⟩
      have e1 := c1.mpr m0
      obtain ⟨rfl, rfl⟩ := d1 e1
      have k1 := ok 1 (by omega)
      have t1 : B (tnp B 1 (pp B P 1)) = 44 := k1.2
      have m1 : vok B (pp B P 1) l1 h1 := ⟨k1.1, by rw [t1]; omega, q1.1, q1.2⟩
      have e2 := c2.mpr ⟨e1, t0, m1⟩
      obtain ⟨rfl, rfl⟩ := d2 e2
      have k2 := ok 2 (by omega)
      have t2 : B (tnp B 1 (pp B P 2)) = 44 := k2.2
      have m2 : vok B (pp B P 2) l2 h2 := ⟨k2.1, by rw [t2]; omega, q2.1, q2.2⟩
      have e3 := c3.mpr ⟨e2, t1, m2⟩
      obtain ⟨rfl, rfl⟩ := d3 e3
      have k3 := ok 3 (by omega)
      have t3 : B (tnp B 1 (pp B P 3)) = 59 := k3.2
      have m3 : vok B (pp B P 3) l3 h3 := ⟨k3.1, by rw [t3]; omega, q3.1, q3.2⟩
      have e4 := c4.mpr ⟨e3, t2, m3⟩
      obtain ⟨rfl, rfl⟩ := d4 e4
      exact ce.mpr ⟨e4, t3⟩
  · intro e
    obtain ⟨e4, s4⟩ := ce.mp e
    obtain ⟨e3, s3, v3⟩ := c4.mp e4
    obtain ⟨e2, s2, v2⟩ := c3.mp e3
    obtain ⟨e1, s1, v1⟩ := c2.mp e2
    have v0 := c1.mp e1
    obtain ⟨rfl, rfl⟩ := d1 e1
    obtain ⟨rfl, rfl⟩ := d2 e2
    obtain ⟨rfl, rfl⟩ := d3 e3
    obtain ⟨rfl, rfl⟩ := d4 e4
    exact ⟨rfl, rfl, rfl, rfl, rfl⟩
theorem ch_5 {B : Nat → Nat} {P ge g1 a1 g2 a2 g3 a3 g4 a4 g5 a5 : Nat} {r1 l0 h0 r2 l1 h1 r3 l2 h2 r4 l3 h3 r5 l4 h4 : Int32} (c1 : g1 = 1 ↔ vok B P l0 h0) (d1 : g1 = 1 → a1 = tnp B 1 P ∧ r1 = zI (tnz B 1 P)) (c2 : g2 = 1 ↔ g1 = 1 ∧ B a1 = 44 ∧ vok B (a1 + 1) l1 h1) (d2 : g2 = 1 → a2 = tnp B 1 (a1 + 1) ∧ r2 = zI (tnz B 1 (a1 + 1))) (c3 : g3 = 1 ↔ g2 = 1 ∧ B a2 = 44 ∧ vok B (a2 + 1) l2 h2) (d3 : g3 = 1 → a3 = tnp B 1 (a2 + 1) ∧ r3 = zI (tnz B 1 (a2 + 1))) (c4 : g4 = 1 ↔ g3 = 1 ∧ B a3 = 44 ∧ vok B (a3 + 1) l3 h3) (d4 : g4 = 1 → a4 = tnp B 1 (a3 + 1) ∧ r4 = zI (tnz B 1 (a3 + 1))) (c5 : g5 = 1 ↔ g4 = 1 ∧ B a4 = 44 ∧ vok B (a4 + 1) l4 h4) (d5 : g5 = 1 → a5 = tnp B 1 (a4 + 1) ∧ r5 = zI (tnz B 1 (a4 + 1))) (ce : ge = 1 ↔ g5 = 1 ∧ B a5 = 59) : (ge = 1 ↔ (∀ j, j < 5 → okn B P 5 j) ∧ (l0 ≤ zI (nz B P 0) ∧ zI (nz B P 0) ≤ h0) ∧ (l1 ≤ zI (nz B P 1) ∧ zI (nz B P 1) ≤ h1) ∧ (l2 ≤ zI (nz B P 2) ∧ zI (nz B P 2) ≤ h2) ∧ (l3 ≤ zI (nz B P 3) ∧ zI (nz B P 3) ≤ h3) ∧ (l4 ≤ zI (nz B P 4) ∧ zI (nz B P 4) ≤ h4)) ∧ (ge = 1 → a5 + 1 = pp B P 5 ∧ r1 = zI (nz B P 0) ∧ r2 = zI (nz B P 1) ∧ r3 = zI (nz B P 2) ∧ r4 = zI (nz B P 3) ∧ r5 = zI (nz B P 4)) := by
  constructor
  · constructor
    · intro e
      obtain ⟨e5, s5⟩ := ce.mp e
      obtain ⟨e4, s4, v4⟩ := c5.mp e5
      obtain ⟨e3, s3, v3⟩ := c4.mp e4
      obtain ⟨e2, s2, v2⟩ := c3.mp e3
      obtain ⟨e1, s1, v1⟩ := c2.mp e2
      have v0 := c1.mp e1
      obtain ⟨rfl, rfl⟩ := d1 e1
      obtain ⟨rfl, rfl⟩ := d2 e2
      obtain ⟨rfl, rfl⟩ := d3 e3
      obtain ⟨rfl, rfl⟩ := d4 e4
      obtain ⟨rfl, rfl⟩ := d5 e5
      refine ⟨fun j hj => ?_, v0.2.2, v1.2.2, v2.2.2, v3.2.2, v4.2.2⟩
      have : j = 0 ∨ j = 1 ∨ j = 2 ∨ j = 3 ∨ j = 4 := by omega
      rcases this with rfl | rfl | rfl | rfl | rfl
      · exact ⟨v0.1, s1⟩
      · exact ⟨v1.1, s2⟩
      · exact ⟨v2.1, s3⟩
      · exact ⟨v3.1, s4⟩
      · exact ⟨v4.1, s5⟩
    · rintro ⟨ok, q0, q1, q2, q3, q4⟩
      have k0 := ok 0 (by omega)
      have t0 : B (tnp B 1 P) = 44 := k0.2
      have m0 : vok B P l0 h0 := ⟨k0.1, by rw [t0]; omega, q0.1, q0.2⟩
      have e1 := c1.mpr m0
      obtain ⟨rfl, rfl⟩ := d1 e1
      have k1 := ok 1 (by omega)
      have t1 : B (tnp B 1 (pp B P 1)) = 44 := k1.2
      have m1 : vok B (pp B P 1) l1 h1 := ⟨k1.1, by rw [t1]; omega, q1.1, q1.2⟩
      have e2 := c2.mpr ⟨e1, t0, m1⟩
      obtain ⟨rfl, rfl⟩ := d2 e2
      have k2 := ok 2 (by omega)
      have t2 : B (tnp B 1 (pp B P 2)) = 44 := k2.2
      have m2 : vok B (pp B P 2) l2 h2 := ⟨k2.1, by rw [t2]; omega, q2.1, q2.2⟩
      have e3 := c3.mpr ⟨e2, t1, m2⟩
      obtain ⟨rfl, rfl⟩ := d3 e3
      have k3 := ok 3 (by omega)
      have t3 : B (tnp B 1 (pp B P 3)) = 44 := k3.2
      have m3 : vok B (pp B P 3) l3 h3 := ⟨k3.1, by rw [t3]; omega, q3.1, q3.2⟩
      have e4 := c4.mpr ⟨e3, t2, m3⟩
      obtain ⟨rfl, rfl⟩ := d4 e4
      have k4 := ok 4 (by omega)
      have t4 : B (tnp B 1 (pp B P 4)) = 59 := k4.2
      have m4 : vok B (pp B P 4) l4 h4 := ⟨k4.1, by rw [t4]; omega, q4.1, q4.2⟩
      have e5 := c5.mpr ⟨e4, t3, m4⟩
      obtain ⟨rfl, rfl⟩ := d5 e5
      exact ce.mpr ⟨e5, t4⟩
  · intro e
    obtain ⟨e5, s5⟩ := ce.mp e
    obtain ⟨e4, s4, v4⟩ := c5.mp e5
    obtain ⟨e3, s3, v3⟩ := c4.mp e4
    obtain ⟨e2, s2, v2⟩ := c3.mp e3
    obtain ⟨e1, s1, v1⟩ := c2.mp e2
    have v0 := c1.mp e1
    obtain ⟨rfl, rfl⟩ := d1 e1
    obtain ⟨rfl, rfl⟩ := d2 e2
    obtain ⟨rfl, rfl⟩ := d3 e3
    obtain ⟨rfl, rfl⟩ := d4 e4
    obtain ⟨rfl, rfl⟩ := d5 e5
    exact ⟨rfl, rfl, rfl, rfl, rfl, rfl⟩
theorem L_aI (n a : Nat) : (no_index (OfNat.ofNat n) : Int32) + nI a = nI (n + a) := by rw [fa_lit, nI_add]
def hw (a : Nat) : Nat := if a = 194 ∨ a = 198 then 24 else if a = 196 then 36 else if a = 200 then 40 else if a = 202 then 130 else 1
/-- nothing but what is being read has changed -/
def fM (I I' : Nat → Nat → Int32) : Prop := (∀ k, k ≠ 2 → k ≠ 34 → I' 190 k = I 190 k) ∧ (∀ a j, 192 ≤ a → a ≤ 202 → j < hw a → I' a j = I a j) ∧ ∀ a, a ≠ 190 → ¬ (192 ≤ a ∧ a ≤ 202) → I' a = I a
theorem fM_refl (I : Nat → Nat → Int32) : fM I I := ⟨fun _ _ _ => rfl, fun _ _ _ _ _ => rfl, fun _ _ _ => rfl⟩
theorem fM_up {I I' : Nat → Nat → Int32} (h : fM I I') {a k : Nat} {x : Int32} (h1 : 192 ≤ a) (h2 : a ≤ 202) (h3 : hw a ≤ k) : fM I (up I' a k x) := by
  refine ⟨fun k k1 k2 => ?_, fun b j b1 b2 b3 => ?_, fun b b1 b2 => ?_⟩
  · rw [up_ne (by omega)]; exact h.1 k k1 k2
  · by_cases e : b = a
    · subst e
      rw [up_same, upd_ne (by omega)]; exact h.2.1 b j b1 b2 b3
    · rw [up_ne e]; exact h.2.1 b j b1 b2 b3
  · rw [up_ne (by omega)]; exact h.2.2 b b1 b2
theorem fM_md {I I' : Nat → Nat → Int32} (h : fM I I') (p v : Int32) : fM I (md I' p v) := by
  refine ⟨fun k k1 k2 => ?_, fun b j b1 b2 b3 => ?_, fun b b1 b2 => ?_⟩
  · rw [md_1 k1 k2]; exact h.1 k k1 k2
  · rw [md_n (by omega)]; exact h.2.1 b j b1 b2 b3
  · rw [md_n b1]; exact h.2.2 b b1 b2
theorem fM_tr {I I' I2 : Nat → Nat → Int32} (h : fM I I') (h' : fM I' I2) : fM I I2 :=
  ⟨fun k k1 k2 => by rw [h'.1 k k1 k2, h.1 k k1 k2], fun a j a1 a2 a3 => by rw [h'.2.1 a j a1 a2 a3, h.2.1 a j a1 a2 a3], fun a a1 a2 => by rw [h'.2.2 a a1 a2, h.2.2 a a1 a2]⟩
/-- a beach in the model's arrays: s = 0 what is laid, s = 1 what is being read -/
def mR (I : Nat → Nat → Int32) (s : Nat) (N : Nat → Nat) (D : Nat → Nat → Int) : Prop :=
  (I 192 s = nI (N 0) ∧ I 193 s = nI (N 1) ∧ I 195 s = nI (N 2) ∧ I 197 s = nI (N 3) ∧ I 199 s = nI (N 4)) ∧
  (∀ r j, r < 2 → j < N 1 → I 194 (24 * s + 2 * j + r) = zI (D r j)) ∧ (∀ r j, r < 3 → j < N 2 → I 196 (36 * s + 3 * j + r) = zI (D (2 + r) j)) ∧
  (∀ r j, r < 4 → j < N 3 → I 198 (24 * s + 4 * j + r) = zI (D (5 + r) j)) ∧ (∀ r j, r < 5 → j < N 4 → I 200 (40 * s + 5 * j + r) = zI (D (9 + r) j))
theorem mR_fr {I I' : Nat → Nat → Int32} {s : Nat} {N : Nat → Nat} {D : Nat → Nat → Int} (h : mR I s N D) (hI : ∀ a, 192 ≤ a → a ≤ 200 → I' a = I a) : mR I' s N D := by
  unfold mR at h ⊢
  rw [hI 192 (by omega) (by omega), hI 193 (by omega) (by omega), hI 194 (by omega) (by omega), hI 195 (by omega) (by omega), hI 196 (by omega) (by omega), hI 197 (by omega) (by omega), hI 198 (by omega) (by omega), hI 199 (by omega) (by omega), hI 200 (by omega) (by omega)]
  exact h
theorem mR_ad {I I' : Nat → Nat → Int32} {N : Nat → Nat} {D : Nat → Nat → Int} {z : Nat → Int} {c : Nat} (h : mR I 1 N D) (hc : c < 5) (hz : c = 0 → 0 ≤ z 0)
    (hn : ∀ i, i < 5 → I' (if i = 0 then 192 else if i = 1 then 193 else if i = 2 then 195 else if i = 3 then 197 else 199) 1 = if i = c then (if c = 0 then zI (z 0) else nI (N c + 1)) else nI (N i))
    (h1 : ∀ r j, r < 2 → j ≤ N 1 → I' 194 (24 + 2 * j + r) = if c = 1 ∧ j = N 1 then zI (z r) else I 194 (24 + 2 * j + r))
    (h2 : ∀ r j, r < 3 → j ≤ N 2 → I' 196 (36 + 3 * j + r) = if c = 2 ∧ j = N 2 then zI (z r) else I 196 (36 + 3 * j + r))
    (h3 : ∀ r j, r < 4 → j ≤ N 3 → I' 198 (24 + 4 * j + r) = if c = 3 ∧ j = N 3 then zI (z r) else I 198 (24 + 4 * j + r))
    (h4 : ∀ r j, r < 5 → j ≤ N 4 → I' 200 (40 + 5 * j + r) = if c = 4 ∧ j = N 4 then zI (z r) else I 200 (40 + 5 * j + r)) : mR I' 1 (adN N c z) (adD N D c z) := by
  obtain ⟨⟨g0, g1, g2, g3, g4⟩, k1, k2, k3, k4⟩ := h
  have en : ∀ i, i < 5 → (if i = c then (if c = 0 then zI (z 0) else nI (N c + 1)) else nI (N i)) = nI (adN N c z i) := fun i hi => by
    by_cases e : i = c
    · subst e
      rw [if_pos rfl]
      by_cases e0 : i = 0
      · subst e0
        rw [if_pos rfl, adN_0, zI_toNat (hz rfl)]
      · rw [if_neg e0, adN_c e0]
    · rw [if_neg e, adN_n e]
  have row : ∀ (m i : Nat) (f : Nat → Nat → Int32) (g : Nat → Nat → Int32), bas i = m → (∀ r j, r < i + 1 → j ≤ N i → f r j = if c = i ∧ j = N i then zI (z r) else g r j) → (∀ r j, r < i + 1 → j < N i → g r j = zI (D (m + r) j)) → 1 ≤ i → i < 5 → ∀ r j, r < i + 1 → j < adN N c z i → f r j = zI (adD N D c z (m + r) j) := by
    intro m i f g hm hf hg i1 i2 r j hr hj
    by_cases e : c = i
    · subst e
      rw [adN_c (by omega)] at hj
      rw [hf r j hr (by omega)]
      by_cases ej : j = N c
      · subst ej
        rw [if_pos ⟨rfl, rfl⟩, adD_c (by omega) (by omega), hm, Nat.add_sub_cancel_left]
      · rw [if_neg (fun x => ej x.2), adD_o ej]
        exact hg r j hr (by omega)
    · rw [adN_n (Ne.symm e)] at hj
      have hd : ¬ (bas c ≤ m + r ∧ m + r < bas c + (c + 1)) := by
        have hc' : c = 0 ∨ c = 1 ∨ c = 2 ∨ c = 3 ∨ c = 4 := by omega
        have hi' : i = 1 ∨ i = 2 ∨ i = 3 ∨ i = 4 := by omega
        rw [← hm]
        rcases hc' with rfl | rfl | rfl | rfl | rfl <;> rcases hi' with rfl | rfl | rfl | rfl <;> simp only [bas, if_true, if_false, Nat.reduceEqDiff] <;> omega
      rw [hf r j hr (by omega), if_neg (fun x => e x.1), adD_n hd]
      exact hg r j hr hj
  refine ⟨⟨?_, ?_, ?_, ?_, ?_⟩, ?_, ?_, ?_, ?_⟩
  · exact (hn 0 (by omega)).trans (en 0 (by omega))
  · exact (hn 1 (by omega)).trans (en 1 (by omega))
  · exact (hn 2 (by omega)).trans (en 2 (by omega))
  · exact (hn 3 (by omega)).trans (en 3 (by omega))
  · exact (hn 4 (by omega)).trans (en 4 (by omega))
  · have := row 0 1 (fun r j => I' 194 (24 + 2 * j + r)) (fun r j => I 194 (24 + 2 * j + r)) rfl h1 (fun r j a b => by rw [Nat.zero_add]; exact k1 r j a b) (by omega) (by omega)
    intro r j hr hj
    have e := this r j hr hj
    rw [Nat.zero_add] at e
    exact e
  · exact row 2 2 (fun r j => I' 196 (36 + 3 * j + r)) (fun r j => I 196 (36 + 3 * j + r)) rfl h2 (fun r j a b => k2 r j a b) (by omega) (by omega)
  · exact row 5 3 (fun r j => I' 198 (24 + 4 * j + r)) (fun r j => I 198 (24 + 4 * j + r)) rfl h3 (fun r j a b => k3 r j a b) (by omega) (by omega)
  · exact row 9 4 (fun r j => I' 200 (40 + 5 * j + r)) (fun r j => I 200 (40 + 5 * j + r)) rfl h4 (fun r j a b => k4 r j a b) (by omega) (by omega)
