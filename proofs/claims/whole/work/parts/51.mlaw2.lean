/-- what a rule becomes in the model -/
def fin (I : Nat → Nat → Int32) (r n : Nat) (B : Nat → Nat) (o : Nat) : Nat → Nat → Int32 := up (up (up (up (up I 202 (130 + 13 * r) (nI n)) 202 (130 + 13 * r + 10) (nI (ow B o))) 202 (130 + 13 * r + 11) (nI (tnv B 0 (o + 1)))) 202 (130 + 13 * r + 12) (nI (tnv B 0 (tnp B 0 (o + 1) + 1)))) 201 1 (nI (r + 1))
theorem fin_f {I I' : Nat → Nat → Int32} (h : fM I I') (r n : Nat) (B : Nat → Nat) (o : Nat) : fM I (fin I' r n B o) := by
  have e := hw_c.2.2.2.2.2.2.2.2.2.2
  exact fM_up (fM_up (fM_up (fM_up (fM_up h (by decide) (by decide) (by rw [e]; omega)) (by decide) (by decide) (by rw [e]; omega)) (by decide) (by decide) (by rw [e]; omega)) (by decide) (by decide) (by rw [e]; omega)) (by decide) (by decide) (by decide)
theorem t_155 (I : Nat → Nat → Int32) (J : Nat → Nat → Int64) (q : Bool × Bool) (X : Nat × (Nat → Int32)) {L : Nat} {B : Nat → Nat} (h : rd I L B) {e r n : Nat} {z4 z5 z6 : Value} (he : e ≤ 1500) (hn : n ≤ 3) (hr : r < 10) (hI : I 201 1 = nI r) (hb : B e = 58) : ∃ g a I', gb_ex 127 bk_RM_ruleItem_155 [.ref (190 : Nat), .int (nI (130 + 13 * r)), .int (nI n), .int 0, z4, z5, z6] [] gb_pG (gS (md I (nI e) 1) J q X) = some (.null, gb_pG, gS (md I' (nI a) (nI g)) J q X) ∧ g ≤ 1 ∧ fM I I' ∧ (g = 1 ↔ ocm B (e + 1)) ∧ (g = 1 → a = oe B (e + 1) ∧ I' = fin I r n B (e + 1)) := by
  rw [x_155_g I J q X h (by omega) hb]
  by_cases cc : (B (e + 1) = 70 ∨ B (e + 1) = 79 ∨ B (e + 1) = 67) ∧ (48 ≤ B (e + 2) ∧ B (e + 2) ≤ 57)
  · rw [if_pos cc, if_pos cc]
    obtain ⟨dp, dz, -⟩ := dgm cc.2
    have htb := tnp_b B 0 (e + 2)
    obtain ⟨r1, a1, g1, w1, x1, y1, c1, d1⟩ := s_value I J q X h (e + 2) 0 999 (by omega)
    rw [vok0 (hi := 999) (by decide)] at c1
    by_cases k1 : g1 = 1
    · subst k1
      obtain ⟨rfl, rfl⟩ := d1 rfl
      rw [dp, dz, ← zI_nI] at w1
      obtain ⟨q1, q2, q3⟩ := c1.mp rfl
      obtain ⟨r2, a2, g2, w2, x2, y2, c2, d2⟩ := s_more I J q X h (a := tnp B 0 (e + 2)) (g := 1) 0 100 (by omega) (by omega)
      rw [vok0 (hi := 100) (by decide)] at c2
      obtain ⟨ge, we, xe, ce⟩ := s_ends I J q X h (a := a2) (g := g2) x2 (by omega)
      have run := x_205_1 I J q X (z5 := z5) (z6 := z6) hn hr hI cc.1 w1 w2 we xe
      by_cases k2 : ge = 1
      · obtain ⟨k3, k4⟩ := ce.mp k2
        obtain ⟨-, k5, k6, k7, k8⟩ := c2.mp k3
        obtain ⟨rfl, rfl⟩ := d2 k3
        obtain ⟨dp2, dz2, -⟩ := dgm ((tno0 B _).mp k6)
        rw [if_pos k2, dp2, dz2, ← zI_nI] at run
        rw [dp2] at k4
        refine ⟨ge, _, _, run, xe, fin_f (fM_refl I) r n B (e + 1), ?_, fun _ => ⟨rfl, rfl⟩⟩
        exact ⟨fun _ => ⟨cc.1, q1, k5, k6, k8, k4⟩, fun _ => k2⟩
      · rw [if_neg k2] at run
        refine ⟨ge, _, I, run, xe, fM_refl I, ⟨fun x => absurd x k2, fun x => ?_⟩, fun x => absurd x k2⟩
        obtain ⟨-, p2, p3, p4, p5, p6⟩ := x
        have k3 : g2 = 1 := c2.mpr ⟨rfl, p3, p4, by rw [p6]; omega, p5⟩
        obtain ⟨rfl, rfl⟩ := d2 k3
        obtain ⟨dp2, dz2, -⟩ := dgm ((tno0 B _).mp p4)
        exact ce.mpr ⟨k3, by rw [dp2]; exact p6⟩
    · have k0 : g1 = 0 := by omega
      subst k0
      refine ⟨0, a1 + 1, I, x_205_0 I J q X h (by omega) w1, by omega, fM_refl I, ⟨fun x => absurd x (by decide), fun x => ?_⟩, fun x => absurd x (by decide)⟩
      obtain ⟨-, p2, p3, -⟩ := x
      have := tnv_b B 0 (e + 2)
      exact c1.mpr ⟨p2, by rw [p3]; omega, by omega⟩
  · rw [if_neg cc, if_neg cc]
    refine ⟨0, e + 3, I, x_204 I J q X h (by omega), by omega, fM_refl I, ⟨fun x => absurd x (by decide), fun x => ?_⟩, fun x => absurd x (by decide)⟩
    exact absurd ⟨x.1, (tno0 B _).mp x.2.1⟩ cc
def mi (I : Nat → Nat → Int32) (r : Nat) (B : Nat → Nat) (p : Nat) : Nat → Nat → Nat → Int32
  | 0 => I
  | i + 1 => up (up (up (mi I r B p i) 202 (130 + 13 * r + 1 + 3 * i) (nI (B (cp B p i)))) 202 (130 + 13 * r + 2 + 3 * i) (nI (B (cp B p i + 1)))) 202 (130 + 13 * r + 3 + 3 * i) (nI (tnv B 0 (cp B p i + 2)))
theorem mi_n {I : Nat → Nat → Int32} {r : Nat} {B : Nat → Nat} {p a : Nat} (h : a ≠ 202) : ∀ i, mi I r B p i a = I a
  | 0 => rfl
  | i + 1 => by rw [mi, up_ne h, up_ne h, up_ne h, mi_n h i]
theorem mi_f {I : Nat → Nat → Int32} {r : Nat} {B : Nat → Nat} {p : Nat} : ∀ i, fM I (mi I r B p i)
  | 0 => fM_refl I
  | i + 1 => by
    have e := hw_c.2.2.2.2.2.2.2.2.2.2
    exact fM_up (fM_up (fM_up (mi_f i) (by decide) (by decide) (by rw [e]; omega)) (by decide) (by decide) (by rw [e]; omega)) (by decide) (by decide) (by rw [e]; omega)
theorem mi_o {I : Nat → Nat → Int32} {r : Nat} {B : Nat → Nat} {p x : Nat} : ∀ i, (x < 130 + 13 * r + 1 ∨ 130 + 13 * r + 3 * i < x) → mi I r B p i 202 x = I 202 x
  | 0, _ => rfl
  | i + 1, h => by rw [mi, up_same, upd_ne (by omega), up_same, upd_ne (by omega), up_same, upd_ne (by omega), mi_o i (by omega)]
theorem mi_v {I : Nat → Nat → Int32} {r : Nat} {B : Nat → Nat} {p : Nat} : ∀ i j, j < i → mi I r B p i 202 (130 + 13 * r + 1 + 3 * j) = nI (B (cp B p j)) ∧ mi I r B p i 202 (130 + 13 * r + 2 + 3 * j) = nI (B (cp B p j + 1)) ∧ mi I r B p i 202 (130 + 13 * r + 3 + 3 * j) = nI (tnv B 0 (cp B p j + 2))
  | 0, j, h => by omega
  | i + 1, j, h => by
    by_cases e : j = i
    · subst e
      rw [mi]
      refine ⟨?_, ?_, ?_⟩ <;> simp (disch := first | omega | decide | assumption | simp only [List.length_cons, List.length_nil, Nat.reduceAdd, Nat.reduceLeDiff]) only [up_same, upd_ne, upd_same]
    · have ih := mi_v (I := I) (r := r) (B := B) (p := p) i j (by omega)
      rw [mi]
      simp (disch := first | omega | decide | assumption | simp only [List.length_cons, List.length_nil, Nat.reduceAdd, Nat.reduceLeDiff]) only [up_same, upd_ne]
      exact ih
def kR (I : Nat → Nat → Int32) (s r : Nat) (E : Nat → Nat → Nat) : Prop := I 201 s = nI r ∧ ∀ j, j < r → E j 0 ≤ 3 ∧ ∀ k, k < 13 → (k = 0 ∨ 10 ≤ k ∨ k ≤ 3 * E j 0) → I 202 (130 * s + 13 * j + k) = nI (E j k)
theorem kR_ad {I : Nat → Nat → Int32} {r : Nat} {E : Nat → Nat → Nat} {B : Nat → Nat} {p n : Nat} (h : kR I 1 r E) (hr : r < 10) (hn : n ≤ 3) : kR (fin (mi I r B p n) r n B (op B p n)) 1 (r + 1) (adE E r (erow B p n)) := by
  obtain ⟨h1, h2⟩ := h
  refine ⟨by unfold fin; rw [up_same, upd_same], fun j hj => ?_⟩
  unfold adE fin
  by_cases e : j = r
  · subst e
    simp only [if_true]
    refine ⟨hn, fun k hk hc => ?_⟩
    have e0 : erow B p n 0 = n := rfl
    rw [e0] at hc
    rw [show 130 * 1 + 13 * j + k = 130 + 13 * j + k by omega, up_ne (by omega)]
    by_cases k12 : k = 12
    · subst k12; rw [up_same, upd_same]; rfl
    · rw [up_same, upd_ne (by omega)]
      by_cases k11 : k = 11
      · subst k11; rw [up_same, upd_same]; rfl
      · rw [up_same, upd_ne (by omega)]
        by_cases k10 : k = 10
        · subst k10; rw [up_same, upd_same]; rfl
        · rw [up_same, upd_ne (by omega)]
          by_cases k0 : k = 0
          · subst k0; rw [up_same, Nat.add_zero, upd_same]; rfl
          · rw [up_same, upd_ne (by omega)]
            obtain ⟨i, hi, hik⟩ : ∃ i, i < n ∧ (k = 1 + 3 * i ∨ k = 2 + 3 * i ∨ k = 3 + 3 * i) := ⟨(k - 1) / 3, by omega, by omega⟩
            have mv := mi_v (I := I) (r := j) (B := B) (p := p) n i hi
            have e3 := er_a B p n (show i < 3 by omega)
            rcases hik with rfl | rfl | rfl
            · rw [e3.1, ← Nat.add_assoc]; exact mv.1
            · rw [e3.2.1, ← Nat.add_assoc]; exact mv.2.1
            · rw [e3.2.2, ← Nat.add_assoc]; exact mv.2.2
  · simp only [if_neg e]
    obtain ⟨a1, a2⟩ := h2 j (by omega)
    refine ⟨a1, fun k hk hc => ?_⟩
    rw [up_ne (by omega), up_same, upd_ne (by omega), up_same, upd_ne (by omega), up_same, upd_ne (by omega), up_same, upd_ne (by omega), mi_o n (by omega)]
    exact a2 k hk hc
theorem l_33 (I : Nat → Nat → Int32) (J : Nat → Nat → Int64) (q : Bool × Bool) (X : Nat × (Nat → Int32)) {L : Nat} {B : Nat → Nat} (h : rd I L B) {p r : Nat} (hp : p ≤ 900) (hr : r < 10) (hI : I 201 1 = nI r) : ∀ d i (z4 z5 z6 : Value), d + i = 3 → ∃ g a I', gb_ex 127 bk_RM_ruleItem_33 [.ref (190 : Nat), .int (nI (130 + 13 * r)), .int (nI i), .int 1, z4, z5, z6] [] gb_pG (gS (md (mi I r B p i) (nI (cp B p i)) 1) J q X) = some (.null, gb_pG, gS (md I' (nI a) (nI g)) J q X) ∧ g ≤ 1 ∧ fM I I' ∧ (g = 0 → ∀ n, chn B p i n → ¬ ocm B (cp B p n)) ∧ (g = 1 → ∃ n, chn B p i n ∧ ocm B (cp B p n) ∧ a = oe B (cp B p n) ∧ I' = fin (mi I r B p n) r n B (cp B p n))
  | d, i, z4, z5, z6, e => by
    have hcb := cp_b B p i
    have hrd := rd_fM h (mi_f (I := I) (r := r) (B := B) (p := p) i)
    by_cases cc : i < 3 ∧ (B (cp B p i) = 119 ∨ B (cp B p i) = 107 ∨ B (cp B p i) = 99 ∨ B (cp B p i) = 104) ∧ (B (cp B p i + 1) = 60 ∨ B (cp B p i + 1) = 62) ∧ (48 ≤ B (cp B p i + 2) ∧ B (cp B p i + 2) ≤ 57)
    · obtain ⟨k0, k1, k2, k3⟩ := cc
      have run := x_33_85 (mi I r B p i) J q X hrd (R0 := nI (130 + 13 * r)) (z4 := z4) (z5 := z5) (z6 := z6) (by omega) k0 k1 k2 k3
      obtain ⟨dp, dz, -⟩ := dgm k3
      have htb := tnp_b B 0 (cp B p i + 2)
      have htv := tnv_b B 0 (cp B p i + 2)
      have ok : okc B (cp B p i) := ⟨k1, k2, (tno0 B _).mpr k3⟩
      obtain ⟨r1, a1, g1, w1, x1, y1, c1, d1⟩ := s_value _ J q X hrd (cp B p i + 2) 0 999 (by omega)
      rw [vok0 (hi := 999) (by decide)] at c1
      by_cases kg : g1 = 1
      · subst kg
        obtain ⟨rfl, rfl⟩ := d1 rfl
        rw [dp, dz, ← zI_nI] at w1
        obtain ⟨-, q2, -⟩ := c1.mp rfl
        rw [x_85_1 _ J q X hrd (by omega) k0 hr w1] at run
        have em : up (up (up (mi I r B p i) 202 (130 + 13 * r + 1 + 3 * i) (nI (B (cp B p i)))) 202 (130 + 13 * r + 2 + 3 * i) (nI (B (cp B p i + 1)))) 202 (130 + 13 * r + 3 + 3 * i) (nI (tnv B 0 (cp B p i + 2))) = mi I r B p (i + 1) := rfl
        rw [em] at run
        by_cases s2 : B (tnp B 0 (cp B p i + 2)) = 38
        · rw [if_pos s2] at run
          match d, e with
          | 0, e => omega
          | d + 1, e =>
            obtain ⟨g, a, I', u1, u2, u3, u4, u5⟩ := l_33 I J q X h (p := p) hp hr hI d (i + 1) (.int (nI (B (cp B p i)))) (.int (nI (B (cp B p i + 1)))) (.int (nI (tnv B 0 (cp B p i + 2)))) (by omega)
            rw [run]
            refine ⟨g, a, I', u1, u2, u3, fun g0 n hn => ?_, fun g1 => ?_⟩
            · by_cases en : i + 1 = n
              · subst en
                have := ((chn_1 (by omega)).mp hn).2
                omega
              · exact u4 g0 n ((chn_s (by omega) en).mp hn).2.2
            · obtain ⟨n, hn, hx⟩ := u5 g1
              exact ⟨n, (chn_s (by omega) (by have := hn.1; omega)).mpr ⟨ok, s2, hn⟩, hx⟩
        · rw [if_neg s2] at run
          have hrd1 := rd_fM h (mi_f (I := I) (r := r) (B := B) (p := p) (i + 1))
          by_cases s1 : B (tnp B 0 (cp B p i + 2)) = 58
          · obtain ⟨g, a, I', u1, u2, u3, u4, u5⟩ := t_155 (mi I r B p (i + 1)) J q X hrd1 (r := r) (n := i + 1) (e := tnp B 0 (cp B p i + 2)) (z4 := .int (nI (B (cp B p i)))) (z5 := .int (nI (B (cp B p i + 1)))) (z6 := .int (nI (tnv B 0 (cp B p i + 2)))) (by omega) (by omega) hr (by rw [mi_n (by decide)]; exact hI) s1
            rw [run]
            refine ⟨g, a, I', u1, u2, fM_tr (mi_f (i + 1)) u3, fun g0 n hn => ?_, fun g1 => ?_⟩
            · have := chn_u hn ((chn_1 (by omega)).mpr ⟨ok, s1⟩)
              subst this
              intro hx
              have := u4.mpr hx
              omega
            · obtain ⟨v1, v2⟩ := u5 g1
              exact ⟨i + 1, (chn_1 (by omega)).mpr ⟨ok, s1⟩, u4.mp g1, v1, v2⟩
          · rw [run]
            refine ⟨0, tnp B 0 (cp B p i + 2) + 3, mi I r B p (i + 1), x_155_n _ J q X hrd1 (g := 1) (by omega) (by omega) (Or.inr s1), by omega, mi_f (i + 1), fun _ n hn => ?_, fun x => absurd x (by decide)⟩
            by_cases en : i + 1 = n
            · subst en
              exact absurd ((chn_1 (by omega)).mp hn).2 s1
            · exact absurd ((chn_s (by omega) en).mp hn).2.1 s2
      · have kg0 : g1 = 0 := by omega
        subst kg0
        rw [run, x_85_0 _ J q X w1]
        refine ⟨0, a1 + 3, mi I r B p i, x_155_n _ J q X hrd (g := 0) (by omega) (by omega) (Or.inl rfl), by omega, mi_f i, fun _ n hn => ?_, fun x => absurd x (by decide)⟩
        have hs : B (tnp B 0 (cp B p i + 2)) = 58 ∨ B (tnp B 0 (cp B p i + 2)) = 38 := by
          have := (hn.2.2 i (Nat.le_refl _) hn.1).2
          split at this
          · exact Or.inl this
          · exact Or.inr this
        exact absurd (c1.mpr ⟨ok.2.2, by omega, by omega⟩) (by decide)
    · obtain ⟨y4, y5, y6, run⟩ := x_33_b (mi I r B p i) J q X hrd (R0 := nI (130 + 13 * r)) (z4 := z4) (z5 := z5) (z6 := z6) (by omega) (by omega) cc
      rw [run]
      refine ⟨0, cp B p i + 2 + 3, mi I r B p i, x_155_n _ J q X hrd (g := 0) (by omega) (by omega) (Or.inl rfl), by omega, mi_f i, fun _ n hn => ?_, fun x => absurd x (by decide)⟩
      have := (hn.2.2 i (Nat.le_refl _) hn.1).1
      have h1 := hn.1
      have h2 := hn.2.1
      exact absurd ⟨by omega, this.1, this.2.1, (tno0 B _).mp this.2.2⟩ cc
