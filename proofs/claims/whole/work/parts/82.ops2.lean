theorem iw_T {I I' : Nat → Nat → Int32} {J : Nat → Nat → Int64} {q : Bool × Bool} {L L' K : Nat} {c S : Nat → Nat → Nat} {C N : Nat → Nat} {D : Nat → Nat → Int} {r : Nat} {E : Nat → Nat → Nat} (h : iw I J q L K c S C N D r E) (ht : txt I' L') (hf : frT I I') : iv I' J q := by
  obtain ⟨⟨h1, h2, h3⟩, ⟨h4, h5, h6⟩, ⟨h7, h8, h9⟩, ⟨h10, h11, h12⟩, h13⟩ := h
  obtain ⟨f1, f2, f3⟩ := hf
  have := gb_bb_r q
  have := gb_lb_r q
  exact ⟨L', K, c, S, C, N, D, r, E, ⟨ht, shr_fr h2 (f2 18 (by omega)) (fun a _ => f3 a (by omega) (by omega) (by omega) (by omega)), stf_fr2 h3 (fun a _ => f3 a (by omega) (by omega) (by omega) (by omega))⟩, ⟨fnd_fr h4 (Nat.le_refl _) (fun a _ _ => f3 a (by omega) (by omega) (by omega) (by omega)), rpt_fr h5 (Nat.le_refl _) (fun a _ _ => f3 a (by omega) (by omega) (by omega) (by omega)), nmb_fr h6 (Nat.le_refl _) (f3 32 (by omega) (by omega) (by omega) (by omega))⟩, ⟨lay_fr2 h7 (fun a _ _ => f3 a (by omega) (by omega) (by omega) (by omega)) (fun a j _ _ _ => by rw [f3 a (by omega) (by omega) (by omega) (by omega)]), kn_fr h7.2.2 h8 (fun a _ _ => f3 a (by omega) (by omega) (by omega) (by omega)), fun l hl => mW_fr (h9 l hl) (fun a _ _ => f3 a (by omega) (by omega) (by omega) (by omega))⟩, ⟨lR_fr h10 h12 (fun a _ _ => f3 a (by omega) (by omega) (by omega) (by omega)), kR_fr2 h11 h12 (by rw [f3 201 (by omega) (by omega) (by omega) (by omega)]) (fun j _ => by rw [f3 202 (by omega) (by omega) (by omega) (by omega)]), h12⟩, h13⟩
theorem e_write (I : Nat → Nat → Int32) (J : Nat → Nat → Int64) (q : Bool × Bool) (X : Nat × (Nat → Int32)) (h : iv I J q) (n : Int32) (v : Int64) : okI 67 118 [.int n, .long v] I J q X := by
  obtain ⟨L, K, c, S, C, N, D, r, E, h0⟩ := h
  obtain ⟨x, I1, I2, L', u1, u2, u3, u4⟩ := d_write I J q X h0.1.1 n v
  exact ⟨x, I1, J, q, I2, J, u1, u2, iw_T h0 u3 u4⟩
theorem e_wipe (I : Nat → Nat → Int32) (J : Nat → Nat → Int64) (q : Bool × Bool) (X : Nat × (Nat → Int32)) (h : iv I J q) : okI 68 119 [] I J q X := by
  obtain ⟨L, K, c, S, C, N, D, r, E, h0⟩ := h
  obtain ⟨x, I1, I2, u1, u2, u3, u4⟩ := d_wipe I J q X h0.1.1
  exact ⟨x, I1, J, q, I2, J, u1, u2, iw_T h0 u3 u4⟩
theorem iw_S {I I' : Nat → Nat → Int32} {J : Nat → Nat → Int64} {q : Bool × Bool} {L K : Nat} {c S S' : Nat → Nat → Nat} {C C' N : Nat → Nat} {D : Nat → Nat → Int} {r : Nat} {E : Nat → Nat → Nat} (h : iw I J q L K c S C N D r E) (ht : stf I' S' C') (f : ∀ a, ¬ (65 ≤ a ∧ a ≤ 79) → a ≠ 212 → a ≠ 213 → ¬ (214 ≤ a) → I' a = I a) : iv I' J q := by
  obtain ⟨⟨h1, h2, h3⟩, ⟨h4, h5, h6⟩, ⟨h7, h8, h9⟩, ⟨h10, h11, h12⟩, h13⟩ := h
  have := gb_bb_r q
  have := gb_lb_r q
  have e : ∀ a, a ≤ 64 ∨ (80 ≤ a ∧ a ≤ 211) → I' a = I a := fun a _ => f a (by omega) (by omega) (by omega) (by omega)
  exact ⟨L, K, c, S', C', N, D, r, E, ⟨txt_fr h1 (by rw [e 1 (by omega)]) (e 2 (by omega)) (by rw [e 190 (by omega)]) (e 191 (by omega)), shr_fr h2 (by rw [e 190 (by omega)]) (fun a _ => e a (by omega)), ht⟩, ⟨fnd_fr h4 (Nat.le_refl _) (fun a _ _ => e a (by omega)), rpt_fr h5 (Nat.le_refl _) (fun a _ _ => e a (by omega)), nmb_fr h6 (Nat.le_refl _) (e 32 (by omega))⟩, ⟨lay_fr2 h7 (fun a _ _ => e a (by omega)) (fun a j _ _ _ => by rw [e a (by omega)]), kn_fr h7.2.2 h8 (fun a _ _ => e a (by omega)), fun l hl => mW_fr (h9 l hl) (fun a _ _ => e a (by omega))⟩, ⟨lR_fr h10 h12 (fun a _ _ => e a (by omega)), kR_fr2 h11 h12 (by rw [e 201 (by omega)]) (fun j _ => by rw [e 202 (by omega)]), h12⟩, h13⟩
theorem e_show (I : Nat → Nat → Int32) (J : Nat → Nat → Int64) (q : Bool × Bool) (X : Nat × (Nat → Int32)) (h : iv I J q) (t k v : Int32) : okI 100 175 [.int t, .int k, .int v] I J q X := by
  obtain ⟨L, K, c, S, C, N, D, r, E, h0⟩ := h
  obtain ⟨x, I1, I2, S', u1, u2, u3, u4⟩ := d_show I J q X h0.1.2.2 t k v
  exact ⟨x, I1, J, q, I2, J, u1, u2, iw_S h0 u3 (fun a _ _ _ _ => u4 a (by omega) (by omega) (by omega))⟩
theorem e_cost (I : Nat → Nat → Int32) (J : Nat → Nat → Int64) (q : Bool × Bool) (X : Nat × (Nat → Int32)) (h : iv I J q) (t v : Int32) : okI 101 176 [.int t, .int v] I J q X := by
  obtain ⟨L, K, c, S, C, N, D, r, E, h0⟩ := h
  obtain ⟨x, I1, I2, C', u1, u2, u3, u4⟩ := d_cost I J q X h0.1.2.2 t v
  exact ⟨x, I1, J, q, I2, J, u1, u2, iw_S h0 u3 (fun a _ _ _ _ => u4 a (by omega) (by omega))⟩
theorem e_parting (I : Nat → Nat → Int32) (J : Nat → Nat → Int64) (q : Bool × Bool) (X : Nat × (Nat → Int32)) (h : iv I J q) (s w : Int32) : okI 102 179 [.int s, .int w] I J q X := by
  obtain ⟨L, K, c, S, C, N, D, r, E, h0⟩ := h
  obtain ⟨x, I1, I2, u1, u2, u3, u4⟩ := d_parting I J q X h0.1.2.2 s w
  exact ⟨x, I1, J, q, I2, J, u1, u2, iw_S h0 u3 (fun a _ _ _ _ => u4 a (by omega) (by omega) (by omega))⟩
theorem iw_F {I I' : Nat → Nat → Int32} {J : Nat → Nat → Int64} {q : Bool × Bool} {L K K' : Nat} {c c' S : Nat → Nat → Nat} {C N : Nat → Nat} {D : Nat → Nat → Int} {r : Nat} {E : Nat → Nat → Nat} (h : iw I J q L K c S C N D r E) (hs : shr I' K' c') (h4 : fnd I' c' (N 3) (N 0)) (h5 : rpt I' c' (N 3) (N 0)) (h6 : nmb I' c') (e0 : I' 190 0 = I 190 0) (e : ∀ a, a ≤ 22 ∨ (36 ≤ a ∧ a ≤ 189) ∨ (191 ≤ a ∧ a ≤ 205) ∨ 212 ≤ a → I' a = I a) : iv I' J q := by
  obtain ⟨⟨h1, h2, h3⟩, -, ⟨h7, h8, h9⟩, ⟨h10, h11, h12⟩, h13⟩ := h
  have := gb_bb_r q
  have := gb_lb_r q
  exact ⟨L, K', c', S, C, N, D, r, E, ⟨txt_fr h1 (by rw [e 1 (by omega)]) (e 2 (by omega)) e0 (e 191 (by omega)), hs, stf_fr2 h3 (fun a _ => e a (by omega))⟩, ⟨h4, h5, h6⟩, ⟨lay_fr2 h7 (fun a _ _ => e a (by omega)) (fun a j _ _ _ => by rw [e a (by omega)]), kn_fr h7.2.2 h8 (fun a _ _ => e a (by omega)), fun l hl => mW_fr (h9 l hl) (fun a _ _ => e a (by omega))⟩, ⟨lR_fr h10 h12 (fun a _ _ => e a (by omega)), kR_fr2 h11 h12 (by rw [e 201 (by omega)]) (fun j _ => by rw [e 202 (by omega)]), h12⟩, h13⟩
theorem e_find (I : Nat → Nat → Int32) (J : Nat → Nat → Int64) (q : Bool × Bool) (X : Nat × (Nat → Int32)) (h : iv I J q) (k x t : Int32) : okI 76 141 [.int k, .int x, .int t] I J q X := by
  obtain ⟨L, K, c, S, C, N, D, r, E, h0⟩ := h
  obtain ⟨⟨h1, h2, h3⟩, ⟨h4, h5, h6⟩, ⟨h7, h8, h9⟩, h10, h13⟩ := id h0
  obtain ⟨y, I1, I2, c', u1, u2, u3, u4, u5, u6, u7, u8⟩ := d_find I J q X (bsz_of h7) h2 h4 k x t
  exact ⟨y, I1, J, q, I2, J, u1, u2, iw_F h0 u3 u4 (rpt_fr h5 (by rw [u5 1 (by omega)]; omega) (fun a _ _ => u6 a (by omega) (by omega))) (nmb_fr h6 (by rw [u5 2 (by omega)]; omega) (u6 32 (by omega) (by omega))) (by rw [u8 190 (by omega) (by omega)]) (fun a _ => u8 a (by omega) (by omega))⟩
theorem e_report (I : Nat → Nat → Int32) (J : Nat → Nat → Int64) (q : Bool × Bool) (X : Nat × (Nat → Int32)) (h : iv I J q) (x t e k : Int32) {s : Nat} (hs : s ≤ 1) : okI 80 146 [.int x, .int t, .int e, .int k, .int (nI s)] I J q X := by
  obtain ⟨L, K, c, S, C, N, D, r, E, h0⟩ := h
  obtain ⟨⟨h1, h2, h3⟩, ⟨h4, h5, h6⟩, ⟨h7, h8, h9⟩, h10, h13⟩ := id h0
  obtain ⟨y, I1, I2, c', u1, u2, u3, u4, u5, u6, u7, u8⟩ := d_report I J q X (bsz_of h7) h2 h5 x t e k hs
  exact ⟨y, I1, J, q, I2, J, u1, u2, iw_F h0 u3 (fnd_fr h4 (by rw [u5 0 (by omega)]; omega) (fun a _ _ => u6 a (by omega) (by omega) (by omega))) u4 (nmb_fr h6 (by rw [u5 2 (by omega)]; omega) (u6 32 (by omega) (by omega) (by omega))) (by rw [u8 190 (by omega) (by omega)]) (fun a _ => u8 a (by omega) (by omega))⟩
theorem e_number (I : Nat → Nat → Int32) (J : Nat → Nat → Int64) (q : Bool × Bool) (X : Nat × (Nat → Int32)) (h : iv I J q) (v : Int32) : okI 88 161 [.int v] I J q X := by
  obtain ⟨L, K, c, S, C, N, D, r, E, h0⟩ := h
  obtain ⟨⟨h1, h2, h3⟩, ⟨h4, h5, h6⟩, ⟨h7, h8, h9⟩, h10, h13⟩ := id h0
  obtain ⟨y, I1, I2, c', u1, u2, u3, u4, u5, u6, u7, u8⟩ := d_number I J q X h2 h6 v
  exact ⟨y, I1, J, q, I2, J, u1, u2, iw_F h0 u3 (fnd_fr h4 (by rw [u5 0 (by omega)]; omega) (fun a _ _ => u6 a (by omega) (by omega))) (rpt_fr h5 (by rw [u5 1 (by omega)]; omega) (fun a _ _ => u6 a (by omega) (by omega))) u4 (by rw [u8 190 (by omega) (by omega)]) (fun a _ => u8 a (by omega) (by omega))⟩
theorem e_keep (I : Nat → Nat → Int32) (J : Nat → Nat → Int64) (q : Bool × Bool) (X : Nat × (Nat → Int32)) (h : iv I J q) : okI 104 182 [] I J q X := by
  obtain ⟨L, K, c, S, C, N, D, r, E, h0⟩ := h
  obtain ⟨⟨h1, h2, h3⟩, ⟨h4, h5, h6⟩, ⟨h7, h8, h9⟩, h10, h13⟩ := id h0
  obtain ⟨y, I1, I2, K', c', u1, u2, u3, u4, u5, u6, u7⟩ := d_keep I J q X h2
  have e : ∀ a, a ≠ 23 → ¬ (33 ≤ a ∧ a ≤ 35) → a ≠ 190 → ¬ (206 ≤ a ∧ a ≤ 211) → I2 a = I a := u7
  exact ⟨y, I1, J, q, I2, J, u1, u2, iw_F h0 u3 (fnd_fr h4 (by rw [u4 0]; omega) (fun a _ _ => e a (by omega) (by omega) (by omega) (by omega))) (rpt_fr h5 (by rw [u4 1]; omega) (fun a _ _ => e a (by omega) (by omega) (by omega) (by omega))) (nmb_fr h6 (by rw [u4 2]; omega) (e 32 (by omega) (by omega) (by omega) (by omega))) (u6 0 (by omega)) (fun a _ => e a (by omega) (by omega) (by omega) (by omega))⟩
theorem e_back (I : Nat → Nat → Int32) (J : Nat → Nat → Int64) (q : Bool × Bool) (X : Nat × (Nat → Int32)) (h : iv I J q) : okI 105 183 [] I J q X := by
  obtain ⟨L, K, c, S, C, N, D, r, E, h0⟩ := h
  obtain ⟨⟨h1, h2, h3⟩, ⟨h4, h5, h6⟩, ⟨h7, h8, h9⟩, h10, h13⟩ := id h0
  obtain ⟨y, I1, I2, K', c', u1, u2, u3, u4, u5, u6, u7⟩ := d_back I J q X h2
  have e : ∀ a, a ≠ 23 → ¬ (33 ≤ a ∧ a ≤ 35) → a ≠ 190 → ¬ (206 ≤ a ∧ a ≤ 211) → I2 a = I a := u7
  exact ⟨y, I1, J, q, I2, J, u1, u2, iw_F h0 u3 (fnd_fr h4 (u4 0) (fun a _ _ => e a (by omega) (by omega) (by omega) (by omega))) (rpt_fr h5 (u4 1) (fun a _ _ => e a (by omega) (by omega) (by omega) (by omega))) (nmb_fr h6 (u4 2) (e 32 (by omega) (by omega) (by omega) (by omega))) (u6 0 (by omega)) (fun a _ => e a (by omega) (by omega) (by omega) (by omega))⟩
theorem e_lay0 (I : Nat → Nat → Int32) (J : Nat → Nat → Int64) (q : Bool × Bool) (X : Nat × (Nat → Int32)) (h : iv I J q) : okI 70 129 [.int 0] I J q X := by
  obtain ⟨L, K, c, S, C, N, D, r, E, h0⟩ := h
  obtain ⟨⟨h1, h2, h3⟩, ⟨h4, h5, h6⟩, ⟨h7, h8, h9⟩, ⟨h10, h11, h12⟩, h13⟩ := id h0
  have := gb_bd q
  have := gb_lb_r q
  obtain ⟨v, I1, I2, q', u1, u2, hh⟩ := d_lay0 I J q X h1
  rcases hh with ⟨rfl, ⟨u3, u4⟩, u5, u6, u7⟩ | ⟨hq, ⟨N', D', v1, v2, v3⟩, v4, v5, v6, v7, v8⟩
  · have ee : ∀ a, a ≠ 1 → a ≠ 190 → ¬ (gb_bs q' ≤ a ∧ a ≤ gb_bs q' + 16) → ¬ (192 ≤ a ∧ a ≤ 202) → I2 a = I a := fun a a1 a2 a3 a4 => by rw [u7 a a2 a4, u4 a a1 a3]
    exact ⟨v, I1, J, q', I2, J, u1, u2, L, K, c, S, C, N, D, r, E, iw_fr h0 (by rw [u7 1 (by omega) (by omega), u3 1 (by omega) (by omega)]) (by rw [u5 0 (by omega) (by omega), u4 190 (by omega) (by omega)]) (by rw [u5 18 (by omega) (by omega), u4 190 (by omega) (by omega)]) (fun a ha => ee a (by omega) (by omega) (by omega) (by omega)) (fun a _ _ => ee a (by omega) (by omega) (by omega) (by omega)) (fun a j b1 b2 b3 => by rw [u6 a j b1 b2 b3, u4 a (by omega) (by omega)]) (fun a _ _ => ee a (by omega) (by omega) (by omega) (by omega)) (kn_fr h7.2.2 h8 (fun a _ _ => ee a (by omega) (by omega) (by omega) (by omega))) rfl⟩
  · have el : gb_lb q' = gb_lb q := by rw [hq]; rfl
    have e : ∀ a, a = 2 ∨ (65 ≤ a ∧ a ≤ 78) ∨ (114 ≤ a ∧ a ≤ 189) ∨ a = 191 ∨ 212 ≤ a → I2 a = I a := fun a _ => v8 a (by omega) (by omega) (by omega) (by omega) (by omega) (by omega) (by omega) (by omega)
    exact ⟨v, I1, J, q', I2, J, u1, u2, L, 0, fun _ _ => 0, S, C, N', D', r, E, ⟨txt_fr h1 (v5 1 (by omega) (by omega)) (e 2 (by omega)) (v6 0 (by omega) (by omega) (by omega) (by omega)) (e 191 (by omega)), v4, stf_fr2 h3 (fun a _ => e a (by omega))⟩, ⟨fun i hi => absurd hi (Nat.not_lt_zero _), fun i hi => absurd hi (Nat.not_lt_zero _), fun i hi => absurd hi (Nat.not_lt_zero _), fun i j _ hj => absurd hj (Nat.not_lt_zero _)⟩, ⟨v1, v2, v3⟩, ⟨by rw [el]; exact lR_fr h10 h12 (fun a _ _ => e a (by omega)), kR_fr2 h11 h12 v7.1 v7.2, h12⟩, h13⟩
theorem e_lay1 (I : Nat → Nat → Int32) (J : Nat → Nat → Int64) (q : Bool × Bool) (X : Nat × (Nat → Int32)) (h : iv I J q) : okI 70 129 [.int 1] I J q X := by
  obtain ⟨L, K, c, S, C, N, D, r, E, h0⟩ := h
  obtain ⟨⟨h1, h2, h3⟩, ⟨h4, h5, h6⟩, ⟨h7, h8, h9⟩, ⟨h10, h11, h12⟩, h13⟩ := id h0
  have := gb_bb_r q
  have := gb_ld q
  obtain ⟨v, I1, I2, q', u1, u2, ⟨u3, u4⟩, u5, hh⟩ := d_lay1 I J q X h1
  have ee : ∀ a, a ≠ 1 → a ≠ 190 → ¬ (gb_lq q ≤ a ∧ a ≤ gb_lq q + 37) → ¬ (192 ≤ a ∧ a ≤ 202) → I2 a = I a := fun a a1 a2 a3 a4 => by rw [(u5 a (by omega)).2.2 a2 (by omega), u4 a a1 a3]
  have e1 : I2 1 1 = I 1 1 := by rw [(u5 1 (by omega)).2.2 (by omega) (by omega), u3 1 (by omega) (by omega)]
  have e2 : I2 190 0 = I 190 0 := by rw [(u5 0 (by omega)).1 0 (by omega) (by omega), u4 190 (by omega) (by omega)]
  have e3 : I2 190 18 = I 190 18 := by rw [(u5 0 (by omega)).1 18 (by omega) (by omega), u4 190 (by omega) (by omega)]
  have em : ∀ a j, 192 ≤ a → a ≤ 200 → j < hw a → I2 a j = I a j := fun a j b1 b2 b3 => by rw [(u5 a (by omega)).2.1 b1 b2 j b3, u4 a (by omega) (by omega)]
  have ea : ∀ a, (2 ≤ a ∧ a ≤ 113) ∨ a = 191 ∨ 203 ≤ a → I2 a = I a := fun a _ => ee a (by omega) (by omega) (by omega) (by omega)
  have hl2 : lay I2 q N D := ⟨cR_fr h7.1 (fun a ha => ea a (by omega)), by
    obtain ⟨⟨o1, o2, o3, o4, o5, o6⟩, -⟩ := h7.2.2
    obtain ⟨⟨a1, a2, a3, a4, a5⟩, b1, b2, b3, b4⟩ := h7.2.1
    refine ⟨⟨?_, ?_, ?_, ?_, ?_⟩, fun r j hr hj => ?_, fun r j hr hj => ?_, fun r j hr hj => ?_, fun r j hr hj => ?_⟩
    · rw [em 192 0 (by omega) (by omega) (by decide)]; exact a1
    · rw [em 193 0 (by omega) (by omega) (by decide)]; exact a2
    · rw [em 195 0 (by omega) (by omega) (by decide)]; exact a3
    · rw [em 197 0 (by omega) (by omega) (by decide)]; exact a4
    · rw [em 199 0 (by omega) (by omega) (by decide)]; exact a5
    · rw [em 194 _ (by omega) (by omega) (by rw [show hw 194 = 24 from rfl]; omega)]; exact b1 r j hr hj
    · rw [em 196 _ (by omega) (by omega) (by rw [show hw 196 = 36 from rfl]; omega)]; exact b2 r j hr hj
    · rw [em 198 _ (by omega) (by omega) (by rw [show hw 198 = 24 from rfl]; omega)]; exact b3 r j hr hj
    · rw [em 200 _ (by omega) (by omega) (by rw [show hw 200 = 40 from rfl]; omega)]; exact b4 r j hr hj, h7.2.2⟩
  have P1 : txt I2 L ∧ shr I2 K c ∧ stf I2 S C := ⟨txt_fr h1 e1 (ea 2 (by omega)) e2 (ea 191 (by omega)), shr_fr h2 e3 (fun a _ => ea a (by omega)), stf_fr2 h3 (fun a _ => ea a (by omega))⟩
  have P2 : fnd I2 c (N 3) (N 0) ∧ rpt I2 c (N 3) (N 0) ∧ nmb I2 c := ⟨fnd_fr h4 (Nat.le_refl _) (fun a _ _ => ea a (by omega)), rpt_fr h5 (Nat.le_refl _) (fun a _ _ => ea a (by omega)), nmb_fr h6 (Nat.le_refl _) (ea 32 (by omega))⟩
  have P3 : kn I2 N D ∧ ∀ l, l < N 4 → mW I2 N D l := ⟨kn_fr h7.2.2 h8 (fun a _ _ => ea a (by omega)), fun l hl => mW_fr (h9 l hl) (fun a _ _ => ea a (by omega))⟩
  rcases hh with ⟨rfl, v1, v2⟩ | ⟨hq, r', E', v1, v2, v3⟩
  · exact ⟨v, I1, J, q', I2, J, u1, u2, L, K, c, S, C, N, D, r, E, P1, P2, ⟨hl2, P3⟩, ⟨lR_fr h10 h12 (fun a _ _ => ee a (by omega) (by omega) (by omega) (by omega)), kR_fr2 h11 h12 v1 v2, h12⟩, h13⟩
  · have hl3 : lay I2 q' N D := by rw [hq]; exact hl2
    exact ⟨v, I1, J, q', I2, J, u1, u2, L, K, c, S, C, N, D, r', E', P1, P2, ⟨hl3, P3⟩, ⟨v2, v3, v1⟩, h13⟩
