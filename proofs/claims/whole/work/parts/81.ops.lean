theorem e_glass (I : Nat → Nat → Int32) (J : Nat → Nat → Int64) (q : Bool × Bool) (X : Nat × (Nat → Int32)) (h : iv I J q) (z r y : Int32) : okI 94 169 [.int z, .int r, .int y] I J q X := ok_same h rfl (d_glass _ z r y)
theorem e_life (I : Nat → Nat → Int32) (J : Nat → Nat → Int64) (q : Bool × Bool) (X : Nat × (Nat → Int32)) (h : iv I J q) (z r : Int32) : okI 95 170 [.int z, .int r] I J q X := ok_same h rfl (d_life _ z r)
theorem e_two (I : Nat → Nat → Int32) (J : Nat → Nat → Int64) (q : Bool × Bool) (X : Nat × (Nat → Int32)) (h : iv I J q) (a s b t w : Int32) : okI 99 173 [.int a, .int s, .int b, .int t, .int w] I J q X := ok_same h rfl (d_two _ a s b t w)
theorem e_fell (I : Nat → Nat → Int32) (J : Nat → Nat → Int64) (q : Bool × Bool) (X : Nat × (Nat → Int32)) (h : iv I J q) (k : Int32) : okI 89 164 [.int k] I J q X := by
  obtain ⟨L, K, c, S, C, N, D, r, E, ⟨⟨h1, h2, h3⟩, ⟨h4, h5, h6⟩, ⟨h7, h8, h9⟩, h10, h13⟩⟩ := h
  obtain ⟨v, J', u1, u2, u3⟩ := d_fell2 I J q X (nums_of h2 h6) k
  obtain ⟨x, rfl⟩ := v_int rfl u1
  exact ⟨x, I, J, q, I, J', u1, u2, L, K, c, S, C, N, D, r, E, ⟨h1, h2, h3⟩, ⟨h4, h5, h6⟩, ⟨h7, h8, h9⟩, h10, fun p hp => by rw [u3]; exact h13 p hp⟩
theorem e_most (I : Nat → Nat → Int32) (J : Nat → Nat → Int64) (q : Bool × Bool) (X : Nat × (Nat → Int32)) (h : iv I J q) (a b : Int32) : okI 90 165 [.int a, .int b] I J q X := by
  obtain ⟨L, K, c, S, C, N, D, r, E, ⟨⟨h1, h2, h3⟩, ⟨h4, h5, h6⟩, ⟨h7, h8, h9⟩, h10, h13⟩⟩ := h
  exact ok_same ⟨L, K, c, S, C, N, D, r, E, ⟨⟨h1, h2, h3⟩, ⟨h4, h5, h6⟩, ⟨h7, h8, h9⟩, h10, h13⟩⟩ rfl (d_most I J q X (nums_of h2 h6) a b)
theorem e_shown (I : Nat → Nat → Int32) (J : Nat → Nat → Int64) (q : Bool × Bool) (X : Nat × (Nat → Int32)) (h : iv I J q) (a t v : Int32) : okI 103 180 [.int a, .int t, .int v] I J q X := by
  obtain ⟨L, K, c, S, C, N, D, r, E, ⟨⟨h1, h2, h3⟩, ⟨h4, h5, h6⟩, ⟨h7, h8, h9⟩, h10, h13⟩⟩ := h
  exact ok_same ⟨L, K, c, S, C, N, D, r, E, ⟨⟨h1, h2, h3⟩, ⟨h4, h5, h6⟩, ⟨h7, h8, h9⟩, h10, h13⟩⟩ rfl (d_shown I J q X h3 a t v)
theorem e_there (I : Nat → Nat → Int32) (J : Nat → Nat → Int64) (q : Bool × Bool) (X : Nat × (Nat → Int32)) (h : iv I J q) (k x t : Int32) : okI 81 151 [.int k, .int x, .int t] I J q X := by
  obtain ⟨L, K, c, S, C, N, D, r, E, ⟨⟨h1, h2, h3⟩, ⟨h4, h5, h6⟩, ⟨h7, h8, h9⟩, h10, h13⟩⟩ := h
  exact ok_same ⟨L, K, c, S, C, N, D, r, E, ⟨⟨h1, h2, h3⟩, ⟨h4, h5, h6⟩, ⟨h7, h8, h9⟩, h10, h13⟩⟩ rfl (d_there I J q X (bsz_of h7) (bkd_of h7) (rp0_of h2 h5) k x t)
theorem e_missed (I : Nat → Nat → Int32) (J : Nat → Nat → Int64) (q : Bool × Bool) (X : Nat × (Nat → Int32)) (h : iv I J q) (w : Int32) : okI 82 152 [.int w] I J q X := by
  obtain ⟨L, K, c, S, C, N, D, r, E, ⟨⟨h1, h2, h3⟩, ⟨h4, h5, h6⟩, ⟨h7, h8, h9⟩, h10, h13⟩⟩ := h
  exact ok_same ⟨L, K, c, S, C, N, D, r, E, ⟨⟨h1, h2, h3⟩, ⟨h4, h5, h6⟩, ⟨h7, h8, h9⟩, h10, h13⟩⟩ rfl (d_missed I J q X (rp0_of h2 h5) (bkd_of h7) h7.2.2.1.2.2.2.2.1 (fun i hi => by
    obtain ⟨x, t, e, k, s, _, _, _, hk, _, _, _, _, e4, _⟩ := h5 i hi
    exact ⟨k, hk, e4⟩) w)
theorem e_count (I : Nat → Nat → Int32) (J : Nat → Nat → Int64) (q : Bool × Bool) (X : Nat × (Nat → Int32)) (h : iv I J q) (v : Int32) : okI 106 184 [.int v] I J q X := by
  obtain ⟨L, K, c, S, C, N, D, r, E, ⟨⟨h1, h2, h3⟩, ⟨h4, h5, h6⟩, ⟨h7, h8, h9⟩, h10, h13⟩⟩ := h
  exact ok_same ⟨L, K, c, S, C, N, D, r, E, ⟨⟨h1, h2, h3⟩, ⟨h4, h5, h6⟩, ⟨h7, h8, h9⟩, h10, h13⟩⟩ rfl (d_count I J q X (bsz_of h7) h10.1.1 h10.2.1.1 h1 h2 v)
theorem e_whose (I : Nat → Nat → Int32) (J : Nat → Nat → Int64) (q : Bool × Bool) (X : Nat × (Nat → Int32)) (h : iv I J q) (k x t w : Int32) : okI 98 172 [.int k, .int x, .int t, .int w] I J q X := by
  obtain ⟨L, K, c, S, C, N, D, r, E, ⟨⟨h1, h2, h3⟩, ⟨h4, h5, h6⟩, ⟨h7, h8, h9⟩, h10, h13⟩⟩ := h
  exact ok_same ⟨L, K, c, S, C, N, D, r, E, ⟨⟨h1, h2, h3⟩, ⟨h4, h5, h6⟩, ⟨h7, h8, h9⟩, h10, h13⟩⟩ rfl (d_whose I J q X h7 h10.1 h10.2.1 h10.2.2 k x t w)
/-- a step that changes only scratch -/
theorem iw_sc {I I' : Nat → Nat → Int32} {J J' : Nat → Nat → Int64} {q : Bool × Bool} {L K : Nat} {c S : Nat → Nat → Nat} {C N : Nat → Nat} {D : Nat → Nat → Int} {r : Nat} {E : Nat → Nat → Nat} (h : iw I J q L K c S C N D r E) (e : ∀ a, ¬ (3 ≤ a ∧ a ≤ 22) → ¬ (37 ≤ a ∧ a ≤ 62) → ¬ (214 ≤ a) → I' a = I a) (ek : kn I' N D) (eJ : J' 59 = J 59) : iv I' J' q := by
  have := gb_bb_r q
  have := gb_lb_r q
  exact ⟨L, K, c, S, C, N, D, r, E, iw_fr h (by rw [e 1 (by omega) (by omega) (by omega)]) (by rw [e 190 (by omega) (by omega) (by omega)]) (by rw [e 190 (by omega) (by omega) (by omega)]) (fun a ha => e a (by omega) (by omega) (by omega)) (fun a _ _ => e a (by omega) (by omega) (by omega)) (fun a j _ _ _ => by rw [e a (by omega) (by omega) (by omega)]) (fun a _ _ => e a (by omega) (by omega) (by omega)) ek eJ⟩
theorem e_worlds (I : Nat → Nat → Int32) (J : Nat → Nat → Int64) (q : Bool × Bool) (X : Nat × (Nat → Int32)) (h : iv I J q) (l w : Int32) : okI 74 139 [.int l, .int w] I J q X := by
  obtain ⟨L, K, c, S, C, N, D, r, E, h0⟩ := h
  obtain ⟨⟨h1, h2, h3⟩, ⟨h4, h5, h6⟩, ⟨h7, h8, h9⟩, h10, h13⟩ := id h0
  obtain ⟨v, I1, u1, u2, u3, u4⟩ := d_worlds I J q X h7 (rp0_of h2 h5) h8 h9 l w
  obtain ⟨x, rfl⟩ := v_int rfl u1
  exact ⟨x, I1, J, q, I1, J, u1, u2, iw_sc h0 (fun a a1 _ _ => u4 a a1) u3 rfl⟩
theorem e_ashore (I : Nat → Nat → Int32) (J : Nat → Nat → Int64) (q : Bool × Bool) (X : Nat × (Nat → Int32)) (h : iv I J q) (l x f t : Int32) : okI 75 140 [.int l, .int x, .int f, .int t] I J q X := by
  obtain ⟨L, K, c, S, C, N, D, r, E, h0⟩ := h
  obtain ⟨⟨h1, h2, h3⟩, ⟨h4, h5, h6⟩, ⟨h7, h8, h9⟩, h10, h13⟩ := id h0
  obtain ⟨v, I1, u1, u2, u3, u4⟩ := d_ashore I J q X h7 (rp0_of h2 h5) h8 h9 l x f t
  obtain ⟨y, rfl⟩ := v_int rfl u1
  exact ⟨y, I1, J, q, I1, J, u1, u2, iw_sc h0 (fun a a1 _ _ => u4 a a1) u3 rfl⟩
theorem e_from (I : Nat → Nat → Int32) (J : Nat → Nat → Int64) (q : Bool × Bool) (X : Nat × (Nat → Int32)) (h : iv I J q) (i : Int32) : okI 77 143 [.int i] I J q X := by
  obtain ⟨L, K, c, S, C, N, D, r, E, h0⟩ := h
  obtain ⟨⟨h1, h2, h3⟩, ⟨h4, h5, h6⟩, ⟨h7, h8, h9⟩, h10, h13⟩ := id h0
  obtain ⟨v, I1, u1, u2, u3, u4⟩ := d_from I J q X h7 (rp0_of h2 h5) h8 h9 (fd0_of h7.2.2 h2 h4) i
  obtain ⟨y, rfl⟩ := v_int rfl u1
  exact ⟨y, I1, J, q, I1, J, u1, u2, iw_sc h0 (fun a a1 _ _ => u4 a a1) u3 rfl⟩
theorem e_left (I : Nat → Nat → Int32) (J : Nat → Nat → Int64) (q : Bool × Bool) (X : Nat × (Nat → Int32)) (h : iv I J q) (l : Int32) : okI 83 155 [.int l] I J q X := by
  obtain ⟨L, K, c, S, C, N, D, r, E, h0⟩ := h
  obtain ⟨⟨h1, h2, h3⟩, ⟨h4, h5, h6⟩, ⟨h7, h8, h9⟩, h10, h13⟩ := id h0
  obtain ⟨v, I1, u1, u2, u3, u4⟩ := d_left I J q X h7 (rp0_of h2 h5) h5 h8 h9 l
  obtain ⟨y, rfl⟩ := v_int rfl u1
  exact ⟨y, I1, J, q, I1, J, u1, u2, iw_sc h0 (fun a a1 a2 _ => u4 a a1 (by omega)) u3 rfl⟩
theorem e_hope (I : Nat → Nat → Int32) (J : Nat → Nat → Int64) (q : Bool × Bool) (X : Nat × (Nat → Int32)) (h : iv I J q) (a b f e : Int32) : okJ 84 158 [.int a, .int b, .int f, .int e] I J q X := by
  obtain ⟨L, K, c, S, C, N, D, r, E, h0⟩ := h
  obtain ⟨⟨h1, h2, h3⟩, ⟨h4, h5, h6⟩, ⟨h7, h8, h9⟩, h10, h13⟩ := id h0
  obtain ⟨v, I1, u1, u2, u3, u4⟩ := d_hope I J q X h7 (rp0_of h2 h5) h5 h8 h9 a b f e
  exact ⟨v, I1, J, q, I1, J, u1, u2, iw_sc h0 (fun a a1 a2 _ => u4 a a1 (by omega)) u3 rfl⟩
theorem e_walk (I : Nat → Nat → Int32) (J : Nat → Nat → Int64) (q : Bool × Bool) (X : Nat × (Nat → Int32)) (h : iv I J q) (n f e w : Int32) : okJ 85 159 [.int n, .int f, .int e, .int w] I J q X := by
  obtain ⟨L, K, c, S, C, N, D, r, E, h0⟩ := h
  obtain ⟨⟨h1, h2, h3⟩, ⟨h4, h5, h6⟩, ⟨h7, h8, h9⟩, h10, h13⟩ := id h0
  obtain ⟨v, I1, J1, u1, u2, u3, u4, u5⟩ := d_walk I J q X h7 (rp0_of h2 h5) h5 h8 h9 n f e w
  exact ⟨v, I1, J1, q, I1, J1, u1, u2, iw_sc h0 (fun a a1 a2 _ => u4 a a1 (by omega)) u3 (u5 59 (by omega))⟩
theorem e_walks (I : Nat → Nat → Int32) (J : Nat → Nat → Int64) (q : Bool × Bool) (X : Nat × (Nat → Int32)) (h : iv I J q) (n m f e i : Int32) : okJ 86 160 [.int n, .int m, .int f, .int e, .int i] I J q X := by
  obtain ⟨L, K, c, S, C, N, D, r, E, h0⟩ := h
  obtain ⟨⟨h1, h2, h3⟩, ⟨h4, h5, h6⟩, ⟨h7, h8, h9⟩, h10, h13⟩ := id h0
  obtain ⟨v, I1, I2, J1, J2, u1, u2, u3, u4, u5⟩ := d_walks I J q X h7 (rp0_of h2 h5) h5 h8 h9 h13 n m f e i
  exact ⟨v, I1, J1, q, I2, J2, u1, u2, iw_sc h0 (fun a a1 a2 a3 => u4 a a1 (by omega) (by omega)) u3 (u5 59 (by omega) (by omega) (by omega))⟩
theorem e_parted (I : Nat → Nat → Int32) (J : Nat → Nat → Int64) (q : Bool × Bool) (X : Nat × (Nat → Int32)) (h : iv I J q) (x : Int32) : okI 79 145 [.int x] I J q X := by
  obtain ⟨L, K, c, S, C, N, D, r, E, h0⟩ := h
  obtain ⟨⟨h1, h2, h3⟩, ⟨h4, h5, h6⟩, ⟨h7, h8, h9⟩, h10, h13⟩ := id h0
  obtain ⟨v, I1, I2, u1, u2, u3, u4⟩ := d_parted I J q X h7 (rp0_of h2 h5) h8 h9 (fd0_of h7.2.2 h2 h4) x
  exact ⟨v, I1, J, q, I2, J, u1, u2, iw_sc h0 (fun a a1 a2 a3 => u4 a a1 (by omega) (by omega) (by omega)) u3 rfl⟩
theorem e_drift (I : Nat → Nat → Int32) (J : Nat → Nat → Int64) (q : Bool × Bool) (X : Nat × (Nat → Int32)) (h : iv I J q) (x y f s w : Int32) : okI 73 136 [.int x, .int y, .int f, .int s, .int w] I J q X := by
  obtain ⟨L, K, c, S, C, N, D, r, E, h0⟩ := h
  obtain ⟨⟨h1, h2, h3⟩, ⟨h4, h5, h6⟩, ⟨h7, h8, h9⟩, h10, h13⟩ := id h0
  have := gb_bb_r q
  have := gb_lb_r q
  obtain ⟨v, I1, I2, u1, u2, u3, u4⟩ := d_drift I J q X h7 x y f s w
  exact ⟨v, I1, J, q, I2, J, u1, u2, L, K, c, S, C, N, D, r, E, iw_fr h0 (by rw [u3 1 (by omega) (by omega)]) (u4 0 (by omega)) (u4 18 (by omega)) (fun a ha => u3 a (by omega) (by omega)) (fun a _ _ => u3 a (by omega) (by omega)) (fun a j _ _ _ => by rw [u3 a (by omega) (by omega)]) (fun a _ _ => u3 a (by omega) (by omega)) (kn_fr h7.2.2 h8 (fun a _ _ => u3 a (by omega) (by omega))) rfl⟩
theorem e_fault0 (I : Nat → Nat → Int32) (J : Nat → Nat → Int64) (q : Bool × Bool) (X : Nat × (Nat → Int32)) (h : iv I J q) : okI 69 128 [.int 0] I J q X := by
  obtain ⟨L, K, c, S, C, N, D, r, E, h0⟩ := h
  obtain ⟨⟨h1, h2, h3⟩, ⟨h4, h5, h6⟩, ⟨h7, h8, h9⟩, h10, h13⟩ := id h0
  have := gb_bd q
  have := gb_lb_r q
  obtain ⟨v, I1, I2, u1, u2, ⟨u3, u4⟩, u5, u6, u7⟩ := d_fault0 I J q X h1
  have ee : ∀ a, a ≠ 1 → a ≠ 190 → ¬ (gb_bs q ≤ a ∧ a ≤ gb_bs q + 16) → ¬ (192 ≤ a ∧ a ≤ 202) → I2 a = I a := fun a a1 a2 a3 a4 => by rw [u7 a a2 a4, u4 a a1 a3]
  exact ⟨v, I1, J, q, I2, J, u1, u2, L, K, c, S, C, N, D, r, E, iw_fr h0 (by rw [u7 1 (by omega) (by omega), u3 1 (by omega) (by omega)]) (by rw [u5 0 (by omega) (by omega), u4 190 (by omega) (by omega)]) (by rw [u5 18 (by omega) (by omega), u4 190 (by omega) (by omega)]) (fun a ha => ee a (by omega) (by omega) (by omega) (by omega)) (fun a _ _ => ee a (by omega) (by omega) (by omega) (by omega)) (fun a j b1 b2 b3 => by rw [u6 a j b1 b2 b3, u4 a (by omega) (by omega)]) (fun a _ _ => ee a (by omega) (by omega) (by omega) (by omega)) (kn_fr h7.2.2 h8 (fun a _ _ => ee a (by omega) (by omega) (by omega) (by omega))) rfl⟩
theorem e_fault1 (I : Nat → Nat → Int32) (J : Nat → Nat → Int64) (q : Bool × Bool) (X : Nat × (Nat → Int32)) (h : iv I J q) : okI 69 128 [.int 1] I J q X := by
  obtain ⟨L, K, c, S, C, N, D, r, E, h0⟩ := h
  obtain ⟨⟨h1, h2, h3⟩, ⟨h4, h5, h6⟩, ⟨h7, h8, h9⟩, h10, h13⟩ := id h0
  have := gb_bb_r q
  have := gb_ld q
  obtain ⟨v, I1, I2, u1, u2, ⟨u3, u4⟩, u5, u6, u7⟩ := d_fault1 I J q X h1
  have ee : ∀ a, a ≠ 1 → a ≠ 190 → ¬ (gb_lq q ≤ a ∧ a ≤ gb_lq q + 37) → ¬ (192 ≤ a ∧ a ≤ 202) → I2 a = I a := fun a a1 a2 a3 a4 => by rw [u7 a a2 a4, u4 a a1 a3]
  exact ⟨v, I1, J, q, I2, J, u1, u2, L, K, c, S, C, N, D, r, E, iw_fr h0 (by rw [u7 1 (by omega) (by omega), u3 1 (by omega) (by omega)]) (by rw [u5 0 (by omega) (by omega), u4 190 (by omega) (by omega)]) (by rw [u5 18 (by omega) (by omega), u4 190 (by omega) (by omega)]) (fun a ha => ee a (by omega) (by omega) (by omega) (by omega)) (fun a _ _ => ee a (by omega) (by omega) (by omega) (by omega)) (fun a j b1 b2 b3 => by rw [u6 a j b1 b2 b3, u4 a (by omega) (by omega)]) (fun a _ _ => ee a (by omega) (by omega) (by omega) (by omega)) (kn_fr h7.2.2 h8 (fun a _ _ => ee a (by omega) (by omega) (by omega) (by omega))) rfl⟩
