/-! the laid beach and the spare one, the laid law and the spare one -/
theorem bb_at (q : Bool × Bool) : atag gb_pG (gb_bb q) = 10 := by
  obtain ⟨a, b⟩ := q
  cases a <;> cases b <;> rfl
theorem bb_r0 (q : Bool × Bool) : gb_Rw q (gb_bb q) 0 = some (gb_bb q + 1) := by
  obtain ⟨a, b⟩ := q
  cases a <;> cases b <;> rfl
theorem bb_r2 (q : Bool × Bool) : gb_Rw q (gb_bb q) 2 = some (gb_bb q + 2) := by
  obtain ⟨a, b⟩ := q
  cases a <;> cases b <;> rfl
theorem bb_r4 (q : Bool × Bool) : gb_Rw q (gb_bb q) 4 = some (gb_bb q + 8) := by
  obtain ⟨a, b⟩ := q
  cases a <;> cases b <;> rfl
theorem bb_r5 (q : Bool × Bool) : gb_Rw q (gb_bb q) 5 = some (gb_bb q + 9) := by
  obtain ⟨a, b⟩ := q
  cases a <;> cases b <;> rfl
theorem bb_r6 (q : Bool × Bool) : gb_Rw q (gb_bb q) 6 = some (gb_bb q + 10) := by
  obtain ⟨a, b⟩ := q
  cases a <;> cases b <;> rfl
theorem bb_r7 (q : Bool × Bool) : gb_Rw q (gb_bb q) 7 = some (gb_bb q + 11) := by
  obtain ⟨a, b⟩ := q
  cases a <;> cases b <;> rfl
theorem bb_r9 (q : Bool × Bool) : gb_Rw q (gb_bb q) 9 = some (gb_bb q + 12) := by
  obtain ⟨a, b⟩ := q
  cases a <;> cases b <;> rfl
theorem bb_r10 (q : Bool × Bool) : gb_Rw q (gb_bb q) 10 = some (gb_bb q + 13) := by
  obtain ⟨a, b⟩ := q
  cases a <;> cases b <;> rfl
theorem bb_r11 (q : Bool × Bool) : gb_Rw q (gb_bb q) 11 = some (gb_bb q + 14) := by
  obtain ⟨a, b⟩ := q
  cases a <;> cases b <;> rfl
theorem bb_r12 (q : Bool × Bool) : gb_Rw q (gb_bb q) 12 = some (gb_bb q + 15) := by
  obtain ⟨a, b⟩ := q
  cases a <;> cases b <;> rfl
theorem bb_r13 (q : Bool × Bool) : gb_Rw q (gb_bb q) 13 = some (gb_bb q + 16) := by
  obtain ⟨a, b⟩ := q
  cases a <;> cases b <;> rfl
theorem bb_w1 (q : Bool × Bool) : gb_Rw q (gb_bb q + 2) 1 = some (gb_bb q + 3) := by
  obtain ⟨a, b⟩ := q
  cases a <;> cases b <;> rfl
theorem bb_w2 (q : Bool × Bool) : gb_Rw q (gb_bb q + 2) 2 = some (gb_bb q + 4) := by
  obtain ⟨a, b⟩ := q
  cases a <;> cases b <;> rfl
theorem bb_w5 (q : Bool × Bool) : gb_Rw q (gb_bb q + 2) 5 = some (gb_bb q + 5) := by
  obtain ⟨a, b⟩ := q
  cases a <;> cases b <;> rfl
theorem bb_w6 (q : Bool × Bool) : gb_Rw q (gb_bb q + 2) 6 = some (gb_bb q + 6) := by
  obtain ⟨a, b⟩ := q
  cases a <;> cases b <;> rfl
theorem bb_w7 (q : Bool × Bool) : gb_Rw q (gb_bb q + 2) 7 = some (gb_bb q + 7) := by
  obtain ⟨a, b⟩ := q
  cases a <;> cases b <;> rfl
theorem bb_t1 (q : Bool × Bool) : atag gb_pG (gb_bb q + 1) = 0 := by
  obtain ⟨a, b⟩ := q
  cases a <;> cases b <;> rfl
theorem bb_l1 (q : Bool × Bool) : alen gb_pG (gb_bb q + 1) = 5 := by
  obtain ⟨a, b⟩ := q
  cases a <;> cases b <;> rfl
theorem bb_t2 (q : Bool × Bool) : atag gb_pG (gb_bb q + 2) = 18 := by
  obtain ⟨a, b⟩ := q
  cases a <;> cases b <;> rfl
theorem bb_t3 (q : Bool × Bool) : atag gb_pG (gb_bb q + 3) = 0 := by
  obtain ⟨a, b⟩ := q
  cases a <;> cases b <;> rfl
theorem bb_l3 (q : Bool × Bool) : alen gb_pG (gb_bb q + 3) = 12 := by
  obtain ⟨a, b⟩ := q
  cases a <;> cases b <;> rfl
theorem bb_t4 (q : Bool × Bool) : atag gb_pG (gb_bb q + 4) = 0 := by
  obtain ⟨a, b⟩ := q
  cases a <;> cases b <;> rfl
theorem bb_l4 (q : Bool × Bool) : alen gb_pG (gb_bb q + 4) = 12 := by
  obtain ⟨a, b⟩ := q
  cases a <;> cases b <;> rfl
theorem bb_t5 (q : Bool × Bool) : atag gb_pG (gb_bb q + 5) = 0 := by
  obtain ⟨a, b⟩ := q
  cases a <;> cases b <;> rfl
theorem bb_l5 (q : Bool × Bool) : alen gb_pG (gb_bb q + 5) = 12 := by
  obtain ⟨a, b⟩ := q
  cases a <;> cases b <;> rfl
theorem bb_t6 (q : Bool × Bool) : atag gb_pG (gb_bb q + 6) = 0 := by
  obtain ⟨a, b⟩ := q
  cases a <;> cases b <;> rfl
theorem bb_l6 (q : Bool × Bool) : alen gb_pG (gb_bb q + 6) = 12 := by
  obtain ⟨a, b⟩ := q
  cases a <;> cases b <;> rfl
theorem bb_t7 (q : Bool × Bool) : atag gb_pG (gb_bb q + 7) = 0 := by
  obtain ⟨a, b⟩ := q
  cases a <;> cases b <;> rfl
theorem bb_l7 (q : Bool × Bool) : alen gb_pG (gb_bb q + 7) = 12 := by
  obtain ⟨a, b⟩ := q
  cases a <;> cases b <;> rfl
theorem bb_t8 (q : Bool × Bool) : atag gb_pG (gb_bb q + 8) = 0 := by
  obtain ⟨a, b⟩ := q
  cases a <;> cases b <;> rfl
theorem bb_l8 (q : Bool × Bool) : alen gb_pG (gb_bb q + 8) = 6 := by
  obtain ⟨a, b⟩ := q
  cases a <;> cases b <;> rfl
theorem bb_t9 (q : Bool × Bool) : atag gb_pG (gb_bb q + 9) = 0 := by
  obtain ⟨a, b⟩ := q
  cases a <;> cases b <;> rfl
theorem bb_l9 (q : Bool × Bool) : alen gb_pG (gb_bb q + 9) = 6 := by
  obtain ⟨a, b⟩ := q
  cases a <;> cases b <;> rfl
theorem bb_t10 (q : Bool × Bool) : atag gb_pG (gb_bb q + 10) = 0 := by
  obtain ⟨a, b⟩ := q
  cases a <;> cases b <;> rfl
theorem bb_l10 (q : Bool × Bool) : alen gb_pG (gb_bb q + 10) = 6 := by
  obtain ⟨a, b⟩ := q
  cases a <;> cases b <;> rfl
theorem bb_t11 (q : Bool × Bool) : atag gb_pG (gb_bb q + 11) = 0 := by
  obtain ⟨a, b⟩ := q
  cases a <;> cases b <;> rfl
theorem bb_l11 (q : Bool × Bool) : alen gb_pG (gb_bb q + 11) = 6 := by
  obtain ⟨a, b⟩ := q
  cases a <;> cases b <;> rfl
theorem bb_t12 (q : Bool × Bool) : atag gb_pG (gb_bb q + 12) = 0 := by
  obtain ⟨a, b⟩ := q
  cases a <;> cases b <;> rfl
theorem bb_l12 (q : Bool × Bool) : alen gb_pG (gb_bb q + 12) = 8 := by
  obtain ⟨a, b⟩ := q
  cases a <;> cases b <;> rfl
theorem bb_t13 (q : Bool × Bool) : atag gb_pG (gb_bb q + 13) = 0 := by
  obtain ⟨a, b⟩ := q
  cases a <;> cases b <;> rfl
theorem bb_l13 (q : Bool × Bool) : alen gb_pG (gb_bb q + 13) = 8 := by
  obtain ⟨a, b⟩ := q
  cases a <;> cases b <;> rfl
theorem bb_t14 (q : Bool × Bool) : atag gb_pG (gb_bb q + 14) = 0 := by
  obtain ⟨a, b⟩ := q
  cases a <;> cases b <;> rfl
theorem bb_l14 (q : Bool × Bool) : alen gb_pG (gb_bb q + 14) = 8 := by
  obtain ⟨a, b⟩ := q
  cases a <;> cases b <;> rfl
theorem bb_t15 (q : Bool × Bool) : atag gb_pG (gb_bb q + 15) = 0 := by
  obtain ⟨a, b⟩ := q
  cases a <;> cases b <;> rfl
theorem bb_l15 (q : Bool × Bool) : alen gb_pG (gb_bb q + 15) = 8 := by
  obtain ⟨a, b⟩ := q
  cases a <;> cases b <;> rfl
theorem bb_t16 (q : Bool × Bool) : atag gb_pG (gb_bb q + 16) = 0 := by
  obtain ⟨a, b⟩ := q
  cases a <;> cases b <;> rfl
theorem bb_l16 (q : Bool × Bool) : alen gb_pG (gb_bb q + 16) = 8 := by
  obtain ⟨a, b⟩ := q
  cases a <;> cases b <;> rfl
theorem bs_at (q : Bool × Bool) : atag gb_pG (gb_bs q) = 10 := by
  obtain ⟨a, b⟩ := q
  cases a <;> cases b <;> rfl
theorem bs_r0 (q : Bool × Bool) : gb_Rw q (gb_bs q) 0 = some (gb_bs q + 1) := by
  obtain ⟨a, b⟩ := q
  cases a <;> cases b <;> rfl
theorem bs_r2 (q : Bool × Bool) : gb_Rw q (gb_bs q) 2 = some (gb_bs q + 2) := by
  obtain ⟨a, b⟩ := q
  cases a <;> cases b <;> rfl
theorem bs_r4 (q : Bool × Bool) : gb_Rw q (gb_bs q) 4 = some (gb_bs q + 8) := by
  obtain ⟨a, b⟩ := q
  cases a <;> cases b <;> rfl
theorem bs_r5 (q : Bool × Bool) : gb_Rw q (gb_bs q) 5 = some (gb_bs q + 9) := by
  obtain ⟨a, b⟩ := q
  cases a <;> cases b <;> rfl
theorem bs_r6 (q : Bool × Bool) : gb_Rw q (gb_bs q) 6 = some (gb_bs q + 10) := by
  obtain ⟨a, b⟩ := q
  cases a <;> cases b <;> rfl
theorem bs_r7 (q : Bool × Bool) : gb_Rw q (gb_bs q) 7 = some (gb_bs q + 11) := by
  obtain ⟨a, b⟩ := q
  cases a <;> cases b <;> rfl
theorem bs_r9 (q : Bool × Bool) : gb_Rw q (gb_bs q) 9 = some (gb_bs q + 12) := by
  obtain ⟨a, b⟩ := q
  cases a <;> cases b <;> rfl
theorem bs_r10 (q : Bool × Bool) : gb_Rw q (gb_bs q) 10 = some (gb_bs q + 13) := by
  obtain ⟨a, b⟩ := q
  cases a <;> cases b <;> rfl
theorem bs_r11 (q : Bool × Bool) : gb_Rw q (gb_bs q) 11 = some (gb_bs q + 14) := by
  obtain ⟨a, b⟩ := q
  cases a <;> cases b <;> rfl
theorem bs_r12 (q : Bool × Bool) : gb_Rw q (gb_bs q) 12 = some (gb_bs q + 15) := by
  obtain ⟨a, b⟩ := q
  cases a <;> cases b <;> rfl
theorem bs_r13 (q : Bool × Bool) : gb_Rw q (gb_bs q) 13 = some (gb_bs q + 16) := by
  obtain ⟨a, b⟩ := q
  cases a <;> cases b <;> rfl
theorem bs_w1 (q : Bool × Bool) : gb_Rw q (gb_bs q + 2) 1 = some (gb_bs q + 3) := by
  obtain ⟨a, b⟩ := q
  cases a <;> cases b <;> rfl
theorem bs_w2 (q : Bool × Bool) : gb_Rw q (gb_bs q + 2) 2 = some (gb_bs q + 4) := by
  obtain ⟨a, b⟩ := q
  cases a <;> cases b <;> rfl
theorem bs_w5 (q : Bool × Bool) : gb_Rw q (gb_bs q + 2) 5 = some (gb_bs q + 5) := by
  obtain ⟨a, b⟩ := q
  cases a <;> cases b <;> rfl
theorem bs_w6 (q : Bool × Bool) : gb_Rw q (gb_bs q + 2) 6 = some (gb_bs q + 6) := by
  obtain ⟨a, b⟩ := q
  cases a <;> cases b <;> rfl
theorem bs_w7 (q : Bool × Bool) : gb_Rw q (gb_bs q + 2) 7 = some (gb_bs q + 7) := by
  obtain ⟨a, b⟩ := q
  cases a <;> cases b <;> rfl
theorem bs_t1 (q : Bool × Bool) : atag gb_pG (gb_bs q + 1) = 0 := by
  obtain ⟨a, b⟩ := q
  cases a <;> cases b <;> rfl
theorem bs_l1 (q : Bool × Bool) : alen gb_pG (gb_bs q + 1) = 5 := by
  obtain ⟨a, b⟩ := q
  cases a <;> cases b <;> rfl
theorem bs_t2 (q : Bool × Bool) : atag gb_pG (gb_bs q + 2) = 18 := by
  obtain ⟨a, b⟩ := q
  cases a <;> cases b <;> rfl
theorem bs_t3 (q : Bool × Bool) : atag gb_pG (gb_bs q + 3) = 0 := by
  obtain ⟨a, b⟩ := q
  cases a <;> cases b <;> rfl
theorem bs_l3 (q : Bool × Bool) : alen gb_pG (gb_bs q + 3) = 12 := by
  obtain ⟨a, b⟩ := q
  cases a <;> cases b <;> rfl
theorem bs_t4 (q : Bool × Bool) : atag gb_pG (gb_bs q + 4) = 0 := by
  obtain ⟨a, b⟩ := q
  cases a <;> cases b <;> rfl
theorem bs_l4 (q : Bool × Bool) : alen gb_pG (gb_bs q + 4) = 12 := by
  obtain ⟨a, b⟩ := q
  cases a <;> cases b <;> rfl
theorem bs_t5 (q : Bool × Bool) : atag gb_pG (gb_bs q + 5) = 0 := by
  obtain ⟨a, b⟩ := q
  cases a <;> cases b <;> rfl
theorem bs_l5 (q : Bool × Bool) : alen gb_pG (gb_bs q + 5) = 12 := by
  obtain ⟨a, b⟩ := q
  cases a <;> cases b <;> rfl
theorem bs_t6 (q : Bool × Bool) : atag gb_pG (gb_bs q + 6) = 0 := by
  obtain ⟨a, b⟩ := q
  cases a <;> cases b <;> rfl
theorem bs_l6 (q : Bool × Bool) : alen gb_pG (gb_bs q + 6) = 12 := by
  obtain ⟨a, b⟩ := q
  cases a <;> cases b <;> rfl
theorem bs_t7 (q : Bool × Bool) : atag gb_pG (gb_bs q + 7) = 0 := by
  obtain ⟨a, b⟩ := q
  cases a <;> cases b <;> rfl
theorem bs_l7 (q : Bool × Bool) : alen gb_pG (gb_bs q + 7) = 12 := by
  obtain ⟨a, b⟩ := q
  cases a <;> cases b <;> rfl
theorem bs_t8 (q : Bool × Bool) : atag gb_pG (gb_bs q + 8) = 0 := by
  obtain ⟨a, b⟩ := q
  cases a <;> cases b <;> rfl
theorem bs_l8 (q : Bool × Bool) : alen gb_pG (gb_bs q + 8) = 6 := by
  obtain ⟨a, b⟩ := q
  cases a <;> cases b <;> rfl
theorem bs_t9 (q : Bool × Bool) : atag gb_pG (gb_bs q + 9) = 0 := by
  obtain ⟨a, b⟩ := q
  cases a <;> cases b <;> rfl
theorem bs_l9 (q : Bool × Bool) : alen gb_pG (gb_bs q + 9) = 6 := by
  obtain ⟨a, b⟩ := q
  cases a <;> cases b <;> rfl
theorem bs_t10 (q : Bool × Bool) : atag gb_pG (gb_bs q + 10) = 0 := by
  obtain ⟨a, b⟩ := q
  cases a <;> cases b <;> rfl
theorem bs_l10 (q : Bool × Bool) : alen gb_pG (gb_bs q + 10) = 6 := by
  obtain ⟨a, b⟩ := q
  cases a <;> cases b <;> rfl
theorem bs_t11 (q : Bool × Bool) : atag gb_pG (gb_bs q + 11) = 0 := by
  obtain ⟨a, b⟩ := q
  cases a <;> cases b <;> rfl
theorem bs_l11 (q : Bool × Bool) : alen gb_pG (gb_bs q + 11) = 6 := by
  obtain ⟨a, b⟩ := q
  cases a <;> cases b <;> rfl
theorem bs_t12 (q : Bool × Bool) : atag gb_pG (gb_bs q + 12) = 0 := by
  obtain ⟨a, b⟩ := q
  cases a <;> cases b <;> rfl
theorem bs_l12 (q : Bool × Bool) : alen gb_pG (gb_bs q + 12) = 8 := by
  obtain ⟨a, b⟩ := q
  cases a <;> cases b <;> rfl
theorem bs_t13 (q : Bool × Bool) : atag gb_pG (gb_bs q + 13) = 0 := by
  obtain ⟨a, b⟩ := q
  cases a <;> cases b <;> rfl
theorem bs_l13 (q : Bool × Bool) : alen gb_pG (gb_bs q + 13) = 8 := by
  obtain ⟨a, b⟩ := q
  cases a <;> cases b <;> rfl
theorem bs_t14 (q : Bool × Bool) : atag gb_pG (gb_bs q + 14) = 0 := by
  obtain ⟨a, b⟩ := q
  cases a <;> cases b <;> rfl
theorem bs_l14 (q : Bool × Bool) : alen gb_pG (gb_bs q + 14) = 8 := by
  obtain ⟨a, b⟩ := q
  cases a <;> cases b <;> rfl
theorem bs_t15 (q : Bool × Bool) : atag gb_pG (gb_bs q + 15) = 0 := by
  obtain ⟨a, b⟩ := q
  cases a <;> cases b <;> rfl
theorem bs_l15 (q : Bool × Bool) : alen gb_pG (gb_bs q + 15) = 8 := by
  obtain ⟨a, b⟩ := q
  cases a <;> cases b <;> rfl
theorem bs_t16 (q : Bool × Bool) : atag gb_pG (gb_bs q + 16) = 0 := by
  obtain ⟨a, b⟩ := q
  cases a <;> cases b <;> rfl
theorem bs_l16 (q : Bool × Bool) : alen gb_pG (gb_bs q + 16) = 8 := by
  obtain ⟨a, b⟩ := q
  cases a <;> cases b <;> rfl
theorem lb_at (q : Bool × Bool) : atag gb_pG (gb_lb q) = 12 := by
  obtain ⟨a, b⟩ := q
  cases a <;> cases b <;> rfl
theorem lb_r1 (q : Bool × Bool) : gb_Rw q (gb_lb q) 1 = some (gb_lb q + 1) := by
  obtain ⟨a, b⟩ := q
  cases a <;> cases b <;> rfl
theorem lb_r2 (q : Bool × Bool) : gb_Rw q (gb_lb q) 2 = some (gb_lb q + 2) := by
  obtain ⟨a, b⟩ := q
  cases a <;> cases b <;> rfl
theorem lb_r3 (q : Bool × Bool) : gb_Rw q (gb_lb q) 3 = some (gb_lb q + 13) := by
  obtain ⟨a, b⟩ := q
  cases a <;> cases b <;> rfl
theorem lb_r4 (q : Bool × Bool) : gb_Rw q (gb_lb q) 4 = some (gb_lb q + 24) := by
  obtain ⟨a, b⟩ := q
  cases a <;> cases b <;> rfl
theorem lb_r5 (q : Bool × Bool) : gb_Rw q (gb_lb q) 5 = some (gb_lb q + 35) := by
  obtain ⟨a, b⟩ := q
  cases a <;> cases b <;> rfl
theorem lb_r6 (q : Bool × Bool) : gb_Rw q (gb_lb q) 6 = some (gb_lb q + 36) := by
  obtain ⟨a, b⟩ := q
  cases a <;> cases b <;> rfl
theorem lb_r7 (q : Bool × Bool) : gb_Rw q (gb_lb q) 7 = some (gb_lb q + 37) := by
  obtain ⟨a, b⟩ := q
  cases a <;> cases b <;> rfl
theorem lb_t1 (q : Bool × Bool) : atag gb_pG (gb_lb q + 1) = 0 := by
  obtain ⟨a, b⟩ := q
  cases a <;> cases b <;> rfl
theorem lb_l1 (q : Bool × Bool) : alen gb_pG (gb_lb q + 1) = 10 := by
  obtain ⟨a, b⟩ := q
  cases a <;> cases b <;> rfl
theorem lb_t2 (q : Bool × Bool) : atag gb_pG (gb_lb q + 2) = 4 := by
  obtain ⟨a, b⟩ := q
  cases a <;> cases b <;> rfl
theorem lb_l2 (q : Bool × Bool) : alen gb_pG (gb_lb q + 2) = 10 := by
  obtain ⟨a, b⟩ := q
  cases a <;> cases b <;> rfl
theorem lb_t13 (q : Bool × Bool) : atag gb_pG (gb_lb q + 13) = 4 := by
  obtain ⟨a, b⟩ := q
  cases a <;> cases b <;> rfl
theorem lb_l13 (q : Bool × Bool) : alen gb_pG (gb_lb q + 13) = 10 := by
  obtain ⟨a, b⟩ := q
  cases a <;> cases b <;> rfl
theorem lb_t24 (q : Bool × Bool) : atag gb_pG (gb_lb q + 24) = 4 := by
  obtain ⟨a, b⟩ := q
  cases a <;> cases b <;> rfl
theorem lb_l24 (q : Bool × Bool) : alen gb_pG (gb_lb q + 24) = 10 := by
  obtain ⟨a, b⟩ := q
  cases a <;> cases b <;> rfl
theorem lb_t35 (q : Bool × Bool) : atag gb_pG (gb_lb q + 35) = 0 := by
  obtain ⟨a, b⟩ := q
  cases a <;> cases b <;> rfl
theorem lb_l35 (q : Bool × Bool) : alen gb_pG (gb_lb q + 35) = 10 := by
  obtain ⟨a, b⟩ := q
  cases a <;> cases b <;> rfl
theorem lb_t36 (q : Bool × Bool) : atag gb_pG (gb_lb q + 36) = 0 := by
  obtain ⟨a, b⟩ := q
  cases a <;> cases b <;> rfl
theorem lb_l36 (q : Bool × Bool) : alen gb_pG (gb_lb q + 36) = 10 := by
  obtain ⟨a, b⟩ := q
  cases a <;> cases b <;> rfl
theorem lb_t37 (q : Bool × Bool) : atag gb_pG (gb_lb q + 37) = 0 := by
  obtain ⟨a, b⟩ := q
  cases a <;> cases b <;> rfl
theorem lb_l37 (q : Bool × Bool) : alen gb_pG (gb_lb q + 37) = 10 := by
  obtain ⟨a, b⟩ := q
  cases a <;> cases b <;> rfl
theorem lb_k2 (q : Bool × Bool) {k : Nat} (h : k < 10) : gb_Rw q (gb_lb q + 2) k = some (gb_lb q + 3 + k) := by
  obtain ⟨a, b⟩ := q
  have hk : k = 0 ∨ k = 1 ∨ k = 2 ∨ k = 3 ∨ k = 4 ∨ k = 5 ∨ k = 6 ∨ k = 7 ∨ k = 8 ∨ k = 9 := by omega
  cases a <;> cases b <;> (rcases hk with rfl | rfl | rfl | rfl | rfl | rfl | rfl | rfl | rfl | rfl <;> rfl)
theorem lb_kt2 (q : Bool × Bool) {k : Nat} (h : k < 10) : atag gb_pG (gb_lb q + 3 + k) = 0 := by
  obtain ⟨a, b⟩ := q
  have hk : k = 0 ∨ k = 1 ∨ k = 2 ∨ k = 3 ∨ k = 4 ∨ k = 5 ∨ k = 6 ∨ k = 7 ∨ k = 8 ∨ k = 9 := by omega
  cases a <;> cases b <;> (rcases hk with rfl | rfl | rfl | rfl | rfl | rfl | rfl | rfl | rfl | rfl <;> rfl)
theorem lb_kl2 (q : Bool × Bool) {k : Nat} (h : k < 10) : alen gb_pG (gb_lb q + 3 + k) = 3 := by
  obtain ⟨a, b⟩ := q
  have hk : k = 0 ∨ k = 1 ∨ k = 2 ∨ k = 3 ∨ k = 4 ∨ k = 5 ∨ k = 6 ∨ k = 7 ∨ k = 8 ∨ k = 9 := by omega
  cases a <;> cases b <;> (rcases hk with rfl | rfl | rfl | rfl | rfl | rfl | rfl | rfl | rfl | rfl <;> rfl)
theorem lb_k13 (q : Bool × Bool) {k : Nat} (h : k < 10) : gb_Rw q (gb_lb q + 13) k = some (gb_lb q + 14 + k) := by
  obtain ⟨a, b⟩ := q
  have hk : k = 0 ∨ k = 1 ∨ k = 2 ∨ k = 3 ∨ k = 4 ∨ k = 5 ∨ k = 6 ∨ k = 7 ∨ k = 8 ∨ k = 9 := by omega
  cases a <;> cases b <;> (rcases hk with rfl | rfl | rfl | rfl | rfl | rfl | rfl | rfl | rfl | rfl <;> rfl)
theorem lb_kt13 (q : Bool × Bool) {k : Nat} (h : k < 10) : atag gb_pG (gb_lb q + 14 + k) = 0 := by
  obtain ⟨a, b⟩ := q
  have hk : k = 0 ∨ k = 1 ∨ k = 2 ∨ k = 3 ∨ k = 4 ∨ k = 5 ∨ k = 6 ∨ k = 7 ∨ k = 8 ∨ k = 9 := by omega
  cases a <;> cases b <;> (rcases hk with rfl | rfl | rfl | rfl | rfl | rfl | rfl | rfl | rfl | rfl <;> rfl)
theorem lb_kl13 (q : Bool × Bool) {k : Nat} (h : k < 10) : alen gb_pG (gb_lb q + 14 + k) = 3 := by
  obtain ⟨a, b⟩ := q
  have hk : k = 0 ∨ k = 1 ∨ k = 2 ∨ k = 3 ∨ k = 4 ∨ k = 5 ∨ k = 6 ∨ k = 7 ∨ k = 8 ∨ k = 9 := by omega
  cases a <;> cases b <;> (rcases hk with rfl | rfl | rfl | rfl | rfl | rfl | rfl | rfl | rfl | rfl <;> rfl)
theorem lb_k24 (q : Bool × Bool) {k : Nat} (h : k < 10) : gb_Rw q (gb_lb q + 24) k = some (gb_lb q + 25 + k) := by
  obtain ⟨a, b⟩ := q
  have hk : k = 0 ∨ k = 1 ∨ k = 2 ∨ k = 3 ∨ k = 4 ∨ k = 5 ∨ k = 6 ∨ k = 7 ∨ k = 8 ∨ k = 9 := by omega
  cases a <;> cases b <;> (rcases hk with rfl | rfl | rfl | rfl | rfl | rfl | rfl | rfl | rfl | rfl <;> rfl)
theorem lb_kt24 (q : Bool × Bool) {k : Nat} (h : k < 10) : atag gb_pG (gb_lb q + 25 + k) = 0 := by
  obtain ⟨a, b⟩ := q
  have hk : k = 0 ∨ k = 1 ∨ k = 2 ∨ k = 3 ∨ k = 4 ∨ k = 5 ∨ k = 6 ∨ k = 7 ∨ k = 8 ∨ k = 9 := by omega
  cases a <;> cases b <;> (rcases hk with rfl | rfl | rfl | rfl | rfl | rfl | rfl | rfl | rfl | rfl <;> rfl)
theorem lb_kl24 (q : Bool × Bool) {k : Nat} (h : k < 10) : alen gb_pG (gb_lb q + 25 + k) = 3 := by
  obtain ⟨a, b⟩ := q
  have hk : k = 0 ∨ k = 1 ∨ k = 2 ∨ k = 3 ∨ k = 4 ∨ k = 5 ∨ k = 6 ∨ k = 7 ∨ k = 8 ∨ k = 9 := by omega
  cases a <;> cases b <;> (rcases hk with rfl | rfl | rfl | rfl | rfl | rfl | rfl | rfl | rfl | rfl <;> rfl)
theorem lq_at (q : Bool × Bool) : atag gb_pG (gb_lq q) = 12 := by
  obtain ⟨a, b⟩ := q
  cases a <;> cases b <;> rfl
theorem lq_r1 (q : Bool × Bool) : gb_Rw q (gb_lq q) 1 = some (gb_lq q + 1) := by
  obtain ⟨a, b⟩ := q
  cases a <;> cases b <;> rfl
theorem lq_r2 (q : Bool × Bool) : gb_Rw q (gb_lq q) 2 = some (gb_lq q + 2) := by
  obtain ⟨a, b⟩ := q
  cases a <;> cases b <;> rfl
theorem lq_r3 (q : Bool × Bool) : gb_Rw q (gb_lq q) 3 = some (gb_lq q + 13) := by
  obtain ⟨a, b⟩ := q
  cases a <;> cases b <;> rfl
theorem lq_r4 (q : Bool × Bool) : gb_Rw q (gb_lq q) 4 = some (gb_lq q + 24) := by
  obtain ⟨a, b⟩ := q
  cases a <;> cases b <;> rfl
theorem lq_r5 (q : Bool × Bool) : gb_Rw q (gb_lq q) 5 = some (gb_lq q + 35) := by
  obtain ⟨a, b⟩ := q
  cases a <;> cases b <;> rfl
theorem lq_r6 (q : Bool × Bool) : gb_Rw q (gb_lq q) 6 = some (gb_lq q + 36) := by
  obtain ⟨a, b⟩ := q
  cases a <;> cases b <;> rfl
theorem lq_r7 (q : Bool × Bool) : gb_Rw q (gb_lq q) 7 = some (gb_lq q + 37) := by
  obtain ⟨a, b⟩ := q
  cases a <;> cases b <;> rfl
theorem lq_t1 (q : Bool × Bool) : atag gb_pG (gb_lq q + 1) = 0 := by
  obtain ⟨a, b⟩ := q
  cases a <;> cases b <;> rfl
theorem lq_l1 (q : Bool × Bool) : alen gb_pG (gb_lq q + 1) = 10 := by
  obtain ⟨a, b⟩ := q
  cases a <;> cases b <;> rfl
theorem lq_t2 (q : Bool × Bool) : atag gb_pG (gb_lq q + 2) = 4 := by
  obtain ⟨a, b⟩ := q
  cases a <;> cases b <;> rfl
theorem lq_l2 (q : Bool × Bool) : alen gb_pG (gb_lq q + 2) = 10 := by
  obtain ⟨a, b⟩ := q
  cases a <;> cases b <;> rfl
theorem lq_t13 (q : Bool × Bool) : atag gb_pG (gb_lq q + 13) = 4 := by
  obtain ⟨a, b⟩ := q
  cases a <;> cases b <;> rfl
theorem lq_l13 (q : Bool × Bool) : alen gb_pG (gb_lq q + 13) = 10 := by
  obtain ⟨a, b⟩ := q
  cases a <;> cases b <;> rfl
theorem lq_t24 (q : Bool × Bool) : atag gb_pG (gb_lq q + 24) = 4 := by
  obtain ⟨a, b⟩ := q
  cases a <;> cases b <;> rfl
theorem lq_l24 (q : Bool × Bool) : alen gb_pG (gb_lq q + 24) = 10 := by
  obtain ⟨a, b⟩ := q
  cases a <;> cases b <;> rfl
theorem lq_t35 (q : Bool × Bool) : atag gb_pG (gb_lq q + 35) = 0 := by
  obtain ⟨a, b⟩ := q
  cases a <;> cases b <;> rfl
theorem lq_l35 (q : Bool × Bool) : alen gb_pG (gb_lq q + 35) = 10 := by
  obtain ⟨a, b⟩ := q
  cases a <;> cases b <;> rfl
theorem lq_t36 (q : Bool × Bool) : atag gb_pG (gb_lq q + 36) = 0 := by
  obtain ⟨a, b⟩ := q
  cases a <;> cases b <;> rfl
theorem lq_l36 (q : Bool × Bool) : alen gb_pG (gb_lq q + 36) = 10 := by
  obtain ⟨a, b⟩ := q
  cases a <;> cases b <;> rfl
theorem lq_t37 (q : Bool × Bool) : atag gb_pG (gb_lq q + 37) = 0 := by
  obtain ⟨a, b⟩ := q
  cases a <;> cases b <;> rfl
theorem lq_l37 (q : Bool × Bool) : alen gb_pG (gb_lq q + 37) = 10 := by
  obtain ⟨a, b⟩ := q
  cases a <;> cases b <;> rfl
theorem lq_k2 (q : Bool × Bool) {k : Nat} (h : k < 10) : gb_Rw q (gb_lq q + 2) k = some (gb_lq q + 3 + k) := by
  obtain ⟨a, b⟩ := q
  have hk : k = 0 ∨ k = 1 ∨ k = 2 ∨ k = 3 ∨ k = 4 ∨ k = 5 ∨ k = 6 ∨ k = 7 ∨ k = 8 ∨ k = 9 := by omega
  cases a <;> cases b <;> (rcases hk with rfl | rfl | rfl | rfl | rfl | rfl | rfl | rfl | rfl | rfl <;> rfl)
theorem lq_kt2 (q : Bool × Bool) {k : Nat} (h : k < 10) : atag gb_pG (gb_lq q + 3 + k) = 0 := by
  obtain ⟨a, b⟩ := q
  have hk : k = 0 ∨ k = 1 ∨ k = 2 ∨ k = 3 ∨ k = 4 ∨ k = 5 ∨ k = 6 ∨ k = 7 ∨ k = 8 ∨ k = 9 := by omega
  cases a <;> cases b <;> (rcases hk with rfl | rfl | rfl | rfl | rfl | rfl | rfl | rfl | rfl | rfl <;> rfl)
theorem lq_kl2 (q : Bool × Bool) {k : Nat} (h : k < 10) : alen gb_pG (gb_lq q + 3 + k) = 3 := by
  obtain ⟨a, b⟩ := q
  have hk : k = 0 ∨ k = 1 ∨ k = 2 ∨ k = 3 ∨ k = 4 ∨ k = 5 ∨ k = 6 ∨ k = 7 ∨ k = 8 ∨ k = 9 := by omega
  cases a <;> cases b <;> (rcases hk with rfl | rfl | rfl | rfl | rfl | rfl | rfl | rfl | rfl | rfl <;> rfl)
theorem lq_k13 (q : Bool × Bool) {k : Nat} (h : k < 10) : gb_Rw q (gb_lq q + 13) k = some (gb_lq q + 14 + k) := by
  obtain ⟨a, b⟩ := q
  have hk : k = 0 ∨ k = 1 ∨ k = 2 ∨ k = 3 ∨ k = 4 ∨ k = 5 ∨ k = 6 ∨ k = 7 ∨ k = 8 ∨ k = 9 := by omega
  cases a <;> cases b <;> (rcases hk with rfl | rfl | rfl | rfl | rfl | rfl | rfl | rfl | rfl | rfl <;> rfl)
theorem lq_kt13 (q : Bool × Bool) {k : Nat} (h : k < 10) : atag gb_pG (gb_lq q + 14 + k) = 0 := by
  obtain ⟨a, b⟩ := q
  have hk : k = 0 ∨ k = 1 ∨ k = 2 ∨ k = 3 ∨ k = 4 ∨ k = 5 ∨ k = 6 ∨ k = 7 ∨ k = 8 ∨ k = 9 := by omega
  cases a <;> cases b <;> (rcases hk with rfl | rfl | rfl | rfl | rfl | rfl | rfl | rfl | rfl | rfl <;> rfl)
theorem lq_kl13 (q : Bool × Bool) {k : Nat} (h : k < 10) : alen gb_pG (gb_lq q + 14 + k) = 3 := by
  obtain ⟨a, b⟩ := q
  have hk : k = 0 ∨ k = 1 ∨ k = 2 ∨ k = 3 ∨ k = 4 ∨ k = 5 ∨ k = 6 ∨ k = 7 ∨ k = 8 ∨ k = 9 := by omega
  cases a <;> cases b <;> (rcases hk with rfl | rfl | rfl | rfl | rfl | rfl | rfl | rfl | rfl | rfl <;> rfl)
theorem lq_k24 (q : Bool × Bool) {k : Nat} (h : k < 10) : gb_Rw q (gb_lq q + 24) k = some (gb_lq q + 25 + k) := by
  obtain ⟨a, b⟩ := q
  have hk : k = 0 ∨ k = 1 ∨ k = 2 ∨ k = 3 ∨ k = 4 ∨ k = 5 ∨ k = 6 ∨ k = 7 ∨ k = 8 ∨ k = 9 := by omega
  cases a <;> cases b <;> (rcases hk with rfl | rfl | rfl | rfl | rfl | rfl | rfl | rfl | rfl | rfl <;> rfl)
theorem lq_kt24 (q : Bool × Bool) {k : Nat} (h : k < 10) : atag gb_pG (gb_lq q + 25 + k) = 0 := by
  obtain ⟨a, b⟩ := q
  have hk : k = 0 ∨ k = 1 ∨ k = 2 ∨ k = 3 ∨ k = 4 ∨ k = 5 ∨ k = 6 ∨ k = 7 ∨ k = 8 ∨ k = 9 := by omega
  cases a <;> cases b <;> (rcases hk with rfl | rfl | rfl | rfl | rfl | rfl | rfl | rfl | rfl | rfl <;> rfl)
theorem lq_kl24 (q : Bool × Bool) {k : Nat} (h : k < 10) : alen gb_pG (gb_lq q + 25 + k) = 3 := by
  obtain ⟨a, b⟩ := q
  have hk : k = 0 ∨ k = 1 ∨ k = 2 ∨ k = 3 ∨ k = 4 ∨ k = 5 ∨ k = 6 ∨ k = 7 ∨ k = 8 ∨ k = 9 := by omega
  cases a <;> cases b <;> (rcases hk with rfl | rfl | rfl | rfl | rfl | rfl | rfl | rfl | rfl | rfl <;> rfl)
