/-! each find of a loss of its own -/
def pcb (A : Nat) : Nat := sm (fun l => A / 2 ^ l % 2) 8 0
theorem bcx_pc : ∀ A, A < 256 → bcx (nI A) = nI (pcb A) ∧ pcb A ≤ 8 := by decide +kernel
theorem pcb_or : ∀ A, A < 256 → ∀ l, l < 8 → A.testBit l = false → pcb (A ||| 2 ^ l) = pcb A + 1 := by decide +kernel
theorem or_lt : ∀ A, A < 256 → ∀ l, l < 8 → A.testBit l = false → A < A ||| 2 ^ l ∧ A ||| 2 ^ l < 256 := by decide +kernel
theorem or_and : ∀ A, A < 256 → ∀ l, l < 8 → A.testBit l = false → (A ||| 2 ^ l) &&& (2 ^ l ^^^ 4294967295) = A := by decide +kernel
theorem nb_tb : ∀ c, c < 256 → ∀ t, t < 256 → c &&& (t ^^^ 4294967295) = c &&& (255 - t) ∧ c &&& (255 - t) < 256 := by decide +kernel
theorem nb_bt : ∀ t, t < 256 → ∀ l, l < 8 → (255 - t).testBit l = !t.testBit l := by decide +kernel
