def eI : List cOp → Nat → Nat → Int32
  | [], _, _ => 0
  | o :: l, x, y => (match o.1 with
    | 0 => if x = o.2.1 ∧ y = o.2.2.1 then o.2.2.2.2 else eI l x y
    | 1 => eI l x y
    | 2 => if x = o.2.1 then 0 else eI l x y
    | _ => if o.2.1 ≤ x ∧ x ≤ o.2.1 + o.2.2.1 then 0 else eI l x y)
def eR : List cOp → Nat → Nat → Option Nat
  | [], _, _ => none
  | o :: l, x, y => (match o.1 with
    | 0 => eR l x y
    | 1 => if x = o.2.1 ∧ y = o.2.2.1 then some o.2.2.2.1 else eR l x y
    | 2 => if x = o.2.1 then none else eR l x y
    | _ => if x = o.2.1 then (if y < o.2.2.1 then some (o.2.1 + 1 + y) else none) else if o.2.1 ≤ x ∧ x ≤ o.2.1 + o.2.2.1 then none else eR l x y)
theorem ap_eI (L : Nat) (xs : Nat → Int32) : ∀ (l : List cOp) (x y : Nat), (ap l (gb_g0 L xs)).1 x y = eI l x y
  | [], x, y => rfl
  | (0, a, k, u, v) :: l, x, y => by
    have ih := ap_eI L xs l x y
    show (if x = a ∧ y = k then v else (ap l (gb_g0 L xs)).1 x y) = (if x = a ∧ y = k then v else eI l x y)
    rw [ih]
  | (1, a, k, u, v) :: l, x, y => ap_eI L xs l x y
  | (2, a, k, u, v) :: l, x, y => by
    have ih := ap_eI L xs l x y
    show (if x = a then 0 else (ap l (gb_g0 L xs)).1 x y) = (if x = a then 0 else eI l x y)
    rw [ih]
  | (n + 3, a, k, u, v) :: l, x, y => by
    have ih := ap_eI L xs l x y
    show (if a ≤ x ∧ x ≤ a + k then 0 else (ap l (gb_g0 L xs)).1 x y) = (if a ≤ x ∧ x ≤ a + k then 0 else eI l x y)
    rw [ih]
theorem ap_eJ (L : Nat) (xs : Nat → Int32) : ∀ (l : List cOp) (x y : Nat), (ap l (gb_g0 L xs)).2.1 x y = 0
  | [], x, y => rfl
  | (0, a, k, u, v) :: l, x, y => ap_eJ L xs l x y
  | (1, a, k, u, v) :: l, x, y => ap_eJ L xs l x y
  | (2, a, k, u, v) :: l, x, y => by
    have ih := ap_eJ L xs l x y
    show (if x = a then 0 else (ap l (gb_g0 L xs)).2.1 x y) = 0
    rw [ih, ite_self]
  | (n + 3, a, k, u, v) :: l, x, y => by
    have ih := ap_eJ L xs l x y
    show (if a ≤ x ∧ x ≤ a + k then 0 else (ap l (gb_g0 L xs)).2.1 x y) = 0
    rw [ih, ite_self]
theorem ap_eR (L : Nat) (xs : Nat → Int32) : ∀ (l : List cOp) (x y : Nat), (ap l (gb_g0 L xs)).2.2.1 x y = eR l x y
  | [], x, y => rfl
  | (0, a, k, u, v) :: l, x, y => ap_eR L xs l x y
  | (1, a, k, u, v) :: l, x, y => by
    have ih := ap_eR L xs l x y
    show (if x = a ∧ y = k then some u else (ap l (gb_g0 L xs)).2.2.1 x y) = (if x = a ∧ y = k then some u else eR l x y)
    rw [ih]
  | (2, a, k, u, v) :: l, x, y => by
    have ih := ap_eR L xs l x y
    show (if x = a then none else (ap l (gb_g0 L xs)).2.2.1 x y) = (if x = a then none else eR l x y)
    rw [ih]
  | (n + 3, a, k, u, v) :: l, x, y => by
    have ih := ap_eR L xs l x y
    show (if x = a then (if y < k then some (a + 1 + y) else none) else if a ≤ x ∧ x ≤ a + k then none else (ap l (gb_g0 L xs)).2.2.1 x y) = (if x = a then (if y < k then some (a + 1 + y) else none) else if a ≤ x ∧ x ≤ a + k then none else eR l x y)
    rw [ih]
theorem ap_eX (L : Nat) (xs : Nat → Int32) : ∀ (l : List cOp), (ap l (gb_g0 L xs)).2.2.2 = (L, xs)
  | [] => rfl
  | (0, a, k, u, v) :: l => ap_eX L xs l
  | (1, a, k, u, v) :: l => ap_eX L xs l
  | (2, a, k, u, v) :: l => ap_eX L xs l
  | (n + 3, a, k, u, v) :: l => ap_eX L xs l
theorem eI_off {x y : Nat} : ∀ (l : List cOp), (∀ o, o ∈ l → o.1 = 0 → ¬ (x = o.2.1 ∧ y = o.2.2.1)) → eI l x y = 0
  | [], _ => rfl
  | (0, a, k, u, v) :: l, h => by
    have ih := eI_off l (fun o ho => h o (List.mem_cons_of_mem _ ho))
    have h0 : ¬ (x = a ∧ y = k) := h (0, a, k, u, v) (List.mem_cons_self ..) rfl
    show (if x = a ∧ y = k then v else eI l x y) = 0
    rw [ih, if_neg h0]
  | (1, a, k, u, v) :: l, h => eI_off l (fun o ho => h o (List.mem_cons_of_mem _ ho))
  | (2, a, k, u, v) :: l, h => by
    have ih := eI_off l (fun o ho => h o (List.mem_cons_of_mem _ ho))
    show (if x = a then 0 else eI l x y) = 0
    rw [ih, ite_self]
  | (n + 3, a, k, u, v) :: l, h => by
    have ih := eI_off l (fun o ho => h o (List.mem_cons_of_mem _ ho))
    show (if a ≤ x ∧ x ≤ a + k then 0 else eI l x y) = 0
    rw [ih, ite_self]
theorem eR_off {x y : Nat} : ∀ (l : List cOp), (∀ o, o ∈ l → o.1 = 0 ∨ o.1 = 2 ∨ (x = o.2.1 → o.2.2.1 < y)) → eR l x y = none
  | [], _ => rfl
  | (0, a, k, u, v) :: l, h => eR_off l (fun o ho => h o (List.mem_cons_of_mem _ ho))
  | (1, a, k, u, v) :: l, h => by
    have ih := eR_off l (fun o ho => h o (List.mem_cons_of_mem _ ho))
    have h0 : (1 = 0 ∨ 1 = 2 ∨ (x = a → k < y)) := h (1, a, k, u, v) (List.mem_cons_self ..)
    show (if x = a ∧ y = k then some u else eR l x y) = none
    rw [ih, if_neg (by omega)]
  | (2, a, k, u, v) :: l, h => by
    have ih := eR_off l (fun o ho => h o (List.mem_cons_of_mem _ ho))
    show (if x = a then none else eR l x y) = none
    rw [ih, ite_self]
  | (n + 3, a, k, u, v) :: l, h => by
    have ih := eR_off l (fun o ho => h o (List.mem_cons_of_mem _ ho))
    have h0 : (n + 3 = 0 ∨ n + 3 = 2 ∨ (x = a → k < y)) := h (n + 3, a, k, u, v) (List.mem_cons_self ..)
    show (if x = a then (if y < k then some (a + 1 + y) else none) else if a ≤ x ∧ x ≤ a + k then none else eR l x y) = none
    by_cases c : x = a
    · rw [if_pos c, if_neg (by omega)]
    · rw [if_neg c, ih, ite_self]
def i0 (x y : Nat) : Int32 := if x = 3 ∧ y < 2 then -1 else if (x = 80 ∨ x = 97) ∧ y = 1 then 8 else if 72 ≤ x ∧ x ≤ 77 ∧ y = 0 then 255 else if (x = 78 ∨ x = 213) ∧ y < 6 then 1 else if x = 192 ∧ y < 2 then 8 else 0
theorem i0_b {x y : Nat} (h : i0 x y ≠ 0) : x < 220 ∧ y < 8 := by
  unfold i0 at h
  by_cases c1 : x = 3 ∧ y < 2
  · omega
  · rw [if_neg c1] at h
    by_cases c2 : (x = 80 ∨ x = 97) ∧ y = 1
    · omega
    · rw [if_neg c2] at h
      by_cases c3 : 72 ≤ x ∧ x ≤ 77 ∧ y = 0
      · omega
      · rw [if_neg c3] at h
        by_cases c4 : (x = 78 ∨ x = 213) ∧ y < 6
        · omega
        · rw [if_neg c4] at h
          by_cases c5 : x = 192 ∧ y < 2
          · omega
          · rw [if_neg c5] at h
            exact absurd rfl h
def kI : List (Nat × Nat) := (cz_log.filter (fun o => o.1 == 0)).map (fun o => (o.2.1, o.2.2.1))
theorem kI_1 : ∀ e, e ∈ kI → eI cz_log e.1 e.2 = i0 e.1 e.2 := by decide +kernel
theorem kI_2 : ∀ x, x < 220 → ∀ y, y < 8 → i0 x y = 0 ∨ (x, y) ∈ kI := by decide +kernel
theorem eI_log (x y : Nat) : eI cz_log x y = i0 x y := by
  by_cases c : (x, y) ∈ kI
  · exact kI_1 _ c
  · rw [eI_off cz_log (fun o ho h0 => fun hh => c (by
      rw [hh.1, hh.2]
      exact List.mem_map.mpr ⟨o, List.mem_filter.mpr ⟨ho, by simp [h0]⟩, rfl⟩))]
    by_cases d : i0 x y = 0
    · exact d.symm
    · obtain ⟨d1, d2⟩ := i0_b d
      rcases kI_2 x d1 y d2 with h | h
      · exact absurd h d
      · exact absurd h c
def kX : List Nat := [0, 1, 3, 5, 14, 23, 36, 39, 40, 48, 58, 63, 64, 71, 80, 82, 97, 99, 114, 116, 127, 138, 152, 154, 165, 176, 190]
theorem kX_1 : ∀ o, o ∈ cz_log → o.1 = 0 ∨ o.1 = 2 ∨ (o.2.1 ∈ kX ∧ o.2.2.1 < 36) := by decide +kernel
theorem kX_2 : ∀ e, e ∈ gb_Rl → e.1 ∈ kX ∧ e.2.1 < 36 := by decide +kernel
theorem kX_3 : ∀ e, e ∈ gb_Rm → e.1 ∈ kX ∧ e.2.1 < 36 := by decide +kernel
theorem kX_4 : ∀ x, x ∈ kX → ∀ y, y < 36 → eR cz_log x y = gb_Rw (false, false) x y := by decide +kernel
theorem rw_off {x y : Nat} (h : ¬ (x ∈ kX ∧ y < 36)) : gb_Rw (false, false) x y = none := by
  have h00 : (0 : Nat) ∈ kX := by decide
  have z : ∀ k, k < 36 → ¬ (x = 0 ∧ y = k) := fun k hk hh => h ⟨by rw [hh.1]; exact h00, by omega⟩
  unfold gb_Rw
  rw [if_neg (z 6 (by omega)), if_neg (z 7 (by omega)), if_neg (z 8 (by omega)), if_neg (z 9 (by omega))]
  cases e1 : gb_Rm.find? (fun e => e.1 == x) with
  | some e =>
    have m1 := kX_3 e (List.mem_of_find?_eq_some e1)
    have m2 : e.1 = x := by simpa using List.find?_some e1
    dsimp only
    rw [if_neg]
    intro hy
    exact h ⟨by rw [← m2]; exact m1.1, by omega⟩
  | none =>
    dsimp only
    cases e2 : gb_Rl.find? (fun e => e.1 == x && e.2.1 == y) with
    | some e =>
      have m1 := kX_2 e (List.mem_of_find?_eq_some e2)
      have m2 : e.1 = x ∧ e.2.1 = y := by simpa using List.find?_some e2
      exact absurd ⟨by rw [← m2.1]; exact m1.1, by rw [← m2.2]; exact m1.2⟩ h
    | none => rfl
theorem eR_log (x y : Nat) : eR cz_log x y = gb_Rw (false, false) x y := by
  by_cases c : x ∈ kX ∧ y < 36
  · exact kX_4 x c.1 y c.2
  · rw [rw_off c]
    exact eR_off cz_log (fun o ho => by
      rcases kX_1 o ho with h | h | h
      · exact Or.inl h
      · exact Or.inr (Or.inl h)
      · refine Or.inr (Or.inr fun hx => ?_)
        have h1 : x ∈ kX := by rw [hx]; exact h.1
        have h2 := h.2
        have h3 : ¬ y < 36 := fun hy => c ⟨h1, hy⟩
        omega)
theorem st_log (L : Nat) (xs : Nat → Int32) : ap cz_log (gb_g0 L xs) = gS i0 (fun _ _ => 0) (false, false) (L, xs) := by
  have e1 : (ap cz_log (gb_g0 L xs)).1 = i0 := funext fun x => funext fun y => (ap_eI L xs cz_log x y).trans (eI_log x y)
  have e2 : (ap cz_log (gb_g0 L xs)).2.1 = fun _ _ => 0 := funext fun x => funext fun y => ap_eJ L xs cz_log x y
  have e3 : (ap cz_log (gb_g0 L xs)).2.2.1 = gb_Rw (false, false) := funext fun x => funext fun y => (ap_eR L xs cz_log x y).trans (eR_log x y)
  have e4 := ap_eX L xs cz_log
  revert e1 e2 e3 e4
  generalize ap cz_log (gb_g0 L xs) = g
  obtain ⟨a, b, c, d⟩ := g
  intro e1 e2 e3 e4
  dsimp only at e1 e2 e3 e4
  rw [e1, e2, e3, e4]
  rfl
