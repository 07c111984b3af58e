/-! the first best of several -/
def cmb (s x : Option (Nat × Nat × Nat × Nat)) : Option (Nat × Nat × Nat × Nat) := match x with
  | none => s
  | some x => match s with
    | none => some x
    | some s => if s.1 < x.1 then some x else some s
theorem cmb_n (s : Option (Nat × Nat × Nat × Nat)) : cmb s none = s := rfl
theorem cmb_0 (x : Option (Nat × Nat × Nat × Nat)) : cmb none x = x := by cases x <;> rfl
theorem cmb_s (s x : Nat × Nat × Nat × Nat) : cmb (some s) (some x) = if s.1 < x.1 then some x else some s := rfl
theorem cmb_a (s x y : Option (Nat × Nat × Nat × Nat)) : cmb (cmb s x) y = cmb s (cmb x y) := by
  cases y with
  | none => rfl
  | some y =>
    cases x with
    | none => rw [cmb_n, cmb_0]
    | some x =>
      cases s with
      | none => rw [cmb_0, cmb_0]
      | some s =>
        rw [cmb_s, cmb_s]
        by_cases c1 : s.1 < x.1
        · rw [if_pos c1, cmb_s]
          by_cases c2 : x.1 < y.1
          · rw [if_pos c2, cmb_s, if_pos (by omega)]
          · rw [if_neg c2, cmb_s, if_pos c1]
        · rw [if_neg c1, cmb_s]
          by_cases c2 : x.1 < y.1
          · rw [if_pos c2, cmb_s]
          · rw [if_neg c2, if_neg (by omega), cmb_s, if_neg c1]
def co (g : Nat → Option (Nat × Nat × Nat × Nat)) : Nat → Nat → Option (Nat × Nat × Nat × Nat)
  | 0, _ => none
  | d + 1, i => cmb (g i) (co g d (i + 1))
theorem co_1 (g : Nat → Option (Nat × Nat × Nat × Nat)) (i : Nat) : co g 1 i = g i := rfl
theorem co_congr {g h : Nat → Option (Nat × Nat × Nat × Nat)} : ∀ {d i : Nat}, (∀ j, i ≤ j → j < i + d → g j = h j) → co g d i = co h d i
  | 0, _, _ => rfl
  | d + 1, i, e => by
    rw [co, co, e i (by omega) (by omega), co_congr (g := g) (h := h) (d := d) (i := i + 1) (fun j h1 h2 => e j (by omega) (by omega))]
theorem cmb_map {φ : Nat × Nat × Nat × Nat → Nat × Nat × Nat × Nat} (hφ : ∀ x y, (φ x).1 < (φ y).1 ↔ x.1 < y.1) (s x : Option (Nat × Nat × Nat × Nat)) : cmb (s.map φ) (x.map φ) = (cmb s x).map φ := by
  cases x with
  | none => rfl
  | some x =>
    cases s with
    | none => rfl
    | some s =>
      show cmb (some (φ s)) (some (φ x)) = _
      rw [cmb_s, cmb_s]
      by_cases c : s.1 < x.1
      · rw [if_pos c, if_pos ((hφ s x).mpr c)]; rfl
      · rw [if_neg c, if_neg (fun h => c ((hφ s x).mp h))]; rfl
theorem co_map {φ : Nat × Nat × Nat × Nat → Nat × Nat × Nat × Nat} (hφ : ∀ x y, (φ x).1 < (φ y).1 ↔ x.1 < y.1) (g : Nat → Option (Nat × Nat × Nat × Nat)) : ∀ d i, co (fun j => (g j).map φ) d i = (co g d i).map φ
  | 0, _ => rfl
  | d + 1, i => by rw [co, co, co_map hφ g d (i + 1), cmb_map hφ]
/-- the value, -1 for none -/
def ov : Option (Nat × Nat × Nat × Nat) → Int
  | none => -1
  | some x => (x.1 : Int)
theorem ov_cmb (s x : Option (Nat × Nat × Nat × Nat)) : ov (cmb s x) = if ov s < ov x then ov x else ov s := by
  cases x with
  | none =>
    cases s with
    | none => rfl
    | some s =>
      show (s.1 : Int) = if (s.1 : Int) < -1 then -1 else (s.1 : Int)
      rw [if_neg (by omega)]
  | some x =>
    cases s with
    | none =>
      show (x.1 : Int) = if (-1 : Int) < (x.1 : Int) then (x.1 : Int) else -1
      rw [if_pos (by omega)]
    | some s =>
      show ov (if s.1 < x.1 then some x else some s) = if (s.1 : Int) < (x.1 : Int) then (x.1 : Int) else (s.1 : Int)
      by_cases c : s.1 < x.1
      · rw [if_pos c, if_pos (by omega)]; rfl
      · rw [if_neg c, if_neg (by omega)]; rfl
/-- the first of the greatest -/
theorem co_first {g : Nat → Option (Nat × Nat × Nat × Nat)} : ∀ {d i : Nat} {x : Nat × Nat × Nat × Nat}, co g d i = some x → ∃ a, i ≤ a ∧ a < i + d ∧ g a = some x ∧ (∀ j, i ≤ j → j < a → ov (g j) < ov (some x)) ∧ ∀ j, i ≤ j → j < i + d → ov (g j) ≤ ov (some x)
  | 0, _, _, h => by cases h
  | d + 1, i, x, h => by
    rw [co] at h
    cases hr : co g d (i + 1) with
    | none =>
      rw [hr, cmb_n] at h
      have hn : ∀ j, i + 1 ≤ j → j < i + 1 + d → ov (g j) ≤ -1 := by
        have key : ∀ d i, co g d i = none → ∀ j, i ≤ j → j < i + d → g j = none := by
          intro d
          induction d with
          | zero => intro i _ j h1 h2; omega
          | succ d ih =>
            intro i h j h1 h2
            rw [co] at h
            cases hx : co g d (i + 1) with
            | some y =>
              rw [hx] at h
              cases hg : g i with
              | none => rw [hg, cmb_0] at h; cases h
              | some z =>
                rw [hg, cmb_s] at h
                split at h <;> cases h
            | none =>
              rw [hx, cmb_n] at h
              by_cases e : j = i
              · rw [e]; exact h
              · exact ih (i + 1) hx j (by omega) (by omega)
        intro j h1 h2
        rw [key d (i + 1) hr j h1 h2]
        exact Int.le_refl _
      refine ⟨i, Nat.le_refl _, by omega, h, fun j h1 h2 => by omega, fun j h1 h2 => ?_⟩
      by_cases e : j = i
      · rw [e, h]; exact Int.le_refl _
      · have := hn j (by omega) (by omega)
        have : (0 : Int) ≤ ov (some x) := Int.natCast_nonneg _
        omega
    | some y =>
      obtain ⟨a, a1, a2, a3, a4, a5⟩ := co_first hr
      rw [hr] at h
      cases hg : g i with
      | none =>
        rw [hg, cmb_0] at h
        cases h
        refine ⟨a, by omega, by omega, a3, fun j h1 h2 => ?_, fun j h1 h2 => ?_⟩
        · by_cases e : j = i
          · rw [e, hg]
            have : (0 : Int) ≤ ov (some x) := Int.natCast_nonneg _
            show (-1 : Int) < _
            omega
          · exact a4 j (by omega) h2
        · by_cases e : j = i
          · rw [e, hg]
            have : (0 : Int) ≤ ov (some x) := Int.natCast_nonneg _
            show (-1 : Int) ≤ _
            omega
          · exact a5 j (by omega) (by omega)
      | some z =>
        rw [hg, cmb_s] at h
        by_cases c : z.1 < y.1
        · rw [if_pos c] at h
          cases h
          refine ⟨a, by omega, by omega, a3, fun j h1 h2 => ?_, fun j h1 h2 => ?_⟩
          · by_cases e : j = i
            · rw [e, hg]
              show (z.1 : Int) < (x.1 : Int)
              omega
            · exact a4 j (by omega) h2
          · by_cases e : j = i
            · rw [e, hg]
              show (z.1 : Int) ≤ (x.1 : Int)
              omega
            · exact a5 j (by omega) (by omega)
        · rw [if_neg c] at h
          cases h
          refine ⟨i, Nat.le_refl _, by omega, hg, fun j h1 h2 => by omega, fun j h1 h2 => ?_⟩
          by_cases e : j = i
          · rw [e, hg]; exact Int.le_refl _
          · have := a5 j (by omega) (by omega)
            have : ov (some y) ≤ ov (some x) := by show (y.1 : Int) ≤ (x.1 : Int); omega
            omega
/-- the best w walks of n cells from cell p on, the last beginning at L or before -/
def bwk (f : Nat → Nat) (n L : Nat) : Nat → Nat → Option (Nat × Nat × Nat × Nat)
  | 0, _ => some (0, 0, 0, 0)
  | w + 1, p => co (fun a => (bwk f n L w (a + n)).map (fun x => (f a + x.1, a, x.2.1, x.2.2.1))) (L + 1 - p) p
def bwg (f : Nat → Nat) (n L w a : Nat) : Option (Nat × Nat × Nat × Nat) := (bwk f n L w (a + n)).map (fun x => (f a + x.1, a, x.2.1, x.2.2.1))
theorem bwk_s {f : Nat → Nat} {n L w p : Nat} (h : p ≤ L) : bwk f n L (w + 1) p = cmb (bwg f n L w p) (bwk f n L (w + 1) (p + 1)) := by
  show co (bwg f n L w) (L + 1 - p) p = cmb _ (co (bwg f n L w) (L + 1 - (p + 1)) (p + 1))
  rw [show L + 1 - p = (L + 1 - (p + 1)) + 1 by omega]
  rfl
theorem bwk_n {f : Nat → Nat} {n L w p : Nat} (h : L < p) : bwk f n L (w + 1) p = none := by
  show co (bwg f n L w) (L + 1 - p) p = none
  rw [show L + 1 - p = 0 by omega]
  rfl
theorem bwk_some {f : Nat → Nat} {n L : Nat} : ∀ w p, p + n * w ≤ L + n → (w = 0 ∨ p ≤ L) → ∃ x, bwk f n L w p = some x
  | 0, p, _, _ => ⟨_, rfl⟩
  | w + 1, p, h, h2 => by
    rw [Nat.mul_succ] at h
    rw [bwk_s (by omega)]
    obtain ⟨x, hx⟩ := bwk_some (f := f) (n := n) (L := L) w (p + n) (by omega) (by
      cases w with
      | zero => exact Or.inl rfl
      | succ w => rw [Nat.mul_succ] at h; exact Or.inr (by omega))
    unfold bwg
    rw [hx]
    generalize bwk f n L (w + 1) (p + 1) = y
    cases y with
    | none => exact ⟨_, rfl⟩
    | some y =>
      show ∃ x, cmb (some _) (some y) = some x
      rw [cmb_s]
      split
      · exact ⟨_, rfl⟩
      · exact ⟨_, rfl⟩
theorem bwk_none {f : Nat → Nat} {n L : Nat} (hn : 1 ≤ n) : ∀ w p, L + n < p + n * w → 1 ≤ w → bwk f n L w p = none
  | 0, p, _, h => by omega
  | w + 1, p, h, _ => by
    have key : ∀ d p, L + 1 = p + d → L + n < p + n * (w + 1) → bwk f n L (w + 1) p = none := by
      intro d
      induction d with
      | zero => intro p e _; exact bwk_n (by omega)
      | succ d ih =>
        intro p e h
        rw [bwk_s (by omega), ih (p + 1) (by omega) (by omega), cmb_n]
        unfold bwg
        rw [Nat.mul_succ] at h
        cases w with
        | zero => omega
        | succ w =>
          rw [bwk_none hn (w + 1) (p + n) (by omega) (by omega)]
          rfl
    by_cases c : L < p
    · exact bwk_n c
    · exact key (L + 1 - p) p (by omega) h
/-- sums stay small -/
theorem bwk_le {f : Nat → Nat} {n L : Nat} (hf : ∀ j, f j ≤ 900000000000) : ∀ w p x, bwk f n L w p = some x → x.1 ≤ 900000000000 * w
  | 0, p, x, h => by cases h; exact Nat.zero_le _
  | w + 1, p, x, h => by
    obtain ⟨a, -, -, a3, -⟩ := co_first h
    cases hb : bwk f n L w (a + n) with
    | none => rw [hb] at a3; cases a3
    | some y =>
      rw [hb] at a3
      cases a3
      have := bwk_le hf w (a + n) y hb
      have := hf a
      show f a + y.1 ≤ _
      omega
