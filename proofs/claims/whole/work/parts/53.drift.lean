/-! drift -/
def qd (s : Nat) (x : Int) : Int := ((s : Int) * x).tdiv 10
theorem qd_m {s : Nat} {x : Int} (hs : s ≤ 10) (h1 : -99 ≤ x) (h2 : x ≤ 99) : -990 ≤ (s : Int) * x ∧ (s : Int) * x ≤ 990 := by
  have h : ((s : Int) * x).natAbs ≤ 10 * 99 := by
    rw [Int.natAbs_mul]
    exact Nat.mul_le_mul (by omega) (by omega)
  omega
theorem qd_b {s : Nat} {x : Int} (hs : s ≤ 10) (h1 : -99 ≤ x) (h2 : x ≤ 99) : -99 ≤ qd s x ∧ qd s x ≤ 99 := by
  have h := qd_m hs h1 h2
  have e : (qd s x).natAbs = ((s : Int) * x).natAbs / 10 := Int.natAbs_tdiv _ _
  omega
theorem qd_I {s : Nat} {x : Int} (hs : s ≤ 10) (h1 : -99 ≤ x) (h2 : x ≤ 99) : nI s * zI x / 10 = zI (qd s x) := by
  have hm := qd_m hs h1 h2
  have hb := qd_b hs h1 h2
  apply Int32.toInt_inj.mp
  rw [Int32.toInt_div_of_ne_right _ _ (by decide), zI_nI, zI_mul, zI_toInt (by omega) (by omega), zI_toInt (by omega) (by omega)]
  rfl
theorem qd_0 (s : Nat) : qd s 0 = 0 := by unfold qd; rw [Int.mul_zero]; rfl
def tX (N : Nat → Nat) (D : Nat → Nat → Int) (r h : Nat) : Int := if N 1 = 0 then 0 else D r (h % N 1)
def bls (D : Nat → Nat → Int) (h k : Nat) : Option Nat → Option Nat
  | none => if D 2 k ≤ (h : Int) then some k else none
  | some f => if D 2 k ≤ (h : Int) ∧ D 2 f ≤ D 2 k then some k else some f
def bl (D : Nat → Nat → Int) (h : Nat) : Nat → Nat → Option Nat → Option Nat
  | 0, _, a => a
  | d + 1, k, a => bl D h d (k + 1) (bls D h k a)
def wX (N : Nat → Nat) (D : Nat → Nat → Int) (r h : Nat) : Int := match bl D h (N 2) 0 none with
  | none => 0
  | some f => D r f
/-- the wind of an hour: the latest, of these the last -/
def isW (N : Nat → Nat) (D : Nat → Nat → Int) (h f : Nat) : Prop := f < N 2 ∧ D 2 f ≤ (h : Int) ∧ ∀ k, k < N 2 → D 2 k ≤ (h : Int) → D 2 k < D 2 f ∨ (D 2 k = D 2 f ∧ k ≤ f)
theorem bl_ok {D : Nat → Nat → Int} {h n : Nat} : ∀ d k a, d + k = n → (a = none → ∀ j, j < k → ¬ D 2 j ≤ (h : Int)) → (∀ f, a = some f → f < k ∧ D 2 f ≤ (h : Int) ∧ ∀ j, j < k → D 2 j ≤ (h : Int) → D 2 j < D 2 f ∨ (D 2 j = D 2 f ∧ j ≤ f)) →
    (bl D h d k a = none → ∀ j, j < n → ¬ D 2 j ≤ (h : Int)) ∧ ∀ f, bl D h d k a = some f → f < n ∧ D 2 f ≤ (h : Int) ∧ ∀ j, j < n → D 2 j ≤ (h : Int) → D 2 j < D 2 f ∨ (D 2 j = D 2 f ∧ j ≤ f)
  | 0, k, a, e, h1, h2 => by
    have : k = n := by omega
    subst this
    exact ⟨h1, h2⟩
  | d + 1, k, a, e, h1, h2 => by
    rw [bl]
    refine bl_ok d (k + 1) _ (by omega) ?_ ?_
    · intro hn j hj
      cases a with
      | none =>
        dsimp only [bls] at hn
        split at hn
        · cases hn
        · rename_i hk
          by_cases ej : j = k
          · subst ej; exact hk
          · exact h1 rfl j (by omega)
      | some f =>
        dsimp only [bls] at hn
        split at hn <;> cases hn
    · intro f hf
      cases a with
      | none =>
        dsimp only [bls] at hf
        split at hf
        · rename_i hk
          cases hf
          refine ⟨by omega, hk, fun j hj hjh => ?_⟩
          by_cases ej : j = k
          · subst ej; exact Or.inr ⟨rfl, Nat.le_refl _⟩
          · exact absurd hjh (h1 rfl j (by omega))
        · cases hf
      | some f0 =>
        obtain ⟨b1, b2, b3⟩ := h2 f0 rfl
        dsimp only [bls] at hf
        split at hf
        · rename_i hk
          cases hf
          refine ⟨by omega, hk.1, fun j hj hjh => ?_⟩
          by_cases ej : j = k
          · subst ej; exact Or.inr ⟨rfl, Nat.le_refl _⟩
          · have := b3 j (by omega) hjh
            rcases this with x | x
            · rcases Int.lt_or_le (D 2 j) (D 2 k) with y | y
              · exact Or.inl y
              · omega
            · rcases Int.lt_or_le (D 2 j) (D 2 k) with y | y
              · exact Or.inl y
              · exact Or.inr ⟨by omega, by omega⟩
        · rename_i hk
          cases hf
          refine ⟨by omega, b2, fun j hj hjh => ?_⟩
          by_cases ej : j = k
          · subst ej
            rcases Int.lt_or_le (D 2 j) (D 2 f) with y | y
            · exact Or.inl y
            · exact absurd ⟨hjh, y⟩ hk
          · exact b3 j (by omega) hjh
theorem wX_none {N : Nat → Nat} {D : Nat → Nat → Int} {r h : Nat} (hn : ∀ k, k < N 2 → ¬ D 2 k ≤ (h : Int)) : wX N D r h = 0 := by
  obtain ⟨-, b⟩ := bl_ok (D := D) (h := h) (n := N 2) (N 2) 0 none (by omega) (fun _ j hj => by omega) (fun f hf => by cases hf)
  unfold wX
  cases e : bl D h (N 2) 0 none with
  | none => rfl
  | some f =>
    obtain ⟨c1, c2, -⟩ := b f e
    exact absurd c2 (hn f c1)
theorem wX_some {N : Nat → Nat} {D : Nat → Nat → Int} {r h f : Nat} (hf : isW N D h f) : wX N D r h = D r f := by
  obtain ⟨a, b⟩ := bl_ok (D := D) (h := h) (n := N 2) (N 2) 0 none (by omega) (fun _ j hj => by omega) (fun f hf => by cases hf)
  obtain ⟨f1, f2, f3⟩ := hf
  unfold wX
  cases e : bl D h (N 2) 0 none with
  | none => exact absurd f2 (a e f f1)
  | some f' =>
    obtain ⟨c1, c2, c3⟩ := b f' e
    have x := f3 f' c1 c2
    have y := c3 f f1 f2
    have : f' = f := by omega
    rw [this]
theorem wX_b {N : Nat → Nat} {D : Nat → Nat → Int} (ho : oB N D) {r h : Nat} (hr : r = 3 ∨ r = 4) : -99 ≤ wX N D r h ∧ wX N D r h ≤ 99 := by
  obtain ⟨a, b⟩ := bl_ok (D := D) (h := h) (n := N 2) (N 2) 0 none (by omega) (fun _ j hj => by omega) (fun f hf => by cases hf)
  unfold wX
  cases e : bl D h (N 2) 0 none with
  | none => show (-99 : Int) ≤ 0 ∧ (0 : Int) ≤ 99; exact ⟨by decide, by decide⟩
  | some f =>
    have := ho.2.2.1 f (b f e).1
    rcases hr with rfl | rfl
    · exact this.2.1
    · exact this.2.2
theorem tX_b {N : Nat → Nat} {D : Nat → Nat → Int} (ho : oB N D) {r h : Nat} (hr : r < 2) : -9 ≤ tX N D r h ∧ tX N D r h ≤ 9 := by
  unfold tX
  split
  · exact ⟨by decide, by decide⟩
  · have := ho.2.1 (h % N 1) (Nat.mod_lt _ (by omega))
    have hr' : r = 0 ∨ r = 1 := by omega
    rcases hr' with rfl | rfl
    · exact this.1
    · exact this.2
def sx (N : Nat → Nat) (D : Nat → Nat → Int) (s r h : Nat) : Int := tX N D r h + qd s (wX N D (3 + r) h)
theorem sx_b {N : Nat → Nat} {D : Nat → Nat → Int} (ho : oB N D) {s r h : Nat} (hs : s ≤ 10) (hr : r < 2) : -108 ≤ sx N D s r h ∧ sx N D s r h ≤ 108 := by
  have h1 := tX_b ho (r := r) (h := h) hr
  have h2 := wX_b ho (r := 3 + r) (h := h) (by omega)
  have h3 := qd_b hs h2.1 h2.2
  unfold sx
  omega
def dr (N : Nat → Nat) (D : Nat → Nat → Int) (s : Nat) : Nat → Nat → Int → Int → Option (Nat × Nat)
  | 0, _, _, _ => none
  | d + 1, h, x, y => if x + sx N D s 0 h < 0 ∨ (10 * N 0 : Int) - 1 < x + sx N D s 0 h ∨ 99 < y + sx N D s 1 h then none else
    if y + sx N D s 1 h ≤ 0 then some ((x + sx N D s 0 h).toNat / 10, h + 1) else dr N D s d (h + 1) (x + sx N D s 0 h) (y + sx N D s 1 h)
/-- ashore on the beach, by hour 999 -/
theorem dr_b {N : Nat → Nat} {D : Nat → Nat → Int} {s : Nat} : ∀ {d h : Nat} {x y : Int} {c t : Nat}, d + h = 999 → dr N D s d h x y = some (c, t) → c < N 0 ∧ t ≤ 999
  | 0, _, _, _, _, _, _, e => by cases e
  | d + 1, h, x, y, c, t, eh, e => by
    rw [dr] at e
    split at e
    · cases e
    · rename_i h1
      split at e
      · cases e
        omega
      · exact dr_b (by omega) e
/-! where the last one let go came ashore -/
def ld (I : Nat → Nat → Int32) (c t : Int32) : Nat → Nat → Int32 := fun x => if x = 3 then (fun k => if k = 0 then c else if k = 1 then t else I 3 k) else I x
theorem ld_0 (I : Nat → Nat → Int32) (c t : Int32) : ld I c t 3 0 = c := rfl
theorem ld_1 (I : Nat → Nat → Int32) (c t : Int32) : ld I c t 3 1 = t := rfl
theorem ld_n {I : Nat → Nat → Int32} {c t : Int32} {x : Nat} (h : x ≠ 3) : ld I c t x = I x := if_neg h
theorem up_ld0 (I : Nat → Nat → Int32) (c t w : Int32) : up (ld I c t) 3 0 w = ld I w t := by
  funext x k
  unfold up ld
  by_cases h : x = 3
  · subst h
    simp only [if_true, upd_at]
    by_cases h2 : k = 0 <;> simp [h2]
  · simp [h]
theorem up_ld1 (I : Nat → Nat → Int32) (c t w : Int32) : up (ld I c t) 3 1 w = ld I c w := by
  funext x k
  unfold up ld
  by_cases h : x = 3
  · subst h
    simp only [if_true, upd_at]
    by_cases h2 : k = 1 <;> simp [h2]
  · simp [h]
theorem up_ld {I : Nat → Nat → Int32} {c t w : Int32} {a k : Nat} (h : a ≠ 3) : up (ld I c t) a k w = ld (up I a k w) c t := by
  funext x j
  unfold up ld
  by_cases h1 : x = 3
  · subst h1
    simp [Ne.symm h]
  · by_cases h2 : x = a
    · subst h2; simp [h1]
    · simp [h1, h2]
theorem ld_ld (I : Nat → Nat → Int32) (p v p' v' : Int32) : ld (ld I p v) p' v' = ld I p' v' := by
  funext x j
  unfold ld
  by_cases h1 : x = 3
  · subst h1
    simp only [if_true]
    by_cases h2 : j = 0 <;> by_cases h3 : j = 1 <;> simp [h2, h3]
  · simp [h1]
theorem ld_id (I : Nat → Nat → Int32) : ld I (I 3 0) (I 3 1) = I := by
  funext x k
  unfold ld
  by_cases h : x = 3
  · subst h
    rw [if_pos rfl]
    by_cases h2 : k = 0
    · subst h2; rfl
    · by_cases h3 : k = 1
      · subst h3; rfl
      · rw [if_neg h2, if_neg h3]
  · rw [if_neg h]
def rC : Option (Nat × Nat) → Int32
  | none => -1
  | some (c, _) => nI c
def rT : Option (Nat × Nat) → Int32
  | none => -1
  | some (_, t) => nI t
