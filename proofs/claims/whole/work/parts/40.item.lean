/-! the class reads an item of a beach -/
theorem zI_toNat {a : Int} (h : 0 ≤ a) : zI a = nI a.toNat := by rw [zI_nI]; congr 1; omega
theorem adD_r {N : Nat → Nat} {D : Nat → Nat → Int} {c r j : Nat} {z : Nat → Int} (hc : c < 5) (h : r < bas c ∨ bas c + c < r) : adD N D c z r j = D r j := adD_n (by omega)
theorem wsr_fr {I I' : Nat → Nat → Int32} {b : Nat} {N N' : Nat → Nat} {D D' : Nat → Nat → Int} (h : wsr I b N D) (hN : N' 2 = N 2) (hD : ∀ r j, 2 ≤ r → r ≤ 4 → D' r j = D r j) (h4 : I' (b + 2) 4 = I (b + 2) 4) (h5 : I' (b + 5) = I (b + 5)) (h6 : I' (b + 6) = I (b + 6)) (h7 : I' (b + 7) = I (b + 7)) : wsr I' b N' D' := by
  obtain ⟨ns, s, a1, a2, a3, a4, a5⟩ := h
  refine ⟨ns, s, by rw [h4]; exact a1, by rw [hN]; exact a2, fun j hj => ?_, fun i j hij hj => ?_, fun k hk => ?_⟩
  · rw [hN, h5, h6, h7]
    simp only [hD 2 _ (by omega) (by omega), hD 3 _ (by omega) (by omega), hD 4 _ (by omega) (by omega)]
    exact a3 j hj
  · simp only [hD 2 _ (by omega) (by omega)]
    exact a4 i j hij hj
  · simp only [hD 2 _ (by omega) (by omega)]
    exact a5 k (by rw [← hN]; exact hk)
theorem cR_fr {I I' : Nat → Nat → Int32} {b : Nat} {N : Nat → Nat} {D : Nat → Nat → Int} (h : cR I b N D) (hI : ∀ a, a = b ∨ (b + 2 ≤ a ∧ a ≤ b + 16) → I' a = I a) : cR I' b N D := by
  obtain ⟨h1, h2, h3, h4, h5⟩ := h
  have e : ∀ k, 2 ≤ k → k ≤ 16 → I' (b + k) = I (b + k) := fun k k1 k2 => hI _ (Or.inr (by omega))
  refine ⟨by rw [hI b (Or.inl rfl), e 2 (by omega) (by omega)]; exact h1, ?_, wsr_fr h3 rfl (fun _ _ _ _ => rfl) (by rw [e 2 (by omega) (by omega)]) (e 5 (by omega) (by omega)) (e 6 (by omega) (by omega)) (e 7 (by omega) (by omega)), ?_, ?_⟩
  · rw [e 3 (by omega) (by omega), e 4 (by omega) (by omega)]; exact h2
  · rw [e 8 (by omega) (by omega), e 9 (by omega) (by omega), e 10 (by omega) (by omega), e 11 (by omega) (by omega)]; exact h4
  · rw [e 12 (by omega) (by omega), e 13 (by omega) (by omega), e 14 (by omega) (by omega), e 15 (by omega) (by omega), e 16 (by omega) (by omega)]; exact h5
theorem cR_0 {I I' : Nat → Nat → Int32} {b : Nat} {N : Nat → Nat} {D : Nat → Nat → Int} {z : Nat → Int} (h : cR I b N D) (hz : 0 ≤ z 0) (h0 : ∀ k, I' b k = if k = 1 then zI (z 0) else I b k) (hI : ∀ a, b + 2 ≤ a → a ≤ b + 16 → I' a = I a) : cR I' b (adN N 0 z) (adD N D 0 z) := by
  obtain ⟨⟨g1, g2, g3, g4, g5⟩, h2, h3, h4, h5⟩ := h
  have e : ∀ k, 2 ≤ k → k ≤ 16 → I' (b + k) = I (b + k) := fun k k1 k2 => hI _ (by omega) (by omega)
  have ed : ∀ r j, r ≤ 13 → adD N D 0 z r j = D r j := fun r j hr => adD_n (by simp [bas]; omega)
  refine ⟨⟨?_, ?_, ?_, ?_, ?_⟩, fun j hj => ?_, ?_, fun j hj => ?_, fun j hj => ?_⟩
  · rw [h0, if_pos rfl, adN_0, zI_toNat hz]
  · rw [e 2 (by omega) (by omega), adN_n (by omega)]; exact g2
  · rw [e 2 (by omega) (by omega), adN_n (by omega)]; exact g3
  · rw [h0, if_neg (by omega), adN_n (by omega)]; exact g4
  · rw [h0, if_neg (by omega), adN_n (by omega)]; exact g5
  · rw [adN_n (by omega)] at hj
    rw [e 3 (by omega) (by omega), e 4 (by omega) (by omega), ed _ _ (by omega), ed _ _ (by omega)]; exact h2 j hj
  · exact wsr_fr h3 (adN_n (by omega)) (fun r j _ _ => ed r j (by omega)) (by rw [e 2 (by omega) (by omega)]) (e 5 (by omega) (by omega)) (e 6 (by omega) (by omega)) (e 7 (by omega) (by omega))
  · rw [adN_n (by omega)] at hj
    rw [e 8 (by omega) (by omega), e 9 (by omega) (by omega), e 10 (by omega) (by omega), e 11 (by omega) (by omega), ed _ _ (by omega), ed _ _ (by omega), ed _ _ (by omega), ed _ _ (by omega)]; exact h4 j hj
  · rw [adN_n (by omega)] at hj
    rw [e 12 (by omega) (by omega), e 13 (by omega) (by omega), e 14 (by omega) (by omega), e 15 (by omega) (by omega), e 16 (by omega) (by omega), ed _ _ (by omega), ed _ _ (by omega), ed _ _ (by omega), ed _ _ (by omega), ed _ _ (by omega)]; exact h5 j hj
theorem cR_1 {I I' : Nat → Nat → Int32} {b : Nat} {N : Nat → Nat} {D : Nat → Nat → Int} {z : Nat → Int} (h : cR I b N D) (h0 : ∀ k, I' (b + 2) k = if k = 0 then nI (N 1 + 1) else I (b + 2) k) (hx : ∀ j, I' (b + 3) j = if j = N 1 then zI (z 0) else I (b + 3) j) (hy : ∀ j, I' (b + 4) j = if j = N 1 then zI (z 1) else I (b + 4) j) (hb : I' b = I b) (hI : ∀ a, b + 5 ≤ a → a ≤ b + 16 → I' a = I a) : cR I' b (adN N 1 z) (adD N D 1 z) := by
  obtain ⟨⟨g1, g2, g3, g4, g5⟩, h2, h3, h4, h5⟩ := h
  have e : ∀ k, 5 ≤ k → k ≤ 16 → I' (b + k) = I (b + k) := fun k k1 k2 => hI _ (by omega) (by omega)
  have ed : ∀ r j, 2 ≤ r → adD N D 1 z r j = D r j := fun r j hr => adD_n (by simp [bas]; omega)
  refine ⟨⟨?_, ?_, ?_, ?_, ?_⟩, fun j hj => ?_, ?_, fun j hj => ?_, fun j hj => ?_⟩
  · rw [hb, adN_n (by omega)]; exact g1
  · rw [h0, if_pos rfl, adN_c (by omega)]
  · rw [h0, if_neg (by omega), adN_n (by omega)]; exact g3
  · rw [hb, adN_n (by omega)]; exact g4
  · rw [hb, adN_n (by omega)]; exact g5
  · rw [adN_c (by omega)] at hj
    rw [hx, hy]
    by_cases ej : j = N 1
    · subst ej
      rw [if_pos rfl, if_pos rfl, adD_c (by decide) (by decide), adD_c (by decide) (by decide)]
      exact ⟨rfl, rfl⟩
    · rw [if_neg ej, if_neg ej, adD_o ej, adD_o ej]
      exact h2 j (by omega)
  · exact wsr_fr h3 (adN_n (by omega)) (fun r j _ _ => ed r j (by omega)) (by rw [h0, if_neg (by omega)]) (e 5 (by omega) (by omega)) (e 6 (by omega) (by omega)) (e 7 (by omega) (by omega))
  · rw [adN_n (by omega)] at hj
    rw [e 8 (by omega) (by omega), e 9 (by omega) (by omega), e 10 (by omega) (by omega), e 11 (by omega) (by omega), ed _ _ (by omega), ed _ _ (by omega), ed _ _ (by omega), ed _ _ (by omega)]; exact h4 j hj
  · rw [adN_n (by omega)] at hj
    rw [e 12 (by omega) (by omega), e 13 (by omega) (by omega), e 14 (by omega) (by omega), e 15 (by omega) (by omega), e 16 (by omega) (by omega), ed _ _ (by omega), ed _ _ (by omega), ed _ _ (by omega), ed _ _ (by omega), ed _ _ (by omega)]; exact h5 j hj
theorem cR_2 {I I' : Nat → Nat → Int32} {b : Nat} {N : Nat → Nat} {D : Nat → Nat → Int} {z : Nat → Int} (h : cR I b N D) (hw : wsr I' b (adN N 2 z) (adD N D 2 z)) (h0 : I' (b + 2) 3 = nI (N 2 + 1)) (h1 : I' (b + 2) 0 = I (b + 2) 0) (hb : I' b = I b) (hb3 : I' (b + 3) = I (b + 3)) (hb4 : I' (b + 4) = I (b + 4)) (hI : ∀ a, b + 8 ≤ a → a ≤ b + 16 → I' a = I a) : cR I' b (adN N 2 z) (adD N D 2 z) := by
  obtain ⟨⟨g1, g2, g3, g4, g5⟩, h2, h3, h4, h5⟩ := h
  have e : ∀ k, 8 ≤ k → k ≤ 16 → I' (b + k) = I (b + k) := fun k k1 k2 => hI _ (by omega) (by omega)
  have ed : ∀ r j, r < 2 ∨ 5 ≤ r → adD N D 2 z r j = D r j := fun r j hr => adD_n (by simp [bas]; omega)
  refine ⟨⟨?_, ?_, ?_, ?_, ?_⟩, fun j hj => ?_, hw, fun j hj => ?_, fun j hj => ?_⟩
  · rw [hb, adN_n (by omega)]; exact g1
  · rw [h1, adN_n (by omega)]; exact g2
  · rw [h0, adN_c (by omega)]
  · rw [hb, adN_n (by omega)]; exact g4
  · rw [hb, adN_n (by omega)]; exact g5
  · rw [adN_n (by omega)] at hj
    rw [hb3, hb4, ed _ _ (by omega), ed _ _ (by omega)]; exact h2 j hj
  · rw [adN_n (by omega)] at hj
    rw [e 8 (by omega) (by omega), e 9 (by omega) (by omega), e 10 (by omega) (by omega), e 11 (by omega) (by omega), ed _ _ (by omega), ed _ _ (by omega), ed _ _ (by omega), ed _ _ (by omega)]; exact h4 j hj
  · rw [adN_n (by omega)] at hj
    rw [e 12 (by omega) (by omega), e 13 (by omega) (by omega), e 14 (by omega) (by omega), e 15 (by omega) (by omega), e 16 (by omega) (by omega), ed _ _ (by omega), ed _ _ (by omega), ed _ _ (by omega), ed _ _ (by omega), ed _ _ (by omega)]; exact h5 j hj
theorem cR_3 {I I' : Nat → Nat → Int32} {b : Nat} {N : Nat → Nat} {D : Nat → Nat → Int} {z : Nat → Int} (h : cR I b N D) (h0 : ∀ k, I' b k = if k = 3 then nI (N 3 + 1) else I b k) (hx : ∀ r j, r < 4 → I' (b + (8 + r)) j = if j = N 3 then zI (z r) else I (b + (8 + r)) j) (hI : ∀ a, b + 2 ≤ a → a ≤ b + 7 → I' a = I a) (hI2 : ∀ a, b + 12 ≤ a → a ≤ b + 16 → I' a = I a) : cR I' b (adN N 3 z) (adD N D 3 z) := by
  obtain ⟨⟨g1, g2, g3, g4, g5⟩, h2, h3, h4, h5⟩ := h
  have e : ∀ k, 2 ≤ k → k ≤ 7 → I' (b + k) = I (b + k) := fun k k1 k2 => hI _ (by omega) (by omega)
  have e2 : ∀ k, 12 ≤ k → k ≤ 16 → I' (b + k) = I (b + k) := fun k k1 k2 => hI2 _ (by omega) (by omega)
  have ed : ∀ r j, r < 5 ∨ 9 ≤ r → adD N D 3 z r j = D r j := fun r j hr => adD_n (by simp [bas]; omega)
  refine ⟨⟨?_, ?_, ?_, ?_, ?_⟩, fun j hj => ?_, ?_, fun j hj => ?_, fun j hj => ?_⟩
  · rw [h0, if_neg (by omega), adN_n (by omega)]; exact g1
  · rw [e 2 (by omega) (by omega), adN_n (by omega)]; exact g2
  · rw [e 2 (by omega) (by omega), adN_n (by omega)]; exact g3
  · rw [h0, if_pos rfl, adN_c (by omega)]
  · rw [h0, if_neg (by omega), adN_n (by omega)]; exact g5
  · rw [adN_n (by omega)] at hj
    rw [e 3 (by omega) (by omega), e 4 (by omega) (by omega), ed _ _ (by omega), ed _ _ (by omega)]; exact h2 j hj
  · exact wsr_fr h3 (adN_n (by omega)) (fun r j _ _ => ed r j (by omega)) (by rw [e 2 (by omega) (by omega)]) (e 5 (by omega) (by omega)) (e 6 (by omega) (by omega)) (e 7 (by omega) (by omega))
  · rw [adN_c (by omega)] at hj
    rw [show b + 8 = b + (8 + 0) from rfl, show b + 9 = b + (8 + 1) from rfl, show b + 10 = b + (8 + 2) from rfl, show b + 11 = b + (8 + 3) from rfl, hx 0 j (by omega), hx 1 j (by omega), hx 2 j (by omega), hx 3 j (by omega)]
    by_cases ej : j = N 3
    · subst ej
      rw [if_pos rfl, if_pos rfl, if_pos rfl, if_pos rfl, adD_c (by decide) (by decide), adD_c (by decide) (by decide), adD_c (by decide) (by decide), adD_c (by decide) (by decide)]
      exact ⟨rfl, rfl, rfl, rfl⟩
    · rw [if_neg ej, if_neg ej, if_neg ej, if_neg ej, adD_o ej, adD_o ej, adD_o ej, adD_o ej]
      exact h4 j (by omega)
  · rw [adN_n (by omega)] at hj
    rw [e2 12 (by omega) (by omega), e2 13 (by omega) (by omega), e2 14 (by omega) (by omega), e2 15 (by omega) (by omega), e2 16 (by omega) (by omega), ed _ _ (by omega), ed _ _ (by omega), ed _ _ (by omega), ed _ _ (by omega), ed _ _ (by omega)]; exact h5 j hj
theorem cR_4 {I I' : Nat → Nat → Int32} {b : Nat} {N : Nat → Nat} {D : Nat → Nat → Int} {z : Nat → Int} (h : cR I b N D) (h0 : ∀ k, I' b k = if k = 8 then nI (N 4 + 1) else I b k) (hx : ∀ r j, r < 5 → I' (b + (12 + r)) j = if j = N 4 then zI (z r) else I (b + (12 + r)) j) (hI : ∀ a, b + 2 ≤ a → a ≤ b + 11 → I' a = I a) : cR I' b (adN N 4 z) (adD N D 4 z) := by
  obtain ⟨⟨g1, g2, g3, g4, g5⟩, h2, h3, h4, h5⟩ := h
  have e : ∀ k, 2 ≤ k → k ≤ 11 → I' (b + k) = I (b + k) := fun k k1 k2 => hI _ (by omega) (by omega)
  have ed : ∀ r j, r < 9 → adD N D 4 z r j = D r j := fun r j hr => adD_n (by simp [bas]; omega)
  refine ⟨⟨?_, ?_, ?_, ?_, ?_⟩, fun j hj => ?_, ?_, fun j hj => ?_, fun j hj => ?_⟩
  · rw [h0, if_neg (by omega), adN_n (by omega)]; exact g1
  · rw [e 2 (by omega) (by omega), adN_n (by omega)]; exact g2
  · rw [e 2 (by omega) (by omega), adN_n (by omega)]; exact g3
  · rw [h0, if_neg (by omega), adN_n (by omega)]; exact g4
  · rw [h0, if_pos rfl, adN_c (by omega)]
  · rw [adN_n (by omega)] at hj
    rw [e 3 (by omega) (by omega), e 4 (by omega) (by omega), ed _ _ (by omega), ed _ _ (by omega)]; exact h2 j hj
  · exact wsr_fr h3 (adN_n (by omega)) (fun r j _ _ => ed r j (by omega)) (by rw [e 2 (by omega) (by omega)]) (e 5 (by omega) (by omega)) (e 6 (by omega) (by omega)) (e 7 (by omega) (by omega))
  · rw [adN_n (by omega)] at hj
    rw [e 8 (by omega) (by omega), e 9 (by omega) (by omega), e 10 (by omega) (by omega), e 11 (by omega) (by omega), ed _ _ (by omega), ed _ _ (by omega), ed _ _ (by omega), ed _ _ (by omega)]; exact h4 j hj
  · rw [adN_c (by omega)] at hj
    rw [show b + 12 = b + (12 + 0) from rfl, show b + 13 = b + (12 + 1) from rfl, show b + 14 = b + (12 + 2) from rfl, show b + 15 = b + (12 + 3) from rfl, show b + 16 = b + (12 + 4) from rfl, hx 0 j (by omega), hx 1 j (by omega), hx 2 j (by omega), hx 3 j (by omega), hx 4 j (by omega)]
    by_cases ej : j = N 4
    · subst ej
      rw [if_pos rfl, if_pos rfl, if_pos rfl, if_pos rfl, if_pos rfl, adD_c (by decide) (by decide), adD_c (by decide) (by decide), adD_c (by decide) (by decide), adD_c (by decide) (by decide), adD_c (by decide) (by decide)]
      exact ⟨rfl, rfl, rfl, rfl, rfl⟩
    · rw [if_neg ej, if_neg ej, if_neg ej, if_neg ej, if_neg ej, adD_o ej, adD_o ej, adD_o ej, adD_o ej, adD_o ej]
      exact h5 j (by omega)
