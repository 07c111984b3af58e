theorem pt_00 : ∀ t, t < 6 → ∀ v, v < 4 → i0 (72 + t) v = nI (pt (fun _ _ => 0) 255 t v) := by decide +kernel
theorem i0_65 : ∀ t, t < 6 → ∀ k, k < 8 → i0 (65 + t) k = nI 0 ∧ i0 212 (8 * t + k) = nI 0 := by decide +kernel
theorem i0_78 : ∀ t, t < 6 → i0 78 t = nI 1 ∧ i0 213 t = nI 1 := by decide +kernel
theorem iv_0 : iv i0 (fun _ _ => 0) (false, false) := by
  refine ⟨0, 0, fun _ _ => 0, fun _ _ => 0, fun _ => 1, fun k => if k = 0 then 8 else 0, fun _ _ => 0, 0, fun _ _ => 0, ⟨?_, ?_, ?_⟩, ⟨?_, ?_, ?_⟩, ⟨?_, ?_, ?_⟩, ⟨?_, ?_, ?_⟩, fun _ _ => rfl⟩
  · exact ⟨by omega, by decide, by decide, fun j hj => absurd hj (Nat.not_lt_zero _)⟩
  · refine ⟨⟨by omega, by decide, by decide⟩, ⟨by decide, by decide, by decide⟩, fun j hj => absurd hj (Nat.not_lt_zero _), fun l hl => ?_, ⟨Nat.zero_le _, Nat.zero_le _, Nat.zero_le _⟩, fun _ _ _ => Nat.le_refl _, fun _ _ _ _ => Nat.le_refl _, fun l i _ hi => absurd hi (Nat.not_lt_zero _), fun l i _ hi => absurd hi (Nat.not_lt_zero _), fun l i _ hi => absurd hi (Nat.not_lt_zero _)⟩
    obtain rfl : l = 0 := by omega
    exact ⟨by decide, by decide, by decide⟩
  · exact ⟨fun t k ht hk => ⟨(i0_65 t ht k hk).1, (i0_65 t ht k hk).2, Nat.zero_le _⟩, fun t v ht hv => pt_00 t ht v hv, fun t ht => ⟨(i0_78 t ht).1, (i0_78 t ht).2, Nat.le_refl _, show 1 ≤ 99 by omega⟩⟩
  · exact fun i hi => absurd hi (Nat.not_lt_zero _)
  · exact fun i hi => absurd hi (Nat.not_lt_zero _)
  · exact ⟨fun i hi => absurd hi (Nat.not_lt_zero _), fun i j _ hj => absurd hj (Nat.not_lt_zero _)⟩
  · refine ⟨⟨⟨by decide, by decide, by decide, by decide, by decide⟩, fun j hj => absurd hj (Nat.not_lt_zero _), ?_, fun j hj => absurd hj (Nat.not_lt_zero _), fun j hj => absurd hj (Nat.not_lt_zero _)⟩, ⟨⟨by decide, by decide, by decide, by decide, by decide⟩, fun r j _ hj => absurd hj (Nat.not_lt_zero _), fun r j _ hj => absurd hj (Nat.not_lt_zero _), fun r j _ hj => absurd hj (Nat.not_lt_zero _), fun r j _ hj => absurd hj (Nat.not_lt_zero _)⟩, ⟨by decide, fun j hj => absurd hj (Nat.not_lt_zero _), fun j hj => absurd hj (Nat.not_lt_zero _), fun j hj => absurd hj (Nat.not_lt_zero _), fun j hj => absurd hj (Nat.not_lt_zero _)⟩⟩
    exact ⟨0, fun _ => 0, by decide, Nat.zero_le _, fun j hj => absurd hj (Nat.not_lt_zero _), fun i j _ hj => absurd hj (Nat.not_lt_zero _), fun k hk => absurd hk (Nat.not_lt_zero _)⟩
  · exact fun l hl => absurd hl (Nat.not_lt_zero _)
  · exact fun l hl => absurd hl (Nat.not_lt_zero _)
  · exact ⟨by decide, fun j hj => absurd hj (Nat.not_lt_zero _)⟩
  · exact ⟨by decide, fun j hj => absurd hj (Nat.not_lt_zero _)⟩
  · omega
theorem w_start (L : Nat) (xs : Nat → Int32) : gb_call 0 [.retAddr 0] [] (gb_g0 L xs) = gb_ex 0 bk_GL_law_10 [.retAddr 0, .ref (0 : Nat), .ref (190 : Nat), .int (nI 0)] [] gb_pG (ap cz_log (gb_g0 L xs)) := by
  have e : gb_call 0 [.retAddr 0] [] (gb_g0 L xs) = gb_ex 0 bk_GL_law_0 [.retAddr 0, .null, .null, .null] [] (tk 0) (ap [] (gb_g0 L xs)) := rfl
  rw [e, bk_GL_law_0]
  simp (disch := first | decide | rfl) only [x_new, x_dup_r, xc_GB_init, n_GB_init_0, Nat.reduceAdd, Option.bind_some, psh_null, x_astore_1, kil_ref, kil_null, kil_rA, xc_RM_init, n_RM_init_190, x_astore_2, x_c_0, x_istore_3]
  rfl
theorem gb_law (L : Nat) (xs : Nat → Int32) (hL : L ≤ 3072) : ∃ (P' : gb_Pi) (g' : gb_Sg), gb_call 0 [.retAddr 0] [] (gb_g0 L xs) = some (.int 1, P', g') ∧ P'.length ≤ 600000 ∧ gb_msl P' ≤ 7302250 := by
  obtain ⟨g', h⟩ := w_loop (L, xs) hL L 0 i0 (fun _ _ => 0) (false, false) iv_0 (by omega) (by show L ≤ 0 + L; omega)
  refine ⟨gb_pG, g', ?_, by decide +kernel, by decide +kernel⟩
  rw [w_start, st_log]
  exact h
