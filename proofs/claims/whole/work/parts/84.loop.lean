theorem nI_wh (x : Int32) : x = nI x.toBitVec.toNat := by
  apply Int32.toBitVec_inj.mp
  show x.toBitVec = BitVec.ofNat 32 x.toBitVec.toNat
  simp
theorem and31 (x : Int32) : ∃ v, v < 32 ∧ x &&& 31 = nI v := by
  refine ⟨x.toBitVec.toNat &&& 31, Nat.and_lt_two_pow (n := 5) _ (by omega), ?_⟩
  rw [← nI_and, ← nI_wh]; rfl
theorem hd_le {L i : Nat} (hL : L ≤ 3072) (hi : i ≤ 4000) : (nI L - 6 < nI i) ↔ L < i + 6 := by
  rw [show (6 : Int32) = zI 6 from rfl, zI_nI, zI_nI, zI_sub, zI_ltI (by omega) (by omega) (by omega) (by omega)]
  omega
theorem w_sw (I : Nat → Nat → Int32) (J : Nat → Nat → Int64) (q : Bool × Bool) (X : Nat × (Nat → Int32)) (h : iv I J q) {i v : Nat} (hi : i + 6 ≤ X.1) (hX : X.1 ≤ 3072) (hv : v < 32) : ∃ I2 J2 q1, gb_ex 0 (.tableswitch 1010 0 30 #[22, 73, 80, 105, 130, 187, 214, 261, 298, 315, 332, 397, 434, 451, 468, 516, 564, 622, 639, 656, 683, 720, 747, 794, 851, 888, 915, 942, 979, 986, 993] :: bk_GL_law_22) [.retAddr 0, .ref (0 : Nat), .ref (190 : Nat), .int (nI i)] [.int (nI v)] gb_pG (gS I J q X) = gb_ex 0 bk_GL_law_1010 [.retAddr 0, .ref (0 : Nat), .ref (190 : Nat), .int (nI i)] [] gb_pG (gS I2 J2 q1 X) ∧ iv I2 J2 q1 := by
  have hv2 : v = 0 ∨ v = 1 ∨ v = 2 ∨ v = 3 ∨ v = 4 ∨ v = 5 ∨ v = 6 ∨ v = 7 ∨ v = 8 ∨ v = 9 ∨ v = 10 ∨ v = 11 ∨ v = 12 ∨ v = 13 ∨ v = 14 ∨ v = 15 ∨ v = 16 ∨ v = 17 ∨ v = 18 ∨ v = 19 ∨ v = 20 ∨ v = 21 ∨ v = 22 ∨ v = 23 ∨ v = 24 ∨ v = 25 ∨ v = 26 ∨ v = 27 ∨ v = 28 ∨ v = 29 ∨ v = 30 ∨ v = 31 := by omega
  rcases hv2 with rfl | rfl | rfl | rfl | rfl | rfl | rfl | rfl | rfl | rfl | rfl | rfl | rfl | rfl | rfl | rfl | rfl | rfl | rfl | rfl | rfl | rfl | rfl | rfl | rfl | rfl | rfl | rfl | rfl | rfl | rfl | rfl
  · obtain ⟨I2, J2, q1, u1, u2⟩ := w_22 I J q X h hi hX
    refine ⟨I2, J2, q1, ?_, u2⟩
    rw [x_tsw, if_neg (by decide), ← u1]
    refine (orf_of (t := 22) ?_).trans ?_
    · rfl
    · rw [tg_GL_law_22]
  · obtain ⟨I2, J2, q1, u1, u2⟩ := w_73 I J q X h hi hX
    refine ⟨I2, J2, q1, ?_, u2⟩
    rw [x_tsw, if_neg (by decide), ← u1]
    refine (orf_of (t := 73) ?_).trans ?_
    · rfl
    · rw [tg_GL_law_73]
  · obtain ⟨I2, J2, q1, u1, u2⟩ := w_80 I J q X h hi hX
    refine ⟨I2, J2, q1, ?_, u2⟩
    rw [x_tsw, if_neg (by decide), ← u1]
    refine (orf_of (t := 80) ?_).trans ?_
    · rfl
    · rw [tg_GL_law_80]
  · obtain ⟨I2, J2, q1, u1, u2⟩ := w_105 I J q X h hi hX
    refine ⟨I2, J2, q1, ?_, u2⟩
    rw [x_tsw, if_neg (by decide), ← u1]
    refine (orf_of (t := 105) ?_).trans ?_
    · rfl
    · rw [tg_GL_law_105]
  · obtain ⟨I2, J2, q1, u1, u2⟩ := w_130 I J q X h hi hX
    refine ⟨I2, J2, q1, ?_, u2⟩
    rw [x_tsw, if_neg (by decide), ← u1]
    refine (orf_of (t := 130) ?_).trans ?_
    · rfl
    · rw [tg_GL_law_130]
  · obtain ⟨I2, J2, q1, u1, u2⟩ := w_187 I J q X h hi hX
    refine ⟨I2, J2, q1, ?_, u2⟩
    rw [x_tsw, if_neg (by decide), ← u1]
    refine (orf_of (t := 187) ?_).trans ?_
    · rfl
    · rw [tg_GL_law_187]
  · obtain ⟨I2, J2, q1, u1, u2⟩ := w_214 I J q X h hi hX
    refine ⟨I2, J2, q1, ?_, u2⟩
    rw [x_tsw, if_neg (by decide), ← u1]
    refine (orf_of (t := 214) ?_).trans ?_
    · rfl
    · rw [tg_GL_law_214]
  · obtain ⟨I2, J2, q1, u1, u2⟩ := w_261 I J q X h hi hX
    refine ⟨I2, J2, q1, ?_, u2⟩
    rw [x_tsw, if_neg (by decide), ← u1]
    refine (orf_of (t := 261) ?_).trans ?_
    · rfl
    · rw [tg_GL_law_261]
  · obtain ⟨I2, J2, q1, u1, u2⟩ := w_298 I J q X h hi hX
    refine ⟨I2, J2, q1, ?_, u2⟩
    rw [x_tsw, if_neg (by decide), ← u1]
    refine (orf_of (t := 298) ?_).trans ?_
    · rfl
    · rw [tg_GL_law_298]
  · obtain ⟨I2, J2, q1, u1, u2⟩ := w_315 I J q X h hi hX
    refine ⟨I2, J2, q1, ?_, u2⟩
    rw [x_tsw, if_neg (by decide), ← u1]
    refine (orf_of (t := 315) ?_).trans ?_
    · rfl
    · rw [tg_GL_law_315]
  · obtain ⟨I2, J2, q1, u1, u2⟩ := w_332 I J q X h hi hX
    refine ⟨I2, J2, q1, ?_, u2⟩
    rw [x_tsw, if_neg (by decide), ← u1]
    refine (orf_of (t := 332) ?_).trans ?_
    · rfl
    · rw [tg_GL_law_332]
  · obtain ⟨I2, J2, q1, u1, u2⟩ := w_397 I J q X h hi hX
    refine ⟨I2, J2, q1, ?_, u2⟩
    rw [x_tsw, if_neg (by decide), ← u1]
    refine (orf_of (t := 397) ?_).trans ?_
    · rfl
    · rw [tg_GL_law_397]
  · obtain ⟨I2, J2, q1, u1, u2⟩ := w_434 I J q X h hi hX
    refine ⟨I2, J2, q1, ?_, u2⟩
    rw [x_tsw, if_neg (by decide), ← u1]
    refine (orf_of (t := 434) ?_).trans ?_
    · rfl
    · rw [tg_GL_law_434]
  · obtain ⟨I2, J2, q1, u1, u2⟩ := w_451 I J q X h hi hX
    refine ⟨I2, J2, q1, ?_, u2⟩
    rw [x_tsw, if_neg (by decide), ← u1]
    refine (orf_of (t := 451) ?_).trans ?_
    · rfl
    · rw [tg_GL_law_451]
  · obtain ⟨I2, J2, q1, u1, u2⟩ := w_468 I J q X h hi hX
    refine ⟨I2, J2, q1, ?_, u2⟩
    rw [x_tsw, if_neg (by decide), ← u1]
    refine (orf_of (t := 468) ?_).trans ?_
    · rfl
    · rw [tg_GL_law_468]
  · obtain ⟨I2, J2, q1, u1, u2⟩ := w_516 I J q X h hi hX
    refine ⟨I2, J2, q1, ?_, u2⟩
    rw [x_tsw, if_neg (by decide), ← u1]
    refine (orf_of (t := 516) ?_).trans ?_
    · rfl
    · rw [tg_GL_law_516]
  · obtain ⟨I2, J2, q1, u1, u2⟩ := w_564 I J q X h hi hX
    refine ⟨I2, J2, q1, ?_, u2⟩
    rw [x_tsw, if_neg (by decide), ← u1]
    refine (orf_of (t := 564) ?_).trans ?_
    · rfl
    · rw [tg_GL_law_564]
  · obtain ⟨I2, J2, q1, u1, u2⟩ := w_622 I J q X h hi hX
    refine ⟨I2, J2, q1, ?_, u2⟩
    rw [x_tsw, if_neg (by decide), ← u1]
    refine (orf_of (t := 622) ?_).trans ?_
    · rfl
    · rw [tg_GL_law_622]
  · obtain ⟨I2, J2, q1, u1, u2⟩ := w_639 I J q X h hi hX
    refine ⟨I2, J2, q1, ?_, u2⟩
    rw [x_tsw, if_neg (by decide), ← u1]
    refine (orf_of (t := 639) ?_).trans ?_
    · rfl
    · rw [tg_GL_law_639]
  · obtain ⟨I2, J2, q1, u1, u2⟩ := w_656 I J q X h hi hX
    refine ⟨I2, J2, q1, ?_, u2⟩
    rw [x_tsw, if_neg (by decide), ← u1]
    refine (orf_of (t := 656) ?_).trans ?_
    · rfl
    · rw [tg_GL_law_656]
  · obtain ⟨I2, J2, q1, u1, u2⟩ := w_683 I J q X h hi hX
    refine ⟨I2, J2, q1, ?_, u2⟩
    rw [x_tsw, if_neg (by decide), ← u1]
    refine (orf_of (t := 683) ?_).trans ?_
    · rfl
    · rw [tg_GL_law_683]
  · obtain ⟨I2, J2, q1, u1, u2⟩ := w_720 I J q X h hi hX
    refine ⟨I2, J2, q1, ?_, u2⟩
    rw [x_tsw, if_neg (by decide), ← u1]
    refine (orf_of (t := 720) ?_).trans ?_
    · rfl
    · rw [tg_GL_law_720]
  · obtain ⟨I2, J2, q1, u1, u2⟩ := w_747 I J q X h hi hX
    refine ⟨I2, J2, q1, ?_, u2⟩
    rw [x_tsw, if_neg (by decide), ← u1]
    refine (orf_of (t := 747) ?_).trans ?_
    · rfl
    · rw [tg_GL_law_747]
  · obtain ⟨I2, J2, q1, u1, u2⟩ := w_794 I J q X h hi hX
    refine ⟨I2, J2, q1, ?_, u2⟩
    rw [x_tsw, if_neg (by decide), ← u1]
    refine (orf_of (t := 794) ?_).trans ?_
    · rfl
    · rw [tg_GL_law_794]
  · obtain ⟨I2, J2, q1, u1, u2⟩ := w_851 I J q X h hi hX
    refine ⟨I2, J2, q1, ?_, u2⟩
    rw [x_tsw, if_neg (by decide), ← u1]
    refine (orf_of (t := 851) ?_).trans ?_
    · rfl
    · rw [tg_GL_law_851]
  · obtain ⟨I2, J2, q1, u1, u2⟩ := w_888 I J q X h hi hX
    refine ⟨I2, J2, q1, ?_, u2⟩
    rw [x_tsw, if_neg (by decide), ← u1]
    refine (orf_of (t := 888) ?_).trans ?_
    · rfl
    · rw [tg_GL_law_888]
  · obtain ⟨I2, J2, q1, u1, u2⟩ := w_915 I J q X h hi hX
    refine ⟨I2, J2, q1, ?_, u2⟩
    rw [x_tsw, if_neg (by decide), ← u1]
    refine (orf_of (t := 915) ?_).trans ?_
    · rfl
    · rw [tg_GL_law_915]
  · obtain ⟨I2, J2, q1, u1, u2⟩ := w_942 I J q X h hi hX
    refine ⟨I2, J2, q1, ?_, u2⟩
    rw [x_tsw, if_neg (by decide), ← u1]
    refine (orf_of (t := 942) ?_).trans ?_
    · rfl
    · rw [tg_GL_law_942]
  · obtain ⟨I2, J2, q1, u1, u2⟩ := w_979 I J q X h hi hX
    refine ⟨I2, J2, q1, ?_, u2⟩
    rw [x_tsw, if_neg (by decide), ← u1]
    refine (orf_of (t := 979) ?_).trans ?_
    · rfl
    · rw [tg_GL_law_979]
  · obtain ⟨I2, J2, q1, u1, u2⟩ := w_986 I J q X h hi hX
    refine ⟨I2, J2, q1, ?_, u2⟩
    rw [x_tsw, if_neg (by decide), ← u1]
    refine (orf_of (t := 986) ?_).trans ?_
    · rfl
    · rw [tg_GL_law_986]
  · obtain ⟨I2, J2, q1, u1, u2⟩ := w_993 I J q X h hi hX
    refine ⟨I2, J2, q1, ?_, u2⟩
    rw [x_tsw, if_neg (by decide), ← u1]
    refine (orf_of (t := 993) ?_).trans ?_
    · rfl
    · rw [tg_GL_law_993]
  · refine ⟨I, J, q, ?_, h⟩
    rw [x_tsw, if_pos (by decide)]
    rw [show (1010 : Int).toNat = 1010 from rfl, tg_GL_law_1010]
theorem w_loop (X : Nat × (Nat → Int32)) (hX : X.1 ≤ 3072) : ∀ (d i : Nat) (I : Nat → Nat → Int32) (J : Nat → Nat → Int64) (q : Bool × Bool), iv I J q → i ≤ 3072 → X.1 ≤ i + d → ∃ g', gb_ex 0 bk_GL_law_10 [.retAddr 0, .ref (0 : Nat), .ref (190 : Nat), .int (nI i)] [] gb_pG (gS I J q X) = some (.int 1, gb_pG, g')
  | 0, i, I, J, q, h, h1, h2 => by
    refine ⟨gS I J q X, ?_⟩
    rw [bk_GL_law_10, x_iload_3, x_aload_s, x_slen, x_c_6, x_isub, x_ic_gt, gN_S, if_pos ((hd_le hX (by omega)).mpr (by omega)), tg_GL_law_1012, bk_GL_law_1012, x_c_1, x_zret, if_pos (by decide)]
  | d + 1, i, I, J, q, h, h1, h2 => by
    by_cases c : X.1 < i + 6
    · refine ⟨gS I J q X, ?_⟩
      rw [bk_GL_law_10, x_iload_3, x_aload_s, x_slen, x_c_6, x_isub, x_ic_gt, gN_S, if_pos ((hd_le hX (by omega)).mpr c), tg_GL_law_1012, bk_GL_law_1012, x_c_1, x_zret, if_pos (by decide)]
    · obtain ⟨v, hv, ev⟩ := and31 (X.2 i)
      obtain ⟨I2, J2, q1, u1, u2⟩ := w_sw I J q X h (i := i) (v := v) (by omega) hX hv
      obtain ⟨g', ih⟩ := w_loop X hX d (i + 6) I2 J2 q1 u2 (by omega) (by omega)
      refine ⟨g', ?_⟩
      rw [bk_GL_law_10, x_iload_3, x_aload_s, x_slen, x_c_6, x_isub, x_ic_gt, gN_S, if_neg (fun z => c ((hd_le hX (by omega)).mp z)), x_aload_s, x_iload_3, x_sald, gN_S, oob_nI (by omega) (by omega), if_neg Bool.false_ne_true, gX_S, ix_nI (by omega), x_c_31, x_iand, ev, u1, bk_GL_law_1010, x_iinc_3_6, kil_ref, x_goto, nI_aL]
      exact ih
