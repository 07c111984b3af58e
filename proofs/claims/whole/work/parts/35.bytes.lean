/-! bytes of the text as numbers: 256 behind its end -/
theorem n01 : ((0 : Nat) = 1) = False := by decide
def pkv (b : Nat) : Int32 := if b < 256 then nI b else -1
def nxv (b : Nat) : Int32 := if b < 128 then nI b else if b < 256 then nI b - 256 else 0
def rd (I : Nat → Nat → Int32) (L : Nat) (B : Nat → Nat) : Prop := txt I L ∧ (∀ p, p < L → I 2 p &&& 255 = pkv (B p) ∧ I 2 p = nxv (B p) ∧ B p < 256) ∧ ∀ p, L ≤ p → B p = 256
theorem by_all : ∀ b : Fin 256, (Int8.ofNat b.val).toInt32 &&& 255 = pkv b.val ∧ (Int8.ofNat b.val).toInt32 = nxv b.val ∧ ((Int8.ofNat b.val).toInt32 &&& 255).toBitVec.toNat = b.val := by decide +kernel
theorem rd_of {I : Nat → Nat → Int32} {L : Nat} (h : txt I L) : ∃ B, rd I L B := by
  refine ⟨fun p => if p < L then (I 2 p &&& 255).toBitVec.toNat else 256, h, fun p hp => ?_, fun p hp => ?_⟩
  · obtain ⟨x, hx⟩ := (h.2.2.2 p hp).2
    have e : x = Int8.ofNat x.toBitVec.toNat := by
      apply Int8.toBitVec_inj.mp
      show x.toBitVec = BitVec.ofNat 8 x.toBitVec.toNat
      simp
    have := by_all ⟨x.toBitVec.toNat, x.toBitVec.isLt⟩
    rw [← e] at this
    obtain ⟨a1, a2, a3⟩ := this
    dsimp only
    rw [if_pos hp, hx, a3]
    exact ⟨a1, a2, x.toBitVec.isLt⟩
  · dsimp only
    rw [if_neg (by omega)]
theorem rd_le {I : Nat → Nat → Int32} {L : Nat} {B : Nat → Nat} (h : rd I L B) (p : Nat) : B p ≤ 256 := by
  by_cases c : p < L
  · have := (h.2.1 p c).2.2; omega
  · have := h.2.2 p (by omega); omega
theorem rd_in {I : Nat → Nat → Int32} {L : Nat} {B : Nat → Nat} (h : rd I L B) {p : Nat} (hb : B p ≠ 256) : p < L := by
  by_cases c : p < L
  · exact c
  · exact absurd (h.2.2 p (by omega)) hb
theorem rd_lt {I : Nat → Nat → Int32} {L : Nat} {B : Nat → Nat} (h : rd I L B) (p : Nat) : B p < 256 ↔ p < L := by
  constructor
  · intro hb; exact rd_in h (by omega)
  · intro hp; exact (h.2.1 p hp).2.2
theorem rd_fr {I I' : Nat → Nat → Int32} {L : Nat} {B : Nat → Nat} (h : rd I L B) (h1 : I' 1 1 = I 1 1) (h2 : I' 2 = I 2) (h3 : I' 190 0 = I 190 0) (h4 : I' 191 = I 191) : rd I' L B := by
  obtain ⟨⟨a1, a2, a3, a4⟩, b, c⟩ := h
  refine ⟨⟨a1, by rw [h1]; exact a2, by rw [h3]; exact a3, fun j hj => ?_⟩, fun p hp => ?_, c⟩
  · rw [h2, h4]; exact a4 j hj
  · rw [h2]; exact b p hp
theorem pkv_eq {b c : Nat} (hc : c ≤ 255) : pkv b = nI c ↔ b = c := by
  unfold pkv
  by_cases h : b < 256
  · rw [if_pos h, nI_eq (by omega) (by omega)]
  · rw [if_neg h]
    constructor
    · intro e
      have : (-1 : Int32) < 0 := by decide
      rw [e] at this
      exact absurd this (nI_pos (by omega))
    · intro e; omega
theorem pkv_eqL {b c : Nat} (hc : c ≤ 255) : pkv b = (no_index (OfNat.ofNat c) : Int32) ↔ b = c := pkv_eq hc
theorem nxv_all : ∀ b : Fin 257, ∀ c : Fin 128, nxv b.val = nI c.val ↔ (b.val = c.val ∨ (b.val = 256 ∧ c.val = 0)) := by decide +kernel
theorem nxv_eqL {b c : Nat} (hb : b ≤ 256) (hc : c ≤ 127) (hc1 : 1 ≤ c) : nxv b = (no_index (OfNat.ofNat c) : Int32) ↔ b = c := by
  have := nxv_all ⟨b, by omega⟩ ⟨c, by omega⟩
  dsimp only at this
  rw [fa_lit, this]
  omega
theorem dg_all : ∀ b : Fin 257, ((48 ≤ pkv b.val ∧ pkv b.val ≤ 57) ↔ (48 ≤ b.val ∧ b.val ≤ 57)) ∧ ((48 ≤ nxv b.val ∧ nxv b.val ≤ 57) ↔ (48 ≤ b.val ∧ b.val ≤ 57)) := by decide +kernel
theorem pkv_dg {b : Nat} (hb : b ≤ 256) : (48 ≤ pkv b ∧ pkv b ≤ 57) ↔ (48 ≤ b ∧ b ≤ 57) := (dg_all ⟨b, by omega⟩).1
theorem nxv_dg {b : Nat} (hb : b ≤ 256) : (48 ≤ nxv b ∧ nxv b ≤ 57) ↔ (48 ≤ b ∧ b ≤ 57) := (dg_all ⟨b, by omega⟩).2
theorem pkv_n {b : Nat} (h : b ≤ 57) : pkv b = nI b := if_pos (by omega)
theorem nxv_n {b : Nat} (h : b ≤ 57) : nxv b = nI b := if_pos (by omega)
/-! the scroll's place and value; the model's place and whether it is good -/
def sc (I : Nat → Nat → Int32) (p v : Int32) : Nat → Nat → Int32 := fun x => if x = 1 then (fun k => if k = 2 then p else if k = 3 then v else I 1 k) else I x
def md (I : Nat → Nat → Int32) (p v : Int32) : Nat → Nat → Int32 := fun x => if x = 190 then (fun k => if k = 2 then p else if k = 34 then v else I 190 k) else I x
theorem sc_2 (I : Nat → Nat → Int32) (p v : Int32) : sc I p v 1 2 = p := rfl
theorem sc_3 (I : Nat → Nat → Int32) (p v : Int32) : sc I p v 1 3 = v := rfl
theorem sc_1 {I : Nat → Nat → Int32} {p v : Int32} {k : Nat} (h2 : k ≠ 2) (h3 : k ≠ 3) : sc I p v 1 k = I 1 k := by
  show (if k = 2 then p else if k = 3 then v else I 1 k) = _
  rw [if_neg h2, if_neg h3]
theorem sc_n {I : Nat → Nat → Int32} {p v : Int32} {x : Nat} (h : x ≠ 1) : sc I p v x = I x := if_neg h
theorem sc_id (I : Nat → Nat → Int32) : sc I (I 1 2) (I 1 3) = I := by
  funext x k
  unfold sc
  by_cases h : x = 1
  · subst h
    rw [if_pos rfl]
    by_cases h2 : k = 2
    · subst h2; rfl
    · by_cases h3 : k = 3
      · subst h3; rfl
      · rw [if_neg h2, if_neg h3]
  · rw [if_neg h]
theorem up_sc2 (I : Nat → Nat → Int32) (p v w : Int32) : up (sc I p v) 1 2 w = sc I w v := by
  funext x k
  unfold up sc
  by_cases h : x = 1
  · subst h
    simp only [if_true, upd_at]
    by_cases h2 : k = 2 <;> simp [h2]
  · simp [h]
theorem up_sc3 (I : Nat → Nat → Int32) (p v w : Int32) : up (sc I p v) 1 3 w = sc I p w := by
  funext x k
  unfold up sc
  by_cases h : x = 1
  · subst h
    simp only [if_true, upd_at]
    by_cases h2 : k = 3 <;> simp [h2]
  · simp [h]
theorem up_sc {I : Nat → Nat → Int32} {p v w : Int32} {a k : Nat} (h : a ≠ 1) : up (sc I p v) a k w = sc (up I a k w) p v := by
  funext x j
  unfold up sc
  by_cases h1 : x = 1
  · subst h1
    simp [Ne.symm h]
  · by_cases h2 : x = a
    · subst h2; simp [h1]
    · simp [h1, h2]
theorem sc_sc (I : Nat → Nat → Int32) (p v p' v' : Int32) : sc (sc I p v) p' v' = sc I p' v' := by
  funext x j
  unfold sc
  by_cases h1 : x = 1
  · subst h1
    simp only [if_true]
    by_cases h2 : j = 2 <;> by_cases h3 : j = 3 <;> simp [h2, h3]
  · simp [h1]
theorem md_2 (I : Nat → Nat → Int32) (p v : Int32) : md I p v 190 2 = p := rfl
theorem md_3 (I : Nat → Nat → Int32) (p v : Int32) : md I p v 190 34 = v := rfl
theorem md_1 {I : Nat → Nat → Int32} {p v : Int32} {k : Nat} (h2 : k ≠ 2) (h3 : k ≠ 34) : md I p v 190 k = I 190 k := by
  show (if k = 2 then p else if k = 34 then v else I 190 k) = _
  rw [if_neg h2, if_neg h3]
theorem md_n {I : Nat → Nat → Int32} {p v : Int32} {x : Nat} (h : x ≠ 190) : md I p v x = I x := if_neg h
theorem md_id (I : Nat → Nat → Int32) : md I (I 190 2) (I 190 34) = I := by
  funext x k
  unfold md
  by_cases h : x = 190
  · subst h
    rw [if_pos rfl]
    by_cases h2 : k = 2
    · subst h2; rfl
    · by_cases h3 : k = 34
      · subst h3; rfl
      · rw [if_neg h2, if_neg h3]
  · rw [if_neg h]
theorem up_md2 (I : Nat → Nat → Int32) (p v w : Int32) : up (md I p v) 190 2 w = md I w v := by
  funext x k
  unfold up md
  by_cases h : x = 190
  · subst h
    simp only [if_true, upd_at]
    by_cases h2 : k = 2 <;> simp [h2]
  · simp [h]
theorem up_md3 (I : Nat → Nat → Int32) (p v w : Int32) : up (md I p v) 190 34 w = md I p w := by
  funext x k
  unfold up md
  by_cases h : x = 190
  · subst h
    simp only [if_true, upd_at]
    by_cases h2 : k = 34 <;> simp [h2]
  · simp [h]
theorem up_md {I : Nat → Nat → Int32} {p v w : Int32} {a k : Nat} (h : a ≠ 190) : up (md I p v) a k w = md (up I a k w) p v := by
  funext x j
  unfold up md
  by_cases h1 : x = 190
  · subst h1
    simp [Ne.symm h]
  · by_cases h2 : x = a
    · subst h2; simp [h1]
    · simp [h1, h2]
theorem md_md (I : Nat → Nat → Int32) (p v p' v' : Int32) : md (md I p v) p' v' = md I p' v' := by
  funext x j
  unfold md
  by_cases h1 : x = 190
  · subst h1
    simp only [if_true]
    by_cases h2 : j = 2 <;> by_cases h3 : j = 34 <;> simp [h2, h3]
  · simp [h1]
theorem rd_sc {I : Nat → Nat → Int32} {L : Nat} {B : Nat → Nat} (h : rd I L B) (p v : Int32) : rd (sc I p v) L B := rd_fr h (sc_1 (by decide) (by decide)) (sc_n (by decide)) (by rw [sc_n (by decide)]) (sc_n (by decide))
theorem rd_md {I : Nat → Nat → Int32} {L : Nat} {B : Nat → Nat} (h : rd I L B) (p v : Int32) : rd (md I p v) L B := rd_fr h (by rw [md_n (by decide)]) (md_n (by decide)) (md_1 (by decide) (by decide)) (md_n (by decide))
theorem s_peek (I : Nat → Nat → Int32) (J : Nat → Nat → Int64) (q : Bool × Bool) (X : Nat × (Nat → Int32)) {L : Nat} {B : Nat → Nat} (h : rd I L B) (p : Nat) (v : Int32) (hp : p < 2147483648) : gb_call 39 [.ref (1 : Nat)] gb_pG (gS (sc I (nI p) v) J q X) = some (.int (pkv (B p)), gb_pG, gS (sc I (nI p) v) J q X) := by
  have h' := rd_sc h (nI p) v
  rw [s_SC_peek _ J q X h'.1 (sc_2 I (nI p) v) hp]
  by_cases c : p < L
  · rw [if_pos c, (h'.2.1 p c).1]
  · rw [if_neg c, h'.2.2 p (by omega)]
    rfl
theorem s_next (I : Nat → Nat → Int32) (J : Nat → Nat → Int64) (q : Bool × Bool) (X : Nat × (Nat → Int32)) {L : Nat} {B : Nat → Nat} (h : rd I L B) (p : Nat) (v : Int32) (hp : p < 2147483648) : gb_call 120 [.ref (190 : Nat)] gb_pG (gS (md I (nI p) v) J q X) = some (.int (nxv (B p)), gb_pG, gS (md I (nI p) v) J q X) := by
  have h' := rd_md h (nI p) v
  rw [s_RM_next _ J q X h'.1 (md_2 I (nI p) v) hp]
  by_cases c : p < L
  · rw [if_pos c, (h'.2.1 p c).2.1]
  · rw [if_neg c, h'.2.2 p (by omega)]
    rfl
theorem s_take (I : Nat → Nat → Int32) (J : Nat → Nat → Int64) (q : Bool × Bool) (X : Nat × (Nat → Int32)) {L : Nat} {B : Nat → Nat} (h : rd I L B) (p c : Nat) (v : Int32) (hp : p < 2147483648) (hc : c ≤ 127) : gb_call 41 [.ref (1 : Nat), .int (no_index (OfNat.ofNat c))] gb_pG (gS (sc I (nI p) v) J q X) = some (.int (if B p = c then 1 else 0), gb_pG, gS (sc I (nI (if B p = c then p + 1 else p)) v) J q X) := by
  have hpk := s_peek I J q X h p v hp
  rw [cl_SC_take]
  simp (disch := first | omega | decide | assumption | simp only [List.length_cons, List.length_nil, Nat.reduceAdd, Nat.reduceLeDiff]) only [x_aload_0, xc_SC_peek, x_iload_1, x_ic_eq, x_c_0, x_zret, x_dup_i, x_dup_r, x_get_322, x_c_1, x_iadd, x_put_322, tg_SC_take_6, bk_SC_take_0, bk_SC_take_6, kil_int, kil_ref, kil_null, kil_long, kil_rA, psh_int, psh_long, psh_null, gI_gS, gL_gS, gR_gS, sI_gS, sL_gS, orf_some, Option.bind_some, List.length_cons, List.length_nil, Nat.reduceAdd, Nat.reduceLeDiff, if_true, if_false, Nat.zero_le, at_1, hpk, sc_2, up_sc2, nI_1, i10, true_or, ne_eq, not_true_eq_false, not_false_eq_true, Bool.false_eq_true, true_and, and_true, and_self, if_true, if_false, ib_0, ib_1, pkv_eqL]
  by_cases e : B p = c <;> simp [e]
theorem s_takeByte (I : Nat → Nat → Int32) (J : Nat → Nat → Int64) (q : Bool × Bool) (X : Nat × (Nat → Int32)) {L : Nat} {B : Nat → Nat} (h : rd I L B) (p : Nat) (v : Int32) (hp : p < 2147483648) : gb_call 40 [.ref (1 : Nat)] gb_pG (gS (sc I (nI p) v) J q X) = some (.int (pkv (B p)), gb_pG, gS (sc I (nI (p + 1)) v) J q X) := by
  have hpk := s_peek I J q X h p v hp
  rw [cl_SC_takeByte]
  simp (disch := first | omega | decide | assumption | simp only [List.length_cons, List.length_nil, Nat.reduceAdd, Nat.reduceLeDiff]) only [x_aload_0, xc_SC_peek, x_istore_1, x_dup_i, x_dup_r, x_get_322, x_c_1, x_iadd, x_put_322, x_iload_1, x_iret, bk_SC_takeByte_0, kil_int, kil_ref, kil_null, kil_long, kil_rA, psh_int, psh_long, psh_null, gI_gS, gL_gS, gR_gS, sI_gS, sL_gS, orf_some, Option.bind_some, List.length_cons, List.length_nil, Nat.reduceAdd, Nat.reduceLeDiff, if_true, if_false, Nat.zero_le, at_1, hpk, sc_2, up_sc2, nI_1, i10, true_or, ne_eq, not_true_eq_false, not_false_eq_true, Bool.false_eq_true, true_and, and_true, and_self, if_true, if_false]
