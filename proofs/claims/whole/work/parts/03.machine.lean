/-! THE SMALL MACHINE: cells by their order of making, ints, longs and references apart; the script is .retAddr 0; .null is an unset local -/
abbrev gb_Pi : Type := List (Nat × Nat)
abbrev gb_Sg : Type := (Nat → Nat → Int32) × (Nat → Nat → Int64) × (Nat → Nat → Option Nat) × Nat × (Nat → Int32)
def gI (g : gb_Sg) (a k : Nat) : Int32 := g.1 a k
def gL (g : gb_Sg) (a k : Nat) : Int64 := g.2.1 a k
def gR (g : gb_Sg) (a k : Nat) : Option Nat := g.2.2.1 a k
def gN (g : gb_Sg) : Nat := g.2.2.2.1
def gX (g : gb_Sg) : Nat → Int32 := g.2.2.2.2
def sI (g : gb_Sg) (a k : Nat) (v : Int32) : gb_Sg := (fun x y => if x = a ∧ y = k then v else g.1 x y, g.2)
def sL (g : gb_Sg) (a k : Nat) (v : Int64) : gb_Sg := (g.1, fun x y => if x = a ∧ y = k then v else g.2.1 x y, g.2.2)
def sR (g : gb_Sg) (a k : Nat) (v : Option Nat) : gb_Sg := (g.1, g.2.1, fun x y => if x = a ∧ y = k then v else g.2.2.1 x y, g.2.2.2)
/-- a fresh cell's contents -/
def s0 (g : gb_Sg) (a : Nat) : gb_Sg := (fun x y => if x = a then 0 else g.1 x y, fun x y => if x = a then 0 else g.2.1 x y, fun x y => if x = a then none else g.2.2.1 x y, g.2.2.2)
/-- fresh cells a + 1 .. a + n, and a holds them -/
def s2 (g : gb_Sg) (a n : Nat) : gb_Sg := (fun x y => if a ≤ x ∧ x ≤ a + n then 0 else g.1 x y, fun x y => if a ≤ x ∧ x ≤ a + n then 0 else g.2.1 x y,
  fun x y => if x = a then (if y < n then some (a + 1 + y) else none) else if a ≤ x ∧ x ≤ a + n then none else g.2.2.1 x y, g.2.2.2)
def atag (p : gb_Pi) (a : Nat) : Nat := match p[a]? with
  | some q => q.1
  | none => 99
def alen (p : gb_Pi) (a : Nat) : Nat := match p[a]? with
  | some q => q.2
  | none => 0
def oob (i : Int32) (n : Nat) : Bool := decide (i < 0 ∨ n ≤ i.toNatClampNeg)
def ix (i : Int32) : Nat := i.toNatClampNeg
/-- the slots of all cells -/
def gb_msl (p : gb_Pi) : Nat := (p.map (fun q => q.2)).sum
def kil : Value → Value
  | .long _ => .null
  | .double _ => .null
  | v => v
def st1 : List Value → Nat → Value → List Value
  | [], _, _ => []
  | _ :: t, 0, v => v :: t
  | a :: t, 1, v => kil a :: st1 t 0 v
  | a :: t, k + 2, v => a :: st1 t (k + 1) v
def st2 : List Value → Nat → Value → List Value
  | [], _, _ => []
  | [_], _, _ => []
  | _ :: _ :: t, 0, v => v :: .null :: t
  | a :: b :: t, 1, v => kil a :: st2 (b :: t) 0 v
  | a :: b :: t, k + 2, v => a :: st2 (b :: t) (k + 1) v
def gb_cnd : ClassFile.Cond → Int32 → Int32 → Bool
  | .eq, x, y => decide (x = y)
  | .ne, x, y => decide (¬ x = y)
  | .lt, x, y => decide (x < y)
  | .ge, x, y => decide (y ≤ x)
  | .gt, x, y => decide (y < x)
  | .le, x, y => decide (x ≤ y)
abbrev gb_Oc : Type := (List Value × List Value × gb_Pi × gb_Sg) ⊕ (Nat × List Value × List Value) ⊕ Value ⊕ (Nat × Nat × List Value)
abbrev gb_nx (ls st : List Value) (p : gb_Pi) (g : gb_Sg) : Option gb_Oc := some (.inl (ls, st, p, g))
abbrev gb_jp (t : Nat) (ls st : List Value) : Option gb_Oc := some (.inr (.inl (t, ls, st)))
abbrev gb_rt (v : Value) : Option gb_Oc := some (.inr (.inr (.inl v)))
abbrev gb_cl (k n : Nat) (st : List Value) : Option gb_Oc := some (.inr (.inr (.inr (k, n, st))))
/-- the arguments as locals: a long takes two -/
def gb_lex : List Value → List Value
  | [] => []
  | .long x :: r => .long x :: .null :: gb_lex r
  | v :: r => v :: gb_lex r
def gb_ent (n : Nat) (as : List Value) : List Value := gb_lex as ++ List.replicate (n - (gb_lex as).length) .null
def psh (v : Value) (st : List Value) : List Value := match v with
  | .null => st
  | v => v :: st
/-- int, long, ref, the script: what a stack or an argument may hold -/
def gb_ok : Value → Bool
  | .int _ => true
  | .long _ => true
  | .ref _ => true
  | .retAddr _ => true
  | _ => false
def gb_atg : ArrayType → Nat
  | .int => 0
  | .byte => 1
  | .boolean => 2
  | .long => 3
  | _ => 98
/-- may these be the arguments of method k? an instance method's receiver is an object of its class -/
def gb_rcv (k : Nat) (as : List Value) (p : gb_Pi) : Bool :=
  decide (as.length = (gb_inf k).2.2.2.1) && as.all gb_ok && decide ((gb_lex as).length ≤ (gb_inf k).1) && (match (gb_inf k).2.2.1 with
  | 0 => true
  | c + 1 => (match as with
    | .ref a :: _ => decide (atag p a = 10 + c)
    | _ => false))
/-- one instruction -/
def gb_stp (i : Instr) (ls st : List Value) (p : gb_Pi) (g : gb_Sg) : Option gb_Oc :=
  match i with
  | .iload k => (match ls[k]? with
    | some (.int x) => gb_nx ls (.int x :: st) p g
    | _ => none)
  | .lload k => (match ls[k]? with
    | some (.long x) => gb_nx ls (.long x :: st) p g
    | _ => none)
  | .aload k => (match ls[k]? with
    | some (.ref x) => gb_nx ls (.ref x :: st) p g
    | some (.retAddr x) => gb_nx ls (.retAddr x :: st) p g
    | _ => none)
  | .istore k => (match st with
    | .int x :: r => if k < ls.length then gb_nx (st1 ls k (.int x)) r p g else none
    | _ => none)
  | .astore k => (match st with
    | .ref x :: r => if k < ls.length then gb_nx (st1 ls k (.ref x)) r p g else none
    | _ => none)
  | .lstore k => (match st with
    | .long x :: r => if k + 1 < ls.length then gb_nx (st2 ls k (.long x)) r p g else none
    | _ => none)
  | .iinc k c => (match ls[k]? with
    | some (.int x) => gb_nx (st1 ls k (.int (x + Int32.ofInt c))) st p g
    | _ => none)
  | .sipush c => gb_nx ls (.int (Int32.ofInt c) :: st) p g
  | .bipush c => gb_nx ls (.long (Int64.ofInt c) :: st) p g
  | .iadd => (match st with | .int y :: .int x :: r => gb_nx ls (.int (x + y) :: r) p g | _ => none)
  | .isub => (match st with | .int y :: .int x :: r => gb_nx ls (.int (x - y) :: r) p g | _ => none)
  | .imul => (match st with | .int y :: .int x :: r => gb_nx ls (.int (x * y) :: r) p g | _ => none)
  | .iand => (match st with | .int y :: .int x :: r => gb_nx ls (.int (x &&& y) :: r) p g | _ => none)
  | .ior => (match st with | .int y :: .int x :: r => gb_nx ls (.int (x ||| y) :: r) p g | _ => none)
  | .ixor => (match st with | .int y :: .int x :: r => gb_nx ls (.int (x ^^^ y) :: r) p g | _ => none)
  | .idiv => (match st with | .int y :: .int x :: r => if y = 0 then none else gb_nx ls (.int (x / y) :: r) p g | _ => none)
  | .irem => (match st with | .int y :: .int x :: r => if y = 0 then none else gb_nx ls (.int (x - x / y * y) :: r) p g | _ => none)
  | .ineg => (match st with | .int x :: r => gb_nx ls (.int (-x) :: r) p g | _ => none)
  | .ishl => (match st with | .int y :: .int x :: r => gb_nx ls (.int (x <<< (y &&& 31)) :: r) p g | _ => none)
  | .ishr => (match st with | .int y :: .int x :: r => gb_nx ls (.int (x >>> (y &&& 31)) :: r) p g | _ => none)
  | .iushr => (match st with | .int y :: .int x :: r => gb_nx ls (.int (x.toUInt32 >>> (y.toUInt32 &&& Int32.toUInt32 31)).toInt32 :: r) p g | _ => none)
  | .ladd => (match st with | .long y :: .long x :: r => gb_nx ls (.long (x + y) :: r) p g | _ => none)
  | .lsub => (match st with | .long y :: .long x :: r => gb_nx ls (.long (x - y) :: r) p g | _ => none)
  | .lmul => (match st with | .long y :: .long x :: r => gb_nx ls (.long (x * y) :: r) p g | _ => none)
  | .land => (match st with | .long y :: .long x :: r => gb_nx ls (.long (x &&& y) :: r) p g | _ => none)
  | .lor => (match st with | .long y :: .long x :: r => gb_nx ls (.long (x ||| y) :: r) p g | _ => none)
  | .ldiv => (match st with | .long y :: .long x :: r => if y = 0 then none else gb_nx ls (.long (x / y) :: r) p g | _ => none)
  | .lrem => (match st with | .long y :: .long x :: r => if y = 0 then none else gb_nx ls (.long (x - x / y * y) :: r) p g | _ => none)
  | .lushr => (match st with | .int y :: .long x :: r => gb_nx ls (.long (x.toUInt64 >>> (y.toInt64.toUInt64 &&& Int64.toUInt64 63)).toInt64 :: r) p g | _ => none)
  | .lshl => (match st with | .int y :: .long x :: r => gb_nx ls (.long (x <<< (y.toInt64 &&& 63)) :: r) p g | _ => none)
  | .lshr => (match st with | .int y :: .long x :: r => gb_nx ls (.long (x >>> (y.toInt64 &&& 63)) :: r) p g | _ => none)
  | .lcmp => (match st with | .long y :: .long x :: r => gb_nx ls (.int (lg_cmp x y) :: r) p g | _ => none)
  | .i2l => (match st with | .int x :: r => gb_nx ls (.long x.toInt64 :: r) p g | _ => none)
  | .l2i => (match st with | .long x :: r => gb_nx ls (.int x.toInt32 :: r) p g | _ => none)
  | .i2b => (match st with | .int x :: r => gb_nx ls (.int x.toInt8.toInt32 :: r) p g | _ => none)
  | .dup => (match st with
    | .int x :: r => gb_nx ls (.int x :: .int x :: r) p g
    | .ref x :: r => gb_nx ls (.ref x :: .ref x :: r) p g
    | _ => none)
  | .dup2 => (match st with
    | .int x :: .ref a :: r => gb_nx ls (.int x :: .ref a :: .int x :: .ref a :: r) p g
    | _ => none)
  | .fadd => (match st with | .int y :: .int x :: r => if r.length ≤ 4 then gb_nx ls (.int (if x < y then y else x) :: r) p g else none | _ => none)
  | .fsub => (match st with | .int y :: .int x :: r => if r.length ≤ 4 then gb_nx ls (.int (if y < x then y else x) :: r) p g else none | _ => none)
  | .dadd => (match st with | .long y :: .long x :: r => if r.length ≤ 4 then gb_nx ls (.long (if y < x then x else y) :: r) p g else none | _ => none)
  | .pop => (match st with
    | .ref _ :: r => if r.length ≤ 4 then gb_nx ls r p g else none
    | _ => none)
  | .goto t => gb_jp t.toNat ls st
  | .ifCond c t => (match st with
    | .int x :: r => if gb_cnd c x 0 then gb_jp t.toNat ls r else gb_nx ls r p g
    | _ => none)
  | .if_icmp c t => (match st with
    | .int y :: .int x :: r => if gb_cnd c x y then gb_jp t.toNat ls r else gb_nx ls r p g
    | _ => none)
  | .lookupswitch d ps => (match st with
    | .int x :: r => gb_jp (Op.lookupswitch.offset ps.toList d x.toInt).toNat ls r
    | _ => none)
  | .tableswitch d lo hi offs => (match st with
    | .int x :: r => if x.toInt < lo ∨ hi < x.toInt then gb_jp d.toNat ls r else (match offs[(x.toInt - lo).toNat]? with
      | some t => gb_jp t.toNat ls r
      | none => none)
    | _ => none)
  | .getfield n => (match st with
    | .ref a :: r => if atag p a = 10 + n / 64 then (match gb_kd (n / 64) (n % 64) with
      | 0 => gb_nx ls (.int (gI g a (n % 64)) :: r) p g
      | 1 => gb_nx ls (.long (gL g a (n % 64)) :: r) p g
      | 2 => (match gR g a (n % 64) with
        | some b => gb_nx ls (.ref b :: r) p g
        | none => none)
      | 3 => gb_nx ls (.int (gI g a (n % 64)) :: r) p g
      | _ => none) else none
    | _ => none)
  | .putfield n => (match st with
    | .int x :: .ref a :: r => if atag p a = 10 + n / 64 then (match gb_kd (n / 64) (n % 64) with
      | 0 => gb_nx ls r p (sI g a (n % 64) x)
      | 3 => if x = 0 ∨ x = 1 then gb_nx ls r p (sI g a (n % 64) x) else none
      | _ => none) else none
    | .long x :: .ref a :: r => if atag p a = 10 + n / 64 then (match gb_kd (n / 64) (n % 64) with
      | 1 => gb_nx ls r p (sL g a (n % 64) x)
      | _ => none) else none
    | .ref x :: .ref a :: r => if atag p a = 10 + n / 64 then (match gb_kd (n / 64) (n % 64) with
      | 2 => gb_nx ls r p (sR g a (n % 64) (some x))
      | _ => none) else none
    | _ => none)
  | .iaload => (match st with
    | .int i :: .ref a :: r => if atag p a = 0 then (if oob i (alen p a) then none else gb_nx ls (.int (gI g a (ix i)) :: r) p g) else none
    | .int i :: .retAddr _ :: r => if oob i (gN g) then none else gb_nx ls (.int (gX g (ix i)) :: r) p g
    | _ => none)
  | .laload => (match st with
    | .int i :: .ref a :: r => if atag p a = 3 then (if oob i (alen p a) then none else gb_nx ls (.long (gL g a (ix i)) :: r) p g) else none
    | _ => none)
  | .baload => (match st with
    | .int i :: .ref a :: r => if atag p a = 1 ∨ atag p a = 2 then (if oob i (alen p a) then none else gb_nx ls (.int (gI g a (ix i)) :: r) p g) else none
    | _ => none)
  | .aaload => (match st with
    | .int i :: .ref a :: r => if atag p a = 4 ∨ atag p a = 5 then (if oob i (alen p a) then none else (match gR g a (ix i) with
      | some b => gb_nx ls (.ref b :: r) p g
      | none => none)) else none
    | _ => none)
  | .iastore => (match st with
    | .int x :: .int i :: .ref a :: r => if atag p a = 0 then (if oob i (alen p a) then none else gb_nx ls r p (sI g a (ix i) x)) else none
    | _ => none)
  | .lastore => (match st with
    | .long x :: .int i :: .ref a :: r => if atag p a = 3 then (if oob i (alen p a) then none else gb_nx ls r p (sL g a (ix i) x)) else none
    | _ => none)
  | .bastore => (match st with
    | .int x :: .int i :: .ref a :: r => if atag p a = 1 then (if oob i (alen p a) then none else gb_nx ls r p (sI g a (ix i) x.toInt8.toInt32)) else
      if atag p a = 2 then (if oob i (alen p a) then none else gb_nx ls r p (sI g a (ix i) (x &&& 1))) else none
    | _ => none)
  | .arraylength => (match st with
    | .ref a :: r => if atag p a ≤ 5 then gb_nx ls (.int (Int32.ofNat (alen p a)) :: r) p g else none
    | .retAddr _ :: r => gb_nx ls (.int (Int32.ofNat (gN g)) :: r) p g
    | _ => none)
  | .new c => gb_nx ls (.ref p.length :: st) (p ++ [(10 + c, (gb_kds.getD c []).length)]) (s0 g p.length)
  | .newarray t => (match st with
    | .int n :: r => if n < 0 ∨ 100000 < n.toNatClampNeg ∨ 3 < gb_atg t then none else gb_nx ls (.ref p.length :: r) (p ++ [(gb_atg t, n.toNatClampNeg)]) (s0 g p.length)
    | _ => none)
  | .multianewarray t _ => (match st with
    | .int k :: .int n :: r => if k < 0 ∨ n < 0 ∨ 100000 < k.toNatClampNeg ∨ 100000 < n.toNatClampNeg ∨ ¬ (t = 4 ∨ t = 5) then none else
      gb_nx ls (.ref p.length :: r) (p ++ (t, n.toNatClampNeg) :: List.replicate n.toNatClampNeg (if t = 4 then 0 else 3, k.toNatClampNeg)) (s2 g p.length n.toNatClampNeg)
    | _ => none)
  | .ireturn => (match st with | [.int x] => gb_rt (.int x) | _ => none)
  | .areturn => (match st with | [.int x] => if x = 0 ∨ x = 1 then gb_rt (.int x) else none | _ => none)
  | .lreturn => (match st with | [.long x] => gb_rt (.long x) | _ => none)
  | .return_ => (match st with | [] => gb_rt .null | _ => none)
  | .invokeinterface k n => if n ≤ st.length ∧ (st.drop n).length ≤ 4 ∧ gb_rcv k (st.take n).reverse p = true then gb_cl k n st else none
  | _ => none
def gb_run : Nat → Nat → List Instr → List Value → List Value → gb_Pi → gb_Sg → Option (Value × gb_Pi × gb_Sg)
  | 0, _, _, _, _, _, _ => none
  | _ + 1, _, [], _, _, _, _ => none
  | n + 1, m, i :: r, ls, st, p, g =>
    match gb_stp i ls st p g with
    | none => none
    | some (.inl q) => gb_run n m r q.1 q.2.1 q.2.2.1 q.2.2.2
    | some (.inr (.inl q)) => gb_run n m (gb_tgt m q.1) q.2.1 q.2.2 p g
    | some (.inr (.inr (.inl v))) => some (v, p, g)
    | some (.inr (.inr (.inr q))) =>
      match gb_run n q.1 (gb_prog q.1) (gb_ent (gb_inf q.1).1 (q.2.2.take q.2.1).reverse) [] p g with
      | none => none
      | some w => gb_run n m r ls (psh w.1 (q.2.2.drop q.2.1)) w.2.1 w.2.2
theorem gb_run_mono : ∀ (n m : Nat) (r : List Instr) (ls st : List Value) (p : gb_Pi) (g : gb_Sg) (x : Value × gb_Pi × gb_Sg), gb_run n m r ls st p g = some x → gb_run (n + 1) m r ls st p g = some x
  | 0, _, _, _, _, _, _, _, h => by simp [gb_run] at h
  | n + 1, m, [], ls, st, p, g, x, h => by simp [gb_run] at h
  | n + 1, m, i :: r, ls, st, p, g, x, h => by
    rw [gb_run] at h ⊢
    generalize gb_stp i ls st p g = o at h ⊢
    match o, h with
    | some (.inl q), h => exact gb_run_mono n _ _ _ _ _ _ _ h
    | some (.inr (.inl q)), h => exact gb_run_mono n _ _ _ _ _ _ _ h
    | some (.inr (.inr (.inl v))), h => exact h
    | some (.inr (.inr (.inr q))), h =>
      dsimp only at h ⊢
      cases h1 : gb_run n q.1 (gb_prog q.1) (gb_ent (gb_inf q.1).1 (q.2.2.take q.2.1).reverse) [] p g with
      | none => rw [h1] at h; cases h
      | some w =>
        rw [h1] at h
        rw [gb_run_mono n _ _ _ _ _ _ _ h1]
        exact gb_run_mono n _ _ _ _ _ _ _ h
theorem gb_run_le {n k m : Nat} {r : List Instr} {ls st : List Value} {p : gb_Pi} {g : gb_Sg} {x : Value × gb_Pi × gb_Sg} (h : gb_run n m r ls st p g = some x) (hk : n ≤ k) : gb_run k m r ls st p g = some x := by
  induction k with
  | zero => rw [Nat.le_zero.mp hk] at h; exact h
  | succ k ih =>
    rcases Nat.lt_or_ge n (k + 1) with q | q
    · exact gb_run_mono _ _ _ _ _ _ _ _ (ih (by omega))
    · rw [show k + 1 = n by omega]; exact h
/-- what a run comes to, at any fuel -/
noncomputable def gb_ex (m : Nat) (r : List Instr) (ls st : List Value) (p : gb_Pi) (g : gb_Sg) : Option (Value × gb_Pi × gb_Sg) :=
  @dite _ (∃ x n, gb_run n m r ls st p g = some x) (Classical.propDecidable _) (fun h => some h.choose) (fun _ => none)
theorem gb_ex_iff {m : Nat} {r : List Instr} {ls st : List Value} {p : gb_Pi} {g : gb_Sg} {x : Value × gb_Pi × gb_Sg} : gb_ex m r ls st p g = some x ↔ ∃ n, gb_run n m r ls st p g = some x := by
  unfold gb_ex
  by_cases h : ∃ x n, gb_run n m r ls st p g = some x
  · rw [dif_pos h]
    obtain ⟨k, hk⟩ := h.choose_spec
    constructor
    · intro e
      cases e
      exact ⟨k, hk⟩
    · rintro ⟨n, hn⟩
      have h1 := gb_run_le hk (Nat.le_max_left k n)
      have h2 := gb_run_le hn (Nat.le_max_right k n)
      rw [h1] at h2
      exact h2
  · rw [dif_neg h]
    constructor
    · intro e; cases e
    · rintro ⟨n, hn⟩
      exact absurd ⟨x, n, hn⟩ h
theorem gb_opt_ext {α : Type} {a b : Option α} (h : ∀ x, a = some x ↔ b = some x) : a = b := by
  cases a with
  | none =>
    cases b with
    | none => rfl
    | some y => exact absurd ((h y).mpr rfl) (by simp)
  | some x => exact ((h x).mp rfl).symm
/-- an instruction that goes on -/
theorem gb_ex_nx {m : Nat} {i : Instr} {r : List Instr} {ls st ls' st' : List Value} {p p' : gb_Pi} {g g' : gb_Sg} (h : gb_stp i ls st p g = gb_nx ls' st' p' g') : gb_ex m (i :: r) ls st p g = gb_ex m r ls' st' p' g' := by
  refine gb_opt_ext fun x => ?_
  rw [gb_ex_iff, gb_ex_iff]
  constructor
  · rintro ⟨n, hn⟩
    cases n with
    | zero => simp [gb_run] at hn
    | succ n => rw [gb_run, h] at hn; exact ⟨n, hn⟩
  · rintro ⟨n, hn⟩
    exact ⟨n + 1, by rw [gb_run, h]; exact hn⟩
theorem gb_ex_jp {m t : Nat} {i : Instr} {r : List Instr} {ls st ls' st' : List Value} {p : gb_Pi} {g : gb_Sg} (h : gb_stp i ls st p g = gb_jp t ls' st') : gb_ex m (i :: r) ls st p g = gb_ex m (gb_tgt m t) ls' st' p g := by
  refine gb_opt_ext fun x => ?_
  rw [gb_ex_iff, gb_ex_iff]
  constructor
  · rintro ⟨n, hn⟩
    cases n with
    | zero => simp [gb_run] at hn
    | succ n => rw [gb_run, h] at hn; exact ⟨n, hn⟩
  · rintro ⟨n, hn⟩
    exact ⟨n + 1, by rw [gb_run, h]; exact hn⟩
theorem gb_ex_rt {m : Nat} {i : Instr} {r : List Instr} {ls st : List Value} {p : gb_Pi} {g : gb_Sg} {v : Value} (h : gb_stp i ls st p g = gb_rt v) : gb_ex m (i :: r) ls st p g = some (v, p, g) := by
  refine gb_opt_ext fun x => ?_
  rw [gb_ex_iff]
  constructor
  · rintro ⟨n, hn⟩
    cases n with
    | zero => simp [gb_run] at hn
    | succ n => rw [gb_run, h] at hn; exact hn
  · intro e
    exact ⟨1, by rw [gb_run, h]; exact e⟩
theorem gb_ex_no {m : Nat} {i : Instr} {r : List Instr} {ls st : List Value} {p : gb_Pi} {g : gb_Sg} (h : gb_stp i ls st p g = none) : gb_ex m (i :: r) ls st p g = none := by
  refine gb_opt_ext fun x => ?_
  rw [gb_ex_iff]
  constructor
  · rintro ⟨n, hn⟩
    cases n with
    | zero => simp [gb_run] at hn
    | succ n => rw [gb_run, h] at hn; cases hn
  · intro e; cases e
/-- a method by its arguments -/
noncomputable def gb_call (k : Nat) (as : List Value) (p : gb_Pi) (g : gb_Sg) : Option (Value × gb_Pi × gb_Sg) := gb_ex k (gb_prog k) (gb_ent (gb_inf k).1 as) [] p g
theorem gb_ex_cl {m k n : Nat} {i : Instr} {r : List Instr} {ls st st' : List Value} {p : gb_Pi} {g : gb_Sg} (h : gb_stp i ls st p g = gb_cl k n st') :
    gb_ex m (i :: r) ls st p g = (gb_call k (st'.take n).reverse p g).bind (fun w => gb_ex m r ls (psh w.1 (st'.drop n)) w.2.1 w.2.2) := by
  refine gb_opt_ext fun x => ?_
  rw [gb_ex_iff, Option.bind_eq_some_iff]
  constructor
  · rintro ⟨q, hn⟩
    cases q with
    | zero => simp [gb_run] at hn
    | succ q =>
      rw [gb_run, h] at hn
      dsimp only at hn
      cases h1 : gb_run q k (gb_prog k) (gb_ent (gb_inf k).1 (st'.take n).reverse) [] p g with
      | none => rw [h1] at hn; cases hn
      | some w =>
        rw [h1] at hn
        exact ⟨w, gb_ex_iff.mpr ⟨q, h1⟩, gb_ex_iff.mpr ⟨q, hn⟩⟩
  · rintro ⟨w, h1, h2⟩
    obtain ⟨a, ha⟩ := gb_ex_iff.mp h1
    obtain ⟨b, hb⟩ := gb_ex_iff.mp h2
    refine ⟨max a b + 1, ?_⟩
    rw [gb_run, h]
    dsimp only
    rw [gb_run_le ha (Nat.le_max_left a b)]
    exact gb_run_le hb (Nat.le_max_right a b)
