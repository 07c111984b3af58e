/-! THE SMALL MACHINE'S STATE IN THE HEAP -/
def gb_cv (b B : Nat) : Value → Value
  | .int x => .int x
  | .long x => .long x
  | .ref i => .ref (B + i)
  | .retAddr _ => .ref b
  | _ => .null
def gb_rf (B : Nat) (r : Option Nat) : Value := match r with
  | none => .null
  | some i => .ref (B + i)
def gb_fv (B : Nat) (g : gb_Sg) (i c k : Nat) : Value := match gb_kd c k with
  | 0 => .int (gI g i k)
  | 3 => .int (gI g i k)
  | 1 => .long (gL g i k)
  | _ => gb_rf B (gR g i k)
def gb_av (B : Nat) (g : gb_Sg) (i t j : Nat) : Value := match t with
  | 0 => .int (gI g i j)
  | 1 => .int (gI g i j)
  | 2 => .int (gI g i j)
  | 3 => .long (gL g i j)
  | _ => gb_rf B (gR g i j)
def gb_aty : Nat → FieldType
  | 0 => .int
  | 1 => .byte
  | 2 => .boolean
  | 3 => .long
  | 4 => .array .int
  | _ => .array .long
def gb_cell (D : va_G) (B : Nat) (U : State) (H : Heap) (g : gb_Sg) (i : Nat) (q : Nat × Nat) : Prop :=
  (q.1 ≤ 5 ∧ ∃ cA : ClassId, H[B + i]? = some (arrV cA q.2 (gb_av B g i q.1)) ∧ ArrOfT U cA (gb_aty q.1)) ∨
  ∃ (n : Nat) (r : vw_C), q.1 = 10 + n ∧ gb_cls[n]? = some r ∧ q.2 = r.2.2 ∧ t_OB (B + i) (D.1 n) r.2.2 (D.2 n) H (gb_fv B g i n)
def gb_Rep (D : va_G) (b B : Nat) (U : State) (H : Heap) (P : gb_Pi) (g : gb_Sg) : Prop :=
  H.size = B + P.length ∧ b < B ∧ va_X b (gN g) (gX g) U H ∧ ∀ (i : Nat) (q : Nat × Nat), P[i]? = some q → gb_cell D B U H g i q
def gb_AO (ty : FieldType) (U : State) : Prop := (Cond.arrayOver (.array ty)).before #[] U = true
/-- what the tables say beyond the good words -/
def gb_K (D : va_G) (U : State) : Prop := (∀ (n : Nat) (q : vw_C), gb_cls[n]? = some q → u_Kn U q.1 q.2.1 q.2.2 (D.1 n) (D.2 n)) ∧ (∀ e ∈ gb_mtab, e.2.2 = true → va_Nw (gb_wM e) U) ∧ gb_AO .int U ∧ gb_AO .long U
theorem gb_cell.moved {D : va_G} {B : Nat} {u U : State} {H : Heap} {g : gb_Sg} {i : Nat} {q : Nat × Nat} (hvm : u.vm.Alike U.vm) (h : gb_cell D B u H g i q) : gb_cell D B U H g i q := by
  rcases h with ⟨h1, cA, h2, h3⟩ | h
  · exact Or.inl ⟨h1, cA, h2, arrOfT_moved hvm h3⟩
  · exact Or.inr h
theorem gb_Rep.moved {D : va_G} {b B : Nat} {u U : State} {H : Heap} {P : gb_Pi} {g : gb_Sg} (hvm : u.vm.Alike U.vm) (h : gb_Rep D b B u H P g) : gb_Rep D b B U H P g :=
  ⟨h.1, h.2.1, h.2.2.1.moved hvm, fun i q hq => (h.2.2.2 i q hq).moved hvm⟩
theorem gb_AO.spec {ty : FieldType} {s : State} (h : gb_AO ty s) :
    ∃ comp c k, s.vm.findClass (FieldType.array ty).toString = some comp ∧ (s.vm.classes.findIdx? fun (x : Class) => match x.kind with | .array component _ => component == comp | _ => false) = some c ∧ s.vm.classes[c]? = some k ∧ k.kind = .array comp (.array ty) ∧
      s.vm.findClass ("[" ++ (FieldType.array ty).toString) = some c := by
  unfold gb_AO Cond.before at h
  simp only [Cond.holds, Cond.value, beq_iff_eq] at h
  cases hc : s.vm.findClass (FieldType.array ty).toString with
  | none => simp [hc] at h
  | some comp =>
    simp only [hc, Option.bind_some, Option.bind_eq_some_iff, Option.map_eq_some_iff] at h
    obtain ⟨c, hi, k, hk, hb⟩ := h
    obtain ⟨hlt, hp, -⟩ := Array.findIdx?_eq_some_iff_getElem.mp hi
    have hkk : s.vm.classes[c] = k := (Array.getElem?_eq_some_iff.mp hk).2
    rw [hkk] at hp
    cases hkind : k.kind with
    | array component ty =>
      rw [hkind] at hb hp
      simp at hb hp
      exact ⟨comp, c, k, rfl, hi, hk, by rw [hkind, hp, hb.1], hb.2⟩
    | _ => rw [hkind] at hb; simp at hb
theorem gb_idx_bare (vm : Vm) (comp : ClassId) : (vm.bare.classes.findIdx? fun (x : Class) => match x.kind with | .array component _ => component == comp | _ => false) = (vm.classes.findIdx? fun (x : Class) => match x.kind with | .array component _ => component == comp | _ => false) := by
  simp only [Vm.bare, Array.findIdx?_map]
  rfl
theorem gb_AO.moved {ty : FieldType} {u U : State} (hvm : u.vm.Alike U.vm) (h : gb_AO ty u) : gb_AO ty U := by
  obtain ⟨comp, c, k, h1, h2, h3, h4, h5⟩ := gb_AO.spec h
  obtain ⟨k', hk', he⟩ := hvm.2.2 _ _ h3
  have hi : (U.vm.classes.findIdx? fun (x : Class) => match x.kind with | .array component _ => component == comp | _ => false) = some c := by
    rw [← gb_idx_bare]
    first | rw [hvm.bare_eq] | rw [← hvm.bare_eq]
    rw [gb_idx_bare]
    exact h2
  have hkind : k'.kind = .array comp (.array ty) := by rw [he]; exact h4
  have f1 : U.vm.findClass (FieldType.array ty).toString = some comp := by rw [hvm.findClass]; exact h1
  have f2 : U.vm.findClass ("[" ++ (FieldType.array ty).toString) = some c := by rw [hvm.findClass]; exact h5
  unfold gb_AO Cond.before Cond.holds
  simp only [Cond.value]
  rw [f1, Option.bind_some]
  refine (congrArg (fun o : Option Nat => (o.bind (fun c => (U.vm.classes[c]?).map fun (k : Class) => match k.kind with | .array _ ty' => decide (ty' = FieldType.array ty) && decide (U.vm.findClass ("[" ++ (FieldType.array ty).toString) = some c) | _ => false) == some true)) hi).trans ?_
  simp [hk', hkind, f2]
/-! the locals -/
def gb_al (b B : Nat) (ls : List Value) : List (Nat × Value) := ls.zipIdx.filterMap (fun q => if gb_ok q.1 then some (q.2, gb_cv b B q.1) else none)
theorem gb_al_mem {b B : Nat} {ls : List Value} {i : Nat} {w : Value} : (i, w) ∈ gb_al b B ls ↔ ∃ v, ls[i]? = some v ∧ gb_ok v = true ∧ w = gb_cv b B v := by
  unfold gb_al
  rw [List.mem_filterMap]
  constructor
  · rintro ⟨⟨v, j⟩, h1, h2⟩
    rw [List.mk_mem_zipIdx_iff_getElem?] at h1
    by_cases h : gb_ok v = true
    · simp only [h, if_true, Option.some.injEq, Prod.mk.injEq] at h2
      obtain ⟨rfl, rfl⟩ := h2
      exact ⟨v, h1, h, rfl⟩
    · simp [h] at h2
  · rintro ⟨v, h1, h2, rfl⟩
    exact ⟨(v, i), List.mk_mem_zipIdx_iff_getElem?.mpr h1, by simp [h2]⟩
def gb_lv (b B : Nat) (lsC : Array Slot) (n : Nat) (ls : List Value) : Prop := ls.length = n ∧ lv_has lsC n (gb_al b B ls)
theorem gb_lv_at {b B : Nat} {lsC : Array Slot} {n : Nat} {ls : List Value} (h : gb_lv b B lsC n ls) {i : Nat} {v : Value} (hi : ls[i]? = some v) (ho : gb_ok v = true) : lsC[i]? = some (.val (gb_cv b B v)) :=
  h.2.2.2 (i, gb_cv b B v) (gb_al_mem.mpr ⟨v, hi, ho, rfl⟩)
theorem gb_has_sub {lsC : Array Slot} {n : Nat} {l l' : List (Nat × Value)} (h : lv_has lsC n l) (hs : ∀ q ∈ l', q ∈ l) : lv_has lsC n l' := ⟨h.1, h.2.1, fun q hq => h.2.2 q (hs q hq)⟩
theorem st1_len : ∀ (ls : List Value) (i : Nat) (v : Value), (st1 ls i v).length = ls.length
  | [], _, _ => rfl
  | _ :: _, 0, _ => rfl
  | _ :: t, 1, v => by simp [st1, st1_len t 0 v]
  | _ :: t, k + 2, v => by simp [st1, st1_len t (k + 1) v]
theorem st1_get : ∀ (ls : List Value) (i : Nat) (v : Value) (j : Nat), (st1 ls i v)[j]? = if j = i then (ls[j]?).map (fun _ => v) else if j + 1 = i then (ls[j]?).map kil else ls[j]?
  | [], i, v, j => by simp [st1]
  | a :: t, 0, v, j => by
    cases j with
    | zero => simp [st1]
    | succ j => simp [st1]
  | a :: t, 1, v, j => by
    cases j with
    | zero => simp [st1]
    | succ j =>
      rw [st1, List.getElem?_cons_succ, st1_get t 0 v j, List.getElem?_cons_succ]
      by_cases h : j = 0
      · subst h; simp
      · simp [h]
  | a :: t, k + 2, v, j => by
    cases j with
    | zero => simp [st1]
    | succ j =>
      rw [st1, List.getElem?_cons_succ, st1_get t (k + 1) v j, List.getElem?_cons_succ]
      by_cases h : j = k + 1
      · subst h; simp
      · by_cases h2 : j + 1 = k + 1
        · rw [if_neg h, if_pos h2, if_neg (by omega), if_pos (by omega)]
        · rw [if_neg h, if_neg h2, if_neg (by omega), if_neg (by omega)]
theorem st2_len : ∀ (ls : List Value) (i : Nat) (v : Value), i + 1 < ls.length → (st2 ls i v).length = ls.length
  | [], _, _, h => by simp at h
  | [_], _, _, h => by simp at h
  | _ :: _ :: _, 0, _, _ => rfl
  | _ :: b :: t, 1, v, h => by
    rw [st2, List.length_cons, st2_len (b :: t) 0 v (by simp at h ⊢; omega)]; rfl
  | _ :: b :: t, k + 2, v, h => by
    rw [st2, List.length_cons, st2_len (b :: t) (k + 1) v (by simp at h ⊢; omega)]; rfl
theorem st2_get : ∀ (ls : List Value) (i : Nat) (v : Value) (j : Nat), i + 1 < ls.length → (st2 ls i v)[j]? = if j = i then some v else if j = i + 1 then some .null else if j + 1 = i then (ls[j]?).map kil else ls[j]?
  | [], _, _, _, h => by simp at h
  | [_], _, _, _, h => by simp at h
  | a :: b :: t, 0, v, j, _ => by
    match j with
    | 0 => simp [st2]
    | 1 => simp [st2]
    | j + 2 => simp [st2]
  | a :: b :: t, 1, v, j, h => by
    cases j with
    | zero => simp [st2]
    | succ j =>
      rw [st2, List.getElem?_cons_succ, st2_get (b :: t) 0 v j (by simp at h ⊢; omega), List.getElem?_cons_succ]
      by_cases h1 : j = 0
      · subst h1; simp
      · by_cases h2 : j = 1
        · subst h2; simp
        · rw [if_neg h1, if_neg (by omega), if_neg (by omega), if_neg (by omega), if_neg (by omega), if_neg (by omega)]
  | a :: b :: t, k + 2, v, j, h => by
    cases j with
    | zero => simp [st2]
    | succ j =>
      rw [st2, List.getElem?_cons_succ, st2_get (b :: t) (k + 1) v j (by simp at h ⊢; omega), List.getElem?_cons_succ]
      by_cases h1 : j = k + 1
      · subst h1; simp
      · by_cases h2 : j = k + 2
        · subst h2; simp
        · by_cases h3 : j + 1 = k + 1
          · rw [if_neg h1, if_neg (by omega), if_pos h3, if_neg (by omega), if_neg (by omega), if_pos (by omega)]
          · rw [if_neg h1, if_neg (by omega), if_neg h3, if_neg (by omega), if_neg (by omega), if_neg (by omega)]
theorem gb_kil_ok {v w : Value} (h : kil v = w) (ho : gb_ok w = true) (b B : Nat) : v = w ∧ ¬ (gb_cv b B v).category = 2 := by
  cases v <;> simp [kil] at h <;> subst h <;> first | (simp [gb_ok] at ho; done) | exact ⟨rfl, by simp [gb_cv, Value.category]⟩
theorem gb_lv_st1 {b B : Nat} {lsC : Array Slot} {n : Nat} {ls : List Value} {i : Nat} {v : Value} (hlen : ls.length = n) (hi : i < n) (ho : gb_ok v = true) (h : lv_has lsC n ((i, gb_cv b B v) :: (gb_al b B ls).filter (fun q => !(q.1 == i) && !(q.1 + 1 == i && q.2.category == 2)))) : gb_lv b B lsC n (st1 ls i v) := by
  refine ⟨(st1_len _ _ _).trans hlen, gb_has_sub h fun q hq => ?_⟩
  obtain ⟨j, w⟩ := q
  obtain ⟨u, h1, h2, rfl⟩ := gb_al_mem.mp hq
  rw [st1_get] at h1
  by_cases e : j = i
  · subst e
    rw [if_pos rfl] at h1
    obtain ⟨a, -, rfl⟩ := Option.map_eq_some_iff.mp h1
    exact List.mem_cons_self
  · rw [if_neg e] at h1
    refine List.mem_cons_of_mem _ (List.mem_filter.mpr ?_)
    by_cases e2 : j + 1 = i
    · rw [if_pos e2] at h1
      obtain ⟨a, ha, hk⟩ := Option.map_eq_some_iff.mp h1
      obtain ⟨rfl, hc⟩ := gb_kil_ok hk h2 b B
      exact ⟨gb_al_mem.mpr ⟨a, ha, h2, rfl⟩, by simp [e, hc]⟩
    · rw [if_neg e2] at h1
      exact ⟨gb_al_mem.mpr ⟨u, h1, h2, rfl⟩, by simp [e, e2]⟩
theorem gb_lv_st2 {b B : Nat} {lsC : Array Slot} {n : Nat} {ls : List Value} {i : Nat} {v : Value} (hlen : ls.length = n) (hi : i + 1 < n) (ho : gb_ok v = true) (h : lv_has lsC n ((i, gb_cv b B v) :: (gb_al b B ls).filter (fun q => !(q.1 == i) && (!(q.1 == i + 1) && !(q.1 + 1 == i && q.2.category == 2))))) : gb_lv b B lsC n (st2 ls i v) := by
  refine ⟨(st2_len _ _ _ (by omega)).trans hlen, gb_has_sub h fun q hq => ?_⟩
  obtain ⟨j, w⟩ := q
  obtain ⟨u, h1, h2, rfl⟩ := gb_al_mem.mp hq
  rw [st2_get _ _ _ _ (by omega)] at h1
  by_cases e : j = i
  · subst e
    rw [if_pos rfl] at h1
    cases h1
    exact List.mem_cons_self
  · rw [if_neg e] at h1
    refine List.mem_cons_of_mem _ (List.mem_filter.mpr ?_)
    by_cases e1 : j = i + 1
    · rw [if_pos e1] at h1
      cases h1
      simp [gb_ok] at h2
    · rw [if_neg e1] at h1
      by_cases e2 : j + 1 = i
      · rw [if_pos e2] at h1
        obtain ⟨a, ha, hk⟩ := Option.map_eq_some_iff.mp h1
        obtain ⟨rfl, hc⟩ := gb_kil_ok hk h2 b B
        exact ⟨gb_al_mem.mpr ⟨a, ha, h2, rfl⟩, by simp [e, e1, hc]⟩
      · rw [if_neg e2] at h1
        exact ⟨gb_al_mem.mpr ⟨u, h1, h2, rfl⟩, by simp [e, e1, e2]⟩
