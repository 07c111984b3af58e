/-! an instruction of the small machine against the decoded one -/
def gb_tg (pcs : List Nat) (t : Int) (pc : Nat) (off : Int) : Bool := decide (0 ≤ t) && (match pcs[t.toNat]? with
  | some q => decide ((pc : Int) + off = (q : Int))
  | none => false)
def gb_chkI (k : Nat) (pcs : List Nat) (pc nx : Nat) (ai ci : Instr) (len : Nat) : Bool :=
  let o := gb_mo k
  match ai with
  | .iload i => (match ci with
    | .iload i' => decide (i' = i ∧ len = 2 ∧ nx = pc + 2)
    | .iload_n i' => decide (i'.val = i ∧ len = 1 ∧ nx = pc + 1)
    | _ => false)
  | .lload i => (match ci with
    | .lload i' => decide (i' = i ∧ len = 2 ∧ nx = pc + 2)
    | .lload_n i' => decide (i'.val = i ∧ len = 1 ∧ nx = pc + 1)
    | _ => false)
  | .aload i => (match ci with
    | .aload i' => decide (i' = i ∧ len = 2 ∧ nx = pc + 2)
    | .aload_n i' => decide (i'.val = i ∧ len = 1 ∧ nx = pc + 1)
    | _ => false)
  | .istore i => (match ci with
    | .istore i' => decide (i' = i ∧ len = 2 ∧ nx = pc + 2)
    | .istore_n i' => decide (i'.val = i ∧ len = 1 ∧ nx = pc + 1)
    | _ => false)
  | .lstore i => (match ci with
    | .lstore i' => decide (i' = i ∧ len = 2 ∧ nx = pc + 2)
    | .lstore_n i' => decide (i'.val = i ∧ len = 1 ∧ nx = pc + 1)
    | _ => false)
  | .astore i => (match ci with
    | .astore i' => decide (i' = i ∧ len = 2 ∧ nx = pc + 2)
    | .astore_n i' => decide (i'.val = i ∧ len = 1 ∧ nx = pc + 1)
    | _ => false)
  | .iinc i c => (match ci with
    | .iinc i' c' => decide (i' = i ∧ c' = c ∧ len = 3 ∧ nx = pc + 3)
    | _ => false)
  | .sipush c => (match ci with
    | .iconst n => decide (n = c ∧ len = 1 ∧ nx = pc + 1)
    | .bipush n => decide ((Int8.ofInt n).toInt32 = Int32.ofInt c ∧ len = 2 ∧ nx = pc + 2)
    | .sipush n => decide ((Int16.ofInt n).toInt32 = Int32.ofInt c ∧ len = 3 ∧ nx = pc + 3)
    | .ldc i => decide (gb_ctab.lookup (o, i) = some (Int32.ofInt c) ∧ len = 2 ∧ nx = pc + 2)
    | .ldc_w i => decide (gb_ctab.lookup (o, i) = some (Int32.ofInt c) ∧ len = 3 ∧ nx = pc + 3)
    | _ => false)
  | .bipush c => (match ci with
    | .lconst n => decide (Int64.ofNat n.val = Int64.ofInt c ∧ len = 1 ∧ nx = pc + 1)
    | .ldc2_w i => decide (gb_ltab.lookup (o, i) = some (Int64.ofInt c) ∧ len = 3 ∧ nx = pc + 3)
    | _ => false)
  | .goto t => (match ci with
    | .goto off => gb_tg pcs t pc off && decide (len = 3)
    | _ => false)
  | .ifCond c t => (match ci with
    | .ifCond c' off => decide (c' = c) && gb_tg pcs t pc off && decide (len = 3 ∧ nx = pc + 3)
    | _ => false)
  | .if_icmp c t => (match ci with
    | .if_icmp c' off => decide (c' = c) && gb_tg pcs t pc off && decide (len = 3 ∧ nx = pc + 3)
    | _ => false)
  | .lookupswitch d ps => (match ci with
    | .lookupswitch d' ps' => gb_tg pcs d pc d' && decide (ps.toList.length = ps'.toList.length) && (ps.toList.zip ps'.toList).all (fun q => decide (q.1.1 = q.2.1) && gb_tg pcs q.1.2 pc q.2.2) && (ps'.toList.zip (ps'.toList.drop 1)).all (fun (a, next) => a.1 < next.1)
    | _ => false)
  | .tableswitch d lo hi offs => (match ci with
    | .tableswitch d' lo' hi' offs' => gb_tg pcs d pc d' && decide (lo' = lo ∧ hi' = hi) && decide (offs.toList.length = offs'.toList.length) && (offs.toList.zip offs'.toList).all (fun q => gb_tg pcs q.1 pc q.2)
    | _ => false)
  | .getfield n => (match ci with
    | .getfield i => decide (gb_ftab.lookup (o, i) = some (n / 64, n % 64) ∧ len = 3 ∧ nx = pc + 3) && decide (n / 64 < gb_cls.length) && decide (n % 64 < (gb_kds.getD (n / 64) []).length)
    | _ => false)
  | .putfield n => (match ci with
    | .putfield i => decide (gb_ftab.lookup (o, i) = some (n / 64, n % 64) ∧ len = 3 ∧ nx = pc + 3) && decide (n / 64 < gb_cls.length) && decide (n % 64 < (gb_kds.getD (n / 64) []).length) && (decide ((gb_T (n / 64) (n % 64)).2.2.2 = false) || (decide (gb_own o = (gb_T (n / 64) (n % 64)).1) && decide ((gb_inf k).2.1 = 2)))
    | _ => false)
  | .new c => (match ci with
    | .new i => decide (gb_ktab.lookup (o, i) = some c ∧ len = 3 ∧ nx = pc + 3) && decide (c < gb_cls.length)
    | _ => false)
  | .newarray t => (match ci with
    | .newarray t' => decide (t' = t ∧ len = 2 ∧ nx = pc + 2)
    | _ => false)
  | .multianewarray t _ => (match ci with
    | .multianewarray i q => decide (gb_ntab.lookup (o, i) = some t ∧ q = 2 ∧ len = 4 ∧ nx = pc + 4)
    | _ => false)
  | .fadd => (match ci with
    | .invokestatic i => decide (gb_jtab.lookup (o, i) = some 0 ∧ len = 3 ∧ nx = pc + 3) && decide (1 ≤ (gb_inf k).2.2.2.2.1 ∧ 23 ≤ (gb_inf k).2.2.2.2.2)
    | _ => false)
  | .fsub => (match ci with
    | .invokestatic i => decide (gb_jtab.lookup (o, i) = some 1 ∧ len = 3 ∧ nx = pc + 3) && decide (1 ≤ (gb_inf k).2.2.2.2.1 ∧ 23 ≤ (gb_inf k).2.2.2.2.2)
    | _ => false)
  | .dadd => (match ci with
    | .invokestatic i => decide (gb_jtab.lookup (o, i) = some 2 ∧ len = 3 ∧ nx = pc + 3) && decide (1 ≤ (gb_inf k).2.2.2.2.1 ∧ 23 ≤ (gb_inf k).2.2.2.2.2)
    | _ => false)
  | .pop => (match ci with
    | .invokespecial i => decide ((o, i) ∈ gb_otab ∧ len = 3 ∧ nx = pc + 3) && decide (1 ≤ (gb_inf k).2.2.2.2.1 ∧ 23 ≤ (gb_inf k).2.2.2.2.2)
    | _ => false)
  | .invokeinterface y n => decide (1 ≤ y ∧ y < gb_metL.length ∧ n = (gb_inf y).2.2.2.1 ∧ (gb_inf y).2.2.2.2.1 + 1 ≤ (gb_inf k).2.2.2.2.1 ∧ 8 + ((gb_inf y).1 + 11) + (gb_inf y).2.2.2.2.2 ≤ (gb_inf k).2.2.2.2.2 ∧ len = 3 ∧ nx = pc + 3) && (match ci with
    | .invokevirtual i => decide ((gb_inf y).2.1 = 0) && (decide (gb_mtab.lookup (o, i) = some (y, false)) || decide (gb_mtab.lookup (o, i) = some (y, true)))
    | .invokestatic i => decide ((gb_inf y).2.1 = 1) && (decide (gb_mtab.lookup (o, i) = some (y, false)) || decide (gb_mtab.lookup (o, i) = some (y, true)))
    | .invokespecial i => decide ((gb_inf y).2.1 = 2) && (decide (gb_mtab.lookup (o, i) = some (y, false)) || decide (gb_mtab.lookup (o, i) = some (y, true)))
    | _ => false)
  | .ireturn => decide (ci = .ireturn ∧ len = 1) && decide ((gb_met k).2.2 = some .int)
  | .areturn => decide (ci = .ireturn ∧ len = 1) && decide ((gb_met k).2.2 = some .boolean)
  | .lreturn => decide (ci = .lreturn ∧ len = 1) && decide ((gb_met k).2.2 = some .long)
  | .return_ => decide (ci = .return_ ∧ len = 1) && decide ((gb_met k).2.2 = none)
  | ai => decide (ci = ai ∧ len = 1 ∧ nx = pc + 1)
def gb_chk (k : Nat) (q : Instr × Nat × Nat) : Bool := match decode (gb_met k).2.1 q.2.1 with
  | .ok (ci, len) => gb_chkI k (gb_pcs k) q.2.1 q.2.2 q.1 ci len
  | .error _ => false
def gb_rows (k : Nat) : List (Instr × Nat × Nat) := (gb_prog k).zip ((gb_pcs k).zip ((gb_pcs k).drop 1 ++ [0]))
def gb_rowsOK (k : Nat) : Bool := decide ((gb_pcs k).length = (gb_prog k).length) && decide ((gb_pcs k)[0]? = some 0) && (gb_rows k).all (gb_chk k)
theorem gb_all_cut {α : Type} {l : List α} {f : α → Bool} (a n : Nat) (h1 : ((l.drop a).take n).all f = true) (h2 : (l.drop (a + n)).all f = true) : (l.drop a).all f = true := by
  rw [← List.take_append_drop n (l.drop a), List.all_append, h1, List.drop_drop, h2]
  rfl
theorem gb_rowsOK_of {k : Nat} (h1 : (decide ((gb_pcs k).length = (gb_prog k).length) && decide ((gb_pcs k)[0]? = some 0)) = true) (h2 : ((gb_rows k).drop 0).all (gb_chk k) = true) : gb_rowsOK k = true := by
  unfold gb_rowsOK
  rw [h1]
  exact h2
theorem gb_row_0_0 : (((gb_rows 0).drop 0).take 25).all (gb_chk 0) = true := by decide +kernel
theorem gb_row_0_25 : (((gb_rows 0).drop 25).take 25).all (gb_chk 0) = true := by decide +kernel
theorem gb_row_0_50 : (((gb_rows 0).drop 50).take 25).all (gb_chk 0) = true := by decide +kernel
theorem gb_row_0_75 : (((gb_rows 0).drop 75).take 25).all (gb_chk 0) = true := by decide +kernel
theorem gb_row_0_100 : (((gb_rows 0).drop 100).take 25).all (gb_chk 0) = true := by decide +kernel
theorem gb_row_0_125 : (((gb_rows 0).drop 125).take 25).all (gb_chk 0) = true := by decide +kernel
theorem gb_row_0_150 : (((gb_rows 0).drop 150).take 25).all (gb_chk 0) = true := by decide +kernel
theorem gb_row_0_175 : (((gb_rows 0).drop 175).take 25).all (gb_chk 0) = true := by decide +kernel
theorem gb_row_0_200 : (((gb_rows 0).drop 200).take 25).all (gb_chk 0) = true := by decide +kernel
theorem gb_row_0_225 : (((gb_rows 0).drop 225).take 25).all (gb_chk 0) = true := by decide +kernel
theorem gb_row_0_250 : (((gb_rows 0).drop 250).take 25).all (gb_chk 0) = true := by decide +kernel
theorem gb_row_0_275 : (((gb_rows 0).drop 275).take 25).all (gb_chk 0) = true := by decide +kernel
theorem gb_row_0_300 : (((gb_rows 0).drop 300).take 25).all (gb_chk 0) = true := by decide +kernel
theorem gb_row_0_325 : (((gb_rows 0).drop 325).take 25).all (gb_chk 0) = true := by decide +kernel
theorem gb_row_0_350 : (((gb_rows 0).drop 350).take 25).all (gb_chk 0) = true := by decide +kernel
theorem gb_row_0_375 : (((gb_rows 0).drop 375).take 25).all (gb_chk 0) = true := by decide +kernel
theorem gb_row_0_400 : (((gb_rows 0).drop 400).take 25).all (gb_chk 0) = true := by decide +kernel
theorem gb_row_0_425 : (((gb_rows 0).drop 425).take 25).all (gb_chk 0) = true := by decide +kernel
theorem gb_row_0_450 : (((gb_rows 0).drop 450).take 25).all (gb_chk 0) = true := by decide +kernel
theorem gb_row_0_475 : (((gb_rows 0).drop 475).take 25).all (gb_chk 0) = true := by decide +kernel
theorem gb_row_0_500 : (((gb_rows 0).drop 500).take 25).all (gb_chk 0) = true := by decide +kernel
theorem gb_row_0_525 : (((gb_rows 0).drop 525).take 25).all (gb_chk 0) = true := by decide +kernel
theorem gb_row_0_550 : (((gb_rows 0).drop 550).take 25).all (gb_chk 0) = true := by decide +kernel
theorem gb_row_0_575 : (((gb_rows 0).drop 575).take 25).all (gb_chk 0) = true := by decide +kernel
theorem gb_row_0_600 : (((gb_rows 0).drop 600).take 25).all (gb_chk 0) = true := by decide +kernel
theorem gb_row_0_625 : (((gb_rows 0).drop 625).take 25).all (gb_chk 0) = true := by decide +kernel
theorem gb_row_0_650 : (((gb_rows 0).drop 650).take 25).all (gb_chk 0) = true := by decide +kernel
theorem gb_row_0_675 : (((gb_rows 0).drop 675).take 25).all (gb_chk 0) = true := by decide +kernel
theorem gb_row_0_700 : (((gb_rows 0).drop 700).take 25).all (gb_chk 0) = true := by decide +kernel
theorem gb_row_0_725 : (((gb_rows 0).drop 725).take 25).all (gb_chk 0) = true := by decide +kernel
theorem gb_row_0_750 : (((gb_rows 0).drop 750).take 25).all (gb_chk 0) = true := by decide +kernel
theorem gb_row_0_775 : (((gb_rows 0).drop 775).take 25).all (gb_chk 0) = true := by decide +kernel
theorem gb_row_0_800 : (((gb_rows 0).drop 800).take 25).all (gb_chk 0) = true := by decide +kernel
theorem gb_row_0_825 : (((gb_rows 0).drop 825).take 25).all (gb_chk 0) = true := by decide +kernel
theorem gb_row_0_850 : (((gb_rows 0).drop 850).take 25).all (gb_chk 0) = true := by decide +kernel
theorem gb_row_0_875 : (((gb_rows 0).drop 875).take 25).all (gb_chk 0) = true := by decide +kernel
theorem gb_row_0_900 : (((gb_rows 0).drop 900).take 25).all (gb_chk 0) = true := by decide +kernel
theorem gb_row_0_925 : (((gb_rows 0).drop 925).take 25).all (gb_chk 0) = true := by decide +kernel
theorem gb_row_0_950 : (((gb_rows 0).drop 950).take 25).all (gb_chk 0) = true := by decide +kernel
theorem gb_row_0_975 : (((gb_rows 0).drop 975).take 25).all (gb_chk 0) = true := by decide +kernel
theorem gb_row_0_1000 : (((gb_rows 0).drop 1000).take 25).all (gb_chk 0) = true := by decide +kernel
theorem gb_row_0 : gb_rowsOK 0 = true := gb_rowsOK_of (by decide +kernel) (gb_all_cut 0 25 gb_row_0_0 (gb_all_cut 25 25 gb_row_0_25 (gb_all_cut 50 25 gb_row_0_50 (gb_all_cut 75 25 gb_row_0_75 (gb_all_cut 100 25 gb_row_0_100 (gb_all_cut 125 25 gb_row_0_125 (gb_all_cut 150 25 gb_row_0_150 (gb_all_cut 175 25 gb_row_0_175 (gb_all_cut 200 25 gb_row_0_200 (gb_all_cut 225 25 gb_row_0_225 (gb_all_cut 250 25 gb_row_0_250 (gb_all_cut 275 25 gb_row_0_275 (gb_all_cut 300 25 gb_row_0_300 (gb_all_cut 325 25 gb_row_0_325 (gb_all_cut 350 25 gb_row_0_350 (gb_all_cut 375 25 gb_row_0_375 (gb_all_cut 400 25 gb_row_0_400 (gb_all_cut 425 25 gb_row_0_425 (gb_all_cut 450 25 gb_row_0_450 (gb_all_cut 475 25 gb_row_0_475 (gb_all_cut 500 25 gb_row_0_500 (gb_all_cut 525 25 gb_row_0_525 (gb_all_cut 550 25 gb_row_0_550 (gb_all_cut 575 25 gb_row_0_575 (gb_all_cut 600 25 gb_row_0_600 (gb_all_cut 625 25 gb_row_0_625 (gb_all_cut 650 25 gb_row_0_650 (gb_all_cut 675 25 gb_row_0_675 (gb_all_cut 700 25 gb_row_0_700 (gb_all_cut 725 25 gb_row_0_725 (gb_all_cut 750 25 gb_row_0_750 (gb_all_cut 775 25 gb_row_0_775 (gb_all_cut 800 25 gb_row_0_800 (gb_all_cut 825 25 gb_row_0_825 (gb_all_cut 850 25 gb_row_0_850 (gb_all_cut 875 25 gb_row_0_875 (gb_all_cut 900 25 gb_row_0_900 (gb_all_cut 925 25 gb_row_0_925 (gb_all_cut 950 25 gb_row_0_950 (gb_all_cut 975 25 gb_row_0_975 (gb_all_cut 1000 25 gb_row_0_1000 ((by decide +kernel)))))))))))))))))))))))))))))))))))))))))))
theorem gb_row_1 : gb_rowsOK 1 = true := by decide +kernel
theorem gb_row_2 : gb_rowsOK 2 = true := by decide +kernel
theorem gb_row_3 : gb_rowsOK 3 = true := by decide +kernel
theorem gb_row_4_0 : (((gb_rows 4).drop 0).take 25).all (gb_chk 4) = true := by decide +kernel
theorem gb_row_4_25 : (((gb_rows 4).drop 25).take 25).all (gb_chk 4) = true := by decide +kernel
theorem gb_row_4_50 : (((gb_rows 4).drop 50).take 25).all (gb_chk 4) = true := by decide +kernel
theorem gb_row_4 : gb_rowsOK 4 = true := gb_rowsOK_of (by decide +kernel) (gb_all_cut 0 25 gb_row_4_0 (gb_all_cut 25 25 gb_row_4_25 (gb_all_cut 50 25 gb_row_4_50 ((by decide +kernel)))))
theorem gb_row_5 : gb_rowsOK 5 = true := by decide +kernel
theorem gb_row_6 : gb_rowsOK 6 = true := by decide +kernel
theorem gb_row_7 : gb_rowsOK 7 = true := by decide +kernel
theorem gb_row_8 : gb_rowsOK 8 = true := by decide +kernel
theorem gb_row_9_0 : (((gb_rows 9).drop 0).take 25).all (gb_chk 9) = true := by decide +kernel
theorem gb_row_9_25 : (((gb_rows 9).drop 25).take 25).all (gb_chk 9) = true := by decide +kernel
theorem gb_row_9_50 : (((gb_rows 9).drop 50).take 25).all (gb_chk 9) = true := by decide +kernel
theorem gb_row_9_75 : (((gb_rows 9).drop 75).take 25).all (gb_chk 9) = true := by decide +kernel
theorem gb_row_9 : gb_rowsOK 9 = true := gb_rowsOK_of (by decide +kernel) (gb_all_cut 0 25 gb_row_9_0 (gb_all_cut 25 25 gb_row_9_25 (gb_all_cut 50 25 gb_row_9_50 (gb_all_cut 75 25 gb_row_9_75 ((by decide +kernel))))))
theorem gb_row_10_0 : (((gb_rows 10).drop 0).take 25).all (gb_chk 10) = true := by decide +kernel
theorem gb_row_10_25 : (((gb_rows 10).drop 25).take 25).all (gb_chk 10) = true := by decide +kernel
theorem gb_row_10_50 : (((gb_rows 10).drop 50).take 25).all (gb_chk 10) = true := by decide +kernel
theorem gb_row_10_75 : (((gb_rows 10).drop 75).take 25).all (gb_chk 10) = true := by decide +kernel
theorem gb_row_10_100 : (((gb_rows 10).drop 100).take 25).all (gb_chk 10) = true := by decide +kernel
theorem gb_row_10 : gb_rowsOK 10 = true := gb_rowsOK_of (by decide +kernel) (gb_all_cut 0 25 gb_row_10_0 (gb_all_cut 25 25 gb_row_10_25 (gb_all_cut 50 25 gb_row_10_50 (gb_all_cut 75 25 gb_row_10_75 (gb_all_cut 100 25 gb_row_10_100 ((by decide +kernel)))))))
theorem gb_row_11 : gb_rowsOK 11 = true := by decide +kernel
theorem gb_row_12 : gb_rowsOK 12 = true := by decide +kernel
theorem gb_row_13_0 : (((gb_rows 13).drop 0).take 25).all (gb_chk 13) = true := by decide +kernel
theorem gb_row_13_25 : (((gb_rows 13).drop 25).take 25).all (gb_chk 13) = true := by decide +kernel
theorem gb_row_13_50 : (((gb_rows 13).drop 50).take 25).all (gb_chk 13) = true := by decide +kernel
theorem gb_row_13_75 : (((gb_rows 13).drop 75).take 25).all (gb_chk 13) = true := by decide +kernel
theorem gb_row_13_100 : (((gb_rows 13).drop 100).take 25).all (gb_chk 13) = true := by decide +kernel
theorem gb_row_13 : gb_rowsOK 13 = true := gb_rowsOK_of (by decide +kernel) (gb_all_cut 0 25 gb_row_13_0 (gb_all_cut 25 25 gb_row_13_25 (gb_all_cut 50 25 gb_row_13_50 (gb_all_cut 75 25 gb_row_13_75 (gb_all_cut 100 25 gb_row_13_100 ((by decide +kernel)))))))
theorem gb_row_14_0 : (((gb_rows 14).drop 0).take 25).all (gb_chk 14) = true := by decide +kernel
theorem gb_row_14_25 : (((gb_rows 14).drop 25).take 25).all (gb_chk 14) = true := by decide +kernel
theorem gb_row_14_50 : (((gb_rows 14).drop 50).take 25).all (gb_chk 14) = true := by decide +kernel
theorem gb_row_14_75 : (((gb_rows 14).drop 75).take 25).all (gb_chk 14) = true := by decide +kernel
theorem gb_row_14 : gb_rowsOK 14 = true := gb_rowsOK_of (by decide +kernel) (gb_all_cut 0 25 gb_row_14_0 (gb_all_cut 25 25 gb_row_14_25 (gb_all_cut 50 25 gb_row_14_50 (gb_all_cut 75 25 gb_row_14_75 ((by decide +kernel))))))
theorem gb_row_15 : gb_rowsOK 15 = true := by decide +kernel
theorem gb_row_16 : gb_rowsOK 16 = true := by decide +kernel
theorem gb_row_17 : gb_rowsOK 17 = true := by decide +kernel
theorem gb_row_18 : gb_rowsOK 18 = true := by decide +kernel
theorem gb_row_19_0 : (((gb_rows 19).drop 0).take 25).all (gb_chk 19) = true := by decide +kernel
theorem gb_row_19_25 : (((gb_rows 19).drop 25).take 25).all (gb_chk 19) = true := by decide +kernel
theorem gb_row_19_50 : (((gb_rows 19).drop 50).take 25).all (gb_chk 19) = true := by decide +kernel
theorem gb_row_19 : gb_rowsOK 19 = true := gb_rowsOK_of (by decide +kernel) (gb_all_cut 0 25 gb_row_19_0 (gb_all_cut 25 25 gb_row_19_25 (gb_all_cut 50 25 gb_row_19_50 ((by decide +kernel)))))
theorem gb_row_20_0 : (((gb_rows 20).drop 0).take 25).all (gb_chk 20) = true := by decide +kernel
theorem gb_row_20_25 : (((gb_rows 20).drop 25).take 25).all (gb_chk 20) = true := by decide +kernel
theorem gb_row_20_50 : (((gb_rows 20).drop 50).take 25).all (gb_chk 20) = true := by decide +kernel
theorem gb_row_20 : gb_rowsOK 20 = true := gb_rowsOK_of (by decide +kernel) (gb_all_cut 0 25 gb_row_20_0 (gb_all_cut 25 25 gb_row_20_25 (gb_all_cut 50 25 gb_row_20_50 ((by decide +kernel)))))
theorem gb_row_21_0 : (((gb_rows 21).drop 0).take 25).all (gb_chk 21) = true := by decide +kernel
theorem gb_row_21_25 : (((gb_rows 21).drop 25).take 25).all (gb_chk 21) = true := by decide +kernel
theorem gb_row_21_50 : (((gb_rows 21).drop 50).take 25).all (gb_chk 21) = true := by decide +kernel
theorem gb_row_21 : gb_rowsOK 21 = true := gb_rowsOK_of (by decide +kernel) (gb_all_cut 0 25 gb_row_21_0 (gb_all_cut 25 25 gb_row_21_25 (gb_all_cut 50 25 gb_row_21_50 ((by decide +kernel)))))
theorem gb_row_22 : gb_rowsOK 22 = true := by decide +kernel
theorem gb_row_23 : gb_rowsOK 23 = true := by decide +kernel
theorem gb_row_24 : gb_rowsOK 24 = true := by decide +kernel
theorem gb_row_25 : gb_rowsOK 25 = true := by decide +kernel
theorem gb_row_26 : gb_rowsOK 26 = true := by decide +kernel
theorem gb_row_27 : gb_rowsOK 27 = true := by decide +kernel
theorem gb_row_28_0 : (((gb_rows 28).drop 0).take 25).all (gb_chk 28) = true := by decide +kernel
theorem gb_row_28_25 : (((gb_rows 28).drop 25).take 25).all (gb_chk 28) = true := by decide +kernel
theorem gb_row_28_50 : (((gb_rows 28).drop 50).take 25).all (gb_chk 28) = true := by decide +kernel
theorem gb_row_28 : gb_rowsOK 28 = true := gb_rowsOK_of (by decide +kernel) (gb_all_cut 0 25 gb_row_28_0 (gb_all_cut 25 25 gb_row_28_25 (gb_all_cut 50 25 gb_row_28_50 ((by decide +kernel)))))
theorem gb_row_29_0 : (((gb_rows 29).drop 0).take 25).all (gb_chk 29) = true := by decide +kernel
theorem gb_row_29_25 : (((gb_rows 29).drop 25).take 25).all (gb_chk 29) = true := by decide +kernel
theorem gb_row_29_50 : (((gb_rows 29).drop 50).take 25).all (gb_chk 29) = true := by decide +kernel
theorem gb_row_29_75 : (((gb_rows 29).drop 75).take 25).all (gb_chk 29) = true := by decide +kernel
theorem gb_row_29 : gb_rowsOK 29 = true := gb_rowsOK_of (by decide +kernel) (gb_all_cut 0 25 gb_row_29_0 (gb_all_cut 25 25 gb_row_29_25 (gb_all_cut 50 25 gb_row_29_50 (gb_all_cut 75 25 gb_row_29_75 ((by decide +kernel))))))
theorem gb_row_30_0 : (((gb_rows 30).drop 0).take 25).all (gb_chk 30) = true := by decide +kernel
theorem gb_row_30_25 : (((gb_rows 30).drop 25).take 25).all (gb_chk 30) = true := by decide +kernel
theorem gb_row_30_50 : (((gb_rows 30).drop 50).take 25).all (gb_chk 30) = true := by decide +kernel
theorem gb_row_30 : gb_rowsOK 30 = true := gb_rowsOK_of (by decide +kernel) (gb_all_cut 0 25 gb_row_30_0 (gb_all_cut 25 25 gb_row_30_25 (gb_all_cut 50 25 gb_row_30_50 ((by decide +kernel)))))
theorem gb_row_31 : gb_rowsOK 31 = true := by decide +kernel
theorem gb_row_32 : gb_rowsOK 32 = true := by decide +kernel
theorem gb_row_33 : gb_rowsOK 33 = true := by decide +kernel
theorem gb_row_34 : gb_rowsOK 34 = true := by decide +kernel
theorem gb_row_35 : gb_rowsOK 35 = true := by decide +kernel
theorem gb_row_36 : gb_rowsOK 36 = true := by decide +kernel
theorem gb_row_37 : gb_rowsOK 37 = true := by decide +kernel
theorem gb_row_38 : gb_rowsOK 38 = true := by decide +kernel
theorem gb_row_39 : gb_rowsOK 39 = true := by decide +kernel
theorem gb_row_40 : gb_rowsOK 40 = true := by decide +kernel
theorem gb_row_41 : gb_rowsOK 41 = true := by decide +kernel
theorem gb_row_42_0 : (((gb_rows 42).drop 0).take 25).all (gb_chk 42) = true := by decide +kernel
theorem gb_row_42_25 : (((gb_rows 42).drop 25).take 25).all (gb_chk 42) = true := by decide +kernel
theorem gb_row_42_50 : (((gb_rows 42).drop 50).take 25).all (gb_chk 42) = true := by decide +kernel
theorem gb_row_42 : gb_rowsOK 42 = true := gb_rowsOK_of (by decide +kernel) (gb_all_cut 0 25 gb_row_42_0 (gb_all_cut 25 25 gb_row_42_25 (gb_all_cut 50 25 gb_row_42_50 ((by decide +kernel)))))
theorem gb_row_43_0 : (((gb_rows 43).drop 0).take 25).all (gb_chk 43) = true := by decide +kernel
theorem gb_row_43_25 : (((gb_rows 43).drop 25).take 25).all (gb_chk 43) = true := by decide +kernel
theorem gb_row_43_50 : (((gb_rows 43).drop 50).take 25).all (gb_chk 43) = true := by decide +kernel
theorem gb_row_43 : gb_rowsOK 43 = true := gb_rowsOK_of (by decide +kernel) (gb_all_cut 0 25 gb_row_43_0 (gb_all_cut 25 25 gb_row_43_25 (gb_all_cut 50 25 gb_row_43_50 ((by decide +kernel)))))
theorem gb_row_44 : gb_rowsOK 44 = true := by decide +kernel
theorem gb_row_45 : gb_rowsOK 45 = true := by decide +kernel
theorem gb_row_46 : gb_rowsOK 46 = true := by decide +kernel
theorem gb_row_47 : gb_rowsOK 47 = true := by decide +kernel
theorem gb_row_48 : gb_rowsOK 48 = true := by decide +kernel
theorem gb_row_49 : gb_rowsOK 49 = true := by decide +kernel
theorem gb_row_50 : gb_rowsOK 50 = true := by decide +kernel
theorem gb_row_51 : gb_rowsOK 51 = true := by decide +kernel
theorem gb_row_52 : gb_rowsOK 52 = true := by decide +kernel
theorem gb_row_53 : gb_rowsOK 53 = true := by decide +kernel
theorem gb_row_54 : gb_rowsOK 54 = true := by decide +kernel
theorem gb_row_55 : gb_rowsOK 55 = true := by decide +kernel
theorem gb_row_56 : gb_rowsOK 56 = true := by decide +kernel
theorem gb_row_57 : gb_rowsOK 57 = true := by decide +kernel
theorem gb_row_58 : gb_rowsOK 58 = true := by decide +kernel
theorem gb_row_59 : gb_rowsOK 59 = true := by decide +kernel
theorem gb_row_60 : gb_rowsOK 60 = true := by decide +kernel
theorem gb_row_61 : gb_rowsOK 61 = true := by decide +kernel
theorem gb_row_62 : gb_rowsOK 62 = true := by decide +kernel
theorem gb_row_63 : gb_rowsOK 63 = true := by decide +kernel
theorem gb_row_64 : gb_rowsOK 64 = true := by decide +kernel
theorem gb_row_65 : gb_rowsOK 65 = true := by decide +kernel
theorem gb_row_66 : gb_rowsOK 66 = true := by decide +kernel
theorem gb_row_67 : gb_rowsOK 67 = true := by decide +kernel
theorem gb_row_68 : gb_rowsOK 68 = true := by decide +kernel
theorem gb_row_69 : gb_rowsOK 69 = true := by decide +kernel
theorem gb_row_70 : gb_rowsOK 70 = true := by decide +kernel
theorem gb_row_71 : gb_rowsOK 71 = true := by decide +kernel
theorem gb_row_72 : gb_rowsOK 72 = true := by decide +kernel
theorem gb_row_73 : gb_rowsOK 73 = true := by decide +kernel
theorem gb_row_74 : gb_rowsOK 74 = true := by decide +kernel
theorem gb_row_75 : gb_rowsOK 75 = true := by decide +kernel
theorem gb_row_76 : gb_rowsOK 76 = true := by decide +kernel
theorem gb_row_77 : gb_rowsOK 77 = true := by decide +kernel
theorem gb_row_78 : gb_rowsOK 78 = true := by decide +kernel
theorem gb_row_79 : gb_rowsOK 79 = true := by decide +kernel
theorem gb_row_80 : gb_rowsOK 80 = true := by decide +kernel
theorem gb_row_81 : gb_rowsOK 81 = true := by decide +kernel
theorem gb_row_82_0 : (((gb_rows 82).drop 0).take 25).all (gb_chk 82) = true := by decide +kernel
theorem gb_row_82_25 : (((gb_rows 82).drop 25).take 25).all (gb_chk 82) = true := by decide +kernel
theorem gb_row_82_50 : (((gb_rows 82).drop 50).take 25).all (gb_chk 82) = true := by decide +kernel
theorem gb_row_82_75 : (((gb_rows 82).drop 75).take 25).all (gb_chk 82) = true := by decide +kernel
theorem gb_row_82 : gb_rowsOK 82 = true := gb_rowsOK_of (by decide +kernel) (gb_all_cut 0 25 gb_row_82_0 (gb_all_cut 25 25 gb_row_82_25 (gb_all_cut 50 25 gb_row_82_50 (gb_all_cut 75 25 gb_row_82_75 ((by decide +kernel))))))
theorem gb_row_83 : gb_rowsOK 83 = true := by decide +kernel
theorem gb_row_84 : gb_rowsOK 84 = true := by decide +kernel
theorem gb_row_85 : gb_rowsOK 85 = true := by decide +kernel
theorem gb_row_86_0 : (((gb_rows 86).drop 0).take 25).all (gb_chk 86) = true := by decide +kernel
theorem gb_row_86_25 : (((gb_rows 86).drop 25).take 25).all (gb_chk 86) = true := by decide +kernel
theorem gb_row_86_50 : (((gb_rows 86).drop 50).take 25).all (gb_chk 86) = true := by decide +kernel
theorem gb_row_86 : gb_rowsOK 86 = true := gb_rowsOK_of (by decide +kernel) (gb_all_cut 0 25 gb_row_86_0 (gb_all_cut 25 25 gb_row_86_25 (gb_all_cut 50 25 gb_row_86_50 ((by decide +kernel)))))
theorem gb_row_87 : gb_rowsOK 87 = true := by decide +kernel
theorem gb_row_88 : gb_rowsOK 88 = true := by decide +kernel
theorem gb_row_89 : gb_rowsOK 89 = true := by decide +kernel
theorem gb_row_90 : gb_rowsOK 90 = true := by decide +kernel
theorem gb_row_91 : gb_rowsOK 91 = true := by decide +kernel
theorem gb_row_92 : gb_rowsOK 92 = true := by decide +kernel
theorem gb_row_93 : gb_rowsOK 93 = true := by decide +kernel
theorem gb_row_94 : gb_rowsOK 94 = true := by decide +kernel
theorem gb_row_95 : gb_rowsOK 95 = true := by decide +kernel
theorem gb_row_96 : gb_rowsOK 96 = true := by decide +kernel
theorem gb_row_97 : gb_rowsOK 97 = true := by decide +kernel
theorem gb_row_98_0 : (((gb_rows 98).drop 0).take 25).all (gb_chk 98) = true := by decide +kernel
theorem gb_row_98_25 : (((gb_rows 98).drop 25).take 25).all (gb_chk 98) = true := by decide +kernel
theorem gb_row_98_50 : (((gb_rows 98).drop 50).take 25).all (gb_chk 98) = true := by decide +kernel
theorem gb_row_98 : gb_rowsOK 98 = true := gb_rowsOK_of (by decide +kernel) (gb_all_cut 0 25 gb_row_98_0 (gb_all_cut 25 25 gb_row_98_25 (gb_all_cut 50 25 gb_row_98_50 ((by decide +kernel)))))
theorem gb_row_99_0 : (((gb_rows 99).drop 0).take 25).all (gb_chk 99) = true := by decide +kernel
theorem gb_row_99_25 : (((gb_rows 99).drop 25).take 25).all (gb_chk 99) = true := by decide +kernel
theorem gb_row_99_50 : (((gb_rows 99).drop 50).take 25).all (gb_chk 99) = true := by decide +kernel
theorem gb_row_99_75 : (((gb_rows 99).drop 75).take 25).all (gb_chk 99) = true := by decide +kernel
theorem gb_row_99 : gb_rowsOK 99 = true := gb_rowsOK_of (by decide +kernel) (gb_all_cut 0 25 gb_row_99_0 (gb_all_cut 25 25 gb_row_99_25 (gb_all_cut 50 25 gb_row_99_50 (gb_all_cut 75 25 gb_row_99_75 ((by decide +kernel))))))
theorem gb_row_100 : gb_rowsOK 100 = true := by decide +kernel
theorem gb_row_101 : gb_rowsOK 101 = true := by decide +kernel
theorem gb_row_102 : gb_rowsOK 102 = true := by decide +kernel
theorem gb_row_103 : gb_rowsOK 103 = true := by decide +kernel
theorem gb_row_104 : gb_rowsOK 104 = true := by decide +kernel
theorem gb_row_105 : gb_rowsOK 105 = true := by decide +kernel
theorem gb_row_106 : gb_rowsOK 106 = true := by decide +kernel
theorem gb_row_107 : gb_rowsOK 107 = true := by decide +kernel
theorem gb_row_108 : gb_rowsOK 108 = true := by decide +kernel
theorem gb_row_109 : gb_rowsOK 109 = true := by decide +kernel
theorem gb_row_110 : gb_rowsOK 110 = true := by decide +kernel
theorem gb_row_111 : gb_rowsOK 111 = true := by decide +kernel
theorem gb_row_112 : gb_rowsOK 112 = true := by decide +kernel
theorem gb_row_113 : gb_rowsOK 113 = true := by decide +kernel
theorem gb_row_114 : gb_rowsOK 114 = true := by decide +kernel
theorem gb_row_115 : gb_rowsOK 115 = true := by decide +kernel
theorem gb_row_116_0 : (((gb_rows 116).drop 0).take 25).all (gb_chk 116) = true := by decide +kernel
theorem gb_row_116_25 : (((gb_rows 116).drop 25).take 25).all (gb_chk 116) = true := by decide +kernel
theorem gb_row_116_50 : (((gb_rows 116).drop 50).take 25).all (gb_chk 116) = true := by decide +kernel
theorem gb_row_116_75 : (((gb_rows 116).drop 75).take 25).all (gb_chk 116) = true := by decide +kernel
theorem gb_row_116_100 : (((gb_rows 116).drop 100).take 25).all (gb_chk 116) = true := by decide +kernel
theorem gb_row_116_125 : (((gb_rows 116).drop 125).take 25).all (gb_chk 116) = true := by decide +kernel
theorem gb_row_116_150 : (((gb_rows 116).drop 150).take 25).all (gb_chk 116) = true := by decide +kernel
theorem gb_row_116 : gb_rowsOK 116 = true := gb_rowsOK_of (by decide +kernel) (gb_all_cut 0 25 gb_row_116_0 (gb_all_cut 25 25 gb_row_116_25 (gb_all_cut 50 25 gb_row_116_50 (gb_all_cut 75 25 gb_row_116_75 (gb_all_cut 100 25 gb_row_116_100 (gb_all_cut 125 25 gb_row_116_125 (gb_all_cut 150 25 gb_row_116_150 ((by decide +kernel)))))))))
theorem gb_row_117 : gb_rowsOK 117 = true := by decide +kernel
theorem gb_row_118 : gb_rowsOK 118 = true := by decide +kernel
theorem gb_row_119 : gb_rowsOK 119 = true := by decide +kernel
theorem gb_row_120 : gb_rowsOK 120 = true := by decide +kernel
theorem gb_row_121_0 : (((gb_rows 121).drop 0).take 25).all (gb_chk 121) = true := by decide +kernel
theorem gb_row_121_25 : (((gb_rows 121).drop 25).take 25).all (gb_chk 121) = true := by decide +kernel
theorem gb_row_121_50 : (((gb_rows 121).drop 50).take 25).all (gb_chk 121) = true := by decide +kernel
theorem gb_row_121_75 : (((gb_rows 121).drop 75).take 25).all (gb_chk 121) = true := by decide +kernel
theorem gb_row_121 : gb_rowsOK 121 = true := gb_rowsOK_of (by decide +kernel) (gb_all_cut 0 25 gb_row_121_0 (gb_all_cut 25 25 gb_row_121_25 (gb_all_cut 50 25 gb_row_121_50 (gb_all_cut 75 25 gb_row_121_75 ((by decide +kernel))))))
theorem gb_row_122 : gb_rowsOK 122 = true := by decide +kernel
theorem gb_row_123 : gb_rowsOK 123 = true := by decide +kernel
theorem gb_row_124_0 : (((gb_rows 124).drop 0).take 25).all (gb_chk 124) = true := by decide +kernel
theorem gb_row_124_25 : (((gb_rows 124).drop 25).take 25).all (gb_chk 124) = true := by decide +kernel
theorem gb_row_124_50 : (((gb_rows 124).drop 50).take 25).all (gb_chk 124) = true := by decide +kernel
theorem gb_row_124_75 : (((gb_rows 124).drop 75).take 25).all (gb_chk 124) = true := by decide +kernel
theorem gb_row_124_100 : (((gb_rows 124).drop 100).take 25).all (gb_chk 124) = true := by decide +kernel
theorem gb_row_124_125 : (((gb_rows 124).drop 125).take 25).all (gb_chk 124) = true := by decide +kernel
theorem gb_row_124_150 : (((gb_rows 124).drop 150).take 25).all (gb_chk 124) = true := by decide +kernel
theorem gb_row_124_175 : (((gb_rows 124).drop 175).take 25).all (gb_chk 124) = true := by decide +kernel
theorem gb_row_124 : gb_rowsOK 124 = true := gb_rowsOK_of (by decide +kernel) (gb_all_cut 0 25 gb_row_124_0 (gb_all_cut 25 25 gb_row_124_25 (gb_all_cut 50 25 gb_row_124_50 (gb_all_cut 75 25 gb_row_124_75 (gb_all_cut 100 25 gb_row_124_100 (gb_all_cut 125 25 gb_row_124_125 (gb_all_cut 150 25 gb_row_124_150 (gb_all_cut 175 25 gb_row_124_175 ((by decide +kernel))))))))))
theorem gb_row_125_0 : (((gb_rows 125).drop 0).take 25).all (gb_chk 125) = true := by decide +kernel
theorem gb_row_125_25 : (((gb_rows 125).drop 25).take 25).all (gb_chk 125) = true := by decide +kernel
theorem gb_row_125_50 : (((gb_rows 125).drop 50).take 25).all (gb_chk 125) = true := by decide +kernel
theorem gb_row_125_75 : (((gb_rows 125).drop 75).take 25).all (gb_chk 125) = true := by decide +kernel
theorem gb_row_125 : gb_rowsOK 125 = true := gb_rowsOK_of (by decide +kernel) (gb_all_cut 0 25 gb_row_125_0 (gb_all_cut 25 25 gb_row_125_25 (gb_all_cut 50 25 gb_row_125_50 (gb_all_cut 75 25 gb_row_125_75 ((by decide +kernel))))))
theorem gb_row_126_0 : (((gb_rows 126).drop 0).take 25).all (gb_chk 126) = true := by decide +kernel
theorem gb_row_126_25 : (((gb_rows 126).drop 25).take 25).all (gb_chk 126) = true := by decide +kernel
theorem gb_row_126_50 : (((gb_rows 126).drop 50).take 25).all (gb_chk 126) = true := by decide +kernel
theorem gb_row_126_75 : (((gb_rows 126).drop 75).take 25).all (gb_chk 126) = true := by decide +kernel
theorem gb_row_126_100 : (((gb_rows 126).drop 100).take 25).all (gb_chk 126) = true := by decide +kernel
theorem gb_row_126 : gb_rowsOK 126 = true := gb_rowsOK_of (by decide +kernel) (gb_all_cut 0 25 gb_row_126_0 (gb_all_cut 25 25 gb_row_126_25 (gb_all_cut 50 25 gb_row_126_50 (gb_all_cut 75 25 gb_row_126_75 (gb_all_cut 100 25 gb_row_126_100 ((by decide +kernel)))))))
theorem gb_row_127_0 : (((gb_rows 127).drop 0).take 25).all (gb_chk 127) = true := by decide +kernel
theorem gb_row_127_25 : (((gb_rows 127).drop 25).take 25).all (gb_chk 127) = true := by decide +kernel
theorem gb_row_127_50 : (((gb_rows 127).drop 50).take 25).all (gb_chk 127) = true := by decide +kernel
theorem gb_row_127_75 : (((gb_rows 127).drop 75).take 25).all (gb_chk 127) = true := by decide +kernel
theorem gb_row_127_100 : (((gb_rows 127).drop 100).take 25).all (gb_chk 127) = true := by decide +kernel
theorem gb_row_127_125 : (((gb_rows 127).drop 125).take 25).all (gb_chk 127) = true := by decide +kernel
theorem gb_row_127_150 : (((gb_rows 127).drop 150).take 25).all (gb_chk 127) = true := by decide +kernel
theorem gb_row_127_175 : (((gb_rows 127).drop 175).take 25).all (gb_chk 127) = true := by decide +kernel
theorem gb_row_127_200 : (((gb_rows 127).drop 200).take 25).all (gb_chk 127) = true := by decide +kernel
theorem gb_row_127_225 : (((gb_rows 127).drop 225).take 25).all (gb_chk 127) = true := by decide +kernel
theorem gb_row_127_250 : (((gb_rows 127).drop 250).take 25).all (gb_chk 127) = true := by decide +kernel
theorem gb_row_127_275 : (((gb_rows 127).drop 275).take 25).all (gb_chk 127) = true := by decide +kernel
theorem gb_row_127 : gb_rowsOK 127 = true := gb_rowsOK_of (by decide +kernel) (gb_all_cut 0 25 gb_row_127_0 (gb_all_cut 25 25 gb_row_127_25 (gb_all_cut 50 25 gb_row_127_50 (gb_all_cut 75 25 gb_row_127_75 (gb_all_cut 100 25 gb_row_127_100 (gb_all_cut 125 25 gb_row_127_125 (gb_all_cut 150 25 gb_row_127_150 (gb_all_cut 175 25 gb_row_127_175 (gb_all_cut 200 25 gb_row_127_200 (gb_all_cut 225 25 gb_row_127_225 (gb_all_cut 250 25 gb_row_127_250 (gb_all_cut 275 25 gb_row_127_275 ((by decide +kernel))))))))))))))
theorem gb_row_128 : gb_rowsOK 128 = true := by decide +kernel
theorem gb_row_129_0 : (((gb_rows 129).drop 0).take 25).all (gb_chk 129) = true := by decide +kernel
theorem gb_row_129_25 : (((gb_rows 129).drop 25).take 25).all (gb_chk 129) = true := by decide +kernel
theorem gb_row_129_50 : (((gb_rows 129).drop 50).take 25).all (gb_chk 129) = true := by decide +kernel
theorem gb_row_129_75 : (((gb_rows 129).drop 75).take 25).all (gb_chk 129) = true := by decide +kernel
theorem gb_row_129_100 : (((gb_rows 129).drop 100).take 25).all (gb_chk 129) = true := by decide +kernel
theorem gb_row_129_125 : (((gb_rows 129).drop 125).take 25).all (gb_chk 129) = true := by decide +kernel
theorem gb_row_129_150 : (((gb_rows 129).drop 150).take 25).all (gb_chk 129) = true := by decide +kernel
theorem gb_row_129 : gb_rowsOK 129 = true := gb_rowsOK_of (by decide +kernel) (gb_all_cut 0 25 gb_row_129_0 (gb_all_cut 25 25 gb_row_129_25 (gb_all_cut 50 25 gb_row_129_50 (gb_all_cut 75 25 gb_row_129_75 (gb_all_cut 100 25 gb_row_129_100 (gb_all_cut 125 25 gb_row_129_125 (gb_all_cut 150 25 gb_row_129_150 ((by decide +kernel)))))))))
theorem gb_row_130 : gb_rowsOK 130 = true := by decide +kernel
theorem gb_row_131 : gb_rowsOK 131 = true := by decide +kernel
theorem gb_row_132 : gb_rowsOK 132 = true := by decide +kernel
theorem gb_row_133 : gb_rowsOK 133 = true := by decide +kernel
theorem gb_row_134 : gb_rowsOK 134 = true := by decide +kernel
theorem gb_row_135_0 : (((gb_rows 135).drop 0).take 25).all (gb_chk 135) = true := by decide +kernel
theorem gb_row_135_25 : (((gb_rows 135).drop 25).take 25).all (gb_chk 135) = true := by decide +kernel
theorem gb_row_135_50 : (((gb_rows 135).drop 50).take 25).all (gb_chk 135) = true := by decide +kernel
theorem gb_row_135_75 : (((gb_rows 135).drop 75).take 25).all (gb_chk 135) = true := by decide +kernel
theorem gb_row_135_100 : (((gb_rows 135).drop 100).take 25).all (gb_chk 135) = true := by decide +kernel
theorem gb_row_135 : gb_rowsOK 135 = true := gb_rowsOK_of (by decide +kernel) (gb_all_cut 0 25 gb_row_135_0 (gb_all_cut 25 25 gb_row_135_25 (gb_all_cut 50 25 gb_row_135_50 (gb_all_cut 75 25 gb_row_135_75 (gb_all_cut 100 25 gb_row_135_100 ((by decide +kernel)))))))
theorem gb_row_136 : gb_rowsOK 136 = true := by decide +kernel
theorem gb_row_137_0 : (((gb_rows 137).drop 0).take 25).all (gb_chk 137) = true := by decide +kernel
theorem gb_row_137_25 : (((gb_rows 137).drop 25).take 25).all (gb_chk 137) = true := by decide +kernel
theorem gb_row_137_50 : (((gb_rows 137).drop 50).take 25).all (gb_chk 137) = true := by decide +kernel
theorem gb_row_137_75 : (((gb_rows 137).drop 75).take 25).all (gb_chk 137) = true := by decide +kernel
theorem gb_row_137 : gb_rowsOK 137 = true := gb_rowsOK_of (by decide +kernel) (gb_all_cut 0 25 gb_row_137_0 (gb_all_cut 25 25 gb_row_137_25 (gb_all_cut 50 25 gb_row_137_50 (gb_all_cut 75 25 gb_row_137_75 ((by decide +kernel))))))
theorem gb_row_138_0 : (((gb_rows 138).drop 0).take 25).all (gb_chk 138) = true := by decide +kernel
theorem gb_row_138_25 : (((gb_rows 138).drop 25).take 25).all (gb_chk 138) = true := by decide +kernel
theorem gb_row_138_50 : (((gb_rows 138).drop 50).take 25).all (gb_chk 138) = true := by decide +kernel
theorem gb_row_138 : gb_rowsOK 138 = true := gb_rowsOK_of (by decide +kernel) (gb_all_cut 0 25 gb_row_138_0 (gb_all_cut 25 25 gb_row_138_25 (gb_all_cut 50 25 gb_row_138_50 ((by decide +kernel)))))
theorem gb_row_139 : gb_rowsOK 139 = true := by decide +kernel
theorem gb_row_140 : gb_rowsOK 140 = true := by decide +kernel
theorem gb_row_141_0 : (((gb_rows 141).drop 0).take 25).all (gb_chk 141) = true := by decide +kernel
theorem gb_row_141_25 : (((gb_rows 141).drop 25).take 25).all (gb_chk 141) = true := by decide +kernel
theorem gb_row_141_50 : (((gb_rows 141).drop 50).take 25).all (gb_chk 141) = true := by decide +kernel
theorem gb_row_141 : gb_rowsOK 141 = true := gb_rowsOK_of (by decide +kernel) (gb_all_cut 0 25 gb_row_141_0 (gb_all_cut 25 25 gb_row_141_25 (gb_all_cut 50 25 gb_row_141_50 ((by decide +kernel)))))
theorem gb_row_142 : gb_rowsOK 142 = true := by decide +kernel
theorem gb_row_143 : gb_rowsOK 143 = true := by decide +kernel
theorem gb_row_144_0 : (((gb_rows 144).drop 0).take 25).all (gb_chk 144) = true := by decide +kernel
theorem gb_row_144_25 : (((gb_rows 144).drop 25).take 25).all (gb_chk 144) = true := by decide +kernel
theorem gb_row_144_50 : (((gb_rows 144).drop 50).take 25).all (gb_chk 144) = true := by decide +kernel
theorem gb_row_144_75 : (((gb_rows 144).drop 75).take 25).all (gb_chk 144) = true := by decide +kernel
theorem gb_row_144 : gb_rowsOK 144 = true := gb_rowsOK_of (by decide +kernel) (gb_all_cut 0 25 gb_row_144_0 (gb_all_cut 25 25 gb_row_144_25 (gb_all_cut 50 25 gb_row_144_50 (gb_all_cut 75 25 gb_row_144_75 ((by decide +kernel))))))
theorem gb_row_145 : gb_rowsOK 145 = true := by decide +kernel
theorem gb_row_146_0 : (((gb_rows 146).drop 0).take 25).all (gb_chk 146) = true := by decide +kernel
theorem gb_row_146_25 : (((gb_rows 146).drop 25).take 25).all (gb_chk 146) = true := by decide +kernel
theorem gb_row_146_50 : (((gb_rows 146).drop 50).take 25).all (gb_chk 146) = true := by decide +kernel
theorem gb_row_146_75 : (((gb_rows 146).drop 75).take 25).all (gb_chk 146) = true := by decide +kernel
theorem gb_row_146 : gb_rowsOK 146 = true := gb_rowsOK_of (by decide +kernel) (gb_all_cut 0 25 gb_row_146_0 (gb_all_cut 25 25 gb_row_146_25 (gb_all_cut 50 25 gb_row_146_50 (gb_all_cut 75 25 gb_row_146_75 ((by decide +kernel))))))
theorem gb_row_147 : gb_rowsOK 147 = true := by decide +kernel
theorem gb_row_148 : gb_rowsOK 148 = true := by decide +kernel
theorem gb_row_149 : gb_rowsOK 149 = true := by decide +kernel
theorem gb_row_150 : gb_rowsOK 150 = true := by decide +kernel
theorem gb_row_151 : gb_rowsOK 151 = true := by decide +kernel
theorem gb_row_152_0 : (((gb_rows 152).drop 0).take 25).all (gb_chk 152) = true := by decide +kernel
theorem gb_row_152_25 : (((gb_rows 152).drop 25).take 25).all (gb_chk 152) = true := by decide +kernel
theorem gb_row_152_50 : (((gb_rows 152).drop 50).take 25).all (gb_chk 152) = true := by decide +kernel
theorem gb_row_152_75 : (((gb_rows 152).drop 75).take 25).all (gb_chk 152) = true := by decide +kernel
theorem gb_row_152 : gb_rowsOK 152 = true := gb_rowsOK_of (by decide +kernel) (gb_all_cut 0 25 gb_row_152_0 (gb_all_cut 25 25 gb_row_152_25 (gb_all_cut 50 25 gb_row_152_50 (gb_all_cut 75 25 gb_row_152_75 ((by decide +kernel))))))
theorem gb_row_153 : gb_rowsOK 153 = true := by decide +kernel
theorem gb_row_154 : gb_rowsOK 154 = true := by decide +kernel
theorem gb_row_155 : gb_rowsOK 155 = true := by decide +kernel
theorem gb_row_156_0 : (((gb_rows 156).drop 0).take 25).all (gb_chk 156) = true := by decide +kernel
theorem gb_row_156_25 : (((gb_rows 156).drop 25).take 25).all (gb_chk 156) = true := by decide +kernel
theorem gb_row_156_50 : (((gb_rows 156).drop 50).take 25).all (gb_chk 156) = true := by decide +kernel
theorem gb_row_156 : gb_rowsOK 156 = true := gb_rowsOK_of (by decide +kernel) (gb_all_cut 0 25 gb_row_156_0 (gb_all_cut 25 25 gb_row_156_25 (gb_all_cut 50 25 gb_row_156_50 ((by decide +kernel)))))
theorem gb_row_157 : gb_rowsOK 157 = true := by decide +kernel
theorem gb_row_158 : gb_rowsOK 158 = true := by decide +kernel
theorem gb_row_159_0 : (((gb_rows 159).drop 0).take 25).all (gb_chk 159) = true := by decide +kernel
theorem gb_row_159_25 : (((gb_rows 159).drop 25).take 25).all (gb_chk 159) = true := by decide +kernel
theorem gb_row_159_50 : (((gb_rows 159).drop 50).take 25).all (gb_chk 159) = true := by decide +kernel
theorem gb_row_159 : gb_rowsOK 159 = true := gb_rowsOK_of (by decide +kernel) (gb_all_cut 0 25 gb_row_159_0 (gb_all_cut 25 25 gb_row_159_25 (gb_all_cut 50 25 gb_row_159_50 ((by decide +kernel)))))
theorem gb_row_160_0 : (((gb_rows 160).drop 0).take 25).all (gb_chk 160) = true := by decide +kernel
theorem gb_row_160_25 : (((gb_rows 160).drop 25).take 25).all (gb_chk 160) = true := by decide +kernel
theorem gb_row_160_50 : (((gb_rows 160).drop 50).take 25).all (gb_chk 160) = true := by decide +kernel
theorem gb_row_160_75 : (((gb_rows 160).drop 75).take 25).all (gb_chk 160) = true := by decide +kernel
theorem gb_row_160_100 : (((gb_rows 160).drop 100).take 25).all (gb_chk 160) = true := by decide +kernel
theorem gb_row_160_125 : (((gb_rows 160).drop 125).take 25).all (gb_chk 160) = true := by decide +kernel
theorem gb_row_160_150 : (((gb_rows 160).drop 150).take 25).all (gb_chk 160) = true := by decide +kernel
theorem gb_row_160 : gb_rowsOK 160 = true := gb_rowsOK_of (by decide +kernel) (gb_all_cut 0 25 gb_row_160_0 (gb_all_cut 25 25 gb_row_160_25 (gb_all_cut 50 25 gb_row_160_50 (gb_all_cut 75 25 gb_row_160_75 (gb_all_cut 100 25 gb_row_160_100 (gb_all_cut 125 25 gb_row_160_125 (gb_all_cut 150 25 gb_row_160_150 ((by decide +kernel)))))))))
theorem gb_row_161 : gb_rowsOK 161 = true := by decide +kernel
theorem gb_row_162 : gb_rowsOK 162 = true := by decide +kernel
theorem gb_row_163 : gb_rowsOK 163 = true := by decide +kernel
theorem gb_row_164 : gb_rowsOK 164 = true := by decide +kernel
theorem gb_row_165 : gb_rowsOK 165 = true := by decide +kernel
theorem gb_row_166 : gb_rowsOK 166 = true := by decide +kernel
theorem gb_row_167 : gb_rowsOK 167 = true := by decide +kernel
theorem gb_row_168 : gb_rowsOK 168 = true := by decide +kernel
theorem gb_row_169 : gb_rowsOK 169 = true := by decide +kernel
theorem gb_row_170 : gb_rowsOK 170 = true := by decide +kernel
theorem gb_row_171_0 : (((gb_rows 171).drop 0).take 25).all (gb_chk 171) = true := by decide +kernel
theorem gb_row_171_25 : (((gb_rows 171).drop 25).take 25).all (gb_chk 171) = true := by decide +kernel
theorem gb_row_171_50 : (((gb_rows 171).drop 50).take 25).all (gb_chk 171) = true := by decide +kernel
theorem gb_row_171_75 : (((gb_rows 171).drop 75).take 25).all (gb_chk 171) = true := by decide +kernel
theorem gb_row_171 : gb_rowsOK 171 = true := gb_rowsOK_of (by decide +kernel) (gb_all_cut 0 25 gb_row_171_0 (gb_all_cut 25 25 gb_row_171_25 (gb_all_cut 50 25 gb_row_171_50 (gb_all_cut 75 25 gb_row_171_75 ((by decide +kernel))))))
theorem gb_row_172_0 : (((gb_rows 172).drop 0).take 25).all (gb_chk 172) = true := by decide +kernel
theorem gb_row_172_25 : (((gb_rows 172).drop 25).take 25).all (gb_chk 172) = true := by decide +kernel
theorem gb_row_172_50 : (((gb_rows 172).drop 50).take 25).all (gb_chk 172) = true := by decide +kernel
theorem gb_row_172_75 : (((gb_rows 172).drop 75).take 25).all (gb_chk 172) = true := by decide +kernel
theorem gb_row_172 : gb_rowsOK 172 = true := gb_rowsOK_of (by decide +kernel) (gb_all_cut 0 25 gb_row_172_0 (gb_all_cut 25 25 gb_row_172_25 (gb_all_cut 50 25 gb_row_172_50 (gb_all_cut 75 25 gb_row_172_75 ((by decide +kernel))))))
theorem gb_row_173_0 : (((gb_rows 173).drop 0).take 25).all (gb_chk 173) = true := by decide +kernel
theorem gb_row_173_25 : (((gb_rows 173).drop 25).take 25).all (gb_chk 173) = true := by decide +kernel
theorem gb_row_173_50 : (((gb_rows 173).drop 50).take 25).all (gb_chk 173) = true := by decide +kernel
theorem gb_row_173_75 : (((gb_rows 173).drop 75).take 25).all (gb_chk 173) = true := by decide +kernel
theorem gb_row_173_100 : (((gb_rows 173).drop 100).take 25).all (gb_chk 173) = true := by decide +kernel
theorem gb_row_173 : gb_rowsOK 173 = true := gb_rowsOK_of (by decide +kernel) (gb_all_cut 0 25 gb_row_173_0 (gb_all_cut 25 25 gb_row_173_25 (gb_all_cut 50 25 gb_row_173_50 (gb_all_cut 75 25 gb_row_173_75 (gb_all_cut 100 25 gb_row_173_100 ((by decide +kernel)))))))
theorem gb_row_174 : gb_rowsOK 174 = true := by decide +kernel
theorem gb_row_175 : gb_rowsOK 175 = true := by decide +kernel
theorem gb_row_176 : gb_rowsOK 176 = true := by decide +kernel
theorem gb_row_177 : gb_rowsOK 177 = true := by decide +kernel
theorem gb_row_178 : gb_rowsOK 178 = true := by decide +kernel
theorem gb_row_179_0 : (((gb_rows 179).drop 0).take 25).all (gb_chk 179) = true := by decide +kernel
theorem gb_row_179_25 : (((gb_rows 179).drop 25).take 25).all (gb_chk 179) = true := by decide +kernel
theorem gb_row_179_50 : (((gb_rows 179).drop 50).take 25).all (gb_chk 179) = true := by decide +kernel
theorem gb_row_179_75 : (((gb_rows 179).drop 75).take 25).all (gb_chk 179) = true := by decide +kernel
theorem gb_row_179 : gb_rowsOK 179 = true := gb_rowsOK_of (by decide +kernel) (gb_all_cut 0 25 gb_row_179_0 (gb_all_cut 25 25 gb_row_179_25 (gb_all_cut 50 25 gb_row_179_50 (gb_all_cut 75 25 gb_row_179_75 ((by decide +kernel))))))
theorem gb_row_180 : gb_rowsOK 180 = true := by decide +kernel
theorem gb_row_181_0 : (((gb_rows 181).drop 0).take 25).all (gb_chk 181) = true := by decide +kernel
theorem gb_row_181_25 : (((gb_rows 181).drop 25).take 25).all (gb_chk 181) = true := by decide +kernel
theorem gb_row_181_50 : (((gb_rows 181).drop 50).take 25).all (gb_chk 181) = true := by decide +kernel
theorem gb_row_181_75 : (((gb_rows 181).drop 75).take 25).all (gb_chk 181) = true := by decide +kernel
theorem gb_row_181 : gb_rowsOK 181 = true := gb_rowsOK_of (by decide +kernel) (gb_all_cut 0 25 gb_row_181_0 (gb_all_cut 25 25 gb_row_181_25 (gb_all_cut 50 25 gb_row_181_50 (gb_all_cut 75 25 gb_row_181_75 ((by decide +kernel))))))
theorem gb_row_182 : gb_rowsOK 182 = true := by decide +kernel
theorem gb_row_183 : gb_rowsOK 183 = true := by decide +kernel
theorem gb_row_184_0 : (((gb_rows 184).drop 0).take 25).all (gb_chk 184) = true := by decide +kernel
theorem gb_row_184_25 : (((gb_rows 184).drop 25).take 25).all (gb_chk 184) = true := by decide +kernel
theorem gb_row_184_50 : (((gb_rows 184).drop 50).take 25).all (gb_chk 184) = true := by decide +kernel
theorem gb_row_184 : gb_rowsOK 184 = true := gb_rowsOK_of (by decide +kernel) (gb_all_cut 0 25 gb_row_184_0 (gb_all_cut 25 25 gb_row_184_25 (gb_all_cut 50 25 gb_row_184_50 ((by decide +kernel)))))
theorem gb_row_185 : gb_rowsOK 185 = true := by decide +kernel
theorem gb_row_186 : gb_rowsOK 186 = true := by decide +kernel
theorem gb_row_187 : gb_rowsOK 187 = true := by decide +kernel
theorem gb_rows_ok : ∀ k, k < 188 → gb_rowsOK k = true := by
  intro k hk
  match k, hk with
  | 0, _ => exact gb_row_0
  | 1, _ => exact gb_row_1
  | 2, _ => exact gb_row_2
  | 3, _ => exact gb_row_3
  | 4, _ => exact gb_row_4
  | 5, _ => exact gb_row_5
  | 6, _ => exact gb_row_6
  | 7, _ => exact gb_row_7
  | 8, _ => exact gb_row_8
  | 9, _ => exact gb_row_9
  | 10, _ => exact gb_row_10
  | 11, _ => exact gb_row_11
  | 12, _ => exact gb_row_12
  | 13, _ => exact gb_row_13
  | 14, _ => exact gb_row_14
  | 15, _ => exact gb_row_15
  | 16, _ => exact gb_row_16
  | 17, _ => exact gb_row_17
  | 18, _ => exact gb_row_18
  | 19, _ => exact gb_row_19
  | 20, _ => exact gb_row_20
  | 21, _ => exact gb_row_21
  | 22, _ => exact gb_row_22
  | 23, _ => exact gb_row_23
  | 24, _ => exact gb_row_24
  | 25, _ => exact gb_row_25
  | 26, _ => exact gb_row_26
  | 27, _ => exact gb_row_27
  | 28, _ => exact gb_row_28
  | 29, _ => exact gb_row_29
  | 30, _ => exact gb_row_30
  | 31, _ => exact gb_row_31
  | 32, _ => exact gb_row_32
  | 33, _ => exact gb_row_33
  | 34, _ => exact gb_row_34
  | 35, _ => exact gb_row_35
  | 36, _ => exact gb_row_36
  | 37, _ => exact gb_row_37
  | 38, _ => exact gb_row_38
  | 39, _ => exact gb_row_39
  | 40, _ => exact gb_row_40
  | 41, _ => exact gb_row_41
  | 42, _ => exact gb_row_42
  | 43, _ => exact gb_row_43
  | 44, _ => exact gb_row_44
  | 45, _ => exact gb_row_45
  | 46, _ => exact gb_row_46
  | 47, _ => exact gb_row_47
  | 48, _ => exact gb_row_48
  | 49, _ => exact gb_row_49
  | 50, _ => exact gb_row_50
  | 51, _ => exact gb_row_51
  | 52, _ => exact gb_row_52
  | 53, _ => exact gb_row_53
  | 54, _ => exact gb_row_54
  | 55, _ => exact gb_row_55
  | 56, _ => exact gb_row_56
  | 57, _ => exact gb_row_57
  | 58, _ => exact gb_row_58
  | 59, _ => exact gb_row_59
  | 60, _ => exact gb_row_60
  | 61, _ => exact gb_row_61
  | 62, _ => exact gb_row_62
  | 63, _ => exact gb_row_63
  | 64, _ => exact gb_row_64
  | 65, _ => exact gb_row_65
  | 66, _ => exact gb_row_66
  | 67, _ => exact gb_row_67
  | 68, _ => exact gb_row_68
  | 69, _ => exact gb_row_69
  | 70, _ => exact gb_row_70
  | 71, _ => exact gb_row_71
  | 72, _ => exact gb_row_72
  | 73, _ => exact gb_row_73
  | 74, _ => exact gb_row_74
  | 75, _ => exact gb_row_75
  | 76, _ => exact gb_row_76
  | 77, _ => exact gb_row_77
  | 78, _ => exact gb_row_78
  | 79, _ => exact gb_row_79
  | 80, _ => exact gb_row_80
  | 81, _ => exact gb_row_81
  | 82, _ => exact gb_row_82
  | 83, _ => exact gb_row_83
  | 84, _ => exact gb_row_84
  | 85, _ => exact gb_row_85
  | 86, _ => exact gb_row_86
  | 87, _ => exact gb_row_87
  | 88, _ => exact gb_row_88
  | 89, _ => exact gb_row_89
  | 90, _ => exact gb_row_90
  | 91, _ => exact gb_row_91
  | 92, _ => exact gb_row_92
  | 93, _ => exact gb_row_93
  | 94, _ => exact gb_row_94
  | 95, _ => exact gb_row_95
  | 96, _ => exact gb_row_96
  | 97, _ => exact gb_row_97
  | 98, _ => exact gb_row_98
  | 99, _ => exact gb_row_99
  | 100, _ => exact gb_row_100
  | 101, _ => exact gb_row_101
  | 102, _ => exact gb_row_102
  | 103, _ => exact gb_row_103
  | 104, _ => exact gb_row_104
  | 105, _ => exact gb_row_105
  | 106, _ => exact gb_row_106
  | 107, _ => exact gb_row_107
  | 108, _ => exact gb_row_108
  | 109, _ => exact gb_row_109
  | 110, _ => exact gb_row_110
  | 111, _ => exact gb_row_111
  | 112, _ => exact gb_row_112
  | 113, _ => exact gb_row_113
  | 114, _ => exact gb_row_114
  | 115, _ => exact gb_row_115
  | 116, _ => exact gb_row_116
  | 117, _ => exact gb_row_117
  | 118, _ => exact gb_row_118
  | 119, _ => exact gb_row_119
  | 120, _ => exact gb_row_120
  | 121, _ => exact gb_row_121
  | 122, _ => exact gb_row_122
  | 123, _ => exact gb_row_123
  | 124, _ => exact gb_row_124
  | 125, _ => exact gb_row_125
  | 126, _ => exact gb_row_126
  | 127, _ => exact gb_row_127
  | 128, _ => exact gb_row_128
  | 129, _ => exact gb_row_129
  | 130, _ => exact gb_row_130
  | 131, _ => exact gb_row_131
  | 132, _ => exact gb_row_132
  | 133, _ => exact gb_row_133
  | 134, _ => exact gb_row_134
  | 135, _ => exact gb_row_135
  | 136, _ => exact gb_row_136
  | 137, _ => exact gb_row_137
  | 138, _ => exact gb_row_138
  | 139, _ => exact gb_row_139
  | 140, _ => exact gb_row_140
  | 141, _ => exact gb_row_141
  | 142, _ => exact gb_row_142
  | 143, _ => exact gb_row_143
  | 144, _ => exact gb_row_144
  | 145, _ => exact gb_row_145
  | 146, _ => exact gb_row_146
  | 147, _ => exact gb_row_147
  | 148, _ => exact gb_row_148
  | 149, _ => exact gb_row_149
  | 150, _ => exact gb_row_150
  | 151, _ => exact gb_row_151
  | 152, _ => exact gb_row_152
  | 153, _ => exact gb_row_153
  | 154, _ => exact gb_row_154
  | 155, _ => exact gb_row_155
  | 156, _ => exact gb_row_156
  | 157, _ => exact gb_row_157
  | 158, _ => exact gb_row_158
  | 159, _ => exact gb_row_159
  | 160, _ => exact gb_row_160
  | 161, _ => exact gb_row_161
  | 162, _ => exact gb_row_162
  | 163, _ => exact gb_row_163
  | 164, _ => exact gb_row_164
  | 165, _ => exact gb_row_165
  | 166, _ => exact gb_row_166
  | 167, _ => exact gb_row_167
  | 168, _ => exact gb_row_168
  | 169, _ => exact gb_row_169
  | 170, _ => exact gb_row_170
  | 171, _ => exact gb_row_171
  | 172, _ => exact gb_row_172
  | 173, _ => exact gb_row_173
  | 174, _ => exact gb_row_174
  | 175, _ => exact gb_row_175
  | 176, _ => exact gb_row_176
  | 177, _ => exact gb_row_177
  | 178, _ => exact gb_row_178
  | 179, _ => exact gb_row_179
  | 180, _ => exact gb_row_180
  | 181, _ => exact gb_row_181
  | 182, _ => exact gb_row_182
  | 183, _ => exact gb_row_183
  | 184, _ => exact gb_row_184
  | 185, _ => exact gb_row_185
  | 186, _ => exact gb_row_186
  | 187, _ => exact gb_row_187
  | k + 188, hk => exact absurd hk (by omega)
