/-! THE WORLD behind the two constructors: which cells there are, and which references never change -/
def gb_pG : gb_Pi := [(19, 10), (15, 4), (1, 400), (11, 5), (2, 8), (4, 8), (0, 110), (0, 110), (0, 110), (0, 110), (0, 110), (0, 110), (0, 110), (0, 110), (4, 8), (0, 110), (0, 110), (0, 110), (0, 110), (0, 110), (0, 110), (0, 110), (0, 110), (16, 16), (0, 12), (0, 12), (0, 12), (0, 24), (0, 24), (0, 24), (0, 24), (2, 24), (0, 20), (0, 2), (0, 2), (0, 2), (13, 2), (0, 8), (2, 256), (14, 5), (4, 6), (0, 16), (0, 16), (0, 16), (0, 16), (0, 16), (0, 16), (0, 8), (4, 8), (0, 16), (0, 16), (0, 16), (0, 16), (0, 16), (0, 16), (0, 16), (0, 16), (3, 16), (5, 4), (3, 17), (3, 17), (3, 17), (3, 17), (17, 4), (4, 6), (0, 8), (0, 8), (0, 8), (0, 8), (0, 8), (0, 8), (4, 6), (0, 4), (0, 4), (0, 4), (0, 4), (0, 4), (0, 4), (0, 6), (0, 256), (10, 14), (0, 5), (18, 8), (0, 12), (0, 12), (0, 12), (0, 12), (0, 12), (0, 6), (0, 6), (0, 6), (0, 6), (0, 8), (0, 8), (0, 8), (0, 8), (0, 8), (10, 14), (0, 5), (18, 8), (0, 12), (0, 12), (0, 12), (0, 12), (0, 12), (0, 6), (0, 6), (0, 6), (0, 6), (0, 8), (0, 8), (0, 8), (0, 8), (0, 8), (12, 8), (0, 10), (4, 10), (0, 3), (0, 3), (0, 3), (0, 3), (0, 3), (0, 3), (0, 3), (0, 3), (0, 3), (0, 3), (4, 10), (0, 3), (0, 3), (0, 3), (0, 3), (0, 3), (0, 3), (0, 3), (0, 3), (0, 3), (0, 3), (4, 10), (0, 3), (0, 3), (0, 3), (0, 3), (0, 3), (0, 3), (0, 3), (0, 3), (0, 3), (0, 3), (0, 10), (0, 10), (0, 10), (12, 8), (0, 10), (4, 10), (0, 3), (0, 3), (0, 3), (0, 3), (0, 3), (0, 3), (0, 3), (0, 3), (0, 3), (0, 3), (4, 10), (0, 3), (0, 3), (0, 3), (0, 3), (0, 3), (0, 3), (0, 3), (0, 3), (0, 3), (0, 3), (4, 10), (0, 3), (0, 3), (0, 3), (0, 3), (0, 3), (0, 3), (0, 3), (0, 3), (0, 3), (0, 3), (0, 10), (0, 10), (0, 10), (20, 36), (1, 400), (0, 2), (0, 2), (0, 48), (0, 2), (0, 72), (0, 2), (0, 48), (0, 2), (0, 80), (0, 2), (0, 260), (0, 8), (0, 880), (0, 880), (0, 3), (0, 108), (0, 3), (0, 360), (0, 3), (0, 60), (0, 48), (0, 6), (0, 12), (0, 3), (0, 3), (0, 256), (0, 256), (3, 16)]
/-- where the references point: q.1: beach and spareBeach have changed places; q.2: laidLaw and spareLaw -/
def gb_bb (q : Bool × Bool) : Nat := if q.1 then 97 else 80
def gb_bs (q : Bool × Bool) : Nat := if q.1 then 80 else 97
def gb_lb (q : Bool × Bool) : Nat := if q.2 then 152 else 114
def gb_lq (q : Bool × Bool) : Nat := if q.2 then 114 else 152
def gb_Rl : List (Nat × Nat × Nat) := [(0, 0, 1), (0, 1, 3), (0, 2, 23), (0, 3, 36), (0, 4, 39), (0, 5, 63), (1, 0, 2), (3, 2, 4), (3, 3, 5), (3, 4, 14), (23, 1, 24), (23, 2, 25), (23, 3, 26), (23, 5, 27), (23, 6, 28), (23, 7, 29), (23, 8, 30), (23, 9, 31), (23, 11, 32), (23, 13, 33), (23, 14, 34), (23, 15, 35), (36, 0, 37), (36, 1, 38), (39, 0, 40), (39, 1, 47), (39, 2, 48), (39, 3, 57), (39, 4, 58), (63, 0, 64), (63, 1, 71), (63, 2, 78), (63, 3, 79), (80, 0, 81), (80, 2, 82), (80, 4, 88), (80, 5, 89), (80, 6, 90), (80, 7, 91), (80, 9, 92), (80, 10, 93), (80, 11, 94), (80, 12, 95), (80, 13, 96), (82, 1, 83), (82, 2, 84), (82, 5, 85), (82, 6, 86), (82, 7, 87), (97, 0, 98), (97, 2, 99), (97, 4, 105), (97, 5, 106), (97, 6, 107), (97, 7, 108), (97, 9, 109), (97, 10, 110), (97, 11, 111), (97, 12, 112), (97, 13, 113), (99, 1, 100), (99, 2, 101), (99, 5, 102), (99, 6, 103), (99, 7, 104), (114, 1, 115), (114, 2, 116), (114, 3, 127), (114, 4, 138), (114, 5, 149), (114, 6, 150), (114, 7, 151), (152, 1, 153), (152, 2, 154), (152, 3, 165), (152, 4, 176), (152, 5, 187), (152, 6, 188), (152, 7, 189), (190, 1, 191), (190, 3, 192), (190, 4, 193), (190, 5, 194), (190, 6, 195), (190, 7, 196), (190, 8, 197), (190, 9, 198), (190, 10, 199), (190, 11, 200), (190, 12, 201), (190, 13, 202), (190, 14, 203), (190, 15, 204), (190, 16, 205), (190, 19, 206), (190, 20, 207), (190, 21, 208), (190, 22, 209), (190, 23, 210), (190, 24, 211), (190, 25, 212), (190, 26, 213), (190, 27, 214), (190, 28, 215), (190, 29, 216), (190, 30, 217), (190, 31, 218), (190, 35, 219)]
def gb_Rm : List (Nat × Nat × Nat) := [(5, 8, 6), (14, 8, 15), (40, 6, 41), (48, 8, 49), (58, 4, 59), (64, 6, 65), (71, 6, 72), (116, 10, 117), (127, 10, 128), (138, 10, 139), (154, 10, 155), (165, 10, 166), (176, 10, 177)]
def gb_Rw (q : Bool × Bool) (a k : Nat) : Option Nat :=
  if a = 0 ∧ k = 6 then some (gb_bb q) else if a = 0 ∧ k = 7 then some (gb_bs q) else if a = 0 ∧ k = 8 then some (gb_lb q) else if a = 0 ∧ k = 9 then some (gb_lq q) else
  match gb_Rm.find? (fun e => e.1 == a) with
  | some e => if k < e.2.1 then some (e.2.2 + k) else none
  | none => (gb_Rl.find? (fun e => e.1 == a && e.2.1 == k)).map (fun e => e.2.2)
theorem rw_0_0 (q : Bool × Bool) : gb_Rw q 0 0 = some 1 := rfl
theorem rw_0_1 (q : Bool × Bool) : gb_Rw q 0 1 = some 3 := rfl
theorem rw_0_2 (q : Bool × Bool) : gb_Rw q 0 2 = some 23 := rfl
theorem rw_0_3 (q : Bool × Bool) : gb_Rw q 0 3 = some 36 := rfl
theorem rw_0_4 (q : Bool × Bool) : gb_Rw q 0 4 = some 39 := rfl
theorem rw_0_5 (q : Bool × Bool) : gb_Rw q 0 5 = some 63 := rfl
theorem rw_0_6 (q : Bool × Bool) : gb_Rw q 0 6 = some (gb_bb q) := rfl
theorem rw_0_7 (q : Bool × Bool) : gb_Rw q 0 7 = some (gb_bs q) := rfl
theorem rw_0_8 (q : Bool × Bool) : gb_Rw q 0 8 = some (gb_lb q) := rfl
theorem rw_0_9 (q : Bool × Bool) : gb_Rw q 0 9 = some (gb_lq q) := rfl
theorem rw_1_0 (q : Bool × Bool) : gb_Rw q 1 0 = some 2 := rfl
theorem rw_3_2 (q : Bool × Bool) : gb_Rw q 3 2 = some 4 := rfl
theorem rw_3_3 (q : Bool × Bool) : gb_Rw q 3 3 = some 5 := rfl
theorem rw_3_4 (q : Bool × Bool) : gb_Rw q 3 4 = some 14 := rfl
theorem rw_23_1 (q : Bool × Bool) : gb_Rw q 23 1 = some 24 := rfl
theorem rw_23_2 (q : Bool × Bool) : gb_Rw q 23 2 = some 25 := rfl
theorem rw_23_3 (q : Bool × Bool) : gb_Rw q 23 3 = some 26 := rfl
theorem rw_23_5 (q : Bool × Bool) : gb_Rw q 23 5 = some 27 := rfl
theorem rw_23_6 (q : Bool × Bool) : gb_Rw q 23 6 = some 28 := rfl
theorem rw_23_7 (q : Bool × Bool) : gb_Rw q 23 7 = some 29 := rfl
theorem rw_23_8 (q : Bool × Bool) : gb_Rw q 23 8 = some 30 := rfl
theorem rw_23_9 (q : Bool × Bool) : gb_Rw q 23 9 = some 31 := rfl
theorem rw_23_11 (q : Bool × Bool) : gb_Rw q 23 11 = some 32 := rfl
theorem rw_23_13 (q : Bool × Bool) : gb_Rw q 23 13 = some 33 := rfl
theorem rw_23_14 (q : Bool × Bool) : gb_Rw q 23 14 = some 34 := rfl
theorem rw_23_15 (q : Bool × Bool) : gb_Rw q 23 15 = some 35 := rfl
theorem rw_36_0 (q : Bool × Bool) : gb_Rw q 36 0 = some 37 := rfl
theorem rw_36_1 (q : Bool × Bool) : gb_Rw q 36 1 = some 38 := rfl
theorem rw_39_0 (q : Bool × Bool) : gb_Rw q 39 0 = some 40 := rfl
theorem rw_39_1 (q : Bool × Bool) : gb_Rw q 39 1 = some 47 := rfl
theorem rw_39_2 (q : Bool × Bool) : gb_Rw q 39 2 = some 48 := rfl
theorem rw_39_3 (q : Bool × Bool) : gb_Rw q 39 3 = some 57 := rfl
theorem rw_39_4 (q : Bool × Bool) : gb_Rw q 39 4 = some 58 := rfl
theorem rw_63_0 (q : Bool × Bool) : gb_Rw q 63 0 = some 64 := rfl
theorem rw_63_1 (q : Bool × Bool) : gb_Rw q 63 1 = some 71 := rfl
theorem rw_63_2 (q : Bool × Bool) : gb_Rw q 63 2 = some 78 := rfl
theorem rw_63_3 (q : Bool × Bool) : gb_Rw q 63 3 = some 79 := rfl
theorem rw_80_0 (q : Bool × Bool) : gb_Rw q 80 0 = some 81 := rfl
theorem rw_80_2 (q : Bool × Bool) : gb_Rw q 80 2 = some 82 := rfl
theorem rw_80_4 (q : Bool × Bool) : gb_Rw q 80 4 = some 88 := rfl
theorem rw_80_5 (q : Bool × Bool) : gb_Rw q 80 5 = some 89 := rfl
theorem rw_80_6 (q : Bool × Bool) : gb_Rw q 80 6 = some 90 := rfl
theorem rw_80_7 (q : Bool × Bool) : gb_Rw q 80 7 = some 91 := rfl
theorem rw_80_9 (q : Bool × Bool) : gb_Rw q 80 9 = some 92 := rfl
theorem rw_80_10 (q : Bool × Bool) : gb_Rw q 80 10 = some 93 := rfl
theorem rw_80_11 (q : Bool × Bool) : gb_Rw q 80 11 = some 94 := rfl
theorem rw_80_12 (q : Bool × Bool) : gb_Rw q 80 12 = some 95 := rfl
theorem rw_80_13 (q : Bool × Bool) : gb_Rw q 80 13 = some 96 := rfl
theorem rw_82_1 (q : Bool × Bool) : gb_Rw q 82 1 = some 83 := rfl
theorem rw_82_2 (q : Bool × Bool) : gb_Rw q 82 2 = some 84 := rfl
theorem rw_82_5 (q : Bool × Bool) : gb_Rw q 82 5 = some 85 := rfl
theorem rw_82_6 (q : Bool × Bool) : gb_Rw q 82 6 = some 86 := rfl
theorem rw_82_7 (q : Bool × Bool) : gb_Rw q 82 7 = some 87 := rfl
theorem rw_97_0 (q : Bool × Bool) : gb_Rw q 97 0 = some 98 := rfl
theorem rw_97_2 (q : Bool × Bool) : gb_Rw q 97 2 = some 99 := rfl
theorem rw_97_4 (q : Bool × Bool) : gb_Rw q 97 4 = some 105 := rfl
theorem rw_97_5 (q : Bool × Bool) : gb_Rw q 97 5 = some 106 := rfl
theorem rw_97_6 (q : Bool × Bool) : gb_Rw q 97 6 = some 107 := rfl
theorem rw_97_7 (q : Bool × Bool) : gb_Rw q 97 7 = some 108 := rfl
theorem rw_97_9 (q : Bool × Bool) : gb_Rw q 97 9 = some 109 := rfl
theorem rw_97_10 (q : Bool × Bool) : gb_Rw q 97 10 = some 110 := rfl
theorem rw_97_11 (q : Bool × Bool) : gb_Rw q 97 11 = some 111 := rfl
theorem rw_97_12 (q : Bool × Bool) : gb_Rw q 97 12 = some 112 := rfl
theorem rw_97_13 (q : Bool × Bool) : gb_Rw q 97 13 = some 113 := rfl
theorem rw_99_1 (q : Bool × Bool) : gb_Rw q 99 1 = some 100 := rfl
theorem rw_99_2 (q : Bool × Bool) : gb_Rw q 99 2 = some 101 := rfl
theorem rw_99_5 (q : Bool × Bool) : gb_Rw q 99 5 = some 102 := rfl
theorem rw_99_6 (q : Bool × Bool) : gb_Rw q 99 6 = some 103 := rfl
theorem rw_99_7 (q : Bool × Bool) : gb_Rw q 99 7 = some 104 := rfl
theorem rw_114_1 (q : Bool × Bool) : gb_Rw q 114 1 = some 115 := rfl
theorem rw_114_2 (q : Bool × Bool) : gb_Rw q 114 2 = some 116 := rfl
theorem rw_114_3 (q : Bool × Bool) : gb_Rw q 114 3 = some 127 := rfl
theorem rw_114_4 (q : Bool × Bool) : gb_Rw q 114 4 = some 138 := rfl
theorem rw_114_5 (q : Bool × Bool) : gb_Rw q 114 5 = some 149 := rfl
theorem rw_114_6 (q : Bool × Bool) : gb_Rw q 114 6 = some 150 := rfl
theorem rw_114_7 (q : Bool × Bool) : gb_Rw q 114 7 = some 151 := rfl
theorem rw_152_1 (q : Bool × Bool) : gb_Rw q 152 1 = some 153 := rfl
theorem rw_152_2 (q : Bool × Bool) : gb_Rw q 152 2 = some 154 := rfl
theorem rw_152_3 (q : Bool × Bool) : gb_Rw q 152 3 = some 165 := rfl
theorem rw_152_4 (q : Bool × Bool) : gb_Rw q 152 4 = some 176 := rfl
theorem rw_152_5 (q : Bool × Bool) : gb_Rw q 152 5 = some 187 := rfl
theorem rw_152_6 (q : Bool × Bool) : gb_Rw q 152 6 = some 188 := rfl
theorem rw_152_7 (q : Bool × Bool) : gb_Rw q 152 7 = some 189 := rfl
theorem rw_190_1 (q : Bool × Bool) : gb_Rw q 190 1 = some 191 := rfl
theorem rw_190_3 (q : Bool × Bool) : gb_Rw q 190 3 = some 192 := rfl
theorem rw_190_4 (q : Bool × Bool) : gb_Rw q 190 4 = some 193 := rfl
theorem rw_190_5 (q : Bool × Bool) : gb_Rw q 190 5 = some 194 := rfl
theorem rw_190_6 (q : Bool × Bool) : gb_Rw q 190 6 = some 195 := rfl
theorem rw_190_7 (q : Bool × Bool) : gb_Rw q 190 7 = some 196 := rfl
theorem rw_190_8 (q : Bool × Bool) : gb_Rw q 190 8 = some 197 := rfl
theorem rw_190_9 (q : Bool × Bool) : gb_Rw q 190 9 = some 198 := rfl
theorem rw_190_10 (q : Bool × Bool) : gb_Rw q 190 10 = some 199 := rfl
theorem rw_190_11 (q : Bool × Bool) : gb_Rw q 190 11 = some 200 := rfl
theorem rw_190_12 (q : Bool × Bool) : gb_Rw q 190 12 = some 201 := rfl
theorem rw_190_13 (q : Bool × Bool) : gb_Rw q 190 13 = some 202 := rfl
theorem rw_190_14 (q : Bool × Bool) : gb_Rw q 190 14 = some 203 := rfl
theorem rw_190_15 (q : Bool × Bool) : gb_Rw q 190 15 = some 204 := rfl
theorem rw_190_16 (q : Bool × Bool) : gb_Rw q 190 16 = some 205 := rfl
theorem rw_190_19 (q : Bool × Bool) : gb_Rw q 190 19 = some 206 := rfl
theorem rw_190_20 (q : Bool × Bool) : gb_Rw q 190 20 = some 207 := rfl
theorem rw_190_21 (q : Bool × Bool) : gb_Rw q 190 21 = some 208 := rfl
theorem rw_190_22 (q : Bool × Bool) : gb_Rw q 190 22 = some 209 := rfl
theorem rw_190_23 (q : Bool × Bool) : gb_Rw q 190 23 = some 210 := rfl
theorem rw_190_24 (q : Bool × Bool) : gb_Rw q 190 24 = some 211 := rfl
theorem rw_190_25 (q : Bool × Bool) : gb_Rw q 190 25 = some 212 := rfl
theorem rw_190_26 (q : Bool × Bool) : gb_Rw q 190 26 = some 213 := rfl
theorem rw_190_27 (q : Bool × Bool) : gb_Rw q 190 27 = some 214 := rfl
theorem rw_190_28 (q : Bool × Bool) : gb_Rw q 190 28 = some 215 := rfl
theorem rw_190_29 (q : Bool × Bool) : gb_Rw q 190 29 = some 216 := rfl
theorem rw_190_30 (q : Bool × Bool) : gb_Rw q 190 30 = some 217 := rfl
theorem rw_190_31 (q : Bool × Bool) : gb_Rw q 190 31 = some 218 := rfl
theorem rw_190_35 (q : Bool × Bool) : gb_Rw q 190 35 = some 219 := rfl
theorem rw_5 (q : Bool × Bool) {k : Nat} (h : k < 8) : gb_Rw q 5 k = some (6 + k) := by
  show (if k < 8 then some (6 + k) else none) = _
  rw [if_pos h]
theorem rw_14 (q : Bool × Bool) {k : Nat} (h : k < 8) : gb_Rw q 14 k = some (15 + k) := by
  show (if k < 8 then some (15 + k) else none) = _
  rw [if_pos h]
theorem rw_40 (q : Bool × Bool) {k : Nat} (h : k < 6) : gb_Rw q 40 k = some (41 + k) := by
  show (if k < 6 then some (41 + k) else none) = _
  rw [if_pos h]
theorem rw_48 (q : Bool × Bool) {k : Nat} (h : k < 8) : gb_Rw q 48 k = some (49 + k) := by
  show (if k < 8 then some (49 + k) else none) = _
  rw [if_pos h]
theorem rw_58 (q : Bool × Bool) {k : Nat} (h : k < 4) : gb_Rw q 58 k = some (59 + k) := by
  show (if k < 4 then some (59 + k) else none) = _
  rw [if_pos h]
theorem rw_64 (q : Bool × Bool) {k : Nat} (h : k < 6) : gb_Rw q 64 k = some (65 + k) := by
  show (if k < 6 then some (65 + k) else none) = _
  rw [if_pos h]
theorem rw_71 (q : Bool × Bool) {k : Nat} (h : k < 6) : gb_Rw q 71 k = some (72 + k) := by
  show (if k < 6 then some (72 + k) else none) = _
  rw [if_pos h]
theorem rw_116 (q : Bool × Bool) {k : Nat} (h : k < 10) : gb_Rw q 116 k = some (117 + k) := by
  show (if k < 10 then some (117 + k) else none) = _
  rw [if_pos h]
theorem rw_127 (q : Bool × Bool) {k : Nat} (h : k < 10) : gb_Rw q 127 k = some (128 + k) := by
  show (if k < 10 then some (128 + k) else none) = _
  rw [if_pos h]
theorem rw_138 (q : Bool × Bool) {k : Nat} (h : k < 10) : gb_Rw q 138 k = some (139 + k) := by
  show (if k < 10 then some (139 + k) else none) = _
  rw [if_pos h]
theorem rw_154 (q : Bool × Bool) {k : Nat} (h : k < 10) : gb_Rw q 154 k = some (155 + k) := by
  show (if k < 10 then some (155 + k) else none) = _
  rw [if_pos h]
theorem rw_165 (q : Bool × Bool) {k : Nat} (h : k < 10) : gb_Rw q 165 k = some (166 + k) := by
  show (if k < 10 then some (166 + k) else none) = _
  rw [if_pos h]
theorem rw_176 (q : Bool × Bool) {k : Nat} (h : k < 10) : gb_Rw q 176 k = some (177 + k) := by
  show (if k < 10 then some (177 + k) else none) = _
  rw [if_pos h]
theorem at_0 : atag gb_pG 0 = 19 := congrArg id rfl
theorem at_1 : atag gb_pG 1 = 15 := congrArg id rfl
theorem at_2 : atag gb_pG 2 = 1 := congrArg id rfl
theorem al_2 : alen gb_pG 2 = 400 := congrArg id rfl
theorem at_3 : atag gb_pG 3 = 11 := congrArg id rfl
theorem at_4 : atag gb_pG 4 = 2 := congrArg id rfl
theorem al_4 : alen gb_pG 4 = 8 := congrArg id rfl
theorem at_5 : atag gb_pG 5 = 4 := congrArg id rfl
theorem al_5 : alen gb_pG 5 = 8 := congrArg id rfl
theorem at_6 : atag gb_pG 6 = 0 := congrArg id rfl
theorem al_6 : alen gb_pG 6 = 110 := congrArg id rfl
theorem at_7 : atag gb_pG 7 = 0 := congrArg id rfl
theorem al_7 : alen gb_pG 7 = 110 := congrArg id rfl
theorem at_8 : atag gb_pG 8 = 0 := congrArg id rfl
theorem al_8 : alen gb_pG 8 = 110 := congrArg id rfl
theorem at_9 : atag gb_pG 9 = 0 := congrArg id rfl
theorem al_9 : alen gb_pG 9 = 110 := congrArg id rfl
theorem at_10 : atag gb_pG 10 = 0 := congrArg id rfl
theorem al_10 : alen gb_pG 10 = 110 := congrArg id rfl
theorem at_11 : atag gb_pG 11 = 0 := congrArg id rfl
theorem al_11 : alen gb_pG 11 = 110 := congrArg id rfl
theorem at_12 : atag gb_pG 12 = 0 := congrArg id rfl
theorem al_12 : alen gb_pG 12 = 110 := congrArg id rfl
theorem at_13 : atag gb_pG 13 = 0 := congrArg id rfl
theorem al_13 : alen gb_pG 13 = 110 := congrArg id rfl
theorem at_14 : atag gb_pG 14 = 4 := congrArg id rfl
theorem al_14 : alen gb_pG 14 = 8 := congrArg id rfl
theorem at_15 : atag gb_pG 15 = 0 := congrArg id rfl
theorem al_15 : alen gb_pG 15 = 110 := congrArg id rfl
theorem at_16 : atag gb_pG 16 = 0 := congrArg id rfl
theorem al_16 : alen gb_pG 16 = 110 := congrArg id rfl
theorem at_17 : atag gb_pG 17 = 0 := congrArg id rfl
theorem al_17 : alen gb_pG 17 = 110 := congrArg id rfl
theorem at_18 : atag gb_pG 18 = 0 := congrArg id rfl
theorem al_18 : alen gb_pG 18 = 110 := congrArg id rfl
theorem at_19 : atag gb_pG 19 = 0 := congrArg id rfl
theorem al_19 : alen gb_pG 19 = 110 := congrArg id rfl
theorem at_20 : atag gb_pG 20 = 0 := congrArg id rfl
theorem al_20 : alen gb_pG 20 = 110 := congrArg id rfl
theorem at_21 : atag gb_pG 21 = 0 := congrArg id rfl
theorem al_21 : alen gb_pG 21 = 110 := congrArg id rfl
theorem at_22 : atag gb_pG 22 = 0 := congrArg id rfl
theorem al_22 : alen gb_pG 22 = 110 := congrArg id rfl
theorem at_23 : atag gb_pG 23 = 16 := congrArg id rfl
theorem at_24 : atag gb_pG 24 = 0 := congrArg id rfl
theorem al_24 : alen gb_pG 24 = 12 := congrArg id rfl
theorem at_25 : atag gb_pG 25 = 0 := congrArg id rfl
theorem al_25 : alen gb_pG 25 = 12 := congrArg id rfl
theorem at_26 : atag gb_pG 26 = 0 := congrArg id rfl
theorem al_26 : alen gb_pG 26 = 12 := congrArg id rfl
theorem at_27 : atag gb_pG 27 = 0 := congrArg id rfl
theorem al_27 : alen gb_pG 27 = 24 := congrArg id rfl
theorem at_28 : atag gb_pG 28 = 0 := congrArg id rfl
theorem al_28 : alen gb_pG 28 = 24 := congrArg id rfl
theorem at_29 : atag gb_pG 29 = 0 := congrArg id rfl
theorem al_29 : alen gb_pG 29 = 24 := congrArg id rfl
theorem at_30 : atag gb_pG 30 = 0 := congrArg id rfl
theorem al_30 : alen gb_pG 30 = 24 := congrArg id rfl
theorem at_31 : atag gb_pG 31 = 2 := congrArg id rfl
theorem al_31 : alen gb_pG 31 = 24 := congrArg id rfl
theorem at_32 : atag gb_pG 32 = 0 := congrArg id rfl
theorem al_32 : alen gb_pG 32 = 20 := congrArg id rfl
theorem at_33 : atag gb_pG 33 = 0 := congrArg id rfl
theorem al_33 : alen gb_pG 33 = 2 := congrArg id rfl
theorem at_34 : atag gb_pG 34 = 0 := congrArg id rfl
theorem al_34 : alen gb_pG 34 = 2 := congrArg id rfl
theorem at_35 : atag gb_pG 35 = 0 := congrArg id rfl
theorem al_35 : alen gb_pG 35 = 2 := congrArg id rfl
theorem at_36 : atag gb_pG 36 = 13 := congrArg id rfl
theorem at_37 : atag gb_pG 37 = 0 := congrArg id rfl
theorem al_37 : alen gb_pG 37 = 8 := congrArg id rfl
theorem at_38 : atag gb_pG 38 = 2 := congrArg id rfl
theorem al_38 : alen gb_pG 38 = 256 := congrArg id rfl
theorem at_39 : atag gb_pG 39 = 14 := congrArg id rfl
theorem at_40 : atag gb_pG 40 = 4 := congrArg id rfl
theorem al_40 : alen gb_pG 40 = 6 := congrArg id rfl
theorem at_41 : atag gb_pG 41 = 0 := congrArg id rfl
theorem al_41 : alen gb_pG 41 = 16 := congrArg id rfl
theorem at_42 : atag gb_pG 42 = 0 := congrArg id rfl
theorem al_42 : alen gb_pG 42 = 16 := congrArg id rfl
theorem at_43 : atag gb_pG 43 = 0 := congrArg id rfl
theorem al_43 : alen gb_pG 43 = 16 := congrArg id rfl
theorem at_44 : atag gb_pG 44 = 0 := congrArg id rfl
theorem al_44 : alen gb_pG 44 = 16 := congrArg id rfl
theorem at_45 : atag gb_pG 45 = 0 := congrArg id rfl
theorem al_45 : alen gb_pG 45 = 16 := congrArg id rfl
theorem at_46 : atag gb_pG 46 = 0 := congrArg id rfl
theorem al_46 : alen gb_pG 46 = 16 := congrArg id rfl
theorem at_47 : atag gb_pG 47 = 0 := congrArg id rfl
theorem al_47 : alen gb_pG 47 = 8 := congrArg id rfl
theorem at_48 : atag gb_pG 48 = 4 := congrArg id rfl
theorem al_48 : alen gb_pG 48 = 8 := congrArg id rfl
theorem at_49 : atag gb_pG 49 = 0 := congrArg id rfl
theorem al_49 : alen gb_pG 49 = 16 := congrArg id rfl
theorem at_50 : atag gb_pG 50 = 0 := congrArg id rfl
theorem al_50 : alen gb_pG 50 = 16 := congrArg id rfl
theorem at_51 : atag gb_pG 51 = 0 := congrArg id rfl
theorem al_51 : alen gb_pG 51 = 16 := congrArg id rfl
theorem at_52 : atag gb_pG 52 = 0 := congrArg id rfl
theorem al_52 : alen gb_pG 52 = 16 := congrArg id rfl
theorem at_53 : atag gb_pG 53 = 0 := congrArg id rfl
theorem al_53 : alen gb_pG 53 = 16 := congrArg id rfl
theorem at_54 : atag gb_pG 54 = 0 := congrArg id rfl
theorem al_54 : alen gb_pG 54 = 16 := congrArg id rfl
theorem at_55 : atag gb_pG 55 = 0 := congrArg id rfl
theorem al_55 : alen gb_pG 55 = 16 := congrArg id rfl
theorem at_56 : atag gb_pG 56 = 0 := congrArg id rfl
theorem al_56 : alen gb_pG 56 = 16 := congrArg id rfl
theorem at_57 : atag gb_pG 57 = 3 := congrArg id rfl
theorem al_57 : alen gb_pG 57 = 16 := congrArg id rfl
theorem at_58 : atag gb_pG 58 = 5 := congrArg id rfl
theorem al_58 : alen gb_pG 58 = 4 := congrArg id rfl
theorem at_59 : atag gb_pG 59 = 3 := congrArg id rfl
theorem al_59 : alen gb_pG 59 = 17 := congrArg id rfl
theorem at_60 : atag gb_pG 60 = 3 := congrArg id rfl
theorem al_60 : alen gb_pG 60 = 17 := congrArg id rfl
theorem at_61 : atag gb_pG 61 = 3 := congrArg id rfl
theorem al_61 : alen gb_pG 61 = 17 := congrArg id rfl
theorem at_62 : atag gb_pG 62 = 3 := congrArg id rfl
theorem al_62 : alen gb_pG 62 = 17 := congrArg id rfl
theorem at_63 : atag gb_pG 63 = 17 := congrArg id rfl
theorem at_64 : atag gb_pG 64 = 4 := congrArg id rfl
theorem al_64 : alen gb_pG 64 = 6 := congrArg id rfl
theorem at_65 : atag gb_pG 65 = 0 := congrArg id rfl
theorem al_65 : alen gb_pG 65 = 8 := congrArg id rfl
theorem at_66 : atag gb_pG 66 = 0 := congrArg id rfl
theorem al_66 : alen gb_pG 66 = 8 := congrArg id rfl
theorem at_67 : atag gb_pG 67 = 0 := congrArg id rfl
theorem al_67 : alen gb_pG 67 = 8 := congrArg id rfl
theorem at_68 : atag gb_pG 68 = 0 := congrArg id rfl
theorem al_68 : alen gb_pG 68 = 8 := congrArg id rfl
theorem at_69 : atag gb_pG 69 = 0 := congrArg id rfl
theorem al_69 : alen gb_pG 69 = 8 := congrArg id rfl
theorem at_70 : atag gb_pG 70 = 0 := congrArg id rfl
theorem al_70 : alen gb_pG 70 = 8 := congrArg id rfl
theorem at_71 : atag gb_pG 71 = 4 := congrArg id rfl
theorem al_71 : alen gb_pG 71 = 6 := congrArg id rfl
theorem at_72 : atag gb_pG 72 = 0 := congrArg id rfl
theorem al_72 : alen gb_pG 72 = 4 := congrArg id rfl
theorem at_73 : atag gb_pG 73 = 0 := congrArg id rfl
theorem al_73 : alen gb_pG 73 = 4 := congrArg id rfl
theorem at_74 : atag gb_pG 74 = 0 := congrArg id rfl
theorem al_74 : alen gb_pG 74 = 4 := congrArg id rfl
theorem at_75 : atag gb_pG 75 = 0 := congrArg id rfl
theorem al_75 : alen gb_pG 75 = 4 := congrArg id rfl
theorem at_76 : atag gb_pG 76 = 0 := congrArg id rfl
theorem al_76 : alen gb_pG 76 = 4 := congrArg id rfl
theorem at_77 : atag gb_pG 77 = 0 := congrArg id rfl
theorem al_77 : alen gb_pG 77 = 4 := congrArg id rfl
theorem at_78 : atag gb_pG 78 = 0 := congrArg id rfl
theorem al_78 : alen gb_pG 78 = 6 := congrArg id rfl
theorem at_79 : atag gb_pG 79 = 0 := congrArg id rfl
theorem al_79 : alen gb_pG 79 = 256 := congrArg id rfl
theorem at_80 : atag gb_pG 80 = 10 := congrArg id rfl
theorem at_81 : atag gb_pG 81 = 0 := congrArg id rfl
theorem al_81 : alen gb_pG 81 = 5 := congrArg id rfl
theorem at_82 : atag gb_pG 82 = 18 := congrArg id rfl
theorem at_83 : atag gb_pG 83 = 0 := congrArg id rfl
theorem al_83 : alen gb_pG 83 = 12 := congrArg id rfl
theorem at_84 : atag gb_pG 84 = 0 := congrArg id rfl
theorem al_84 : alen gb_pG 84 = 12 := congrArg id rfl
theorem at_85 : atag gb_pG 85 = 0 := congrArg id rfl
theorem al_85 : alen gb_pG 85 = 12 := congrArg id rfl
theorem at_86 : atag gb_pG 86 = 0 := congrArg id rfl
theorem al_86 : alen gb_pG 86 = 12 := congrArg id rfl
theorem at_87 : atag gb_pG 87 = 0 := congrArg id rfl
theorem al_87 : alen gb_pG 87 = 12 := congrArg id rfl
theorem at_88 : atag gb_pG 88 = 0 := congrArg id rfl
theorem al_88 : alen gb_pG 88 = 6 := congrArg id rfl
theorem at_89 : atag gb_pG 89 = 0 := congrArg id rfl
theorem al_89 : alen gb_pG 89 = 6 := congrArg id rfl
theorem at_90 : atag gb_pG 90 = 0 := congrArg id rfl
theorem al_90 : alen gb_pG 90 = 6 := congrArg id rfl
theorem at_91 : atag gb_pG 91 = 0 := congrArg id rfl
theorem al_91 : alen gb_pG 91 = 6 := congrArg id rfl
theorem at_92 : atag gb_pG 92 = 0 := congrArg id rfl
theorem al_92 : alen gb_pG 92 = 8 := congrArg id rfl
theorem at_93 : atag gb_pG 93 = 0 := congrArg id rfl
theorem al_93 : alen gb_pG 93 = 8 := congrArg id rfl
theorem at_94 : atag gb_pG 94 = 0 := congrArg id rfl
theorem al_94 : alen gb_pG 94 = 8 := congrArg id rfl
theorem at_95 : atag gb_pG 95 = 0 := congrArg id rfl
theorem al_95 : alen gb_pG 95 = 8 := congrArg id rfl
theorem at_96 : atag gb_pG 96 = 0 := congrArg id rfl
theorem al_96 : alen gb_pG 96 = 8 := congrArg id rfl
theorem at_97 : atag gb_pG 97 = 10 := congrArg id rfl
theorem at_98 : atag gb_pG 98 = 0 := congrArg id rfl
theorem al_98 : alen gb_pG 98 = 5 := congrArg id rfl
theorem at_99 : atag gb_pG 99 = 18 := congrArg id rfl
theorem at_100 : atag gb_pG 100 = 0 := congrArg id rfl
theorem al_100 : alen gb_pG 100 = 12 := congrArg id rfl
theorem at_101 : atag gb_pG 101 = 0 := congrArg id rfl
theorem al_101 : alen gb_pG 101 = 12 := congrArg id rfl
theorem at_102 : atag gb_pG 102 = 0 := congrArg id rfl
theorem al_102 : alen gb_pG 102 = 12 := congrArg id rfl
theorem at_103 : atag gb_pG 103 = 0 := congrArg id rfl
theorem al_103 : alen gb_pG 103 = 12 := congrArg id rfl
theorem at_104 : atag gb_pG 104 = 0 := congrArg id rfl
theorem al_104 : alen gb_pG 104 = 12 := congrArg id rfl
theorem at_105 : atag gb_pG 105 = 0 := congrArg id rfl
theorem al_105 : alen gb_pG 105 = 6 := congrArg id rfl
theorem at_106 : atag gb_pG 106 = 0 := congrArg id rfl
theorem al_106 : alen gb_pG 106 = 6 := congrArg id rfl
theorem at_107 : atag gb_pG 107 = 0 := congrArg id rfl
theorem al_107 : alen gb_pG 107 = 6 := congrArg id rfl
theorem at_108 : atag gb_pG 108 = 0 := congrArg id rfl
theorem al_108 : alen gb_pG 108 = 6 := congrArg id rfl
theorem at_109 : atag gb_pG 109 = 0 := congrArg id rfl
theorem al_109 : alen gb_pG 109 = 8 := congrArg id rfl
theorem at_110 : atag gb_pG 110 = 0 := congrArg id rfl
theorem al_110 : alen gb_pG 110 = 8 := congrArg id rfl
theorem at_111 : atag gb_pG 111 = 0 := congrArg id rfl
theorem al_111 : alen gb_pG 111 = 8 := congrArg id rfl
theorem at_112 : atag gb_pG 112 = 0 := congrArg id rfl
theorem al_112 : alen gb_pG 112 = 8 := congrArg id rfl
theorem at_113 : atag gb_pG 113 = 0 := congrArg id rfl
theorem al_113 : alen gb_pG 113 = 8 := congrArg id rfl
theorem at_114 : atag gb_pG 114 = 12 := congrArg id rfl
theorem at_115 : atag gb_pG 115 = 0 := congrArg id rfl
theorem al_115 : alen gb_pG 115 = 10 := congrArg id rfl
theorem at_116 : atag gb_pG 116 = 4 := congrArg id rfl
theorem al_116 : alen gb_pG 116 = 10 := congrArg id rfl
theorem at_117 : atag gb_pG 117 = 0 := congrArg id rfl
theorem al_117 : alen gb_pG 117 = 3 := congrArg id rfl
theorem at_118 : atag gb_pG 118 = 0 := congrArg id rfl
theorem al_118 : alen gb_pG 118 = 3 := congrArg id rfl
theorem at_119 : atag gb_pG 119 = 0 := congrArg id rfl
theorem al_119 : alen gb_pG 119 = 3 := congrArg id rfl
theorem at_120 : atag gb_pG 120 = 0 := congrArg id rfl
theorem al_120 : alen gb_pG 120 = 3 := congrArg id rfl
theorem at_121 : atag gb_pG 121 = 0 := congrArg id rfl
theorem al_121 : alen gb_pG 121 = 3 := congrArg id rfl
theorem at_122 : atag gb_pG 122 = 0 := congrArg id rfl
theorem al_122 : alen gb_pG 122 = 3 := congrArg id rfl
theorem at_123 : atag gb_pG 123 = 0 := congrArg id rfl
theorem al_123 : alen gb_pG 123 = 3 := congrArg id rfl
theorem at_124 : atag gb_pG 124 = 0 := congrArg id rfl
theorem al_124 : alen gb_pG 124 = 3 := congrArg id rfl
theorem at_125 : atag gb_pG 125 = 0 := congrArg id rfl
theorem al_125 : alen gb_pG 125 = 3 := congrArg id rfl
theorem at_126 : atag gb_pG 126 = 0 := congrArg id rfl
theorem al_126 : alen gb_pG 126 = 3 := congrArg id rfl
theorem at_127 : atag gb_pG 127 = 4 := congrArg id rfl
theorem al_127 : alen gb_pG 127 = 10 := congrArg id rfl
theorem at_128 : atag gb_pG 128 = 0 := congrArg id rfl
theorem al_128 : alen gb_pG 128 = 3 := congrArg id rfl
theorem at_129 : atag gb_pG 129 = 0 := congrArg id rfl
theorem al_129 : alen gb_pG 129 = 3 := congrArg id rfl
theorem at_130 : atag gb_pG 130 = 0 := congrArg id rfl
theorem al_130 : alen gb_pG 130 = 3 := congrArg id rfl
theorem at_131 : atag gb_pG 131 = 0 := congrArg id rfl
theorem al_131 : alen gb_pG 131 = 3 := congrArg id rfl
theorem at_132 : atag gb_pG 132 = 0 := congrArg id rfl
theorem al_132 : alen gb_pG 132 = 3 := congrArg id rfl
theorem at_133 : atag gb_pG 133 = 0 := congrArg id rfl
theorem al_133 : alen gb_pG 133 = 3 := congrArg id rfl
theorem at_134 : atag gb_pG 134 = 0 := congrArg id rfl
theorem al_134 : alen gb_pG 134 = 3 := congrArg id rfl
theorem at_135 : atag gb_pG 135 = 0 := congrArg id rfl
theorem al_135 : alen gb_pG 135 = 3 := congrArg id rfl
theorem at_136 : atag gb_pG 136 = 0 := congrArg id rfl
theorem al_136 : alen gb_pG 136 = 3 := congrArg id rfl
theorem at_137 : atag gb_pG 137 = 0 := congrArg id rfl
theorem al_137 : alen gb_pG 137 = 3 := congrArg id rfl
theorem at_138 : atag gb_pG 138 = 4 := congrArg id rfl
theorem al_138 : alen gb_pG 138 = 10 := congrArg id rfl
theorem at_139 : atag gb_pG 139 = 0 := congrArg id rfl
theorem al_139 : alen gb_pG 139 = 3 := congrArg id rfl
theorem at_140 : atag gb_pG 140 = 0 := congrArg id rfl
theorem al_140 : alen gb_pG 140 = 3 := congrArg id rfl
theorem at_141 : atag gb_pG 141 = 0 := congrArg id rfl
theorem al_141 : alen gb_pG 141 = 3 := congrArg id rfl
theorem at_142 : atag gb_pG 142 = 0 := congrArg id rfl
theorem al_142 : alen gb_pG 142 = 3 := congrArg id rfl
theorem at_143 : atag gb_pG 143 = 0 := congrArg id rfl
theorem al_143 : alen gb_pG 143 = 3 := congrArg id rfl
theorem at_144 : atag gb_pG 144 = 0 := congrArg id rfl
theorem al_144 : alen gb_pG 144 = 3 := congrArg id rfl
theorem at_145 : atag gb_pG 145 = 0 := congrArg id rfl
theorem al_145 : alen gb_pG 145 = 3 := congrArg id rfl
theorem at_146 : atag gb_pG 146 = 0 := congrArg id rfl
theorem al_146 : alen gb_pG 146 = 3 := congrArg id rfl
theorem at_147 : atag gb_pG 147 = 0 := congrArg id rfl
theorem al_147 : alen gb_pG 147 = 3 := congrArg id rfl
theorem at_148 : atag gb_pG 148 = 0 := congrArg id rfl
theorem al_148 : alen gb_pG 148 = 3 := congrArg id rfl
theorem at_149 : atag gb_pG 149 = 0 := congrArg id rfl
theorem al_149 : alen gb_pG 149 = 10 := congrArg id rfl
theorem at_150 : atag gb_pG 150 = 0 := congrArg id rfl
theorem al_150 : alen gb_pG 150 = 10 := congrArg id rfl
theorem at_151 : atag gb_pG 151 = 0 := congrArg id rfl
theorem al_151 : alen gb_pG 151 = 10 := congrArg id rfl
theorem at_152 : atag gb_pG 152 = 12 := congrArg id rfl
theorem at_153 : atag gb_pG 153 = 0 := congrArg id rfl
theorem al_153 : alen gb_pG 153 = 10 := congrArg id rfl
theorem at_154 : atag gb_pG 154 = 4 := congrArg id rfl
theorem al_154 : alen gb_pG 154 = 10 := congrArg id rfl
theorem at_155 : atag gb_pG 155 = 0 := congrArg id rfl
theorem al_155 : alen gb_pG 155 = 3 := congrArg id rfl
theorem at_156 : atag gb_pG 156 = 0 := congrArg id rfl
theorem al_156 : alen gb_pG 156 = 3 := congrArg id rfl
theorem at_157 : atag gb_pG 157 = 0 := congrArg id rfl
theorem al_157 : alen gb_pG 157 = 3 := congrArg id rfl
theorem at_158 : atag gb_pG 158 = 0 := congrArg id rfl
theorem al_158 : alen gb_pG 158 = 3 := congrArg id rfl
theorem at_159 : atag gb_pG 159 = 0 := congrArg id rfl
theorem al_159 : alen gb_pG 159 = 3 := congrArg id rfl
theorem at_160 : atag gb_pG 160 = 0 := congrArg id rfl
theorem al_160 : alen gb_pG 160 = 3 := congrArg id rfl
theorem at_161 : atag gb_pG 161 = 0 := congrArg id rfl
theorem al_161 : alen gb_pG 161 = 3 := congrArg id rfl
theorem at_162 : atag gb_pG 162 = 0 := congrArg id rfl
theorem al_162 : alen gb_pG 162 = 3 := congrArg id rfl
theorem at_163 : atag gb_pG 163 = 0 := congrArg id rfl
theorem al_163 : alen gb_pG 163 = 3 := congrArg id rfl
theorem at_164 : atag gb_pG 164 = 0 := congrArg id rfl
theorem al_164 : alen gb_pG 164 = 3 := congrArg id rfl
theorem at_165 : atag gb_pG 165 = 4 := congrArg id rfl
theorem al_165 : alen gb_pG 165 = 10 := congrArg id rfl
theorem at_166 : atag gb_pG 166 = 0 := congrArg id rfl
theorem al_166 : alen gb_pG 166 = 3 := congrArg id rfl
theorem at_167 : atag gb_pG 167 = 0 := congrArg id rfl
theorem al_167 : alen gb_pG 167 = 3 := congrArg id rfl
theorem at_168 : atag gb_pG 168 = 0 := congrArg id rfl
theorem al_168 : alen gb_pG 168 = 3 := congrArg id rfl
theorem at_169 : atag gb_pG 169 = 0 := congrArg id rfl
theorem al_169 : alen gb_pG 169 = 3 := congrArg id rfl
theorem at_170 : atag gb_pG 170 = 0 := congrArg id rfl
theorem al_170 : alen gb_pG 170 = 3 := congrArg id rfl
theorem at_171 : atag gb_pG 171 = 0 := congrArg id rfl
theorem al_171 : alen gb_pG 171 = 3 := congrArg id rfl
theorem at_172 : atag gb_pG 172 = 0 := congrArg id rfl
theorem al_172 : alen gb_pG 172 = 3 := congrArg id rfl
theorem at_173 : atag gb_pG 173 = 0 := congrArg id rfl
theorem al_173 : alen gb_pG 173 = 3 := congrArg id rfl
theorem at_174 : atag gb_pG 174 = 0 := congrArg id rfl
theorem al_174 : alen gb_pG 174 = 3 := congrArg id rfl
theorem at_175 : atag gb_pG 175 = 0 := congrArg id rfl
theorem al_175 : alen gb_pG 175 = 3 := congrArg id rfl
theorem at_176 : atag gb_pG 176 = 4 := congrArg id rfl
theorem al_176 : alen gb_pG 176 = 10 := congrArg id rfl
theorem at_177 : atag gb_pG 177 = 0 := congrArg id rfl
theorem al_177 : alen gb_pG 177 = 3 := congrArg id rfl
theorem at_178 : atag gb_pG 178 = 0 := congrArg id rfl
theorem al_178 : alen gb_pG 178 = 3 := congrArg id rfl
theorem at_179 : atag gb_pG 179 = 0 := congrArg id rfl
theorem al_179 : alen gb_pG 179 = 3 := congrArg id rfl
theorem at_180 : atag gb_pG 180 = 0 := congrArg id rfl
theorem al_180 : alen gb_pG 180 = 3 := congrArg id rfl
theorem at_181 : atag gb_pG 181 = 0 := congrArg id rfl
theorem al_181 : alen gb_pG 181 = 3 := congrArg id rfl
theorem at_182 : atag gb_pG 182 = 0 := congrArg id rfl
theorem al_182 : alen gb_pG 182 = 3 := congrArg id rfl
theorem at_183 : atag gb_pG 183 = 0 := congrArg id rfl
theorem al_183 : alen gb_pG 183 = 3 := congrArg id rfl
theorem at_184 : atag gb_pG 184 = 0 := congrArg id rfl
theorem al_184 : alen gb_pG 184 = 3 := congrArg id rfl
theorem at_185 : atag gb_pG 185 = 0 := congrArg id rfl
theorem al_185 : alen gb_pG 185 = 3 := congrArg id rfl
theorem at_186 : atag gb_pG 186 = 0 := congrArg id rfl
theorem al_186 : alen gb_pG 186 = 3 := congrArg id rfl
theorem at_187 : atag gb_pG 187 = 0 := congrArg id rfl
theorem al_187 : alen gb_pG 187 = 10 := congrArg id rfl
theorem at_188 : atag gb_pG 188 = 0 := congrArg id rfl
theorem al_188 : alen gb_pG 188 = 10 := congrArg id rfl
theorem at_189 : atag gb_pG 189 = 0 := congrArg id rfl
theorem al_189 : alen gb_pG 189 = 10 := congrArg id rfl
theorem at_190 : atag gb_pG 190 = 20 := congrArg id rfl
theorem at_191 : atag gb_pG 191 = 1 := congrArg id rfl
theorem al_191 : alen gb_pG 191 = 400 := congrArg id rfl
theorem at_192 : atag gb_pG 192 = 0 := congrArg id rfl
theorem al_192 : alen gb_pG 192 = 2 := congrArg id rfl
theorem at_193 : atag gb_pG 193 = 0 := congrArg id rfl
theorem al_193 : alen gb_pG 193 = 2 := congrArg id rfl
theorem at_194 : atag gb_pG 194 = 0 := congrArg id rfl
theorem al_194 : alen gb_pG 194 = 48 := congrArg id rfl
theorem at_195 : atag gb_pG 195 = 0 := congrArg id rfl
theorem al_195 : alen gb_pG 195 = 2 := congrArg id rfl
theorem at_196 : atag gb_pG 196 = 0 := congrArg id rfl
theorem al_196 : alen gb_pG 196 = 72 := congrArg id rfl
theorem at_197 : atag gb_pG 197 = 0 := congrArg id rfl
theorem al_197 : alen gb_pG 197 = 2 := congrArg id rfl
theorem at_198 : atag gb_pG 198 = 0 := congrArg id rfl
theorem al_198 : alen gb_pG 198 = 48 := congrArg id rfl
theorem at_199 : atag gb_pG 199 = 0 := congrArg id rfl
theorem al_199 : alen gb_pG 199 = 2 := congrArg id rfl
theorem at_200 : atag gb_pG 200 = 0 := congrArg id rfl
theorem al_200 : alen gb_pG 200 = 80 := congrArg id rfl
theorem at_201 : atag gb_pG 201 = 0 := congrArg id rfl
theorem al_201 : alen gb_pG 201 = 2 := congrArg id rfl
theorem at_202 : atag gb_pG 202 = 0 := congrArg id rfl
theorem al_202 : alen gb_pG 202 = 260 := congrArg id rfl
theorem at_203 : atag gb_pG 203 = 0 := congrArg id rfl
theorem al_203 : alen gb_pG 203 = 8 := congrArg id rfl
theorem at_204 : atag gb_pG 204 = 0 := congrArg id rfl
theorem al_204 : alen gb_pG 204 = 880 := congrArg id rfl
theorem at_205 : atag gb_pG 205 = 0 := congrArg id rfl
theorem al_205 : alen gb_pG 205 = 880 := congrArg id rfl
theorem at_206 : atag gb_pG 206 = 0 := congrArg id rfl
theorem al_206 : alen gb_pG 206 = 3 := congrArg id rfl
theorem at_207 : atag gb_pG 207 = 0 := congrArg id rfl
theorem al_207 : alen gb_pG 207 = 108 := congrArg id rfl
theorem at_208 : atag gb_pG 208 = 0 := congrArg id rfl
theorem al_208 : alen gb_pG 208 = 3 := congrArg id rfl
theorem at_209 : atag gb_pG 209 = 0 := congrArg id rfl
theorem al_209 : alen gb_pG 209 = 360 := congrArg id rfl
theorem at_210 : atag gb_pG 210 = 0 := congrArg id rfl
theorem al_210 : alen gb_pG 210 = 3 := congrArg id rfl
theorem at_211 : atag gb_pG 211 = 0 := congrArg id rfl
theorem al_211 : alen gb_pG 211 = 60 := congrArg id rfl
theorem at_212 : atag gb_pG 212 = 0 := congrArg id rfl
theorem al_212 : alen gb_pG 212 = 48 := congrArg id rfl
theorem at_213 : atag gb_pG 213 = 0 := congrArg id rfl
theorem al_213 : alen gb_pG 213 = 6 := congrArg id rfl
theorem at_214 : atag gb_pG 214 = 0 := congrArg id rfl
theorem al_214 : alen gb_pG 214 = 12 := congrArg id rfl
theorem at_215 : atag gb_pG 215 = 0 := congrArg id rfl
theorem al_215 : alen gb_pG 215 = 3 := congrArg id rfl
theorem at_216 : atag gb_pG 216 = 0 := congrArg id rfl
theorem al_216 : alen gb_pG 216 = 3 := congrArg id rfl
theorem at_217 : atag gb_pG 217 = 0 := congrArg id rfl
theorem al_217 : alen gb_pG 217 = 256 := congrArg id rfl
theorem at_218 : atag gb_pG 218 = 0 := congrArg id rfl
theorem al_218 : alen gb_pG 218 = 256 := congrArg id rfl
theorem at_219 : atag gb_pG 219 = 3 := congrArg id rfl
theorem al_219 : alen gb_pG 219 = 16 := congrArg id rfl
theorem atr_5 {k : Nat} (h : k < 8) : atag gb_pG (6 + k) = 0 := by
  match k, h with
  | 0, _ => rfl
  | 1, _ => rfl
  | 2, _ => rfl
  | 3, _ => rfl
  | 4, _ => rfl
  | 5, _ => rfl
  | 6, _ => rfl
  | 7, _ => rfl
  | k + 8, h => omega
theorem alr_5 {k : Nat} (h : k < 8) : alen gb_pG (6 + k) = 110 := by
  match k, h with
  | 0, _ => rfl
  | 1, _ => rfl
  | 2, _ => rfl
  | 3, _ => rfl
  | 4, _ => rfl
  | 5, _ => rfl
  | 6, _ => rfl
  | 7, _ => rfl
  | k + 8, h => omega
theorem atr_14 {k : Nat} (h : k < 8) : atag gb_pG (15 + k) = 0 := by
  match k, h with
  | 0, _ => rfl
  | 1, _ => rfl
  | 2, _ => rfl
  | 3, _ => rfl
  | 4, _ => rfl
  | 5, _ => rfl
  | 6, _ => rfl
  | 7, _ => rfl
  | k + 8, h => omega
theorem alr_14 {k : Nat} (h : k < 8) : alen gb_pG (15 + k) = 110 := by
  match k, h with
  | 0, _ => rfl
  | 1, _ => rfl
  | 2, _ => rfl
  | 3, _ => rfl
  | 4, _ => rfl
  | 5, _ => rfl
  | 6, _ => rfl
  | 7, _ => rfl
  | k + 8, h => omega
theorem atr_40 {k : Nat} (h : k < 6) : atag gb_pG (41 + k) = 0 := by
  match k, h with
  | 0, _ => rfl
  | 1, _ => rfl
  | 2, _ => rfl
  | 3, _ => rfl
  | 4, _ => rfl
  | 5, _ => rfl
  | k + 6, h => omega
theorem alr_40 {k : Nat} (h : k < 6) : alen gb_pG (41 + k) = 16 := by
  match k, h with
  | 0, _ => rfl
  | 1, _ => rfl
  | 2, _ => rfl
  | 3, _ => rfl
  | 4, _ => rfl
  | 5, _ => rfl
  | k + 6, h => omega
theorem atr_48 {k : Nat} (h : k < 8) : atag gb_pG (49 + k) = 0 := by
  match k, h with
  | 0, _ => rfl
  | 1, _ => rfl
  | 2, _ => rfl
  | 3, _ => rfl
  | 4, _ => rfl
  | 5, _ => rfl
  | 6, _ => rfl
  | 7, _ => rfl
  | k + 8, h => omega
theorem alr_48 {k : Nat} (h : k < 8) : alen gb_pG (49 + k) = 16 := by
  match k, h with
  | 0, _ => rfl
  | 1, _ => rfl
  | 2, _ => rfl
  | 3, _ => rfl
  | 4, _ => rfl
  | 5, _ => rfl
  | 6, _ => rfl
  | 7, _ => rfl
  | k + 8, h => omega
theorem atr_58 {k : Nat} (h : k < 4) : atag gb_pG (59 + k) = 3 := by
  match k, h with
  | 0, _ => rfl
  | 1, _ => rfl
  | 2, _ => rfl
  | 3, _ => rfl
  | k + 4, h => omega
theorem alr_58 {k : Nat} (h : k < 4) : alen gb_pG (59 + k) = 17 := by
  match k, h with
  | 0, _ => rfl
  | 1, _ => rfl
  | 2, _ => rfl
  | 3, _ => rfl
  | k + 4, h => omega
theorem atr_64 {k : Nat} (h : k < 6) : atag gb_pG (65 + k) = 0 := by
  match k, h with
  | 0, _ => rfl
  | 1, _ => rfl
  | 2, _ => rfl
  | 3, _ => rfl
  | 4, _ => rfl
  | 5, _ => rfl
  | k + 6, h => omega
theorem alr_64 {k : Nat} (h : k < 6) : alen gb_pG (65 + k) = 8 := by
  match k, h with
  | 0, _ => rfl
  | 1, _ => rfl
  | 2, _ => rfl
  | 3, _ => rfl
  | 4, _ => rfl
  | 5, _ => rfl
  | k + 6, h => omega
theorem atr_71 {k : Nat} (h : k < 6) : atag gb_pG (72 + k) = 0 := by
  match k, h with
  | 0, _ => rfl
  | 1, _ => rfl
  | 2, _ => rfl
  | 3, _ => rfl
  | 4, _ => rfl
  | 5, _ => rfl
  | k + 6, h => omega
theorem alr_71 {k : Nat} (h : k < 6) : alen gb_pG (72 + k) = 4 := by
  match k, h with
  | 0, _ => rfl
  | 1, _ => rfl
  | 2, _ => rfl
  | 3, _ => rfl
  | 4, _ => rfl
  | 5, _ => rfl
  | k + 6, h => omega
theorem atr_116 {k : Nat} (h : k < 10) : atag gb_pG (117 + k) = 0 := by
  match k, h with
  | 0, _ => rfl
  | 1, _ => rfl
  | 2, _ => rfl
  | 3, _ => rfl
  | 4, _ => rfl
  | 5, _ => rfl
  | 6, _ => rfl
  | 7, _ => rfl
  | 8, _ => rfl
  | 9, _ => rfl
  | k + 10, h => omega
theorem alr_116 {k : Nat} (h : k < 10) : alen gb_pG (117 + k) = 3 := by
  match k, h with
  | 0, _ => rfl
  | 1, _ => rfl
  | 2, _ => rfl
  | 3, _ => rfl
  | 4, _ => rfl
  | 5, _ => rfl
  | 6, _ => rfl
  | 7, _ => rfl
  | 8, _ => rfl
  | 9, _ => rfl
  | k + 10, h => omega
theorem atr_127 {k : Nat} (h : k < 10) : atag gb_pG (128 + k) = 0 := by
  match k, h with
  | 0, _ => rfl
  | 1, _ => rfl
  | 2, _ => rfl
  | 3, _ => rfl
  | 4, _ => rfl
  | 5, _ => rfl
  | 6, _ => rfl
  | 7, _ => rfl
  | 8, _ => rfl
  | 9, _ => rfl
  | k + 10, h => omega
theorem alr_127 {k : Nat} (h : k < 10) : alen gb_pG (128 + k) = 3 := by
  match k, h with
  | 0, _ => rfl
  | 1, _ => rfl
  | 2, _ => rfl
  | 3, _ => rfl
  | 4, _ => rfl
  | 5, _ => rfl
  | 6, _ => rfl
  | 7, _ => rfl
  | 8, _ => rfl
  | 9, _ => rfl
  | k + 10, h => omega
theorem atr_138 {k : Nat} (h : k < 10) : atag gb_pG (139 + k) = 0 := by
  match k, h with
  | 0, _ => rfl
  | 1, _ => rfl
  | 2, _ => rfl
  | 3, _ => rfl
  | 4, _ => rfl
  | 5, _ => rfl
  | 6, _ => rfl
  | 7, _ => rfl
  | 8, _ => rfl
  | 9, _ => rfl
  | k + 10, h => omega
theorem alr_138 {k : Nat} (h : k < 10) : alen gb_pG (139 + k) = 3 := by
  match k, h with
  | 0, _ => rfl
  | 1, _ => rfl
  | 2, _ => rfl
  | 3, _ => rfl
  | 4, _ => rfl
  | 5, _ => rfl
  | 6, _ => rfl
  | 7, _ => rfl
  | 8, _ => rfl
  | 9, _ => rfl
  | k + 10, h => omega
theorem atr_154 {k : Nat} (h : k < 10) : atag gb_pG (155 + k) = 0 := by
  match k, h with
  | 0, _ => rfl
  | 1, _ => rfl
  | 2, _ => rfl
  | 3, _ => rfl
  | 4, _ => rfl
  | 5, _ => rfl
  | 6, _ => rfl
  | 7, _ => rfl
  | 8, _ => rfl
  | 9, _ => rfl
  | k + 10, h => omega
theorem alr_154 {k : Nat} (h : k < 10) : alen gb_pG (155 + k) = 3 := by
  match k, h with
  | 0, _ => rfl
  | 1, _ => rfl
  | 2, _ => rfl
  | 3, _ => rfl
  | 4, _ => rfl
  | 5, _ => rfl
  | 6, _ => rfl
  | 7, _ => rfl
  | 8, _ => rfl
  | 9, _ => rfl
  | k + 10, h => omega
theorem atr_165 {k : Nat} (h : k < 10) : atag gb_pG (166 + k) = 0 := by
  match k, h with
  | 0, _ => rfl
  | 1, _ => rfl
  | 2, _ => rfl
  | 3, _ => rfl
  | 4, _ => rfl
  | 5, _ => rfl
  | 6, _ => rfl
  | 7, _ => rfl
  | 8, _ => rfl
  | 9, _ => rfl
  | k + 10, h => omega
theorem alr_165 {k : Nat} (h : k < 10) : alen gb_pG (166 + k) = 3 := by
  match k, h with
  | 0, _ => rfl
  | 1, _ => rfl
  | 2, _ => rfl
  | 3, _ => rfl
  | 4, _ => rfl
  | 5, _ => rfl
  | 6, _ => rfl
  | 7, _ => rfl
  | 8, _ => rfl
  | 9, _ => rfl
  | k + 10, h => omega
theorem atr_176 {k : Nat} (h : k < 10) : atag gb_pG (177 + k) = 0 := by
  match k, h with
  | 0, _ => rfl
  | 1, _ => rfl
  | 2, _ => rfl
  | 3, _ => rfl
  | 4, _ => rfl
  | 5, _ => rfl
  | 6, _ => rfl
  | 7, _ => rfl
  | 8, _ => rfl
  | 9, _ => rfl
  | k + 10, h => omega
theorem alr_176 {k : Nat} (h : k < 10) : alen gb_pG (177 + k) = 3 := by
  match k, h with
  | 0, _ => rfl
  | 1, _ => rfl
  | 2, _ => rfl
  | 3, _ => rfl
  | 4, _ => rfl
  | 5, _ => rfl
  | 6, _ => rfl
  | 7, _ => rfl
  | 8, _ => rfl
  | 9, _ => rfl
  | k + 10, h => omega
/-- the state: ints, longs, the two swaps, the script -/
def gS (I : Nat → Nat → Int32) (J : Nat → Nat → Int64) (q : Bool × Bool) (X : Nat × (Nat → Int32)) : gb_Sg := (I, J, gb_Rw q, X)
def up (I : Nat → Nat → Int32) (a k : Nat) (v : Int32) : Nat → Nat → Int32 := fun x => if x = a then upd (I a) k v else I x
def upJ (I : Nat → Nat → Int64) (a k : Nat) (v : Int64) : Nat → Nat → Int64 := fun x => if x = a then vp_updL (I a) k v else I x
theorem up_at (I : Nat → Nat → Int32) (a k : Nat) (v : Int32) (x : Nat) : up I a k v x = if x = a then upd (I a) k v else I x := rfl
theorem upJ_at (I : Nat → Nat → Int64) (a k : Nat) (v : Int64) (x : Nat) : upJ I a k v x = if x = a then vp_updL (I a) k v else I x := rfl
theorem upd_at (f : Nat → Int32) (k : Nat) (v : Int32) (j : Nat) : upd f k v j = if j = k then v else f j := rfl
theorem updL_at (f : Nat → Int64) (k : Nat) (v : Int64) (j : Nat) : vp_updL f k v j = if j = k then v else f j := rfl
theorem gI_gS (I : Nat → Nat → Int32) (J : Nat → Nat → Int64) (q : Bool × Bool) (X : Nat × (Nat → Int32)) (a k : Nat) : gI (gS I J q X) a k = I a k := rfl
theorem gL_gS (I : Nat → Nat → Int32) (J : Nat → Nat → Int64) (q : Bool × Bool) (X : Nat × (Nat → Int32)) (a k : Nat) : gL (gS I J q X) a k = J a k := rfl
theorem gR_gS (I : Nat → Nat → Int32) (J : Nat → Nat → Int64) (q : Bool × Bool) (X : Nat × (Nat → Int32)) (a k : Nat) : gR (gS I J q X) a k = gb_Rw q a k := rfl
theorem sI_gS (I : Nat → Nat → Int32) (J : Nat → Nat → Int64) (q : Bool × Bool) (X : Nat × (Nat → Int32)) (a k : Nat) (v : Int32) : sI (gS I J q X) a k v = gS (up I a k v) J q X := by
  unfold sI gS up upd
  congr 1
  funext x y
  by_cases h : x = a
  · subst h
    by_cases h2 : y = k
    · simp [h2]
    · simp [h2]
  · simp [h]
theorem sL_gS (I : Nat → Nat → Int32) (J : Nat → Nat → Int64) (q : Bool × Bool) (X : Nat × (Nat → Int32)) (a k : Nat) (v : Int64) : sL (gS I J q X) a k v = gS I (upJ J a k v) q X := by
  unfold sL gS upJ vp_updL
  congr 2
  funext x y
  by_cases h : x = a
  · subst h
    by_cases h2 : y = k
    · simp [h2]
    · simp [h2]
  · simp [h]
theorem oob_nI {k n : Nat} (h : k < n) (hn : n ≤ 2147483648) : oob (nI k) n = false := by
  have := nI_clamp (n := k) (by omega)
  have h2 := nI_pos (n := k) (by omega)
  simp [oob, this, h2]
  omega
theorem oob_lit {k n : Nat} (h : k < n) (hn : n ≤ 2147483648) : oob (OfNat.ofNat k) n = false := oob_nI h hn
theorem ix_nI {k : Nat} (h : k < 2147483648) : ix (nI k) = k := nI_clamp h
theorem ix_lit {k : Nat} (h : k < 2147483648) : ix (OfNat.ofNat k) = k := nI_clamp h
theorem psh_int (x : Int32) (st : List Value) : psh (.int x) st = .int x :: st := rfl
theorem psh_long (x : Int64) (st : List Value) : psh (.long x) st = .long x :: st := rfl
theorem psh_null (st : List Value) : psh .null st = st := rfl
theorem kil_int (x : Int32) : kil (.int x) = .int x := rfl
theorem kil_ref (x : Nat) : kil (.ref x) = .ref x := rfl
theorem kil_null : kil .null = .null := rfl
theorem kil_long (x : Int64) : kil (.long x) = .null := rfl
theorem kil_rA (x : Nat) : kil (.retAddr x) = .retAddr x := rfl
theorem x_iload_0 {m : Nat} {r : List Instr} {ls st : List Value} {p : gb_Pi} {g : gb_Sg} {x : Int32} : gb_ex m (.iload 0 :: r) (.int x :: ls) st p g = gb_ex m r (.int x :: ls) (.int x :: st) p g := gb_ex_nx rfl
theorem x_iload_1 {m : Nat} {r : List Instr} {ls st : List Value} {p : gb_Pi} {g : gb_Sg} {a0 : Value} {x : Int32} : gb_ex m (.iload 1 :: r) (a0 :: .int x :: ls) st p g = gb_ex m r (a0 :: .int x :: ls) (.int x :: st) p g := gb_ex_nx rfl
theorem x_iload_2 {m : Nat} {r : List Instr} {ls st : List Value} {p : gb_Pi} {g : gb_Sg} {a0 a1 : Value} {x : Int32} : gb_ex m (.iload 2 :: r) (a0 :: a1 :: .int x :: ls) st p g = gb_ex m r (a0 :: a1 :: .int x :: ls) (.int x :: st) p g := gb_ex_nx rfl
theorem x_iload_3 {m : Nat} {r : List Instr} {ls st : List Value} {p : gb_Pi} {g : gb_Sg} {a0 a1 a2 : Value} {x : Int32} : gb_ex m (.iload 3 :: r) (a0 :: a1 :: a2 :: .int x :: ls) st p g = gb_ex m r (a0 :: a1 :: a2 :: .int x :: ls) (.int x :: st) p g := gb_ex_nx rfl
theorem x_iload_4 {m : Nat} {r : List Instr} {ls st : List Value} {p : gb_Pi} {g : gb_Sg} {a0 a1 a2 a3 : Value} {x : Int32} : gb_ex m (.iload 4 :: r) (a0 :: a1 :: a2 :: a3 :: .int x :: ls) st p g = gb_ex m r (a0 :: a1 :: a2 :: a3 :: .int x :: ls) (.int x :: st) p g := gb_ex_nx rfl
theorem x_iload_5 {m : Nat} {r : List Instr} {ls st : List Value} {p : gb_Pi} {g : gb_Sg} {a0 a1 a2 a3 a4 : Value} {x : Int32} : gb_ex m (.iload 5 :: r) (a0 :: a1 :: a2 :: a3 :: a4 :: .int x :: ls) st p g = gb_ex m r (a0 :: a1 :: a2 :: a3 :: a4 :: .int x :: ls) (.int x :: st) p g := gb_ex_nx rfl
theorem x_iload_6 {m : Nat} {r : List Instr} {ls st : List Value} {p : gb_Pi} {g : gb_Sg} {a0 a1 a2 a3 a4 a5 : Value} {x : Int32} : gb_ex m (.iload 6 :: r) (a0 :: a1 :: a2 :: a3 :: a4 :: a5 :: .int x :: ls) st p g = gb_ex m r (a0 :: a1 :: a2 :: a3 :: a4 :: a5 :: .int x :: ls) (.int x :: st) p g := gb_ex_nx rfl
theorem x_iload_7 {m : Nat} {r : List Instr} {ls st : List Value} {p : gb_Pi} {g : gb_Sg} {a0 a1 a2 a3 a4 a5 a6 : Value} {x : Int32} : gb_ex m (.iload 7 :: r) (a0 :: a1 :: a2 :: a3 :: a4 :: a5 :: a6 :: .int x :: ls) st p g = gb_ex m r (a0 :: a1 :: a2 :: a3 :: a4 :: a5 :: a6 :: .int x :: ls) (.int x :: st) p g := gb_ex_nx rfl
theorem x_iload_8 {m : Nat} {r : List Instr} {ls st : List Value} {p : gb_Pi} {g : gb_Sg} {a0 a1 a2 a3 a4 a5 a6 a7 : Value} {x : Int32} : gb_ex m (.iload 8 :: r) (a0 :: a1 :: a2 :: a3 :: a4 :: a5 :: a6 :: a7 :: .int x :: ls) st p g = gb_ex m r (a0 :: a1 :: a2 :: a3 :: a4 :: a5 :: a6 :: a7 :: .int x :: ls) (.int x :: st) p g := gb_ex_nx rfl
theorem x_iload_9 {m : Nat} {r : List Instr} {ls st : List Value} {p : gb_Pi} {g : gb_Sg} {a0 a1 a2 a3 a4 a5 a6 a7 a8 : Value} {x : Int32} : gb_ex m (.iload 9 :: r) (a0 :: a1 :: a2 :: a3 :: a4 :: a5 :: a6 :: a7 :: a8 :: .int x :: ls) st p g = gb_ex m r (a0 :: a1 :: a2 :: a3 :: a4 :: a5 :: a6 :: a7 :: a8 :: .int x :: ls) (.int x :: st) p g := gb_ex_nx rfl
theorem x_iload_10 {m : Nat} {r : List Instr} {ls st : List Value} {p : gb_Pi} {g : gb_Sg} {a0 a1 a2 a3 a4 a5 a6 a7 a8 a9 : Value} {x : Int32} : gb_ex m (.iload 10 :: r) (a0 :: a1 :: a2 :: a3 :: a4 :: a5 :: a6 :: a7 :: a8 :: a9 :: .int x :: ls) st p g = gb_ex m r (a0 :: a1 :: a2 :: a3 :: a4 :: a5 :: a6 :: a7 :: a8 :: a9 :: .int x :: ls) (.int x :: st) p g := gb_ex_nx rfl
theorem x_iload_11 {m : Nat} {r : List Instr} {ls st : List Value} {p : gb_Pi} {g : gb_Sg} {a0 a1 a2 a3 a4 a5 a6 a7 a8 a9 a10 : Value} {x : Int32} : gb_ex m (.iload 11 :: r) (a0 :: a1 :: a2 :: a3 :: a4 :: a5 :: a6 :: a7 :: a8 :: a9 :: a10 :: .int x :: ls) st p g = gb_ex m r (a0 :: a1 :: a2 :: a3 :: a4 :: a5 :: a6 :: a7 :: a8 :: a9 :: a10 :: .int x :: ls) (.int x :: st) p g := gb_ex_nx rfl
theorem x_iload_12 {m : Nat} {r : List Instr} {ls st : List Value} {p : gb_Pi} {g : gb_Sg} {a0 a1 a2 a3 a4 a5 a6 a7 a8 a9 a10 a11 : Value} {x : Int32} : gb_ex m (.iload 12 :: r) (a0 :: a1 :: a2 :: a3 :: a4 :: a5 :: a6 :: a7 :: a8 :: a9 :: a10 :: a11 :: .int x :: ls) st p g = gb_ex m r (a0 :: a1 :: a2 :: a3 :: a4 :: a5 :: a6 :: a7 :: a8 :: a9 :: a10 :: a11 :: .int x :: ls) (.int x :: st) p g := gb_ex_nx rfl
theorem x_iload_13 {m : Nat} {r : List Instr} {ls st : List Value} {p : gb_Pi} {g : gb_Sg} {a0 a1 a2 a3 a4 a5 a6 a7 a8 a9 a10 a11 a12 : Value} {x : Int32} : gb_ex m (.iload 13 :: r) (a0 :: a1 :: a2 :: a3 :: a4 :: a5 :: a6 :: a7 :: a8 :: a9 :: a10 :: a11 :: a12 :: .int x :: ls) st p g = gb_ex m r (a0 :: a1 :: a2 :: a3 :: a4 :: a5 :: a6 :: a7 :: a8 :: a9 :: a10 :: a11 :: a12 :: .int x :: ls) (.int x :: st) p g := gb_ex_nx rfl
theorem x_iload_14 {m : Nat} {r : List Instr} {ls st : List Value} {p : gb_Pi} {g : gb_Sg} {a0 a1 a2 a3 a4 a5 a6 a7 a8 a9 a10 a11 a12 a13 : Value} {x : Int32} : gb_ex m (.iload 14 :: r) (a0 :: a1 :: a2 :: a3 :: a4 :: a5 :: a6 :: a7 :: a8 :: a9 :: a10 :: a11 :: a12 :: a13 :: .int x :: ls) st p g = gb_ex m r (a0 :: a1 :: a2 :: a3 :: a4 :: a5 :: a6 :: a7 :: a8 :: a9 :: a10 :: a11 :: a12 :: a13 :: .int x :: ls) (.int x :: st) p g := gb_ex_nx rfl
theorem x_lload_0 {m : Nat} {r : List Instr} {ls st : List Value} {p : gb_Pi} {g : gb_Sg} {x : Int64} : gb_ex m (.lload 0 :: r) (.long x :: ls) st p g = gb_ex m r (.long x :: ls) (.long x :: st) p g := gb_ex_nx rfl
theorem x_lload_1 {m : Nat} {r : List Instr} {ls st : List Value} {p : gb_Pi} {g : gb_Sg} {a0 : Value} {x : Int64} : gb_ex m (.lload 1 :: r) (a0 :: .long x :: ls) st p g = gb_ex m r (a0 :: .long x :: ls) (.long x :: st) p g := gb_ex_nx rfl
theorem x_lload_2 {m : Nat} {r : List Instr} {ls st : List Value} {p : gb_Pi} {g : gb_Sg} {a0 a1 : Value} {x : Int64} : gb_ex m (.lload 2 :: r) (a0 :: a1 :: .long x :: ls) st p g = gb_ex m r (a0 :: a1 :: .long x :: ls) (.long x :: st) p g := gb_ex_nx rfl
theorem x_lload_3 {m : Nat} {r : List Instr} {ls st : List Value} {p : gb_Pi} {g : gb_Sg} {a0 a1 a2 : Value} {x : Int64} : gb_ex m (.lload 3 :: r) (a0 :: a1 :: a2 :: .long x :: ls) st p g = gb_ex m r (a0 :: a1 :: a2 :: .long x :: ls) (.long x :: st) p g := gb_ex_nx rfl
theorem x_lload_4 {m : Nat} {r : List Instr} {ls st : List Value} {p : gb_Pi} {g : gb_Sg} {a0 a1 a2 a3 : Value} {x : Int64} : gb_ex m (.lload 4 :: r) (a0 :: a1 :: a2 :: a3 :: .long x :: ls) st p g = gb_ex m r (a0 :: a1 :: a2 :: a3 :: .long x :: ls) (.long x :: st) p g := gb_ex_nx rfl
theorem x_lload_5 {m : Nat} {r : List Instr} {ls st : List Value} {p : gb_Pi} {g : gb_Sg} {a0 a1 a2 a3 a4 : Value} {x : Int64} : gb_ex m (.lload 5 :: r) (a0 :: a1 :: a2 :: a3 :: a4 :: .long x :: ls) st p g = gb_ex m r (a0 :: a1 :: a2 :: a3 :: a4 :: .long x :: ls) (.long x :: st) p g := gb_ex_nx rfl
theorem x_lload_6 {m : Nat} {r : List Instr} {ls st : List Value} {p : gb_Pi} {g : gb_Sg} {a0 a1 a2 a3 a4 a5 : Value} {x : Int64} : gb_ex m (.lload 6 :: r) (a0 :: a1 :: a2 :: a3 :: a4 :: a5 :: .long x :: ls) st p g = gb_ex m r (a0 :: a1 :: a2 :: a3 :: a4 :: a5 :: .long x :: ls) (.long x :: st) p g := gb_ex_nx rfl
theorem x_lload_7 {m : Nat} {r : List Instr} {ls st : List Value} {p : gb_Pi} {g : gb_Sg} {a0 a1 a2 a3 a4 a5 a6 : Value} {x : Int64} : gb_ex m (.lload 7 :: r) (a0 :: a1 :: a2 :: a3 :: a4 :: a5 :: a6 :: .long x :: ls) st p g = gb_ex m r (a0 :: a1 :: a2 :: a3 :: a4 :: a5 :: a6 :: .long x :: ls) (.long x :: st) p g := gb_ex_nx rfl
theorem x_lload_8 {m : Nat} {r : List Instr} {ls st : List Value} {p : gb_Pi} {g : gb_Sg} {a0 a1 a2 a3 a4 a5 a6 a7 : Value} {x : Int64} : gb_ex m (.lload 8 :: r) (a0 :: a1 :: a2 :: a3 :: a4 :: a5 :: a6 :: a7 :: .long x :: ls) st p g = gb_ex m r (a0 :: a1 :: a2 :: a3 :: a4 :: a5 :: a6 :: a7 :: .long x :: ls) (.long x :: st) p g := gb_ex_nx rfl
theorem x_lload_9 {m : Nat} {r : List Instr} {ls st : List Value} {p : gb_Pi} {g : gb_Sg} {a0 a1 a2 a3 a4 a5 a6 a7 a8 : Value} {x : Int64} : gb_ex m (.lload 9 :: r) (a0 :: a1 :: a2 :: a3 :: a4 :: a5 :: a6 :: a7 :: a8 :: .long x :: ls) st p g = gb_ex m r (a0 :: a1 :: a2 :: a3 :: a4 :: a5 :: a6 :: a7 :: a8 :: .long x :: ls) (.long x :: st) p g := gb_ex_nx rfl
theorem x_lload_12 {m : Nat} {r : List Instr} {ls st : List Value} {p : gb_Pi} {g : gb_Sg} {a0 a1 a2 a3 a4 a5 a6 a7 a8 a9 a10 a11 : Value} {x : Int64} : gb_ex m (.lload 12 :: r) (a0 :: a1 :: a2 :: a3 :: a4 :: a5 :: a6 :: a7 :: a8 :: a9 :: a10 :: a11 :: .long x :: ls) st p g = gb_ex m r (a0 :: a1 :: a2 :: a3 :: a4 :: a5 :: a6 :: a7 :: a8 :: a9 :: a10 :: a11 :: .long x :: ls) (.long x :: st) p g := gb_ex_nx rfl
theorem x_aload_0 {m : Nat} {r : List Instr} {ls st : List Value} {p : gb_Pi} {g : gb_Sg} {x : Nat} : gb_ex m (.aload 0 :: r) (.ref x :: ls) st p g = gb_ex m r (.ref x :: ls) (.ref x :: st) p g := gb_ex_nx rfl
theorem x_aload_1 {m : Nat} {r : List Instr} {ls st : List Value} {p : gb_Pi} {g : gb_Sg} {a0 : Value} {x : Nat} : gb_ex m (.aload 1 :: r) (a0 :: .ref x :: ls) st p g = gb_ex m r (a0 :: .ref x :: ls) (.ref x :: st) p g := gb_ex_nx rfl
theorem x_aload_2 {m : Nat} {r : List Instr} {ls st : List Value} {p : gb_Pi} {g : gb_Sg} {a0 a1 : Value} {x : Nat} : gb_ex m (.aload 2 :: r) (a0 :: a1 :: .ref x :: ls) st p g = gb_ex m r (a0 :: a1 :: .ref x :: ls) (.ref x :: st) p g := gb_ex_nx rfl
theorem x_aload_5 {m : Nat} {r : List Instr} {ls st : List Value} {p : gb_Pi} {g : gb_Sg} {a0 a1 a2 a3 a4 : Value} {x : Nat} : gb_ex m (.aload 5 :: r) (a0 :: a1 :: a2 :: a3 :: a4 :: .ref x :: ls) st p g = gb_ex m r (a0 :: a1 :: a2 :: a3 :: a4 :: .ref x :: ls) (.ref x :: st) p g := gb_ex_nx rfl
theorem x_aload_6 {m : Nat} {r : List Instr} {ls st : List Value} {p : gb_Pi} {g : gb_Sg} {a0 a1 a2 a3 a4 a5 : Value} {x : Nat} : gb_ex m (.aload 6 :: r) (a0 :: a1 :: a2 :: a3 :: a4 :: a5 :: .ref x :: ls) st p g = gb_ex m r (a0 :: a1 :: a2 :: a3 :: a4 :: a5 :: .ref x :: ls) (.ref x :: st) p g := gb_ex_nx rfl
theorem x_aload_s {m : Nat} {r : List Instr} {ls st : List Value} {p : gb_Pi} {g : gb_Sg} {x : Nat} : gb_ex m (.aload 0 :: r) (.retAddr x :: ls) st p g = gb_ex m r (.retAddr x :: ls) (.retAddr x :: st) p g := gb_ex_nx rfl
theorem x_istore_0 {m : Nat} {r : List Instr} {ls st : List Value} {p : gb_Pi} {g : gb_Sg} {a0 : Value} {x : Int32} : gb_ex m (.istore 0 :: r) (a0 :: ls) (.int x :: st) p g = gb_ex m r (.int x :: ls) st p g := gb_ex_nx (by simp [gb_stp, st1])
theorem x_istore_1 {m : Nat} {r : List Instr} {ls st : List Value} {p : gb_Pi} {g : gb_Sg} {a0 a1 : Value} {x : Int32} : gb_ex m (.istore 1 :: r) (a0 :: a1 :: ls) (.int x :: st) p g = gb_ex m r (kil a0 :: .int x :: ls) st p g := gb_ex_nx (by simp [gb_stp, st1])
theorem x_istore_2 {m : Nat} {r : List Instr} {ls st : List Value} {p : gb_Pi} {g : gb_Sg} {a0 a1 a2 : Value} {x : Int32} : gb_ex m (.istore 2 :: r) (a0 :: a1 :: a2 :: ls) (.int x :: st) p g = gb_ex m r (a0 :: kil a1 :: .int x :: ls) st p g := gb_ex_nx (by simp [gb_stp, st1])
theorem x_istore_3 {m : Nat} {r : List Instr} {ls st : List Value} {p : gb_Pi} {g : gb_Sg} {a0 a1 a2 a3 : Value} {x : Int32} : gb_ex m (.istore 3 :: r) (a0 :: a1 :: a2 :: a3 :: ls) (.int x :: st) p g = gb_ex m r (a0 :: a1 :: kil a2 :: .int x :: ls) st p g := gb_ex_nx (by simp [gb_stp, st1])
theorem x_istore_4 {m : Nat} {r : List Instr} {ls st : List Value} {p : gb_Pi} {g : gb_Sg} {a0 a1 a2 a3 a4 : Value} {x : Int32} : gb_ex m (.istore 4 :: r) (a0 :: a1 :: a2 :: a3 :: a4 :: ls) (.int x :: st) p g = gb_ex m r (a0 :: a1 :: a2 :: kil a3 :: .int x :: ls) st p g := gb_ex_nx (by simp [gb_stp, st1])
theorem x_istore_5 {m : Nat} {r : List Instr} {ls st : List Value} {p : gb_Pi} {g : gb_Sg} {a0 a1 a2 a3 a4 a5 : Value} {x : Int32} : gb_ex m (.istore 5 :: r) (a0 :: a1 :: a2 :: a3 :: a4 :: a5 :: ls) (.int x :: st) p g = gb_ex m r (a0 :: a1 :: a2 :: a3 :: kil a4 :: .int x :: ls) st p g := gb_ex_nx (by simp [gb_stp, st1])
theorem x_istore_6 {m : Nat} {r : List Instr} {ls st : List Value} {p : gb_Pi} {g : gb_Sg} {a0 a1 a2 a3 a4 a5 a6 : Value} {x : Int32} : gb_ex m (.istore 6 :: r) (a0 :: a1 :: a2 :: a3 :: a4 :: a5 :: a6 :: ls) (.int x :: st) p g = gb_ex m r (a0 :: a1 :: a2 :: a3 :: a4 :: kil a5 :: .int x :: ls) st p g := gb_ex_nx (by simp [gb_stp, st1])
theorem x_istore_7 {m : Nat} {r : List Instr} {ls st : List Value} {p : gb_Pi} {g : gb_Sg} {a0 a1 a2 a3 a4 a5 a6 a7 : Value} {x : Int32} : gb_ex m (.istore 7 :: r) (a0 :: a1 :: a2 :: a3 :: a4 :: a5 :: a6 :: a7 :: ls) (.int x :: st) p g = gb_ex m r (a0 :: a1 :: a2 :: a3 :: a4 :: a5 :: kil a6 :: .int x :: ls) st p g := gb_ex_nx (by simp [gb_stp, st1])
theorem x_istore_8 {m : Nat} {r : List Instr} {ls st : List Value} {p : gb_Pi} {g : gb_Sg} {a0 a1 a2 a3 a4 a5 a6 a7 a8 : Value} {x : Int32} : gb_ex m (.istore 8 :: r) (a0 :: a1 :: a2 :: a3 :: a4 :: a5 :: a6 :: a7 :: a8 :: ls) (.int x :: st) p g = gb_ex m r (a0 :: a1 :: a2 :: a3 :: a4 :: a5 :: a6 :: kil a7 :: .int x :: ls) st p g := gb_ex_nx (by simp [gb_stp, st1])
theorem x_istore_9 {m : Nat} {r : List Instr} {ls st : List Value} {p : gb_Pi} {g : gb_Sg} {a0 a1 a2 a3 a4 a5 a6 a7 a8 a9 : Value} {x : Int32} : gb_ex m (.istore 9 :: r) (a0 :: a1 :: a2 :: a3 :: a4 :: a5 :: a6 :: a7 :: a8 :: a9 :: ls) (.int x :: st) p g = gb_ex m r (a0 :: a1 :: a2 :: a3 :: a4 :: a5 :: a6 :: a7 :: kil a8 :: .int x :: ls) st p g := gb_ex_nx (by simp [gb_stp, st1])
theorem x_istore_10 {m : Nat} {r : List Instr} {ls st : List Value} {p : gb_Pi} {g : gb_Sg} {a0 a1 a2 a3 a4 a5 a6 a7 a8 a9 a10 : Value} {x : Int32} : gb_ex m (.istore 10 :: r) (a0 :: a1 :: a2 :: a3 :: a4 :: a5 :: a6 :: a7 :: a8 :: a9 :: a10 :: ls) (.int x :: st) p g = gb_ex m r (a0 :: a1 :: a2 :: a3 :: a4 :: a5 :: a6 :: a7 :: a8 :: kil a9 :: .int x :: ls) st p g := gb_ex_nx (by simp [gb_stp, st1])
theorem x_istore_11 {m : Nat} {r : List Instr} {ls st : List Value} {p : gb_Pi} {g : gb_Sg} {a0 a1 a2 a3 a4 a5 a6 a7 a8 a9 a10 a11 : Value} {x : Int32} : gb_ex m (.istore 11 :: r) (a0 :: a1 :: a2 :: a3 :: a4 :: a5 :: a6 :: a7 :: a8 :: a9 :: a10 :: a11 :: ls) (.int x :: st) p g = gb_ex m r (a0 :: a1 :: a2 :: a3 :: a4 :: a5 :: a6 :: a7 :: a8 :: a9 :: kil a10 :: .int x :: ls) st p g := gb_ex_nx (by simp [gb_stp, st1])
theorem x_istore_12 {m : Nat} {r : List Instr} {ls st : List Value} {p : gb_Pi} {g : gb_Sg} {a0 a1 a2 a3 a4 a5 a6 a7 a8 a9 a10 a11 a12 : Value} {x : Int32} : gb_ex m (.istore 12 :: r) (a0 :: a1 :: a2 :: a3 :: a4 :: a5 :: a6 :: a7 :: a8 :: a9 :: a10 :: a11 :: a12 :: ls) (.int x :: st) p g = gb_ex m r (a0 :: a1 :: a2 :: a3 :: a4 :: a5 :: a6 :: a7 :: a8 :: a9 :: a10 :: kil a11 :: .int x :: ls) st p g := gb_ex_nx (by simp [gb_stp, st1])
theorem x_istore_13 {m : Nat} {r : List Instr} {ls st : List Value} {p : gb_Pi} {g : gb_Sg} {a0 a1 a2 a3 a4 a5 a6 a7 a8 a9 a10 a11 a12 a13 : Value} {x : Int32} : gb_ex m (.istore 13 :: r) (a0 :: a1 :: a2 :: a3 :: a4 :: a5 :: a6 :: a7 :: a8 :: a9 :: a10 :: a11 :: a12 :: a13 :: ls) (.int x :: st) p g = gb_ex m r (a0 :: a1 :: a2 :: a3 :: a4 :: a5 :: a6 :: a7 :: a8 :: a9 :: a10 :: a11 :: kil a12 :: .int x :: ls) st p g := gb_ex_nx (by simp [gb_stp, st1])
theorem x_istore_14 {m : Nat} {r : List Instr} {ls st : List Value} {p : gb_Pi} {g : gb_Sg} {a0 a1 a2 a3 a4 a5 a6 a7 a8 a9 a10 a11 a12 a13 a14 : Value} {x : Int32} : gb_ex m (.istore 14 :: r) (a0 :: a1 :: a2 :: a3 :: a4 :: a5 :: a6 :: a7 :: a8 :: a9 :: a10 :: a11 :: a12 :: a13 :: a14 :: ls) (.int x :: st) p g = gb_ex m r (a0 :: a1 :: a2 :: a3 :: a4 :: a5 :: a6 :: a7 :: a8 :: a9 :: a10 :: a11 :: a12 :: kil a13 :: .int x :: ls) st p g := gb_ex_nx (by simp [gb_stp, st1])
theorem x_astore_1 {m : Nat} {r : List Instr} {ls st : List Value} {p : gb_Pi} {g : gb_Sg} {a0 a1 : Value} {x : Nat} : gb_ex m (.astore 1 :: r) (a0 :: a1 :: ls) (.ref x :: st) p g = gb_ex m r (kil a0 :: .ref x :: ls) st p g := gb_ex_nx (by simp [gb_stp, st1])
theorem x_astore_2 {m : Nat} {r : List Instr} {ls st : List Value} {p : gb_Pi} {g : gb_Sg} {a0 a1 a2 : Value} {x : Nat} : gb_ex m (.astore 2 :: r) (a0 :: a1 :: a2 :: ls) (.ref x :: st) p g = gb_ex m r (a0 :: kil a1 :: .ref x :: ls) st p g := gb_ex_nx (by simp [gb_stp, st1])
theorem x_astore_5 {m : Nat} {r : List Instr} {ls st : List Value} {p : gb_Pi} {g : gb_Sg} {a0 a1 a2 a3 a4 a5 : Value} {x : Nat} : gb_ex m (.astore 5 :: r) (a0 :: a1 :: a2 :: a3 :: a4 :: a5 :: ls) (.ref x :: st) p g = gb_ex m r (a0 :: a1 :: a2 :: a3 :: kil a4 :: .ref x :: ls) st p g := gb_ex_nx (by simp [gb_stp, st1])
theorem x_astore_6 {m : Nat} {r : List Instr} {ls st : List Value} {p : gb_Pi} {g : gb_Sg} {a0 a1 a2 a3 a4 a5 a6 : Value} {x : Nat} : gb_ex m (.astore 6 :: r) (a0 :: a1 :: a2 :: a3 :: a4 :: a5 :: a6 :: ls) (.ref x :: st) p g = gb_ex m r (a0 :: a1 :: a2 :: a3 :: a4 :: kil a5 :: .ref x :: ls) st p g := gb_ex_nx (by simp [gb_stp, st1])
theorem x_lstore_3 {m : Nat} {r : List Instr} {ls st : List Value} {p : gb_Pi} {g : gb_Sg} {a0 a1 a2 a3 a4 : Value} {x : Int64} : gb_ex m (.lstore 3 :: r) (a0 :: a1 :: a2 :: a3 :: a4 :: ls) (.long x :: st) p g = gb_ex m r (a0 :: a1 :: kil a2 :: .long x :: .null :: ls) st p g := gb_ex_nx (by simp [gb_stp, st2])
theorem x_lstore_4 {m : Nat} {r : List Instr} {ls st : List Value} {p : gb_Pi} {g : gb_Sg} {a0 a1 a2 a3 a4 a5 : Value} {x : Int64} : gb_ex m (.lstore 4 :: r) (a0 :: a1 :: a2 :: a3 :: a4 :: a5 :: ls) (.long x :: st) p g = gb_ex m r (a0 :: a1 :: a2 :: kil a3 :: .long x :: .null :: ls) st p g := gb_ex_nx (by simp [gb_stp, st2])
theorem x_lstore_5 {m : Nat} {r : List Instr} {ls st : List Value} {p : gb_Pi} {g : gb_Sg} {a0 a1 a2 a3 a4 a5 a6 : Value} {x : Int64} : gb_ex m (.lstore 5 :: r) (a0 :: a1 :: a2 :: a3 :: a4 :: a5 :: a6 :: ls) (.long x :: st) p g = gb_ex m r (a0 :: a1 :: a2 :: a3 :: kil a4 :: .long x :: .null :: ls) st p g := gb_ex_nx (by simp [gb_stp, st2])
theorem x_lstore_6 {m : Nat} {r : List Instr} {ls st : List Value} {p : gb_Pi} {g : gb_Sg} {a0 a1 a2 a3 a4 a5 a6 a7 : Value} {x : Int64} : gb_ex m (.lstore 6 :: r) (a0 :: a1 :: a2 :: a3 :: a4 :: a5 :: a6 :: a7 :: ls) (.long x :: st) p g = gb_ex m r (a0 :: a1 :: a2 :: a3 :: a4 :: kil a5 :: .long x :: .null :: ls) st p g := gb_ex_nx (by simp [gb_stp, st2])
theorem x_lstore_7 {m : Nat} {r : List Instr} {ls st : List Value} {p : gb_Pi} {g : gb_Sg} {a0 a1 a2 a3 a4 a5 a6 a7 a8 : Value} {x : Int64} : gb_ex m (.lstore 7 :: r) (a0 :: a1 :: a2 :: a3 :: a4 :: a5 :: a6 :: a7 :: a8 :: ls) (.long x :: st) p g = gb_ex m r (a0 :: a1 :: a2 :: a3 :: a4 :: a5 :: kil a6 :: .long x :: .null :: ls) st p g := gb_ex_nx (by simp [gb_stp, st2])
theorem x_lstore_8 {m : Nat} {r : List Instr} {ls st : List Value} {p : gb_Pi} {g : gb_Sg} {a0 a1 a2 a3 a4 a5 a6 a7 a8 a9 : Value} {x : Int64} : gb_ex m (.lstore 8 :: r) (a0 :: a1 :: a2 :: a3 :: a4 :: a5 :: a6 :: a7 :: a8 :: a9 :: ls) (.long x :: st) p g = gb_ex m r (a0 :: a1 :: a2 :: a3 :: a4 :: a5 :: a6 :: kil a7 :: .long x :: .null :: ls) st p g := gb_ex_nx (by simp [gb_stp, st2])
theorem x_lstore_9 {m : Nat} {r : List Instr} {ls st : List Value} {p : gb_Pi} {g : gb_Sg} {a0 a1 a2 a3 a4 a5 a6 a7 a8 a9 a10 : Value} {x : Int64} : gb_ex m (.lstore 9 :: r) (a0 :: a1 :: a2 :: a3 :: a4 :: a5 :: a6 :: a7 :: a8 :: a9 :: a10 :: ls) (.long x :: st) p g = gb_ex m r (a0 :: a1 :: a2 :: a3 :: a4 :: a5 :: a6 :: a7 :: kil a8 :: .long x :: .null :: ls) st p g := gb_ex_nx (by simp [gb_stp, st2])
theorem x_lstore_12 {m : Nat} {r : List Instr} {ls st : List Value} {p : gb_Pi} {g : gb_Sg} {a0 a1 a2 a3 a4 a5 a6 a7 a8 a9 a10 a11 a12 a13 : Value} {x : Int64} : gb_ex m (.lstore 12 :: r) (a0 :: a1 :: a2 :: a3 :: a4 :: a5 :: a6 :: a7 :: a8 :: a9 :: a10 :: a11 :: a12 :: a13 :: ls) (.long x :: st) p g = gb_ex m r (a0 :: a1 :: a2 :: a3 :: a4 :: a5 :: a6 :: a7 :: a8 :: a9 :: a10 :: kil a11 :: .long x :: .null :: ls) st p g := gb_ex_nx (by simp [gb_stp, st2])
theorem x_iinc_1_1 {m : Nat} {r : List Instr} {ls st : List Value} {p : gb_Pi} {g : gb_Sg} {a0 : Value} {x : Int32} : gb_ex m (.iinc 1 1 :: r) (a0 :: .int x :: ls) st p g = gb_ex m r (kil a0 :: .int (x + 1) :: ls) st p g := gb_ex_nx (by
  have h : Int32.ofInt 1 = 1 := by decide
  simp only [gb_stp, st1, ← h]
  rfl)
theorem x_iinc_10_1 {m : Nat} {r : List Instr} {ls st : List Value} {p : gb_Pi} {g : gb_Sg} {a0 a1 a2 a3 a4 a5 a6 a7 a8 a9 : Value} {x : Int32} : gb_ex m (.iinc 10 1 :: r) (a0 :: a1 :: a2 :: a3 :: a4 :: a5 :: a6 :: a7 :: a8 :: a9 :: .int x :: ls) st p g = gb_ex m r (a0 :: a1 :: a2 :: a3 :: a4 :: a5 :: a6 :: a7 :: a8 :: kil a9 :: .int (x + 1) :: ls) st p g := gb_ex_nx (by
  have h : Int32.ofInt 1 = 1 := by decide
  simp only [gb_stp, st1, ← h]
  rfl)
theorem x_iinc_11_1 {m : Nat} {r : List Instr} {ls st : List Value} {p : gb_Pi} {g : gb_Sg} {a0 a1 a2 a3 a4 a5 a6 a7 a8 a9 a10 : Value} {x : Int32} : gb_ex m (.iinc 11 1 :: r) (a0 :: a1 :: a2 :: a3 :: a4 :: a5 :: a6 :: a7 :: a8 :: a9 :: a10 :: .int x :: ls) st p g = gb_ex m r (a0 :: a1 :: a2 :: a3 :: a4 :: a5 :: a6 :: a7 :: a8 :: a9 :: kil a10 :: .int (x + 1) :: ls) st p g := gb_ex_nx (by
  have h : Int32.ofInt 1 = 1 := by decide
  simp only [gb_stp, st1, ← h]
  rfl)
theorem x_iinc_13_1 {m : Nat} {r : List Instr} {ls st : List Value} {p : gb_Pi} {g : gb_Sg} {a0 a1 a2 a3 a4 a5 a6 a7 a8 a9 a10 a11 a12 : Value} {x : Int32} : gb_ex m (.iinc 13 1 :: r) (a0 :: a1 :: a2 :: a3 :: a4 :: a5 :: a6 :: a7 :: a8 :: a9 :: a10 :: a11 :: a12 :: .int x :: ls) st p g = gb_ex m r (a0 :: a1 :: a2 :: a3 :: a4 :: a5 :: a6 :: a7 :: a8 :: a9 :: a10 :: a11 :: kil a12 :: .int (x + 1) :: ls) st p g := gb_ex_nx (by
  have h : Int32.ofInt 1 = 1 := by decide
  simp only [gb_stp, st1, ← h]
  rfl)
theorem x_iinc_2_m1 {m : Nat} {r : List Instr} {ls st : List Value} {p : gb_Pi} {g : gb_Sg} {a0 a1 : Value} {x : Int32} : gb_ex m (.iinc 2 (-1) :: r) (a0 :: a1 :: .int x :: ls) st p g = gb_ex m r (a0 :: kil a1 :: .int (x + (-1)) :: ls) st p g := gb_ex_nx (by
  have h : Int32.ofInt (-1) = (-1) := by decide
  simp only [gb_stp, st1, ← h]
  rfl)
theorem x_iinc_2_1 {m : Nat} {r : List Instr} {ls st : List Value} {p : gb_Pi} {g : gb_Sg} {a0 a1 : Value} {x : Int32} : gb_ex m (.iinc 2 1 :: r) (a0 :: a1 :: .int x :: ls) st p g = gb_ex m r (a0 :: kil a1 :: .int (x + 1) :: ls) st p g := gb_ex_nx (by
  have h : Int32.ofInt 1 = 1 := by decide
  simp only [gb_stp, st1, ← h]
  rfl)
theorem x_iinc_3_m1 {m : Nat} {r : List Instr} {ls st : List Value} {p : gb_Pi} {g : gb_Sg} {a0 a1 a2 : Value} {x : Int32} : gb_ex m (.iinc 3 (-1) :: r) (a0 :: a1 :: a2 :: .int x :: ls) st p g = gb_ex m r (a0 :: a1 :: kil a2 :: .int (x + (-1)) :: ls) st p g := gb_ex_nx (by
  have h : Int32.ofInt (-1) = (-1) := by decide
  simp only [gb_stp, st1, ← h]
  rfl)
theorem x_iinc_3_1 {m : Nat} {r : List Instr} {ls st : List Value} {p : gb_Pi} {g : gb_Sg} {a0 a1 a2 : Value} {x : Int32} : gb_ex m (.iinc 3 1 :: r) (a0 :: a1 :: a2 :: .int x :: ls) st p g = gb_ex m r (a0 :: a1 :: kil a2 :: .int (x + 1) :: ls) st p g := gb_ex_nx (by
  have h : Int32.ofInt 1 = 1 := by decide
  simp only [gb_stp, st1, ← h]
  rfl)
theorem x_iinc_3_6 {m : Nat} {r : List Instr} {ls st : List Value} {p : gb_Pi} {g : gb_Sg} {a0 a1 a2 : Value} {x : Int32} : gb_ex m (.iinc 3 6 :: r) (a0 :: a1 :: a2 :: .int x :: ls) st p g = gb_ex m r (a0 :: a1 :: kil a2 :: .int (x + 6) :: ls) st p g := gb_ex_nx (by
  have h : Int32.ofInt 6 = 6 := by decide
  simp only [gb_stp, st1, ← h]
  rfl)
theorem x_iinc_4_m1 {m : Nat} {r : List Instr} {ls st : List Value} {p : gb_Pi} {g : gb_Sg} {a0 a1 a2 a3 : Value} {x : Int32} : gb_ex m (.iinc 4 (-1) :: r) (a0 :: a1 :: a2 :: a3 :: .int x :: ls) st p g = gb_ex m r (a0 :: a1 :: a2 :: kil a3 :: .int (x + (-1)) :: ls) st p g := gb_ex_nx (by
  have h : Int32.ofInt (-1) = (-1) := by decide
  simp only [gb_stp, st1, ← h]
  rfl)
theorem x_iinc_4_1 {m : Nat} {r : List Instr} {ls st : List Value} {p : gb_Pi} {g : gb_Sg} {a0 a1 a2 a3 : Value} {x : Int32} : gb_ex m (.iinc 4 1 :: r) (a0 :: a1 :: a2 :: a3 :: .int x :: ls) st p g = gb_ex m r (a0 :: a1 :: a2 :: kil a3 :: .int (x + 1) :: ls) st p g := gb_ex_nx (by
  have h : Int32.ofInt 1 = 1 := by decide
  simp only [gb_stp, st1, ← h]
  rfl)
theorem x_iinc_5_m1 {m : Nat} {r : List Instr} {ls st : List Value} {p : gb_Pi} {g : gb_Sg} {a0 a1 a2 a3 a4 : Value} {x : Int32} : gb_ex m (.iinc 5 (-1) :: r) (a0 :: a1 :: a2 :: a3 :: a4 :: .int x :: ls) st p g = gb_ex m r (a0 :: a1 :: a2 :: a3 :: kil a4 :: .int (x + (-1)) :: ls) st p g := gb_ex_nx (by
  have h : Int32.ofInt (-1) = (-1) := by decide
  simp only [gb_stp, st1, ← h]
  rfl)
theorem x_iinc_5_1 {m : Nat} {r : List Instr} {ls st : List Value} {p : gb_Pi} {g : gb_Sg} {a0 a1 a2 a3 a4 : Value} {x : Int32} : gb_ex m (.iinc 5 1 :: r) (a0 :: a1 :: a2 :: a3 :: a4 :: .int x :: ls) st p g = gb_ex m r (a0 :: a1 :: a2 :: a3 :: kil a4 :: .int (x + 1) :: ls) st p g := gb_ex_nx (by
  have h : Int32.ofInt 1 = 1 := by decide
  simp only [gb_stp, st1, ← h]
  rfl)
theorem x_iinc_6_m1 {m : Nat} {r : List Instr} {ls st : List Value} {p : gb_Pi} {g : gb_Sg} {a0 a1 a2 a3 a4 a5 : Value} {x : Int32} : gb_ex m (.iinc 6 (-1) :: r) (a0 :: a1 :: a2 :: a3 :: a4 :: a5 :: .int x :: ls) st p g = gb_ex m r (a0 :: a1 :: a2 :: a3 :: a4 :: kil a5 :: .int (x + (-1)) :: ls) st p g := gb_ex_nx (by
  have h : Int32.ofInt (-1) = (-1) := by decide
  simp only [gb_stp, st1, ← h]
  rfl)
theorem x_iinc_6_1 {m : Nat} {r : List Instr} {ls st : List Value} {p : gb_Pi} {g : gb_Sg} {a0 a1 a2 a3 a4 a5 : Value} {x : Int32} : gb_ex m (.iinc 6 1 :: r) (a0 :: a1 :: a2 :: a3 :: a4 :: a5 :: .int x :: ls) st p g = gb_ex m r (a0 :: a1 :: a2 :: a3 :: a4 :: kil a5 :: .int (x + 1) :: ls) st p g := gb_ex_nx (by
  have h : Int32.ofInt 1 = 1 := by decide
  simp only [gb_stp, st1, ← h]
  rfl)
theorem x_iinc_7_1 {m : Nat} {r : List Instr} {ls st : List Value} {p : gb_Pi} {g : gb_Sg} {a0 a1 a2 a3 a4 a5 a6 : Value} {x : Int32} : gb_ex m (.iinc 7 1 :: r) (a0 :: a1 :: a2 :: a3 :: a4 :: a5 :: a6 :: .int x :: ls) st p g = gb_ex m r (a0 :: a1 :: a2 :: a3 :: a4 :: a5 :: kil a6 :: .int (x + 1) :: ls) st p g := gb_ex_nx (by
  have h : Int32.ofInt 1 = 1 := by decide
  simp only [gb_stp, st1, ← h]
  rfl)
theorem x_iinc_8_1 {m : Nat} {r : List Instr} {ls st : List Value} {p : gb_Pi} {g : gb_Sg} {a0 a1 a2 a3 a4 a5 a6 a7 : Value} {x : Int32} : gb_ex m (.iinc 8 1 :: r) (a0 :: a1 :: a2 :: a3 :: a4 :: a5 :: a6 :: a7 :: .int x :: ls) st p g = gb_ex m r (a0 :: a1 :: a2 :: a3 :: a4 :: a5 :: a6 :: kil a7 :: .int (x + 1) :: ls) st p g := gb_ex_nx (by
  have h : Int32.ofInt 1 = 1 := by decide
  simp only [gb_stp, st1, ← h]
  rfl)
theorem x_iinc_9_1 {m : Nat} {r : List Instr} {ls st : List Value} {p : gb_Pi} {g : gb_Sg} {a0 a1 a2 a3 a4 a5 a6 a7 a8 : Value} {x : Int32} : gb_ex m (.iinc 9 1 :: r) (a0 :: a1 :: a2 :: a3 :: a4 :: a5 :: a6 :: a7 :: a8 :: .int x :: ls) st p g = gb_ex m r (a0 :: a1 :: a2 :: a3 :: a4 :: a5 :: a6 :: a7 :: kil a8 :: .int (x + 1) :: ls) st p g := gb_ex_nx (by
  have h : Int32.ofInt 1 = 1 := by decide
  simp only [gb_stp, st1, ← h]
  rfl)
theorem x_c_m99 {m : Nat} {r : List Instr} {ls st : List Value} {p : gb_Pi} {g : gb_Sg} : gb_ex m (.sipush (-99) :: r) ls st p g = gb_ex m r ls (.int (-99) :: st) p g := gb_ex_nx (by
  have h : Int32.ofInt (-99) = (-99) := by decide
  rw [← h]
  rfl)
theorem x_c_m9 {m : Nat} {r : List Instr} {ls st : List Value} {p : gb_Pi} {g : gb_Sg} : gb_ex m (.sipush (-9) :: r) ls st p g = gb_ex m r ls (.int (-9) :: st) p g := gb_ex_nx (by
  have h : Int32.ofInt (-9) = (-9) := by decide
  rw [← h]
  rfl)
theorem x_c_m4 {m : Nat} {r : List Instr} {ls st : List Value} {p : gb_Pi} {g : gb_Sg} : gb_ex m (.sipush (-4) :: r) ls st p g = gb_ex m r ls (.int (-4) :: st) p g := gb_ex_nx (by
  have h : Int32.ofInt (-4) = (-4) := by decide
  rw [← h]
  rfl)
theorem x_c_m3 {m : Nat} {r : List Instr} {ls st : List Value} {p : gb_Pi} {g : gb_Sg} : gb_ex m (.sipush (-3) :: r) ls st p g = gb_ex m r ls (.int (-3) :: st) p g := gb_ex_nx (by
  have h : Int32.ofInt (-3) = (-3) := by decide
  rw [← h]
  rfl)
theorem x_c_m2 {m : Nat} {r : List Instr} {ls st : List Value} {p : gb_Pi} {g : gb_Sg} : gb_ex m (.sipush (-2) :: r) ls st p g = gb_ex m r ls (.int (-2) :: st) p g := gb_ex_nx (by
  have h : Int32.ofInt (-2) = (-2) := by decide
  rw [← h]
  rfl)
theorem x_c_m1 {m : Nat} {r : List Instr} {ls st : List Value} {p : gb_Pi} {g : gb_Sg} : gb_ex m (.sipush (-1) :: r) ls st p g = gb_ex m r ls (.int (-1) :: st) p g := gb_ex_nx (by
  have h : Int32.ofInt (-1) = (-1) := by decide
  rw [← h]
  rfl)
theorem x_c_0 {m : Nat} {r : List Instr} {ls st : List Value} {p : gb_Pi} {g : gb_Sg} : gb_ex m (.sipush 0 :: r) ls st p g = gb_ex m r ls (.int 0 :: st) p g := gb_ex_nx (by
  have h : Int32.ofInt 0 = 0 := by decide
  rw [← h]
  rfl)
theorem x_c_1 {m : Nat} {r : List Instr} {ls st : List Value} {p : gb_Pi} {g : gb_Sg} : gb_ex m (.sipush 1 :: r) ls st p g = gb_ex m r ls (.int 1 :: st) p g := gb_ex_nx (by
  have h : Int32.ofInt 1 = 1 := by decide
  rw [← h]
  rfl)
theorem x_c_2 {m : Nat} {r : List Instr} {ls st : List Value} {p : gb_Pi} {g : gb_Sg} : gb_ex m (.sipush 2 :: r) ls st p g = gb_ex m r ls (.int 2 :: st) p g := gb_ex_nx (by
  have h : Int32.ofInt 2 = 2 := by decide
  rw [← h]
  rfl)
theorem x_c_3 {m : Nat} {r : List Instr} {ls st : List Value} {p : gb_Pi} {g : gb_Sg} : gb_ex m (.sipush 3 :: r) ls st p g = gb_ex m r ls (.int 3 :: st) p g := gb_ex_nx (by
  have h : Int32.ofInt 3 = 3 := by decide
  rw [← h]
  rfl)
theorem x_c_4 {m : Nat} {r : List Instr} {ls st : List Value} {p : gb_Pi} {g : gb_Sg} : gb_ex m (.sipush 4 :: r) ls st p g = gb_ex m r ls (.int 4 :: st) p g := gb_ex_nx (by
  have h : Int32.ofInt 4 = 4 := by decide
  rw [← h]
  rfl)
theorem x_c_5 {m : Nat} {r : List Instr} {ls st : List Value} {p : gb_Pi} {g : gb_Sg} : gb_ex m (.sipush 5 :: r) ls st p g = gb_ex m r ls (.int 5 :: st) p g := gb_ex_nx (by
  have h : Int32.ofInt 5 = 5 := by decide
  rw [← h]
  rfl)
theorem x_c_6 {m : Nat} {r : List Instr} {ls st : List Value} {p : gb_Pi} {g : gb_Sg} : gb_ex m (.sipush 6 :: r) ls st p g = gb_ex m r ls (.int 6 :: st) p g := gb_ex_nx (by
  have h : Int32.ofInt 6 = 6 := by decide
  rw [← h]
  rfl)
theorem x_c_7 {m : Nat} {r : List Instr} {ls st : List Value} {p : gb_Pi} {g : gb_Sg} : gb_ex m (.sipush 7 :: r) ls st p g = gb_ex m r ls (.int 7 :: st) p g := gb_ex_nx (by
  have h : Int32.ofInt 7 = 7 := by decide
  rw [← h]
  rfl)
theorem x_c_8 {m : Nat} {r : List Instr} {ls st : List Value} {p : gb_Pi} {g : gb_Sg} : gb_ex m (.sipush 8 :: r) ls st p g = gb_ex m r ls (.int 8 :: st) p g := gb_ex_nx (by
  have h : Int32.ofInt 8 = 8 := by decide
  rw [← h]
  rfl)
theorem x_c_9 {m : Nat} {r : List Instr} {ls st : List Value} {p : gb_Pi} {g : gb_Sg} : gb_ex m (.sipush 9 :: r) ls st p g = gb_ex m r ls (.int 9 :: st) p g := gb_ex_nx (by
  have h : Int32.ofInt 9 = 9 := by decide
  rw [← h]
  rfl)
theorem x_c_10 {m : Nat} {r : List Instr} {ls st : List Value} {p : gb_Pi} {g : gb_Sg} : gb_ex m (.sipush 10 :: r) ls st p g = gb_ex m r ls (.int 10 :: st) p g := gb_ex_nx (by
  have h : Int32.ofInt 10 = 10 := by decide
  rw [← h]
  rfl)
theorem x_c_11 {m : Nat} {r : List Instr} {ls st : List Value} {p : gb_Pi} {g : gb_Sg} : gb_ex m (.sipush 11 :: r) ls st p g = gb_ex m r ls (.int 11 :: st) p g := gb_ex_nx (by
  have h : Int32.ofInt 11 = 11 := by decide
  rw [← h]
  rfl)
theorem x_c_12 {m : Nat} {r : List Instr} {ls st : List Value} {p : gb_Pi} {g : gb_Sg} : gb_ex m (.sipush 12 :: r) ls st p g = gb_ex m r ls (.int 12 :: st) p g := gb_ex_nx (by
  have h : Int32.ofInt 12 = 12 := by decide
  rw [← h]
  rfl)
theorem x_c_13 {m : Nat} {r : List Instr} {ls st : List Value} {p : gb_Pi} {g : gb_Sg} : gb_ex m (.sipush 13 :: r) ls st p g = gb_ex m r ls (.int 13 :: st) p g := gb_ex_nx (by
  have h : Int32.ofInt 13 = 13 := by decide
  rw [← h]
  rfl)
theorem x_c_15 {m : Nat} {r : List Instr} {ls st : List Value} {p : gb_Pi} {g : gb_Sg} : gb_ex m (.sipush 15 :: r) ls st p g = gb_ex m r ls (.int 15 :: st) p g := gb_ex_nx (by
  have h : Int32.ofInt 15 = 15 := by decide
  rw [← h]
  rfl)
theorem x_c_16 {m : Nat} {r : List Instr} {ls st : List Value} {p : gb_Pi} {g : gb_Sg} : gb_ex m (.sipush 16 :: r) ls st p g = gb_ex m r ls (.int 16 :: st) p g := gb_ex_nx (by
  have h : Int32.ofInt 16 = 16 := by decide
  rw [← h]
  rfl)
theorem x_c_17 {m : Nat} {r : List Instr} {ls st : List Value} {p : gb_Pi} {g : gb_Sg} : gb_ex m (.sipush 17 :: r) ls st p g = gb_ex m r ls (.int 17 :: st) p g := gb_ex_nx (by
  have h : Int32.ofInt 17 = 17 := by decide
  rw [← h]
  rfl)
theorem x_c_20 {m : Nat} {r : List Instr} {ls st : List Value} {p : gb_Pi} {g : gb_Sg} : gb_ex m (.sipush 20 :: r) ls st p g = gb_ex m r ls (.int 20 :: st) p g := gb_ex_nx (by
  have h : Int32.ofInt 20 = 20 := by decide
  rw [← h]
  rfl)
theorem x_c_24 {m : Nat} {r : List Instr} {ls st : List Value} {p : gb_Pi} {g : gb_Sg} : gb_ex m (.sipush 24 :: r) ls st p g = gb_ex m r ls (.int 24 :: st) p g := gb_ex_nx (by
  have h : Int32.ofInt 24 = 24 := by decide
  rw [← h]
  rfl)
theorem x_c_25 {m : Nat} {r : List Instr} {ls st : List Value} {p : gb_Pi} {g : gb_Sg} : gb_ex m (.sipush 25 :: r) ls st p g = gb_ex m r ls (.int 25 :: st) p g := gb_ex_nx (by
  have h : Int32.ofInt 25 = 25 := by decide
  rw [← h]
  rfl)
theorem x_c_31 {m : Nat} {r : List Instr} {ls st : List Value} {p : gb_Pi} {g : gb_Sg} : gb_ex m (.sipush 31 :: r) ls st p g = gb_ex m r ls (.int 31 :: st) p g := gb_ex_nx (by
  have h : Int32.ofInt 31 = 31 := by decide
  rw [← h]
  rfl)
theorem x_c_32 {m : Nat} {r : List Instr} {ls st : List Value} {p : gb_Pi} {g : gb_Sg} : gb_ex m (.sipush 32 :: r) ls st p g = gb_ex m r ls (.int 32 :: st) p g := gb_ex_nx (by
  have h : Int32.ofInt 32 = 32 := by decide
  rw [← h]
  rfl)
theorem x_c_36 {m : Nat} {r : List Instr} {ls st : List Value} {p : gb_Pi} {g : gb_Sg} : gb_ex m (.sipush 36 :: r) ls st p g = gb_ex m r ls (.int 36 :: st) p g := gb_ex_nx (by
  have h : Int32.ofInt 36 = 36 := by decide
  rw [← h]
  rfl)
theorem x_c_37 {m : Nat} {r : List Instr} {ls st : List Value} {p : gb_Pi} {g : gb_Sg} : gb_ex m (.sipush 37 :: r) ls st p g = gb_ex m r ls (.int 37 :: st) p g := gb_ex_nx (by
  have h : Int32.ofInt 37 = 37 := by decide
  rw [← h]
  rfl)
theorem x_c_38 {m : Nat} {r : List Instr} {ls st : List Value} {p : gb_Pi} {g : gb_Sg} : gb_ex m (.sipush 38 :: r) ls st p g = gb_ex m r ls (.int 38 :: st) p g := gb_ex_nx (by
  have h : Int32.ofInt 38 = 38 := by decide
  rw [← h]
  rfl)
theorem x_c_40 {m : Nat} {r : List Instr} {ls st : List Value} {p : gb_Pi} {g : gb_Sg} : gb_ex m (.sipush 40 :: r) ls st p g = gb_ex m r ls (.int 40 :: st) p g := gb_ex_nx (by
  have h : Int32.ofInt 40 = 40 := by decide
  rw [← h]
  rfl)
theorem x_c_44 {m : Nat} {r : List Instr} {ls st : List Value} {p : gb_Pi} {g : gb_Sg} : gb_ex m (.sipush 44 :: r) ls st p g = gb_ex m r ls (.int 44 :: st) p g := gb_ex_nx (by
  have h : Int32.ofInt 44 = 44 := by decide
  rw [← h]
  rfl)
theorem x_c_45 {m : Nat} {r : List Instr} {ls st : List Value} {p : gb_Pi} {g : gb_Sg} : gb_ex m (.sipush 45 :: r) ls st p g = gb_ex m r ls (.int 45 :: st) p g := gb_ex_nx (by
  have h : Int32.ofInt 45 = 45 := by decide
  rw [← h]
  rfl)
theorem x_c_48 {m : Nat} {r : List Instr} {ls st : List Value} {p : gb_Pi} {g : gb_Sg} : gb_ex m (.sipush 48 :: r) ls st p g = gb_ex m r ls (.int 48 :: st) p g := gb_ex_nx (by
  have h : Int32.ofInt 48 = 48 := by decide
  rw [← h]
  rfl)
theorem x_c_57 {m : Nat} {r : List Instr} {ls st : List Value} {p : gb_Pi} {g : gb_Sg} : gb_ex m (.sipush 57 :: r) ls st p g = gb_ex m r ls (.int 57 :: st) p g := gb_ex_nx (by
  have h : Int32.ofInt 57 = 57 := by decide
  rw [← h]
  rfl)
theorem x_c_58 {m : Nat} {r : List Instr} {ls st : List Value} {p : gb_Pi} {g : gb_Sg} : gb_ex m (.sipush 58 :: r) ls st p g = gb_ex m r ls (.int 58 :: st) p g := gb_ex_nx (by
  have h : Int32.ofInt 58 = 58 := by decide
  rw [← h]
  rfl)
theorem x_c_59 {m : Nat} {r : List Instr} {ls st : List Value} {p : gb_Pi} {g : gb_Sg} : gb_ex m (.sipush 59 :: r) ls st p g = gb_ex m r ls (.int 59 :: st) p g := gb_ex_nx (by
  have h : Int32.ofInt 59 = 59 := by decide
  rw [← h]
  rfl)
theorem x_c_60 {m : Nat} {r : List Instr} {ls st : List Value} {p : gb_Pi} {g : gb_Sg} : gb_ex m (.sipush 60 :: r) ls st p g = gb_ex m r ls (.int 60 :: st) p g := gb_ex_nx (by
  have h : Int32.ofInt 60 = 60 := by decide
  rw [← h]
  rfl)
theorem x_c_62 {m : Nat} {r : List Instr} {ls st : List Value} {p : gb_Pi} {g : gb_Sg} : gb_ex m (.sipush 62 :: r) ls st p g = gb_ex m r ls (.int 62 :: st) p g := gb_ex_nx (by
  have h : Int32.ofInt 62 = 62 := by decide
  rw [← h]
  rfl)
theorem x_c_63 {m : Nat} {r : List Instr} {ls st : List Value} {p : gb_Pi} {g : gb_Sg} : gb_ex m (.sipush 63 :: r) ls st p g = gb_ex m r ls (.int 63 :: st) p g := gb_ex_nx (by
  have h : Int32.ofInt 63 = 63 := by decide
  rw [← h]
  rfl)
theorem x_c_67 {m : Nat} {r : List Instr} {ls st : List Value} {p : gb_Pi} {g : gb_Sg} : gb_ex m (.sipush 67 :: r) ls st p g = gb_ex m r ls (.int 67 :: st) p g := gb_ex_nx (by
  have h : Int32.ofInt 67 = 67 := by decide
  rw [← h]
  rfl)
theorem x_c_70 {m : Nat} {r : List Instr} {ls st : List Value} {p : gb_Pi} {g : gb_Sg} : gb_ex m (.sipush 70 :: r) ls st p g = gb_ex m r ls (.int 70 :: st) p g := gb_ex_nx (by
  have h : Int32.ofInt 70 = 70 := by decide
  rw [← h]
  rfl)
theorem x_c_72 {m : Nat} {r : List Instr} {ls st : List Value} {p : gb_Pi} {g : gb_Sg} : gb_ex m (.sipush 72 :: r) ls st p g = gb_ex m r ls (.int 72 :: st) p g := gb_ex_nx (by
  have h : Int32.ofInt 72 = 72 := by decide
  rw [← h]
  rfl)
theorem x_c_79 {m : Nat} {r : List Instr} {ls st : List Value} {p : gb_Pi} {g : gb_Sg} : gb_ex m (.sipush 79 :: r) ls st p g = gb_ex m r ls (.int 79 :: st) p g := gb_ex_nx (by
  have h : Int32.ofInt 79 = 79 := by decide
  rw [← h]
  rfl)
theorem x_c_80 {m : Nat} {r : List Instr} {ls st : List Value} {p : gb_Pi} {g : gb_Sg} : gb_ex m (.sipush 80 :: r) ls st p g = gb_ex m r ls (.int 80 :: st) p g := gb_ex_nx (by
  have h : Int32.ofInt 80 = 80 := by decide
  rw [← h]
  rfl)
theorem x_c_99 {m : Nat} {r : List Instr} {ls st : List Value} {p : gb_Pi} {g : gb_Sg} : gb_ex m (.sipush 99 :: r) ls st p g = gb_ex m r ls (.int 99 :: st) p g := gb_ex_nx (by
  have h : Int32.ofInt 99 = 99 := by decide
  rw [← h]
  rfl)
theorem x_c_100 {m : Nat} {r : List Instr} {ls st : List Value} {p : gb_Pi} {g : gb_Sg} : gb_ex m (.sipush 100 :: r) ls st p g = gb_ex m r ls (.int 100 :: st) p g := gb_ex_nx (by
  have h : Int32.ofInt 100 = 100 := by decide
  rw [← h]
  rfl)
theorem x_c_104 {m : Nat} {r : List Instr} {ls st : List Value} {p : gb_Pi} {g : gb_Sg} : gb_ex m (.sipush 104 :: r) ls st p g = gb_ex m r ls (.int 104 :: st) p g := gb_ex_nx (by
  have h : Int32.ofInt 104 = 104 := by decide
  rw [← h]
  rfl)
theorem x_c_107 {m : Nat} {r : List Instr} {ls st : List Value} {p : gb_Pi} {g : gb_Sg} : gb_ex m (.sipush 107 :: r) ls st p g = gb_ex m r ls (.int 107 :: st) p g := gb_ex_nx (by
  have h : Int32.ofInt 107 = 107 := by decide
  rw [← h]
  rfl)
theorem x_c_108 {m : Nat} {r : List Instr} {ls st : List Value} {p : gb_Pi} {g : gb_Sg} : gb_ex m (.sipush 108 :: r) ls st p g = gb_ex m r ls (.int 108 :: st) p g := gb_ex_nx (by
  have h : Int32.ofInt 108 = 108 := by decide
  rw [← h]
  rfl)
theorem x_c_110 {m : Nat} {r : List Instr} {ls st : List Value} {p : gb_Pi} {g : gb_Sg} : gb_ex m (.sipush 110 :: r) ls st p g = gb_ex m r ls (.int 110 :: st) p g := gb_ex_nx (by
  have h : Int32.ofInt 110 = 110 := by decide
  rw [← h]
  rfl)
theorem x_c_116 {m : Nat} {r : List Instr} {ls st : List Value} {p : gb_Pi} {g : gb_Sg} : gb_ex m (.sipush 116 :: r) ls st p g = gb_ex m r ls (.int 116 :: st) p g := gb_ex_nx (by
  have h : Int32.ofInt 116 = 116 := by decide
  rw [← h]
  rfl)
theorem x_c_119 {m : Nat} {r : List Instr} {ls st : List Value} {p : gb_Pi} {g : gb_Sg} : gb_ex m (.sipush 119 :: r) ls st p g = gb_ex m r ls (.int 119 :: st) p g := gb_ex_nx (by
  have h : Int32.ofInt 119 = 119 := by decide
  rw [← h]
  rfl)
theorem x_c_120 {m : Nat} {r : List Instr} {ls st : List Value} {p : gb_Pi} {g : gb_Sg} : gb_ex m (.sipush 120 :: r) ls st p g = gb_ex m r ls (.int 120 :: st) p g := gb_ex_nx (by
  have h : Int32.ofInt 120 = 120 := by decide
  rw [← h]
  rfl)
theorem x_c_130 {m : Nat} {r : List Instr} {ls st : List Value} {p : gb_Pi} {g : gb_Sg} : gb_ex m (.sipush 130 :: r) ls st p g = gb_ex m r ls (.int 130 :: st) p g := gb_ex_nx (by
  have h : Int32.ofInt 130 = 130 := by decide
  rw [← h]
  rfl)
theorem x_c_159 {m : Nat} {r : List Instr} {ls st : List Value} {p : gb_Pi} {g : gb_Sg} : gb_ex m (.sipush 159 :: r) ls st p g = gb_ex m r ls (.int 159 :: st) p g := gb_ex_nx (by
  have h : Int32.ofInt 159 = 159 := by decide
  rw [← h]
  rfl)
theorem x_c_255 {m : Nat} {r : List Instr} {ls st : List Value} {p : gb_Pi} {g : gb_Sg} : gb_ex m (.sipush 255 :: r) ls st p g = gb_ex m r ls (.int 255 :: st) p g := gb_ex_nx (by
  have h : Int32.ofInt 255 = 255 := by decide
  rw [← h]
  rfl)
theorem x_c_256 {m : Nat} {r : List Instr} {ls st : List Value} {p : gb_Pi} {g : gb_Sg} : gb_ex m (.sipush 256 :: r) ls st p g = gb_ex m r ls (.int 256 :: st) p g := gb_ex_nx (by
  have h : Int32.ofInt 256 = 256 := by decide
  rw [← h]
  rfl)
theorem x_c_260 {m : Nat} {r : List Instr} {ls st : List Value} {p : gb_Pi} {g : gb_Sg} : gb_ex m (.sipush 260 :: r) ls st p g = gb_ex m r ls (.int 260 :: st) p g := gb_ex_nx (by
  have h : Int32.ofInt 260 = 260 := by decide
  rw [← h]
  rfl)
theorem x_c_360 {m : Nat} {r : List Instr} {ls st : List Value} {p : gb_Pi} {g : gb_Sg} : gb_ex m (.sipush 360 :: r) ls st p g = gb_ex m r ls (.int 360 :: st) p g := gb_ex_nx (by
  have h : Int32.ofInt 360 = 360 := by decide
  rw [← h]
  rfl)
theorem x_c_400 {m : Nat} {r : List Instr} {ls st : List Value} {p : gb_Pi} {g : gb_Sg} : gb_ex m (.sipush 400 :: r) ls st p g = gb_ex m r ls (.int 400 :: st) p g := gb_ex_nx (by
  have h : Int32.ofInt 400 = 400 := by decide
  rw [← h]
  rfl)
theorem x_c_880 {m : Nat} {r : List Instr} {ls st : List Value} {p : gb_Pi} {g : gb_Sg} : gb_ex m (.sipush 880 :: r) ls st p g = gb_ex m r ls (.int 880 :: st) p g := gb_ex_nx (by
  have h : Int32.ofInt 880 = 880 := by decide
  rw [← h]
  rfl)
theorem x_c_999 {m : Nat} {r : List Instr} {ls st : List Value} {p : gb_Pi} {g : gb_Sg} : gb_ex m (.sipush 999 :: r) ls st p g = gb_ex m r ls (.int 999 :: st) p g := gb_ex_nx (by
  have h : Int32.ofInt 999 = 999 := by decide
  rw [← h]
  rfl)
theorem x_c_1000 {m : Nat} {r : List Instr} {ls st : List Value} {p : gb_Pi} {g : gb_Sg} : gb_ex m (.sipush 1000 :: r) ls st p g = gb_ex m r ls (.int 1000 :: st) p g := gb_ex_nx (by
  have h : Int32.ofInt 1000 = 1000 := by decide
  rw [← h]
  rfl)
theorem x_c_9999 {m : Nat} {r : List Instr} {ls st : List Value} {p : gb_Pi} {g : gb_Sg} : gb_ex m (.sipush 9999 :: r) ls st p g = gb_ex m r ls (.int 9999 :: st) p g := gb_ex_nx (by
  have h : Int32.ofInt 9999 = 9999 := by decide
  rw [← h]
  rfl)
theorem x_c_99999 {m : Nat} {r : List Instr} {ls st : List Value} {p : gb_Pi} {g : gb_Sg} : gb_ex m (.sipush 99999 :: r) ls st p g = gb_ex m r ls (.int 99999 :: st) p g := gb_ex_nx (by
  have h : Int32.ofInt 99999 = 99999 := by decide
  rw [← h]
  rfl)
theorem x_c_1000000 {m : Nat} {r : List Instr} {ls st : List Value} {p : gb_Pi} {g : gb_Sg} : gb_ex m (.sipush 1000000 :: r) ls st p g = gb_ex m r ls (.int 1000000 :: st) p g := gb_ex_nx (by
  have h : Int32.ofInt 1000000 = 1000000 := by decide
  rw [← h]
  rfl)
theorem x_c_252645135 {m : Nat} {r : List Instr} {ls st : List Value} {p : gb_Pi} {g : gb_Sg} : gb_ex m (.sipush 252645135 :: r) ls st p g = gb_ex m r ls (.int 252645135 :: st) p g := gb_ex_nx (by
  have h : Int32.ofInt 252645135 = 252645135 := by decide
  rw [← h]
  rfl)
theorem x_c_858993459 {m : Nat} {r : List Instr} {ls st : List Value} {p : gb_Pi} {g : gb_Sg} : gb_ex m (.sipush 858993459 :: r) ls st p g = gb_ex m r ls (.int 858993459 :: st) p g := gb_ex_nx (by
  have h : Int32.ofInt 858993459 = 858993459 := by decide
  rw [← h]
  rfl)
theorem x_c_1431655765 {m : Nat} {r : List Instr} {ls st : List Value} {p : gb_Pi} {g : gb_Sg} : gb_ex m (.sipush 1431655765 :: r) ls st p g = gb_ex m r ls (.int 1431655765 :: st) p g := gb_ex_nx (by
  have h : Int32.ofInt 1431655765 = 1431655765 := by decide
  rw [← h]
  rfl)
theorem x_l_m4 {m : Nat} {r : List Instr} {ls st : List Value} {p : gb_Pi} {g : gb_Sg} : gb_ex m (.bipush (-4) :: r) ls st p g = gb_ex m r ls (.long (-4) :: st) p g := gb_ex_nx (by
  have h : Int64.ofInt (-4) = (-4) := by decide
  rw [← h]
  rfl)
theorem x_l_m1 {m : Nat} {r : List Instr} {ls st : List Value} {p : gb_Pi} {g : gb_Sg} : gb_ex m (.bipush (-1) :: r) ls st p g = gb_ex m r ls (.long (-1) :: st) p g := gb_ex_nx (by
  have h : Int64.ofInt (-1) = (-1) := by decide
  rw [← h]
  rfl)
theorem x_l_0 {m : Nat} {r : List Instr} {ls st : List Value} {p : gb_Pi} {g : gb_Sg} : gb_ex m (.bipush 0 :: r) ls st p g = gb_ex m r ls (.long 0 :: st) p g := gb_ex_nx (by
  have h : Int64.ofInt 0 = 0 := by decide
  rw [← h]
  rfl)
theorem x_l_1 {m : Nat} {r : List Instr} {ls st : List Value} {p : gb_Pi} {g : gb_Sg} : gb_ex m (.bipush 1 :: r) ls st p g = gb_ex m r ls (.long 1 :: st) p g := gb_ex_nx (by
  have h : Int64.ofInt 1 = 1 := by decide
  rw [← h]
  rfl)
theorem x_l_2 {m : Nat} {r : List Instr} {ls st : List Value} {p : gb_Pi} {g : gb_Sg} : gb_ex m (.bipush 2 :: r) ls st p g = gb_ex m r ls (.long 2 :: st) p g := gb_ex_nx (by
  have h : Int64.ofInt 2 = 2 := by decide
  rw [← h]
  rfl)
theorem x_l_3 {m : Nat} {r : List Instr} {ls st : List Value} {p : gb_Pi} {g : gb_Sg} : gb_ex m (.bipush 3 :: r) ls st p g = gb_ex m r ls (.long 3 :: st) p g := gb_ex_nx (by
  have h : Int64.ofInt 3 = 3 := by decide
  rw [← h]
  rfl)
theorem x_l_5 {m : Nat} {r : List Instr} {ls st : List Value} {p : gb_Pi} {g : gb_Sg} : gb_ex m (.bipush 5 :: r) ls st p g = gb_ex m r ls (.long 5 :: st) p g := gb_ex_nx (by
  have h : Int64.ofInt 5 = 5 := by decide
  rw [← h]
  rfl)
theorem x_l_7 {m : Nat} {r : List Instr} {ls st : List Value} {p : gb_Pi} {g : gb_Sg} : gb_ex m (.bipush 7 :: r) ls st p g = gb_ex m r ls (.long 7 :: st) p g := gb_ex_nx (by
  have h : Int64.ofInt 7 = 7 := by decide
  rw [← h]
  rfl)
theorem x_l_8 {m : Nat} {r : List Instr} {ls st : List Value} {p : gb_Pi} {g : gb_Sg} : gb_ex m (.bipush 8 :: r) ls st p g = gb_ex m r ls (.long 8 :: st) p g := gb_ex_nx (by
  have h : Int64.ofInt 8 = 8 := by decide
  rw [← h]
  rfl)
theorem x_l_9 {m : Nat} {r : List Instr} {ls st : List Value} {p : gb_Pi} {g : gb_Sg} : gb_ex m (.bipush 9 :: r) ls st p g = gb_ex m r ls (.long 9 :: st) p g := gb_ex_nx (by
  have h : Int64.ofInt 9 = 9 := by decide
  rw [← h]
  rfl)
theorem x_l_10 {m : Nat} {r : List Instr} {ls st : List Value} {p : gb_Pi} {g : gb_Sg} : gb_ex m (.bipush 10 :: r) ls st p g = gb_ex m r ls (.long 10 :: st) p g := gb_ex_nx (by
  have h : Int64.ofInt 10 = 10 := by decide
  rw [← h]
  rfl)
theorem x_l_48 {m : Nat} {r : List Instr} {ls st : List Value} {p : gb_Pi} {g : gb_Sg} : gb_ex m (.bipush 48 :: r) ls st p g = gb_ex m r ls (.long 48 :: st) p g := gb_ex_nx (by
  have h : Int64.ofInt 48 = 48 := by decide
  rw [← h]
  rfl)
theorem x_l_57 {m : Nat} {r : List Instr} {ls st : List Value} {p : gb_Pi} {g : gb_Sg} : gb_ex m (.bipush 57 :: r) ls st p g = gb_ex m r ls (.long 57 :: st) p g := gb_ex_nx (by
  have h : Int64.ofInt 57 = 57 := by decide
  rw [← h]
  rfl)
theorem x_l_99 {m : Nat} {r : List Instr} {ls st : List Value} {p : gb_Pi} {g : gb_Sg} : gb_ex m (.bipush 99 :: r) ls st p g = gb_ex m r ls (.long 99 :: st) p g := gb_ex_nx (by
  have h : Int64.ofInt 99 = 99 := by decide
  rw [← h]
  rfl)
theorem x_l_255 {m : Nat} {r : List Instr} {ls st : List Value} {p : gb_Pi} {g : gb_Sg} : gb_ex m (.bipush 255 :: r) ls st p g = gb_ex m r ls (.long 255 :: st) p g := gb_ex_nx (by
  have h : Int64.ofInt 255 = 255 := by decide
  rw [← h]
  rfl)
theorem x_l_999 {m : Nat} {r : List Instr} {ls st : List Value} {p : gb_Pi} {g : gb_Sg} : gb_ex m (.bipush 999 :: r) ls st p g = gb_ex m r ls (.long 999 :: st) p g := gb_ex_nx (by
  have h : Int64.ofInt 999 = 999 := by decide
  rw [← h]
  rfl)
theorem x_l_1000 {m : Nat} {r : List Instr} {ls st : List Value} {p : gb_Pi} {g : gb_Sg} : gb_ex m (.bipush 1000 :: r) ls st p g = gb_ex m r ls (.long 1000 :: st) p g := gb_ex_nx (by
  have h : Int64.ofInt 1000 = 1000 := by decide
  rw [← h]
  rfl)
theorem x_l_9999 {m : Nat} {r : List Instr} {ls st : List Value} {p : gb_Pi} {g : gb_Sg} : gb_ex m (.bipush 9999 :: r) ls st p g = gb_ex m r ls (.long 9999 :: st) p g := gb_ex_nx (by
  have h : Int64.ofInt 9999 = 9999 := by decide
  rw [← h]
  rfl)
theorem x_l_1000000 {m : Nat} {r : List Instr} {ls st : List Value} {p : gb_Pi} {g : gb_Sg} : gb_ex m (.bipush 1000000 :: r) ls st p g = gb_ex m r ls (.long 1000000 :: st) p g := gb_ex_nx (by
  have h : Int64.ofInt 1000000 = 1000000 := by decide
  rw [← h]
  rfl)
theorem x_l_1000000000 {m : Nat} {r : List Instr} {ls st : List Value} {p : gb_Pi} {g : gb_Sg} : gb_ex m (.bipush 1000000000 :: r) ls st p g = gb_ex m r ls (.long 1000000000 :: st) p g := gb_ex_nx (by
  have h : Int64.ofInt 1000000000 = 1000000000 := by decide
  rw [← h]
  rfl)
theorem x_l_4294967295 {m : Nat} {r : List Instr} {ls st : List Value} {p : gb_Pi} {g : gb_Sg} : gb_ex m (.bipush 4294967295 :: r) ls st p g = gb_ex m r ls (.long 4294967295 :: st) p g := gb_ex_nx (by
  have h : Int64.ofInt 4294967295 = 4294967295 := by decide
  rw [← h]
  rfl)
theorem x_iadd {m : Nat} {r : List Instr} {ls st : List Value} {p : gb_Pi} {g : gb_Sg} {x y : Int32} : gb_ex m (.iadd :: r) ls (.int y :: .int x :: st) p g = gb_ex m r ls (.int (x + y) :: st) p g := gb_ex_nx rfl
theorem x_isub {m : Nat} {r : List Instr} {ls st : List Value} {p : gb_Pi} {g : gb_Sg} {x y : Int32} : gb_ex m (.isub :: r) ls (.int y :: .int x :: st) p g = gb_ex m r ls (.int (x - y) :: st) p g := gb_ex_nx rfl
theorem x_imul {m : Nat} {r : List Instr} {ls st : List Value} {p : gb_Pi} {g : gb_Sg} {x y : Int32} : gb_ex m (.imul :: r) ls (.int y :: .int x :: st) p g = gb_ex m r ls (.int (x * y) :: st) p g := gb_ex_nx rfl
theorem x_iand {m : Nat} {r : List Instr} {ls st : List Value} {p : gb_Pi} {g : gb_Sg} {x y : Int32} : gb_ex m (.iand :: r) ls (.int y :: .int x :: st) p g = gb_ex m r ls (.int (x &&& y) :: st) p g := gb_ex_nx rfl
theorem x_ior {m : Nat} {r : List Instr} {ls st : List Value} {p : gb_Pi} {g : gb_Sg} {x y : Int32} : gb_ex m (.ior :: r) ls (.int y :: .int x :: st) p g = gb_ex m r ls (.int (x ||| y) :: st) p g := gb_ex_nx rfl
theorem x_ixor {m : Nat} {r : List Instr} {ls st : List Value} {p : gb_Pi} {g : gb_Sg} {x y : Int32} : gb_ex m (.ixor :: r) ls (.int y :: .int x :: st) p g = gb_ex m r ls (.int (x ^^^ y) :: st) p g := gb_ex_nx rfl
theorem x_ishl {m : Nat} {r : List Instr} {ls st : List Value} {p : gb_Pi} {g : gb_Sg} {x y : Int32} : gb_ex m (.ishl :: r) ls (.int y :: .int x :: st) p g = gb_ex m r ls (.int (x <<< (y &&& 31)) :: st) p g := gb_ex_nx rfl
theorem x_ishr {m : Nat} {r : List Instr} {ls st : List Value} {p : gb_Pi} {g : gb_Sg} {x y : Int32} : gb_ex m (.ishr :: r) ls (.int y :: .int x :: st) p g = gb_ex m r ls (.int (x >>> (y &&& 31)) :: st) p g := gb_ex_nx rfl
theorem x_iushr {m : Nat} {r : List Instr} {ls st : List Value} {p : gb_Pi} {g : gb_Sg} {x y : Int32} : gb_ex m (.iushr :: r) ls (.int y :: .int x :: st) p g = gb_ex m r ls (.int ((x.toUInt32 >>> (y.toUInt32 &&& Int32.toUInt32 31)).toInt32) :: st) p g := gb_ex_nx rfl
theorem x_ladd {m : Nat} {r : List Instr} {ls st : List Value} {p : gb_Pi} {g : gb_Sg} {x y : Int64} : gb_ex m (.ladd :: r) ls (.long y :: .long x :: st) p g = gb_ex m r ls (.long (x + y) :: st) p g := gb_ex_nx rfl
theorem x_lsub {m : Nat} {r : List Instr} {ls st : List Value} {p : gb_Pi} {g : gb_Sg} {x y : Int64} : gb_ex m (.lsub :: r) ls (.long y :: .long x :: st) p g = gb_ex m r ls (.long (x - y) :: st) p g := gb_ex_nx rfl
theorem x_lmul {m : Nat} {r : List Instr} {ls st : List Value} {p : gb_Pi} {g : gb_Sg} {x y : Int64} : gb_ex m (.lmul :: r) ls (.long y :: .long x :: st) p g = gb_ex m r ls (.long (x * y) :: st) p g := gb_ex_nx rfl
theorem x_land {m : Nat} {r : List Instr} {ls st : List Value} {p : gb_Pi} {g : gb_Sg} {x y : Int64} : gb_ex m (.land :: r) ls (.long y :: .long x :: st) p g = gb_ex m r ls (.long (x &&& y) :: st) p g := gb_ex_nx rfl
theorem x_lor {m : Nat} {r : List Instr} {ls st : List Value} {p : gb_Pi} {g : gb_Sg} {x y : Int64} : gb_ex m (.lor :: r) ls (.long y :: .long x :: st) p g = gb_ex m r ls (.long (x ||| y) :: st) p g := gb_ex_nx rfl
theorem x_idiv {m : Nat} {r : List Instr} {ls st : List Value} {p : gb_Pi} {g : gb_Sg} {x y : Int32} : gb_ex m (.idiv :: r) ls (.int y :: .int x :: st) p g = if y = 0 then none else gb_ex m r ls (.int (x / y) :: st) p g := by
  by_cases h : y = 0
  · rw [if_pos h]; exact gb_ex_no (by simp only [gb_stp, if_pos h])
  · rw [if_neg h]; exact gb_ex_nx (by simp only [gb_stp, if_neg h])
theorem x_irem {m : Nat} {r : List Instr} {ls st : List Value} {p : gb_Pi} {g : gb_Sg} {x y : Int32} : gb_ex m (.irem :: r) ls (.int y :: .int x :: st) p g = if y = 0 then none else gb_ex m r ls (.int (x - x / y * y) :: st) p g := by
  by_cases h : y = 0
  · rw [if_pos h]; exact gb_ex_no (by simp only [gb_stp, if_pos h])
  · rw [if_neg h]; exact gb_ex_nx (by simp only [gb_stp, if_neg h])
theorem x_ldiv {m : Nat} {r : List Instr} {ls st : List Value} {p : gb_Pi} {g : gb_Sg} {x y : Int64} : gb_ex m (.ldiv :: r) ls (.long y :: .long x :: st) p g = if y = 0 then none else gb_ex m r ls (.long (x / y) :: st) p g := by
  by_cases h : y = 0
  · rw [if_pos h]; exact gb_ex_no (by simp only [gb_stp, if_pos h])
  · rw [if_neg h]; exact gb_ex_nx (by simp only [gb_stp, if_neg h])
theorem x_lrem {m : Nat} {r : List Instr} {ls st : List Value} {p : gb_Pi} {g : gb_Sg} {x y : Int64} : gb_ex m (.lrem :: r) ls (.long y :: .long x :: st) p g = if y = 0 then none else gb_ex m r ls (.long (x - x / y * y) :: st) p g := by
  by_cases h : y = 0
  · rw [if_pos h]; exact gb_ex_no (by simp only [gb_stp, if_pos h])
  · rw [if_neg h]; exact gb_ex_nx (by simp only [gb_stp, if_neg h])
theorem x_ineg {m : Nat} {r : List Instr} {ls st : List Value} {p : gb_Pi} {g : gb_Sg} {x : Int32} : gb_ex m (.ineg :: r) ls (.int x :: st) p g = gb_ex m r ls (.int (-x) :: st) p g := gb_ex_nx rfl
theorem x_lushr {m : Nat} {r : List Instr} {ls st : List Value} {p : gb_Pi} {g : gb_Sg} {x : Int64} {y : Int32} : gb_ex m (.lushr :: r) ls (.int y :: .long x :: st) p g = gb_ex m r ls (.long (x.toUInt64 >>> (y.toInt64.toUInt64 &&& Int64.toUInt64 63)).toInt64 :: st) p g := gb_ex_nx rfl
theorem x_lshl {m : Nat} {r : List Instr} {ls st : List Value} {p : gb_Pi} {g : gb_Sg} {x : Int64} {y : Int32} : gb_ex m (.lshl :: r) ls (.int y :: .long x :: st) p g = gb_ex m r ls (.long (x <<< (y.toInt64 &&& 63)) :: st) p g := gb_ex_nx rfl
theorem x_lshr {m : Nat} {r : List Instr} {ls st : List Value} {p : gb_Pi} {g : gb_Sg} {x : Int64} {y : Int32} : gb_ex m (.lshr :: r) ls (.int y :: .long x :: st) p g = gb_ex m r ls (.long (x >>> (y.toInt64 &&& 63)) :: st) p g := gb_ex_nx rfl
theorem x_i2l {m : Nat} {r : List Instr} {ls st : List Value} {p : gb_Pi} {g : gb_Sg} {x : Int32} : gb_ex m (.i2l :: r) ls (.int x :: st) p g = gb_ex m r ls (.long x.toInt64 :: st) p g := gb_ex_nx rfl
theorem x_l2i {m : Nat} {r : List Instr} {ls st : List Value} {p : gb_Pi} {g : gb_Sg} {x : Int64} : gb_ex m (.l2i :: r) ls (.long x :: st) p g = gb_ex m r ls (.int x.toInt32 :: st) p g := gb_ex_nx rfl
theorem x_i2b {m : Nat} {r : List Instr} {ls st : List Value} {p : gb_Pi} {g : gb_Sg} {x : Int32} : gb_ex m (.i2b :: r) ls (.int x :: st) p g = gb_ex m r ls (.int x.toInt8.toInt32 :: st) p g := gb_ex_nx rfl
theorem x_dup_i {m : Nat} {r : List Instr} {ls st : List Value} {p : gb_Pi} {g : gb_Sg} {x : Int32} : gb_ex m (.dup :: r) ls (.int x :: st) p g = gb_ex m r ls (.int x :: .int x :: st) p g := gb_ex_nx rfl
theorem x_dup_r {m : Nat} {r : List Instr} {ls st : List Value} {p : gb_Pi} {g : gb_Sg} {x : Nat} : gb_ex m (.dup :: r) ls (.ref x :: st) p g = gb_ex m r ls (.ref x :: .ref x :: st) p g := gb_ex_nx rfl
theorem x_dup2 {m : Nat} {r : List Instr} {ls st : List Value} {p : gb_Pi} {g : gb_Sg} {x : Int32} {a : Nat} : gb_ex m (.dup2 :: r) ls (.int x :: .ref a :: st) p g = gb_ex m r ls (.int x :: .ref a :: .int x :: .ref a :: st) p g := gb_ex_nx rfl
theorem x_pop {m : Nat} {r : List Instr} {ls st : List Value} {p : gb_Pi} {g : gb_Sg} {a : Nat} (h : st.length ≤ 4) : gb_ex m (.pop :: r) ls (.ref a :: st) p g = gb_ex m r ls st p g := gb_ex_nx (by simp only [gb_stp, if_pos h])
theorem x_max {m : Nat} {r : List Instr} {ls st : List Value} {p : gb_Pi} {g : gb_Sg} {x y : Int32} (h : st.length ≤ 4) : gb_ex m (.fadd :: r) ls (.int y :: .int x :: st) p g = gb_ex m r ls (.int (if x < y then y else x) :: st) p g := gb_ex_nx (by simp only [gb_stp, if_pos h])
theorem x_min {m : Nat} {r : List Instr} {ls st : List Value} {p : gb_Pi} {g : gb_Sg} {x y : Int32} (h : st.length ≤ 4) : gb_ex m (.fsub :: r) ls (.int y :: .int x :: st) p g = gb_ex m r ls (.int (if y < x then y else x) :: st) p g := gb_ex_nx (by simp only [gb_stp, if_pos h])
theorem x_maxl {m : Nat} {r : List Instr} {ls st : List Value} {p : gb_Pi} {g : gb_Sg} {x y : Int64} (h : st.length ≤ 4) : gb_ex m (.dadd :: r) ls (.long y :: .long x :: st) p g = gb_ex m r ls (.long (if y < x then x else y) :: st) p g := gb_ex_nx (by simp only [gb_stp, if_pos h])
theorem x_goto {m : Nat} {r : List Instr} {ls st : List Value} {p : gb_Pi} {g : gb_Sg} {t : Nat} : gb_ex m (.goto (no_index (OfNat.ofNat t)) :: r) ls st p g = gb_ex m (gb_tgt m (OfNat.ofNat t)) ls st p g := gb_ex_jp rfl
theorem x_if_eq {m : Nat} {r : List Instr} {ls st : List Value} {p : gb_Pi} {g : gb_Sg} {t : Nat} {x : Int32} : gb_ex m (.ifCond .eq (no_index (OfNat.ofNat t)) :: r) ls (.int x :: st) p g = if x = 0 then gb_ex m (gb_tgt m (OfNat.ofNat t)) ls st p g else gb_ex m r ls st p g := by
  by_cases h : x = 0
  · rw [if_pos h]; exact gb_ex_jp (by simp only [gb_stp, gb_cnd, decide_eq_true h, if_true]; rfl)
  · rw [if_neg h]; exact gb_ex_nx (by simp only [gb_stp, gb_cnd, decide_eq_false h]; rfl)
theorem x_if_ne {m : Nat} {r : List Instr} {ls st : List Value} {p : gb_Pi} {g : gb_Sg} {t : Nat} {x : Int32} : gb_ex m (.ifCond .ne (no_index (OfNat.ofNat t)) :: r) ls (.int x :: st) p g = if x ≠ 0 then gb_ex m (gb_tgt m (OfNat.ofNat t)) ls st p g else gb_ex m r ls st p g := by
  by_cases h : x ≠ 0
  · rw [if_pos h]; exact gb_ex_jp (by simp only [gb_stp, gb_cnd, decide_eq_true h, if_true]; rfl)
  · rw [if_neg h]; exact gb_ex_nx (by simp only [gb_stp, gb_cnd, decide_eq_false h]; rfl)
theorem x_if_lt {m : Nat} {r : List Instr} {ls st : List Value} {p : gb_Pi} {g : gb_Sg} {t : Nat} {x : Int32} : gb_ex m (.ifCond .lt (no_index (OfNat.ofNat t)) :: r) ls (.int x :: st) p g = if x < 0 then gb_ex m (gb_tgt m (OfNat.ofNat t)) ls st p g else gb_ex m r ls st p g := by
  by_cases h : x < 0
  · rw [if_pos h]; exact gb_ex_jp (by simp only [gb_stp, gb_cnd, decide_eq_true h, if_true]; rfl)
  · rw [if_neg h]; exact gb_ex_nx (by simp only [gb_stp, gb_cnd, decide_eq_false h]; rfl)
theorem x_if_ge {m : Nat} {r : List Instr} {ls st : List Value} {p : gb_Pi} {g : gb_Sg} {t : Nat} {x : Int32} : gb_ex m (.ifCond .ge (no_index (OfNat.ofNat t)) :: r) ls (.int x :: st) p g = if 0 ≤ x then gb_ex m (gb_tgt m (OfNat.ofNat t)) ls st p g else gb_ex m r ls st p g := by
  by_cases h : 0 ≤ x
  · rw [if_pos h]; exact gb_ex_jp (by simp only [gb_stp, gb_cnd, decide_eq_true h, if_true]; rfl)
  · rw [if_neg h]; exact gb_ex_nx (by simp only [gb_stp, gb_cnd, decide_eq_false h]; rfl)
theorem x_if_gt {m : Nat} {r : List Instr} {ls st : List Value} {p : gb_Pi} {g : gb_Sg} {t : Nat} {x : Int32} : gb_ex m (.ifCond .gt (no_index (OfNat.ofNat t)) :: r) ls (.int x :: st) p g = if 0 < x then gb_ex m (gb_tgt m (OfNat.ofNat t)) ls st p g else gb_ex m r ls st p g := by
  by_cases h : 0 < x
  · rw [if_pos h]; exact gb_ex_jp (by simp only [gb_stp, gb_cnd, decide_eq_true h, if_true]; rfl)
  · rw [if_neg h]; exact gb_ex_nx (by simp only [gb_stp, gb_cnd, decide_eq_false h]; rfl)
theorem x_if_le {m : Nat} {r : List Instr} {ls st : List Value} {p : gb_Pi} {g : gb_Sg} {t : Nat} {x : Int32} : gb_ex m (.ifCond .le (no_index (OfNat.ofNat t)) :: r) ls (.int x :: st) p g = if x ≤ 0 then gb_ex m (gb_tgt m (OfNat.ofNat t)) ls st p g else gb_ex m r ls st p g := by
  by_cases h : x ≤ 0
  · rw [if_pos h]; exact gb_ex_jp (by simp only [gb_stp, gb_cnd, decide_eq_true h, if_true]; rfl)
  · rw [if_neg h]; exact gb_ex_nx (by simp only [gb_stp, gb_cnd, decide_eq_false h]; rfl)
theorem x_ic_eq {m : Nat} {r : List Instr} {ls st : List Value} {p : gb_Pi} {g : gb_Sg} {t : Nat} {x y : Int32} : gb_ex m (.if_icmp .eq (no_index (OfNat.ofNat t)) :: r) ls (.int y :: .int x :: st) p g = if x = y then gb_ex m (gb_tgt m (OfNat.ofNat t)) ls st p g else gb_ex m r ls st p g := by
  by_cases h : x = y
  · rw [if_pos h]; exact gb_ex_jp (by simp only [gb_stp, gb_cnd, decide_eq_true h, if_true]; rfl)
  · rw [if_neg h]; exact gb_ex_nx (by simp only [gb_stp, gb_cnd, decide_eq_false h]; rfl)
theorem x_ic_ne {m : Nat} {r : List Instr} {ls st : List Value} {p : gb_Pi} {g : gb_Sg} {t : Nat} {x y : Int32} : gb_ex m (.if_icmp .ne (no_index (OfNat.ofNat t)) :: r) ls (.int y :: .int x :: st) p g = if x ≠ y then gb_ex m (gb_tgt m (OfNat.ofNat t)) ls st p g else gb_ex m r ls st p g := by
  by_cases h : x ≠ y
  · rw [if_pos h]; exact gb_ex_jp (by simp only [gb_stp, gb_cnd, decide_eq_true h, if_true]; rfl)
  · rw [if_neg h]; exact gb_ex_nx (by simp only [gb_stp, gb_cnd, decide_eq_false h]; rfl)
theorem x_ic_lt {m : Nat} {r : List Instr} {ls st : List Value} {p : gb_Pi} {g : gb_Sg} {t : Nat} {x y : Int32} : gb_ex m (.if_icmp .lt (no_index (OfNat.ofNat t)) :: r) ls (.int y :: .int x :: st) p g = if x < y then gb_ex m (gb_tgt m (OfNat.ofNat t)) ls st p g else gb_ex m r ls st p g := by
  by_cases h : x < y
  · rw [if_pos h]; exact gb_ex_jp (by simp only [gb_stp, gb_cnd, decide_eq_true h, if_true]; rfl)
  · rw [if_neg h]; exact gb_ex_nx (by simp only [gb_stp, gb_cnd, decide_eq_false h]; rfl)
theorem x_ic_ge {m : Nat} {r : List Instr} {ls st : List Value} {p : gb_Pi} {g : gb_Sg} {t : Nat} {x y : Int32} : gb_ex m (.if_icmp .ge (no_index (OfNat.ofNat t)) :: r) ls (.int y :: .int x :: st) p g = if y ≤ x then gb_ex m (gb_tgt m (OfNat.ofNat t)) ls st p g else gb_ex m r ls st p g := by
  by_cases h : y ≤ x
  · rw [if_pos h]; exact gb_ex_jp (by simp only [gb_stp, gb_cnd, decide_eq_true h, if_true]; rfl)
  · rw [if_neg h]; exact gb_ex_nx (by simp only [gb_stp, gb_cnd, decide_eq_false h]; rfl)
theorem x_ic_gt {m : Nat} {r : List Instr} {ls st : List Value} {p : gb_Pi} {g : gb_Sg} {t : Nat} {x y : Int32} : gb_ex m (.if_icmp .gt (no_index (OfNat.ofNat t)) :: r) ls (.int y :: .int x :: st) p g = if y < x then gb_ex m (gb_tgt m (OfNat.ofNat t)) ls st p g else gb_ex m r ls st p g := by
  by_cases h : y < x
  · rw [if_pos h]; exact gb_ex_jp (by simp only [gb_stp, gb_cnd, decide_eq_true h, if_true]; rfl)
  · rw [if_neg h]; exact gb_ex_nx (by simp only [gb_stp, gb_cnd, decide_eq_false h]; rfl)
theorem x_ic_le {m : Nat} {r : List Instr} {ls st : List Value} {p : gb_Pi} {g : gb_Sg} {t : Nat} {x y : Int32} : gb_ex m (.if_icmp .le (no_index (OfNat.ofNat t)) :: r) ls (.int y :: .int x :: st) p g = if x ≤ y then gb_ex m (gb_tgt m (OfNat.ofNat t)) ls st p g else gb_ex m r ls st p g := by
  by_cases h : x ≤ y
  · rw [if_pos h]; exact gb_ex_jp (by simp only [gb_stp, gb_cnd, decide_eq_true h, if_true]; rfl)
  · rw [if_neg h]; exact gb_ex_nx (by simp only [gb_stp, gb_cnd, decide_eq_false h]; rfl)
theorem lg_cmp_eq0 (x y : Int64) : lg_cmp x y = 0 ↔ x = y := by
  unfold lg_cmp
  split
  · rename_i h; constructor
    · intro q; exact absurd q (by decide)
    · intro q; subst q; exact absurd h (Int64.lt_irrefl)
  · split
    · rename_i h; exact ⟨fun _ => h, fun _ => rfl⟩
    · rename_i h; exact ⟨fun q => absurd q (by decide), fun q => absurd q h⟩
theorem lg_cmp_lt0 (x y : Int64) : lg_cmp x y < 0 ↔ x < y := by
  unfold lg_cmp
  split
  · rename_i h
    exact ⟨fun q => absurd q (by decide), fun q => absurd (Int64.lt_trans q h) Int64.lt_irrefl⟩
  · rename_i h1
    split
    · rename_i h; subst h; exact ⟨fun q => absurd q (by decide), fun q => absurd q Int64.lt_irrefl⟩
    · rename_i h
      refine ⟨fun _ => ?_, fun _ => by decide⟩
      rw [gt_iff_lt, Int64.lt_iff_toInt_lt] at h1
      rw [Int64.lt_iff_toInt_lt]
      have : x.toInt ≠ y.toInt := fun q => h (Int64.toInt_inj.mp q)
      omega
theorem lg_cmp_gt0 (x y : Int64) : 0 < lg_cmp x y ↔ y < x := by
  unfold lg_cmp
  split
  · rename_i h
    exact ⟨fun _ => h, fun _ => by decide⟩
  · rename_i h1
    split
    · exact ⟨fun q => absurd q (by decide), fun q => absurd q h1⟩
    · exact ⟨fun q => absurd q (by decide), fun q => absurd q h1⟩
theorem lg_cmp_ge0 (x y : Int64) : 0 ≤ lg_cmp x y ↔ y ≤ x := by
  have := lg_cmp_lt0 x y
  rw [← Int32.not_lt, this, Int64.not_lt]
theorem lg_cmp_le0 (x y : Int64) : lg_cmp x y ≤ 0 ↔ x ≤ y := by
  have := lg_cmp_gt0 x y
  rw [← Int32.not_lt, this, Int64.not_lt]
theorem x_lc_eq {m : Nat} {r : List Instr} {ls st : List Value} {p : gb_Pi} {g : gb_Sg} {t : Nat} {x y : Int64} : gb_ex m (.lcmp :: .ifCond .eq (no_index (OfNat.ofNat t)) :: r) ls (.long y :: .long x :: st) p g = if x = y then gb_ex m (gb_tgt m (OfNat.ofNat t)) ls st p g else gb_ex m r ls st p g := by
  rw [gb_ex_nx (show gb_stp .lcmp ls (.long y :: .long x :: st) p g = gb_nx ls (.int (lg_cmp x y) :: st) p g from rfl), x_if_eq]
  simp only [ne_eq, lg_cmp_eq0, lg_cmp_lt0, lg_cmp_gt0, lg_cmp_ge0, lg_cmp_le0]
theorem x_lc_ne {m : Nat} {r : List Instr} {ls st : List Value} {p : gb_Pi} {g : gb_Sg} {t : Nat} {x y : Int64} : gb_ex m (.lcmp :: .ifCond .ne (no_index (OfNat.ofNat t)) :: r) ls (.long y :: .long x :: st) p g = if x ≠ y then gb_ex m (gb_tgt m (OfNat.ofNat t)) ls st p g else gb_ex m r ls st p g := by
  rw [gb_ex_nx (show gb_stp .lcmp ls (.long y :: .long x :: st) p g = gb_nx ls (.int (lg_cmp x y) :: st) p g from rfl), x_if_ne]
  simp only [ne_eq, lg_cmp_eq0, lg_cmp_lt0, lg_cmp_gt0, lg_cmp_ge0, lg_cmp_le0]
theorem x_lc_lt {m : Nat} {r : List Instr} {ls st : List Value} {p : gb_Pi} {g : gb_Sg} {t : Nat} {x y : Int64} : gb_ex m (.lcmp :: .ifCond .lt (no_index (OfNat.ofNat t)) :: r) ls (.long y :: .long x :: st) p g = if x < y then gb_ex m (gb_tgt m (OfNat.ofNat t)) ls st p g else gb_ex m r ls st p g := by
  rw [gb_ex_nx (show gb_stp .lcmp ls (.long y :: .long x :: st) p g = gb_nx ls (.int (lg_cmp x y) :: st) p g from rfl), x_if_lt]
  simp only [ne_eq, lg_cmp_eq0, lg_cmp_lt0, lg_cmp_gt0, lg_cmp_ge0, lg_cmp_le0]
theorem x_lc_ge {m : Nat} {r : List Instr} {ls st : List Value} {p : gb_Pi} {g : gb_Sg} {t : Nat} {x y : Int64} : gb_ex m (.lcmp :: .ifCond .ge (no_index (OfNat.ofNat t)) :: r) ls (.long y :: .long x :: st) p g = if y ≤ x then gb_ex m (gb_tgt m (OfNat.ofNat t)) ls st p g else gb_ex m r ls st p g := by
  rw [gb_ex_nx (show gb_stp .lcmp ls (.long y :: .long x :: st) p g = gb_nx ls (.int (lg_cmp x y) :: st) p g from rfl), x_if_ge]
  simp only [ne_eq, lg_cmp_eq0, lg_cmp_lt0, lg_cmp_gt0, lg_cmp_ge0, lg_cmp_le0]
theorem x_lc_gt {m : Nat} {r : List Instr} {ls st : List Value} {p : gb_Pi} {g : gb_Sg} {t : Nat} {x y : Int64} : gb_ex m (.lcmp :: .ifCond .gt (no_index (OfNat.ofNat t)) :: r) ls (.long y :: .long x :: st) p g = if y < x then gb_ex m (gb_tgt m (OfNat.ofNat t)) ls st p g else gb_ex m r ls st p g := by
  rw [gb_ex_nx (show gb_stp .lcmp ls (.long y :: .long x :: st) p g = gb_nx ls (.int (lg_cmp x y) :: st) p g from rfl), x_if_gt]
  simp only [ne_eq, lg_cmp_eq0, lg_cmp_lt0, lg_cmp_gt0, lg_cmp_ge0, lg_cmp_le0]
theorem x_lc_le {m : Nat} {r : List Instr} {ls st : List Value} {p : gb_Pi} {g : gb_Sg} {t : Nat} {x y : Int64} : gb_ex m (.lcmp :: .ifCond .le (no_index (OfNat.ofNat t)) :: r) ls (.long y :: .long x :: st) p g = if x ≤ y then gb_ex m (gb_tgt m (OfNat.ofNat t)) ls st p g else gb_ex m r ls st p g := by
  rw [gb_ex_nx (show gb_stp .lcmp ls (.long y :: .long x :: st) p g = gb_nx ls (.int (lg_cmp x y) :: st) p g from rfl), x_if_le]
  simp only [ne_eq, lg_cmp_eq0, lg_cmp_lt0, lg_cmp_gt0, lg_cmp_ge0, lg_cmp_le0]
def gb_orf {α : Type} (o : Option Nat) (f : Nat → Option α) : Option α := match o with
  | some b => f b
  | none => none
theorem orf_some {α : Type} (b : Nat) (f : Nat → Option α) : gb_orf (some b) f = f b := rfl
theorem x_get_0 {m : Nat} {r : List Instr} {ls st : List Value} {p : gb_Pi} {I : Nat → Nat → Int32} {J : Nat → Nat → Int64} {q : Bool × Bool} {X : Nat × (Nat → Int32)} {a : Nat} (h : atag p a = 10) : gb_ex m (.getfield 0 :: r) ls (.ref a :: st) p (gS I J q X) = gb_orf (gb_Rw q a 0) (fun b => gb_ex m r ls (.ref b :: st) p (gS I J q X)) := by
  cases hz : gb_Rw q a 0 with
  | none => exact gb_ex_no (by
      show (if atag p a = 10 then _ else _) = _
      rw [if_pos h]
      show (match gb_Rw q a 0 with | some b => _ | none => _) = _
      rw [hz])
  | some b => exact gb_ex_nx (by
      show (if atag p a = 10 then _ else _) = _
      rw [if_pos h]
      show (match gb_Rw q a 0 with | some b => _ | none => _) = _
      rw [hz])
theorem x_put_0 {m : Nat} {r : List Instr} {ls st : List Value} {p : gb_Pi} {g : gb_Sg} {a x : Nat} (h : atag p a = 10) : gb_ex m (.putfield 0 :: r) ls (.ref x :: .ref a :: st) p g = gb_ex m r ls st p (sR g a 0 (some x)) := gb_ex_nx (by
  show (if atag p a = 10 then _ else _) = _
  rw [if_pos h] <;> rfl)
theorem x_get_1 {m : Nat} {r : List Instr} {ls st : List Value} {p : gb_Pi} {g : gb_Sg} {a : Nat} (h : atag p a = 10) : gb_ex m (.getfield 1 :: r) ls (.ref a :: st) p g = gb_ex m r ls (.int (gI g a 1) :: st) p g := gb_ex_nx (by
  show (if atag p a = 10 then _ else _) = _
  rw [if_pos h] <;> rfl)
theorem x_put_1 {m : Nat} {r : List Instr} {ls st : List Value} {p : gb_Pi} {g : gb_Sg} {a : Nat} {x : Int32} (h : atag p a = 10) : gb_ex m (.putfield 1 :: r) ls (.int x :: .ref a :: st) p g = gb_ex m r ls st p (sI g a 1 x) := gb_ex_nx (by
  show (if atag p a = 10 then _ else _) = _
  rw [if_pos h] <;> rfl)
theorem x_get_2 {m : Nat} {r : List Instr} {ls st : List Value} {p : gb_Pi} {I : Nat → Nat → Int32} {J : Nat → Nat → Int64} {q : Bool × Bool} {X : Nat × (Nat → Int32)} {a : Nat} (h : atag p a = 10) : gb_ex m (.getfield 2 :: r) ls (.ref a :: st) p (gS I J q X) = gb_orf (gb_Rw q a 2) (fun b => gb_ex m r ls (.ref b :: st) p (gS I J q X)) := by
  cases hz : gb_Rw q a 2 with
  | none => exact gb_ex_no (by
      show (if atag p a = 10 then _ else _) = _
      rw [if_pos h]
      show (match gb_Rw q a 2 with | some b => _ | none => _) = _
      rw [hz])
  | some b => exact gb_ex_nx (by
      show (if atag p a = 10 then _ else _) = _
      rw [if_pos h]
      show (match gb_Rw q a 2 with | some b => _ | none => _) = _
      rw [hz])
theorem x_put_2 {m : Nat} {r : List Instr} {ls st : List Value} {p : gb_Pi} {g : gb_Sg} {a x : Nat} (h : atag p a = 10) : gb_ex m (.putfield 2 :: r) ls (.ref x :: .ref a :: st) p g = gb_ex m r ls st p (sR g a 2 (some x)) := gb_ex_nx (by
  show (if atag p a = 10 then _ else _) = _
  rw [if_pos h] <;> rfl)
theorem x_get_3 {m : Nat} {r : List Instr} {ls st : List Value} {p : gb_Pi} {g : gb_Sg} {a : Nat} (h : atag p a = 10) : gb_ex m (.getfield 3 :: r) ls (.ref a :: st) p g = gb_ex m r ls (.int (gI g a 3) :: st) p g := gb_ex_nx (by
  show (if atag p a = 10 then _ else _) = _
  rw [if_pos h] <;> rfl)
theorem x_put_3 {m : Nat} {r : List Instr} {ls st : List Value} {p : gb_Pi} {g : gb_Sg} {a : Nat} {x : Int32} (h : atag p a = 10) : gb_ex m (.putfield 3 :: r) ls (.int x :: .ref a :: st) p g = gb_ex m r ls st p (sI g a 3 x) := gb_ex_nx (by
  show (if atag p a = 10 then _ else _) = _
  rw [if_pos h] <;> rfl)
theorem x_get_4 {m : Nat} {r : List Instr} {ls st : List Value} {p : gb_Pi} {I : Nat → Nat → Int32} {J : Nat → Nat → Int64} {q : Bool × Bool} {X : Nat × (Nat → Int32)} {a : Nat} (h : atag p a = 10) : gb_ex m (.getfield 4 :: r) ls (.ref a :: st) p (gS I J q X) = gb_orf (gb_Rw q a 4) (fun b => gb_ex m r ls (.ref b :: st) p (gS I J q X)) := by
  cases hz : gb_Rw q a 4 with
  | none => exact gb_ex_no (by
      show (if atag p a = 10 then _ else _) = _
      rw [if_pos h]
      show (match gb_Rw q a 4 with | some b => _ | none => _) = _
      rw [hz])
  | some b => exact gb_ex_nx (by
      show (if atag p a = 10 then _ else _) = _
      rw [if_pos h]
      show (match gb_Rw q a 4 with | some b => _ | none => _) = _
      rw [hz])
theorem x_put_4 {m : Nat} {r : List Instr} {ls st : List Value} {p : gb_Pi} {g : gb_Sg} {a x : Nat} (h : atag p a = 10) : gb_ex m (.putfield 4 :: r) ls (.ref x :: .ref a :: st) p g = gb_ex m r ls st p (sR g a 4 (some x)) := gb_ex_nx (by
  show (if atag p a = 10 then _ else _) = _
  rw [if_pos h] <;> rfl)
theorem x_get_5 {m : Nat} {r : List Instr} {ls st : List Value} {p : gb_Pi} {I : Nat → Nat → Int32} {J : Nat → Nat → Int64} {q : Bool × Bool} {X : Nat × (Nat → Int32)} {a : Nat} (h : atag p a = 10) : gb_ex m (.getfield 5 :: r) ls (.ref a :: st) p (gS I J q X) = gb_orf (gb_Rw q a 5) (fun b => gb_ex m r ls (.ref b :: st) p (gS I J q X)) := by
  cases hz : gb_Rw q a 5 with
  | none => exact gb_ex_no (by
      show (if atag p a = 10 then _ else _) = _
      rw [if_pos h]
      show (match gb_Rw q a 5 with | some b => _ | none => _) = _
      rw [hz])
  | some b => exact gb_ex_nx (by
      show (if atag p a = 10 then _ else _) = _
      rw [if_pos h]
      show (match gb_Rw q a 5 with | some b => _ | none => _) = _
      rw [hz])
theorem x_put_5 {m : Nat} {r : List Instr} {ls st : List Value} {p : gb_Pi} {g : gb_Sg} {a x : Nat} (h : atag p a = 10) : gb_ex m (.putfield 5 :: r) ls (.ref x :: .ref a :: st) p g = gb_ex m r ls st p (sR g a 5 (some x)) := gb_ex_nx (by
  show (if atag p a = 10 then _ else _) = _
  rw [if_pos h] <;> rfl)
theorem x_get_6 {m : Nat} {r : List Instr} {ls st : List Value} {p : gb_Pi} {I : Nat → Nat → Int32} {J : Nat → Nat → Int64} {q : Bool × Bool} {X : Nat × (Nat → Int32)} {a : Nat} (h : atag p a = 10) : gb_ex m (.getfield 6 :: r) ls (.ref a :: st) p (gS I J q X) = gb_orf (gb_Rw q a 6) (fun b => gb_ex m r ls (.ref b :: st) p (gS I J q X)) := by
  cases hz : gb_Rw q a 6 with
  | none => exact gb_ex_no (by
      show (if atag p a = 10 then _ else _) = _
      rw [if_pos h]
      show (match gb_Rw q a 6 with | some b => _ | none => _) = _
      rw [hz])
  | some b => exact gb_ex_nx (by
      show (if atag p a = 10 then _ else _) = _
      rw [if_pos h]
      show (match gb_Rw q a 6 with | some b => _ | none => _) = _
      rw [hz])
theorem x_put_6 {m : Nat} {r : List Instr} {ls st : List Value} {p : gb_Pi} {g : gb_Sg} {a x : Nat} (h : atag p a = 10) : gb_ex m (.putfield 6 :: r) ls (.ref x :: .ref a :: st) p g = gb_ex m r ls st p (sR g a 6 (some x)) := gb_ex_nx (by
  show (if atag p a = 10 then _ else _) = _
  rw [if_pos h] <;> rfl)
theorem x_get_7 {m : Nat} {r : List Instr} {ls st : List Value} {p : gb_Pi} {I : Nat → Nat → Int32} {J : Nat → Nat → Int64} {q : Bool × Bool} {X : Nat × (Nat → Int32)} {a : Nat} (h : atag p a = 10) : gb_ex m (.getfield 7 :: r) ls (.ref a :: st) p (gS I J q X) = gb_orf (gb_Rw q a 7) (fun b => gb_ex m r ls (.ref b :: st) p (gS I J q X)) := by
  cases hz : gb_Rw q a 7 with
  | none => exact gb_ex_no (by
      show (if atag p a = 10 then _ else _) = _
      rw [if_pos h]
      show (match gb_Rw q a 7 with | some b => _ | none => _) = _
      rw [hz])
  | some b => exact gb_ex_nx (by
      show (if atag p a = 10 then _ else _) = _
      rw [if_pos h]
      show (match gb_Rw q a 7 with | some b => _ | none => _) = _
      rw [hz])
theorem x_put_7 {m : Nat} {r : List Instr} {ls st : List Value} {p : gb_Pi} {g : gb_Sg} {a x : Nat} (h : atag p a = 10) : gb_ex m (.putfield 7 :: r) ls (.ref x :: .ref a :: st) p g = gb_ex m r ls st p (sR g a 7 (some x)) := gb_ex_nx (by
  show (if atag p a = 10 then _ else _) = _
  rw [if_pos h] <;> rfl)
theorem x_get_8 {m : Nat} {r : List Instr} {ls st : List Value} {p : gb_Pi} {g : gb_Sg} {a : Nat} (h : atag p a = 10) : gb_ex m (.getfield 8 :: r) ls (.ref a :: st) p g = gb_ex m r ls (.int (gI g a 8) :: st) p g := gb_ex_nx (by
  show (if atag p a = 10 then _ else _) = _
  rw [if_pos h] <;> rfl)
theorem x_put_8 {m : Nat} {r : List Instr} {ls st : List Value} {p : gb_Pi} {g : gb_Sg} {a : Nat} {x : Int32} (h : atag p a = 10) : gb_ex m (.putfield 8 :: r) ls (.int x :: .ref a :: st) p g = gb_ex m r ls st p (sI g a 8 x) := gb_ex_nx (by
  show (if atag p a = 10 then _ else _) = _
  rw [if_pos h] <;> rfl)
theorem x_get_9 {m : Nat} {r : List Instr} {ls st : List Value} {p : gb_Pi} {I : Nat → Nat → Int32} {J : Nat → Nat → Int64} {q : Bool × Bool} {X : Nat × (Nat → Int32)} {a : Nat} (h : atag p a = 10) : gb_ex m (.getfield 9 :: r) ls (.ref a :: st) p (gS I J q X) = gb_orf (gb_Rw q a 9) (fun b => gb_ex m r ls (.ref b :: st) p (gS I J q X)) := by
  cases hz : gb_Rw q a 9 with
  | none => exact gb_ex_no (by
      show (if atag p a = 10 then _ else _) = _
      rw [if_pos h]
      show (match gb_Rw q a 9 with | some b => _ | none => _) = _
      rw [hz])
  | some b => exact gb_ex_nx (by
      show (if atag p a = 10 then _ else _) = _
      rw [if_pos h]
      show (match gb_Rw q a 9 with | some b => _ | none => _) = _
      rw [hz])
theorem x_put_9 {m : Nat} {r : List Instr} {ls st : List Value} {p : gb_Pi} {g : gb_Sg} {a x : Nat} (h : atag p a = 10) : gb_ex m (.putfield 9 :: r) ls (.ref x :: .ref a :: st) p g = gb_ex m r ls st p (sR g a 9 (some x)) := gb_ex_nx (by
  show (if atag p a = 10 then _ else _) = _
  rw [if_pos h] <;> rfl)
theorem x_get_10 {m : Nat} {r : List Instr} {ls st : List Value} {p : gb_Pi} {I : Nat → Nat → Int32} {J : Nat → Nat → Int64} {q : Bool × Bool} {X : Nat × (Nat → Int32)} {a : Nat} (h : atag p a = 10) : gb_ex m (.getfield 10 :: r) ls (.ref a :: st) p (gS I J q X) = gb_orf (gb_Rw q a 10) (fun b => gb_ex m r ls (.ref b :: st) p (gS I J q X)) := by
  cases hz : gb_Rw q a 10 with
  | none => exact gb_ex_no (by
      show (if atag p a = 10 then _ else _) = _
      rw [if_pos h]
      show (match gb_Rw q a 10 with | some b => _ | none => _) = _
      rw [hz])
  | some b => exact gb_ex_nx (by
      show (if atag p a = 10 then _ else _) = _
      rw [if_pos h]
      show (match gb_Rw q a 10 with | some b => _ | none => _) = _
      rw [hz])
theorem x_put_10 {m : Nat} {r : List Instr} {ls st : List Value} {p : gb_Pi} {g : gb_Sg} {a x : Nat} (h : atag p a = 10) : gb_ex m (.putfield 10 :: r) ls (.ref x :: .ref a :: st) p g = gb_ex m r ls st p (sR g a 10 (some x)) := gb_ex_nx (by
  show (if atag p a = 10 then _ else _) = _
  rw [if_pos h] <;> rfl)
theorem x_get_11 {m : Nat} {r : List Instr} {ls st : List Value} {p : gb_Pi} {I : Nat → Nat → Int32} {J : Nat → Nat → Int64} {q : Bool × Bool} {X : Nat × (Nat → Int32)} {a : Nat} (h : atag p a = 10) : gb_ex m (.getfield 11 :: r) ls (.ref a :: st) p (gS I J q X) = gb_orf (gb_Rw q a 11) (fun b => gb_ex m r ls (.ref b :: st) p (gS I J q X)) := by
  cases hz : gb_Rw q a 11 with
  | none => exact gb_ex_no (by
      show (if atag p a = 10 then _ else _) = _
      rw [if_pos h]
      show (match gb_Rw q a 11 with | some b => _ | none => _) = _
      rw [hz])
  | some b => exact gb_ex_nx (by
      show (if atag p a = 10 then _ else _) = _
      rw [if_pos h]
      show (match gb_Rw q a 11 with | some b => _ | none => _) = _
      rw [hz])
theorem x_put_11 {m : Nat} {r : List Instr} {ls st : List Value} {p : gb_Pi} {g : gb_Sg} {a x : Nat} (h : atag p a = 10) : gb_ex m (.putfield 11 :: r) ls (.ref x :: .ref a :: st) p g = gb_ex m r ls st p (sR g a 11 (some x)) := gb_ex_nx (by
  show (if atag p a = 10 then _ else _) = _
  rw [if_pos h] <;> rfl)
theorem x_get_12 {m : Nat} {r : List Instr} {ls st : List Value} {p : gb_Pi} {I : Nat → Nat → Int32} {J : Nat → Nat → Int64} {q : Bool × Bool} {X : Nat × (Nat → Int32)} {a : Nat} (h : atag p a = 10) : gb_ex m (.getfield 12 :: r) ls (.ref a :: st) p (gS I J q X) = gb_orf (gb_Rw q a 12) (fun b => gb_ex m r ls (.ref b :: st) p (gS I J q X)) := by
  cases hz : gb_Rw q a 12 with
  | none => exact gb_ex_no (by
      show (if atag p a = 10 then _ else _) = _
      rw [if_pos h]
      show (match gb_Rw q a 12 with | some b => _ | none => _) = _
      rw [hz])
  | some b => exact gb_ex_nx (by
      show (if atag p a = 10 then _ else _) = _
      rw [if_pos h]
      show (match gb_Rw q a 12 with | some b => _ | none => _) = _
      rw [hz])
theorem x_put_12 {m : Nat} {r : List Instr} {ls st : List Value} {p : gb_Pi} {g : gb_Sg} {a x : Nat} (h : atag p a = 10) : gb_ex m (.putfield 12 :: r) ls (.ref x :: .ref a :: st) p g = gb_ex m r ls st p (sR g a 12 (some x)) := gb_ex_nx (by
  show (if atag p a = 10 then _ else _) = _
  rw [if_pos h] <;> rfl)
theorem x_get_13 {m : Nat} {r : List Instr} {ls st : List Value} {p : gb_Pi} {I : Nat → Nat → Int32} {J : Nat → Nat → Int64} {q : Bool × Bool} {X : Nat × (Nat → Int32)} {a : Nat} (h : atag p a = 10) : gb_ex m (.getfield 13 :: r) ls (.ref a :: st) p (gS I J q X) = gb_orf (gb_Rw q a 13) (fun b => gb_ex m r ls (.ref b :: st) p (gS I J q X)) := by
  cases hz : gb_Rw q a 13 with
  | none => exact gb_ex_no (by
      show (if atag p a = 10 then _ else _) = _
      rw [if_pos h]
      show (match gb_Rw q a 13 with | some b => _ | none => _) = _
      rw [hz])
  | some b => exact gb_ex_nx (by
      show (if atag p a = 10 then _ else _) = _
      rw [if_pos h]
      show (match gb_Rw q a 13 with | some b => _ | none => _) = _
      rw [hz])
theorem x_put_13 {m : Nat} {r : List Instr} {ls st : List Value} {p : gb_Pi} {g : gb_Sg} {a x : Nat} (h : atag p a = 10) : gb_ex m (.putfield 13 :: r) ls (.ref x :: .ref a :: st) p g = gb_ex m r ls st p (sR g a 13 (some x)) := gb_ex_nx (by
  show (if atag p a = 10 then _ else _) = _
  rw [if_pos h] <;> rfl)
theorem x_get_64 {m : Nat} {r : List Instr} {ls st : List Value} {p : gb_Pi} {g : gb_Sg} {a : Nat} (h : atag p a = 11) : gb_ex m (.getfield 64 :: r) ls (.ref a :: st) p g = gb_ex m r ls (.int (gI g a 0) :: st) p g := gb_ex_nx (by
  show (if atag p a = 11 then _ else _) = _
  rw [if_pos h] <;> rfl)
theorem x_put_64 {m : Nat} {r : List Instr} {ls st : List Value} {p : gb_Pi} {g : gb_Sg} {a : Nat} {x : Int32} (h : atag p a = 11) : gb_ex m (.putfield 64 :: r) ls (.int x :: .ref a :: st) p g = gb_ex m r ls st p (sI g a 0 x) := gb_ex_nx (by
  show (if atag p a = 11 then _ else _) = _
  rw [if_pos h] <;> rfl)
theorem x_get_65 {m : Nat} {r : List Instr} {ls st : List Value} {p : gb_Pi} {g : gb_Sg} {a : Nat} (h : atag p a = 11) : gb_ex m (.getfield 65 :: r) ls (.ref a :: st) p g = gb_ex m r ls (.int (gI g a 1) :: st) p g := gb_ex_nx (by
  show (if atag p a = 11 then _ else _) = _
  rw [if_pos h] <;> rfl)
theorem x_put_65 {m : Nat} {r : List Instr} {ls st : List Value} {p : gb_Pi} {g : gb_Sg} {a : Nat} {x : Int32} (h : atag p a = 11) : gb_ex m (.putfield 65 :: r) ls (.int x :: .ref a :: st) p g = gb_ex m r ls st p (sI g a 1 x) := gb_ex_nx (by
  show (if atag p a = 11 then _ else _) = _
  rw [if_pos h] <;> rfl)
theorem x_get_66 {m : Nat} {r : List Instr} {ls st : List Value} {p : gb_Pi} {I : Nat → Nat → Int32} {J : Nat → Nat → Int64} {q : Bool × Bool} {X : Nat × (Nat → Int32)} {a : Nat} (h : atag p a = 11) : gb_ex m (.getfield 66 :: r) ls (.ref a :: st) p (gS I J q X) = gb_orf (gb_Rw q a 2) (fun b => gb_ex m r ls (.ref b :: st) p (gS I J q X)) := by
  cases hz : gb_Rw q a 2 with
  | none => exact gb_ex_no (by
      show (if atag p a = 11 then _ else _) = _
      rw [if_pos h]
      show (match gb_Rw q a 2 with | some b => _ | none => _) = _
      rw [hz])
  | some b => exact gb_ex_nx (by
      show (if atag p a = 11 then _ else _) = _
      rw [if_pos h]
      show (match gb_Rw q a 2 with | some b => _ | none => _) = _
      rw [hz])
theorem x_put_66 {m : Nat} {r : List Instr} {ls st : List Value} {p : gb_Pi} {g : gb_Sg} {a x : Nat} (h : atag p a = 11) : gb_ex m (.putfield 66 :: r) ls (.ref x :: .ref a :: st) p g = gb_ex m r ls st p (sR g a 2 (some x)) := gb_ex_nx (by
  show (if atag p a = 11 then _ else _) = _
  rw [if_pos h] <;> rfl)
theorem x_get_67 {m : Nat} {r : List Instr} {ls st : List Value} {p : gb_Pi} {I : Nat → Nat → Int32} {J : Nat → Nat → Int64} {q : Bool × Bool} {X : Nat × (Nat → Int32)} {a : Nat} (h : atag p a = 11) : gb_ex m (.getfield 67 :: r) ls (.ref a :: st) p (gS I J q X) = gb_orf (gb_Rw q a 3) (fun b => gb_ex m r ls (.ref b :: st) p (gS I J q X)) := by
  cases hz : gb_Rw q a 3 with
  | none => exact gb_ex_no (by
      show (if atag p a = 11 then _ else _) = _
      rw [if_pos h]
      show (match gb_Rw q a 3 with | some b => _ | none => _) = _
      rw [hz])
  | some b => exact gb_ex_nx (by
      show (if atag p a = 11 then _ else _) = _
      rw [if_pos h]
      show (match gb_Rw q a 3 with | some b => _ | none => _) = _
      rw [hz])
theorem x_put_67 {m : Nat} {r : List Instr} {ls st : List Value} {p : gb_Pi} {g : gb_Sg} {a x : Nat} (h : atag p a = 11) : gb_ex m (.putfield 67 :: r) ls (.ref x :: .ref a :: st) p g = gb_ex m r ls st p (sR g a 3 (some x)) := gb_ex_nx (by
  show (if atag p a = 11 then _ else _) = _
  rw [if_pos h] <;> rfl)
theorem x_get_68 {m : Nat} {r : List Instr} {ls st : List Value} {p : gb_Pi} {I : Nat → Nat → Int32} {J : Nat → Nat → Int64} {q : Bool × Bool} {X : Nat × (Nat → Int32)} {a : Nat} (h : atag p a = 11) : gb_ex m (.getfield 68 :: r) ls (.ref a :: st) p (gS I J q X) = gb_orf (gb_Rw q a 4) (fun b => gb_ex m r ls (.ref b :: st) p (gS I J q X)) := by
  cases hz : gb_Rw q a 4 with
  | none => exact gb_ex_no (by
      show (if atag p a = 11 then _ else _) = _
      rw [if_pos h]
      show (match gb_Rw q a 4 with | some b => _ | none => _) = _
      rw [hz])
  | some b => exact gb_ex_nx (by
      show (if atag p a = 11 then _ else _) = _
      rw [if_pos h]
      show (match gb_Rw q a 4 with | some b => _ | none => _) = _
      rw [hz])
theorem x_put_68 {m : Nat} {r : List Instr} {ls st : List Value} {p : gb_Pi} {g : gb_Sg} {a x : Nat} (h : atag p a = 11) : gb_ex m (.putfield 68 :: r) ls (.ref x :: .ref a :: st) p g = gb_ex m r ls st p (sR g a 4 (some x)) := gb_ex_nx (by
  show (if atag p a = 11 then _ else _) = _
  rw [if_pos h] <;> rfl)
theorem x_get_128 {m : Nat} {r : List Instr} {ls st : List Value} {p : gb_Pi} {g : gb_Sg} {a : Nat} (h : atag p a = 12) : gb_ex m (.getfield 128 :: r) ls (.ref a :: st) p g = gb_ex m r ls (.int (gI g a 0) :: st) p g := gb_ex_nx (by
  show (if atag p a = 12 then _ else _) = _
  rw [if_pos h] <;> rfl)
theorem x_put_128 {m : Nat} {r : List Instr} {ls st : List Value} {p : gb_Pi} {g : gb_Sg} {a : Nat} {x : Int32} (h : atag p a = 12) : gb_ex m (.putfield 128 :: r) ls (.int x :: .ref a :: st) p g = gb_ex m r ls st p (sI g a 0 x) := gb_ex_nx (by
  show (if atag p a = 12 then _ else _) = _
  rw [if_pos h] <;> rfl)
theorem x_get_129 {m : Nat} {r : List Instr} {ls st : List Value} {p : gb_Pi} {I : Nat → Nat → Int32} {J : Nat → Nat → Int64} {q : Bool × Bool} {X : Nat × (Nat → Int32)} {a : Nat} (h : atag p a = 12) : gb_ex m (.getfield 129 :: r) ls (.ref a :: st) p (gS I J q X) = gb_orf (gb_Rw q a 1) (fun b => gb_ex m r ls (.ref b :: st) p (gS I J q X)) := by
  cases hz : gb_Rw q a 1 with
  | none => exact gb_ex_no (by
      show (if atag p a = 12 then _ else _) = _
      rw [if_pos h]
      show (match gb_Rw q a 1 with | some b => _ | none => _) = _
      rw [hz])
  | some b => exact gb_ex_nx (by
      show (if atag p a = 12 then _ else _) = _
      rw [if_pos h]
      show (match gb_Rw q a 1 with | some b => _ | none => _) = _
      rw [hz])
theorem x_put_129 {m : Nat} {r : List Instr} {ls st : List Value} {p : gb_Pi} {g : gb_Sg} {a x : Nat} (h : atag p a = 12) : gb_ex m (.putfield 129 :: r) ls (.ref x :: .ref a :: st) p g = gb_ex m r ls st p (sR g a 1 (some x)) := gb_ex_nx (by
  show (if atag p a = 12 then _ else _) = _
  rw [if_pos h] <;> rfl)
theorem x_get_130 {m : Nat} {r : List Instr} {ls st : List Value} {p : gb_Pi} {I : Nat → Nat → Int32} {J : Nat → Nat → Int64} {q : Bool × Bool} {X : Nat × (Nat → Int32)} {a : Nat} (h : atag p a = 12) : gb_ex m (.getfield 130 :: r) ls (.ref a :: st) p (gS I J q X) = gb_orf (gb_Rw q a 2) (fun b => gb_ex m r ls (.ref b :: st) p (gS I J q X)) := by
  cases hz : gb_Rw q a 2 with
  | none => exact gb_ex_no (by
      show (if atag p a = 12 then _ else _) = _
      rw [if_pos h]
      show (match gb_Rw q a 2 with | some b => _ | none => _) = _
      rw [hz])
  | some b => exact gb_ex_nx (by
      show (if atag p a = 12 then _ else _) = _
      rw [if_pos h]
      show (match gb_Rw q a 2 with | some b => _ | none => _) = _
      rw [hz])
theorem x_put_130 {m : Nat} {r : List Instr} {ls st : List Value} {p : gb_Pi} {g : gb_Sg} {a x : Nat} (h : atag p a = 12) : gb_ex m (.putfield 130 :: r) ls (.ref x :: .ref a :: st) p g = gb_ex m r ls st p (sR g a 2 (some x)) := gb_ex_nx (by
  show (if atag p a = 12 then _ else _) = _
  rw [if_pos h] <;> rfl)
theorem x_get_131 {m : Nat} {r : List Instr} {ls st : List Value} {p : gb_Pi} {I : Nat → Nat → Int32} {J : Nat → Nat → Int64} {q : Bool × Bool} {X : Nat × (Nat → Int32)} {a : Nat} (h : atag p a = 12) : gb_ex m (.getfield 131 :: r) ls (.ref a :: st) p (gS I J q X) = gb_orf (gb_Rw q a 3) (fun b => gb_ex m r ls (.ref b :: st) p (gS I J q X)) := by
  cases hz : gb_Rw q a 3 with
  | none => exact gb_ex_no (by
      show (if atag p a = 12 then _ else _) = _
      rw [if_pos h]
      show (match gb_Rw q a 3 with | some b => _ | none => _) = _
      rw [hz])
  | some b => exact gb_ex_nx (by
      show (if atag p a = 12 then _ else _) = _
      rw [if_pos h]
      show (match gb_Rw q a 3 with | some b => _ | none => _) = _
      rw [hz])
theorem x_put_131 {m : Nat} {r : List Instr} {ls st : List Value} {p : gb_Pi} {g : gb_Sg} {a x : Nat} (h : atag p a = 12) : gb_ex m (.putfield 131 :: r) ls (.ref x :: .ref a :: st) p g = gb_ex m r ls st p (sR g a 3 (some x)) := gb_ex_nx (by
  show (if atag p a = 12 then _ else _) = _
  rw [if_pos h] <;> rfl)
theorem x_get_132 {m : Nat} {r : List Instr} {ls st : List Value} {p : gb_Pi} {I : Nat → Nat → Int32} {J : Nat → Nat → Int64} {q : Bool × Bool} {X : Nat × (Nat → Int32)} {a : Nat} (h : atag p a = 12) : gb_ex m (.getfield 132 :: r) ls (.ref a :: st) p (gS I J q X) = gb_orf (gb_Rw q a 4) (fun b => gb_ex m r ls (.ref b :: st) p (gS I J q X)) := by
  cases hz : gb_Rw q a 4 with
  | none => exact gb_ex_no (by
      show (if atag p a = 12 then _ else _) = _
      rw [if_pos h]
      show (match gb_Rw q a 4 with | some b => _ | none => _) = _
      rw [hz])
  | some b => exact gb_ex_nx (by
      show (if atag p a = 12 then _ else _) = _
      rw [if_pos h]
      show (match gb_Rw q a 4 with | some b => _ | none => _) = _
      rw [hz])
theorem x_put_132 {m : Nat} {r : List Instr} {ls st : List Value} {p : gb_Pi} {g : gb_Sg} {a x : Nat} (h : atag p a = 12) : gb_ex m (.putfield 132 :: r) ls (.ref x :: .ref a :: st) p g = gb_ex m r ls st p (sR g a 4 (some x)) := gb_ex_nx (by
  show (if atag p a = 12 then _ else _) = _
  rw [if_pos h] <;> rfl)
theorem x_get_133 {m : Nat} {r : List Instr} {ls st : List Value} {p : gb_Pi} {I : Nat → Nat → Int32} {J : Nat → Nat → Int64} {q : Bool × Bool} {X : Nat × (Nat → Int32)} {a : Nat} (h : atag p a = 12) : gb_ex m (.getfield 133 :: r) ls (.ref a :: st) p (gS I J q X) = gb_orf (gb_Rw q a 5) (fun b => gb_ex m r ls (.ref b :: st) p (gS I J q X)) := by
  cases hz : gb_Rw q a 5 with
  | none => exact gb_ex_no (by
      show (if atag p a = 12 then _ else _) = _
      rw [if_pos h]
      show (match gb_Rw q a 5 with | some b => _ | none => _) = _
      rw [hz])
  | some b => exact gb_ex_nx (by
      show (if atag p a = 12 then _ else _) = _
      rw [if_pos h]
      show (match gb_Rw q a 5 with | some b => _ | none => _) = _
      rw [hz])
theorem x_put_133 {m : Nat} {r : List Instr} {ls st : List Value} {p : gb_Pi} {g : gb_Sg} {a x : Nat} (h : atag p a = 12) : gb_ex m (.putfield 133 :: r) ls (.ref x :: .ref a :: st) p g = gb_ex m r ls st p (sR g a 5 (some x)) := gb_ex_nx (by
  show (if atag p a = 12 then _ else _) = _
  rw [if_pos h] <;> rfl)
theorem x_get_134 {m : Nat} {r : List Instr} {ls st : List Value} {p : gb_Pi} {I : Nat → Nat → Int32} {J : Nat → Nat → Int64} {q : Bool × Bool} {X : Nat × (Nat → Int32)} {a : Nat} (h : atag p a = 12) : gb_ex m (.getfield 134 :: r) ls (.ref a :: st) p (gS I J q X) = gb_orf (gb_Rw q a 6) (fun b => gb_ex m r ls (.ref b :: st) p (gS I J q X)) := by
  cases hz : gb_Rw q a 6 with
  | none => exact gb_ex_no (by
      show (if atag p a = 12 then _ else _) = _
      rw [if_pos h]
      show (match gb_Rw q a 6 with | some b => _ | none => _) = _
      rw [hz])
  | some b => exact gb_ex_nx (by
      show (if atag p a = 12 then _ else _) = _
      rw [if_pos h]
      show (match gb_Rw q a 6 with | some b => _ | none => _) = _
      rw [hz])
theorem x_put_134 {m : Nat} {r : List Instr} {ls st : List Value} {p : gb_Pi} {g : gb_Sg} {a x : Nat} (h : atag p a = 12) : gb_ex m (.putfield 134 :: r) ls (.ref x :: .ref a :: st) p g = gb_ex m r ls st p (sR g a 6 (some x)) := gb_ex_nx (by
  show (if atag p a = 12 then _ else _) = _
  rw [if_pos h] <;> rfl)
theorem x_get_135 {m : Nat} {r : List Instr} {ls st : List Value} {p : gb_Pi} {I : Nat → Nat → Int32} {J : Nat → Nat → Int64} {q : Bool × Bool} {X : Nat × (Nat → Int32)} {a : Nat} (h : atag p a = 12) : gb_ex m (.getfield 135 :: r) ls (.ref a :: st) p (gS I J q X) = gb_orf (gb_Rw q a 7) (fun b => gb_ex m r ls (.ref b :: st) p (gS I J q X)) := by
  cases hz : gb_Rw q a 7 with
  | none => exact gb_ex_no (by
      show (if atag p a = 12 then _ else _) = _
      rw [if_pos h]
      show (match gb_Rw q a 7 with | some b => _ | none => _) = _
      rw [hz])
  | some b => exact gb_ex_nx (by
      show (if atag p a = 12 then _ else _) = _
      rw [if_pos h]
      show (match gb_Rw q a 7 with | some b => _ | none => _) = _
      rw [hz])
theorem x_put_135 {m : Nat} {r : List Instr} {ls st : List Value} {p : gb_Pi} {g : gb_Sg} {a x : Nat} (h : atag p a = 12) : gb_ex m (.putfield 135 :: r) ls (.ref x :: .ref a :: st) p g = gb_ex m r ls st p (sR g a 7 (some x)) := gb_ex_nx (by
  show (if atag p a = 12 then _ else _) = _
  rw [if_pos h] <;> rfl)
theorem x_get_192 {m : Nat} {r : List Instr} {ls st : List Value} {p : gb_Pi} {I : Nat → Nat → Int32} {J : Nat → Nat → Int64} {q : Bool × Bool} {X : Nat × (Nat → Int32)} {a : Nat} (h : atag p a = 13) : gb_ex m (.getfield 192 :: r) ls (.ref a :: st) p (gS I J q X) = gb_orf (gb_Rw q a 0) (fun b => gb_ex m r ls (.ref b :: st) p (gS I J q X)) := by
  cases hz : gb_Rw q a 0 with
  | none => exact gb_ex_no (by
      show (if atag p a = 13 then _ else _) = _
      rw [if_pos h]
      show (match gb_Rw q a 0 with | some b => _ | none => _) = _
      rw [hz])
  | some b => exact gb_ex_nx (by
      show (if atag p a = 13 then _ else _) = _
      rw [if_pos h]
      show (match gb_Rw q a 0 with | some b => _ | none => _) = _
      rw [hz])
theorem x_put_192 {m : Nat} {r : List Instr} {ls st : List Value} {p : gb_Pi} {g : gb_Sg} {a x : Nat} (h : atag p a = 13) : gb_ex m (.putfield 192 :: r) ls (.ref x :: .ref a :: st) p g = gb_ex m r ls st p (sR g a 0 (some x)) := gb_ex_nx (by
  show (if atag p a = 13 then _ else _) = _
  rw [if_pos h] <;> rfl)
theorem x_get_193 {m : Nat} {r : List Instr} {ls st : List Value} {p : gb_Pi} {I : Nat → Nat → Int32} {J : Nat → Nat → Int64} {q : Bool × Bool} {X : Nat × (Nat → Int32)} {a : Nat} (h : atag p a = 13) : gb_ex m (.getfield 193 :: r) ls (.ref a :: st) p (gS I J q X) = gb_orf (gb_Rw q a 1) (fun b => gb_ex m r ls (.ref b :: st) p (gS I J q X)) := by
  cases hz : gb_Rw q a 1 with
  | none => exact gb_ex_no (by
      show (if atag p a = 13 then _ else _) = _
      rw [if_pos h]
      show (match gb_Rw q a 1 with | some b => _ | none => _) = _
      rw [hz])
  | some b => exact gb_ex_nx (by
      show (if atag p a = 13 then _ else _) = _
      rw [if_pos h]
      show (match gb_Rw q a 1 with | some b => _ | none => _) = _
      rw [hz])
theorem x_put_193 {m : Nat} {r : List Instr} {ls st : List Value} {p : gb_Pi} {g : gb_Sg} {a x : Nat} (h : atag p a = 13) : gb_ex m (.putfield 193 :: r) ls (.ref x :: .ref a :: st) p g = gb_ex m r ls st p (sR g a 1 (some x)) := gb_ex_nx (by
  show (if atag p a = 13 then _ else _) = _
  rw [if_pos h] <;> rfl)
theorem x_get_256 {m : Nat} {r : List Instr} {ls st : List Value} {p : gb_Pi} {I : Nat → Nat → Int32} {J : Nat → Nat → Int64} {q : Bool × Bool} {X : Nat × (Nat → Int32)} {a : Nat} (h : atag p a = 14) : gb_ex m (.getfield 256 :: r) ls (.ref a :: st) p (gS I J q X) = gb_orf (gb_Rw q a 0) (fun b => gb_ex m r ls (.ref b :: st) p (gS I J q X)) := by
  cases hz : gb_Rw q a 0 with
  | none => exact gb_ex_no (by
      show (if atag p a = 14 then _ else _) = _
      rw [if_pos h]
      show (match gb_Rw q a 0 with | some b => _ | none => _) = _
      rw [hz])
  | some b => exact gb_ex_nx (by
      show (if atag p a = 14 then _ else _) = _
      rw [if_pos h]
      show (match gb_Rw q a 0 with | some b => _ | none => _) = _
      rw [hz])
theorem x_put_256 {m : Nat} {r : List Instr} {ls st : List Value} {p : gb_Pi} {g : gb_Sg} {a x : Nat} (h : atag p a = 14) : gb_ex m (.putfield 256 :: r) ls (.ref x :: .ref a :: st) p g = gb_ex m r ls st p (sR g a 0 (some x)) := gb_ex_nx (by
  show (if atag p a = 14 then _ else _) = _
  rw [if_pos h] <;> rfl)
theorem x_get_257 {m : Nat} {r : List Instr} {ls st : List Value} {p : gb_Pi} {I : Nat → Nat → Int32} {J : Nat → Nat → Int64} {q : Bool × Bool} {X : Nat × (Nat → Int32)} {a : Nat} (h : atag p a = 14) : gb_ex m (.getfield 257 :: r) ls (.ref a :: st) p (gS I J q X) = gb_orf (gb_Rw q a 1) (fun b => gb_ex m r ls (.ref b :: st) p (gS I J q X)) := by
  cases hz : gb_Rw q a 1 with
  | none => exact gb_ex_no (by
      show (if atag p a = 14 then _ else _) = _
      rw [if_pos h]
      show (match gb_Rw q a 1 with | some b => _ | none => _) = _
      rw [hz])
  | some b => exact gb_ex_nx (by
      show (if atag p a = 14 then _ else _) = _
      rw [if_pos h]
      show (match gb_Rw q a 1 with | some b => _ | none => _) = _
      rw [hz])
theorem x_put_257 {m : Nat} {r : List Instr} {ls st : List Value} {p : gb_Pi} {g : gb_Sg} {a x : Nat} (h : atag p a = 14) : gb_ex m (.putfield 257 :: r) ls (.ref x :: .ref a :: st) p g = gb_ex m r ls st p (sR g a 1 (some x)) := gb_ex_nx (by
  show (if atag p a = 14 then _ else _) = _
  rw [if_pos h] <;> rfl)
theorem x_get_258 {m : Nat} {r : List Instr} {ls st : List Value} {p : gb_Pi} {I : Nat → Nat → Int32} {J : Nat → Nat → Int64} {q : Bool × Bool} {X : Nat × (Nat → Int32)} {a : Nat} (h : atag p a = 14) : gb_ex m (.getfield 258 :: r) ls (.ref a :: st) p (gS I J q X) = gb_orf (gb_Rw q a 2) (fun b => gb_ex m r ls (.ref b :: st) p (gS I J q X)) := by
  cases hz : gb_Rw q a 2 with
  | none => exact gb_ex_no (by
      show (if atag p a = 14 then _ else _) = _
      rw [if_pos h]
      show (match gb_Rw q a 2 with | some b => _ | none => _) = _
      rw [hz])
  | some b => exact gb_ex_nx (by
      show (if atag p a = 14 then _ else _) = _
      rw [if_pos h]
      show (match gb_Rw q a 2 with | some b => _ | none => _) = _
      rw [hz])
theorem x_put_258 {m : Nat} {r : List Instr} {ls st : List Value} {p : gb_Pi} {g : gb_Sg} {a x : Nat} (h : atag p a = 14) : gb_ex m (.putfield 258 :: r) ls (.ref x :: .ref a :: st) p g = gb_ex m r ls st p (sR g a 2 (some x)) := gb_ex_nx (by
  show (if atag p a = 14 then _ else _) = _
  rw [if_pos h] <;> rfl)
theorem x_get_259 {m : Nat} {r : List Instr} {ls st : List Value} {p : gb_Pi} {I : Nat → Nat → Int32} {J : Nat → Nat → Int64} {q : Bool × Bool} {X : Nat × (Nat → Int32)} {a : Nat} (h : atag p a = 14) : gb_ex m (.getfield 259 :: r) ls (.ref a :: st) p (gS I J q X) = gb_orf (gb_Rw q a 3) (fun b => gb_ex m r ls (.ref b :: st) p (gS I J q X)) := by
  cases hz : gb_Rw q a 3 with
  | none => exact gb_ex_no (by
      show (if atag p a = 14 then _ else _) = _
      rw [if_pos h]
      show (match gb_Rw q a 3 with | some b => _ | none => _) = _
      rw [hz])
  | some b => exact gb_ex_nx (by
      show (if atag p a = 14 then _ else _) = _
      rw [if_pos h]
      show (match gb_Rw q a 3 with | some b => _ | none => _) = _
      rw [hz])
theorem x_put_259 {m : Nat} {r : List Instr} {ls st : List Value} {p : gb_Pi} {g : gb_Sg} {a x : Nat} (h : atag p a = 14) : gb_ex m (.putfield 259 :: r) ls (.ref x :: .ref a :: st) p g = gb_ex m r ls st p (sR g a 3 (some x)) := gb_ex_nx (by
  show (if atag p a = 14 then _ else _) = _
  rw [if_pos h] <;> rfl)
theorem x_get_260 {m : Nat} {r : List Instr} {ls st : List Value} {p : gb_Pi} {I : Nat → Nat → Int32} {J : Nat → Nat → Int64} {q : Bool × Bool} {X : Nat × (Nat → Int32)} {a : Nat} (h : atag p a = 14) : gb_ex m (.getfield 260 :: r) ls (.ref a :: st) p (gS I J q X) = gb_orf (gb_Rw q a 4) (fun b => gb_ex m r ls (.ref b :: st) p (gS I J q X)) := by
  cases hz : gb_Rw q a 4 with
  | none => exact gb_ex_no (by
      show (if atag p a = 14 then _ else _) = _
      rw [if_pos h]
      show (match gb_Rw q a 4 with | some b => _ | none => _) = _
      rw [hz])
  | some b => exact gb_ex_nx (by
      show (if atag p a = 14 then _ else _) = _
      rw [if_pos h]
      show (match gb_Rw q a 4 with | some b => _ | none => _) = _
      rw [hz])
theorem x_put_260 {m : Nat} {r : List Instr} {ls st : List Value} {p : gb_Pi} {g : gb_Sg} {a x : Nat} (h : atag p a = 14) : gb_ex m (.putfield 260 :: r) ls (.ref x :: .ref a :: st) p g = gb_ex m r ls st p (sR g a 4 (some x)) := gb_ex_nx (by
  show (if atag p a = 14 then _ else _) = _
  rw [if_pos h] <;> rfl)
theorem x_get_320 {m : Nat} {r : List Instr} {ls st : List Value} {p : gb_Pi} {I : Nat → Nat → Int32} {J : Nat → Nat → Int64} {q : Bool × Bool} {X : Nat × (Nat → Int32)} {a : Nat} (h : atag p a = 15) : gb_ex m (.getfield 320 :: r) ls (.ref a :: st) p (gS I J q X) = gb_orf (gb_Rw q a 0) (fun b => gb_ex m r ls (.ref b :: st) p (gS I J q X)) := by
  cases hz : gb_Rw q a 0 with
  | none => exact gb_ex_no (by
      show (if atag p a = 15 then _ else _) = _
      rw [if_pos h]
      show (match gb_Rw q a 0 with | some b => _ | none => _) = _
      rw [hz])
  | some b => exact gb_ex_nx (by
      show (if atag p a = 15 then _ else _) = _
      rw [if_pos h]
      show (match gb_Rw q a 0 with | some b => _ | none => _) = _
      rw [hz])
theorem x_put_320 {m : Nat} {r : List Instr} {ls st : List Value} {p : gb_Pi} {g : gb_Sg} {a x : Nat} (h : atag p a = 15) : gb_ex m (.putfield 320 :: r) ls (.ref x :: .ref a :: st) p g = gb_ex m r ls st p (sR g a 0 (some x)) := gb_ex_nx (by
  show (if atag p a = 15 then _ else _) = _
  rw [if_pos h] <;> rfl)
theorem x_get_321 {m : Nat} {r : List Instr} {ls st : List Value} {p : gb_Pi} {g : gb_Sg} {a : Nat} (h : atag p a = 15) : gb_ex m (.getfield 321 :: r) ls (.ref a :: st) p g = gb_ex m r ls (.int (gI g a 1) :: st) p g := gb_ex_nx (by
  show (if atag p a = 15 then _ else _) = _
  rw [if_pos h] <;> rfl)
theorem x_put_321 {m : Nat} {r : List Instr} {ls st : List Value} {p : gb_Pi} {g : gb_Sg} {a : Nat} {x : Int32} (h : atag p a = 15) : gb_ex m (.putfield 321 :: r) ls (.int x :: .ref a :: st) p g = gb_ex m r ls st p (sI g a 1 x) := gb_ex_nx (by
  show (if atag p a = 15 then _ else _) = _
  rw [if_pos h] <;> rfl)
theorem x_get_322 {m : Nat} {r : List Instr} {ls st : List Value} {p : gb_Pi} {g : gb_Sg} {a : Nat} (h : atag p a = 15) : gb_ex m (.getfield 322 :: r) ls (.ref a :: st) p g = gb_ex m r ls (.int (gI g a 2) :: st) p g := gb_ex_nx (by
  show (if atag p a = 15 then _ else _) = _
  rw [if_pos h] <;> rfl)
theorem x_put_322 {m : Nat} {r : List Instr} {ls st : List Value} {p : gb_Pi} {g : gb_Sg} {a : Nat} {x : Int32} (h : atag p a = 15) : gb_ex m (.putfield 322 :: r) ls (.int x :: .ref a :: st) p g = gb_ex m r ls st p (sI g a 2 x) := gb_ex_nx (by
  show (if atag p a = 15 then _ else _) = _
  rw [if_pos h] <;> rfl)
theorem x_get_323 {m : Nat} {r : List Instr} {ls st : List Value} {p : gb_Pi} {g : gb_Sg} {a : Nat} (h : atag p a = 15) : gb_ex m (.getfield 323 :: r) ls (.ref a :: st) p g = gb_ex m r ls (.int (gI g a 3) :: st) p g := gb_ex_nx (by
  show (if atag p a = 15 then _ else _) = _
  rw [if_pos h] <;> rfl)
theorem x_put_323 {m : Nat} {r : List Instr} {ls st : List Value} {p : gb_Pi} {g : gb_Sg} {a : Nat} {x : Int32} (h : atag p a = 15) : gb_ex m (.putfield 323 :: r) ls (.int x :: .ref a :: st) p g = gb_ex m r ls st p (sI g a 3 x) := gb_ex_nx (by
  show (if atag p a = 15 then _ else _) = _
  rw [if_pos h] <;> rfl)
theorem x_get_384 {m : Nat} {r : List Instr} {ls st : List Value} {p : gb_Pi} {g : gb_Sg} {a : Nat} (h : atag p a = 16) : gb_ex m (.getfield 384 :: r) ls (.ref a :: st) p g = gb_ex m r ls (.int (gI g a 0) :: st) p g := gb_ex_nx (by
  show (if atag p a = 16 then _ else _) = _
  rw [if_pos h] <;> rfl)
theorem x_put_384 {m : Nat} {r : List Instr} {ls st : List Value} {p : gb_Pi} {g : gb_Sg} {a : Nat} {x : Int32} (h : atag p a = 16) : gb_ex m (.putfield 384 :: r) ls (.int x :: .ref a :: st) p g = gb_ex m r ls st p (sI g a 0 x) := gb_ex_nx (by
  show (if atag p a = 16 then _ else _) = _
  rw [if_pos h] <;> rfl)
theorem x_get_385 {m : Nat} {r : List Instr} {ls st : List Value} {p : gb_Pi} {I : Nat → Nat → Int32} {J : Nat → Nat → Int64} {q : Bool × Bool} {X : Nat × (Nat → Int32)} {a : Nat} (h : atag p a = 16) : gb_ex m (.getfield 385 :: r) ls (.ref a :: st) p (gS I J q X) = gb_orf (gb_Rw q a 1) (fun b => gb_ex m r ls (.ref b :: st) p (gS I J q X)) := by
  cases hz : gb_Rw q a 1 with
  | none => exact gb_ex_no (by
      show (if atag p a = 16 then _ else _) = _
      rw [if_pos h]
      show (match gb_Rw q a 1 with | some b => _ | none => _) = _
      rw [hz])
  | some b => exact gb_ex_nx (by
      show (if atag p a = 16 then _ else _) = _
      rw [if_pos h]
      show (match gb_Rw q a 1 with | some b => _ | none => _) = _
      rw [hz])
theorem x_put_385 {m : Nat} {r : List Instr} {ls st : List Value} {p : gb_Pi} {g : gb_Sg} {a x : Nat} (h : atag p a = 16) : gb_ex m (.putfield 385 :: r) ls (.ref x :: .ref a :: st) p g = gb_ex m r ls st p (sR g a 1 (some x)) := gb_ex_nx (by
  show (if atag p a = 16 then _ else _) = _
  rw [if_pos h] <;> rfl)
theorem x_get_386 {m : Nat} {r : List Instr} {ls st : List Value} {p : gb_Pi} {I : Nat → Nat → Int32} {J : Nat → Nat → Int64} {q : Bool × Bool} {X : Nat × (Nat → Int32)} {a : Nat} (h : atag p a = 16) : gb_ex m (.getfield 386 :: r) ls (.ref a :: st) p (gS I J q X) = gb_orf (gb_Rw q a 2) (fun b => gb_ex m r ls (.ref b :: st) p (gS I J q X)) := by
  cases hz : gb_Rw q a 2 with
  | none => exact gb_ex_no (by
      show (if atag p a = 16 then _ else _) = _
      rw [if_pos h]
      show (match gb_Rw q a 2 with | some b => _ | none => _) = _
      rw [hz])
  | some b => exact gb_ex_nx (by
      show (if atag p a = 16 then _ else _) = _
      rw [if_pos h]
      show (match gb_Rw q a 2 with | some b => _ | none => _) = _
      rw [hz])
theorem x_put_386 {m : Nat} {r : List Instr} {ls st : List Value} {p : gb_Pi} {g : gb_Sg} {a x : Nat} (h : atag p a = 16) : gb_ex m (.putfield 386 :: r) ls (.ref x :: .ref a :: st) p g = gb_ex m r ls st p (sR g a 2 (some x)) := gb_ex_nx (by
  show (if atag p a = 16 then _ else _) = _
  rw [if_pos h] <;> rfl)
theorem x_get_387 {m : Nat} {r : List Instr} {ls st : List Value} {p : gb_Pi} {I : Nat → Nat → Int32} {J : Nat → Nat → Int64} {q : Bool × Bool} {X : Nat × (Nat → Int32)} {a : Nat} (h : atag p a = 16) : gb_ex m (.getfield 387 :: r) ls (.ref a :: st) p (gS I J q X) = gb_orf (gb_Rw q a 3) (fun b => gb_ex m r ls (.ref b :: st) p (gS I J q X)) := by
  cases hz : gb_Rw q a 3 with
  | none => exact gb_ex_no (by
      show (if atag p a = 16 then _ else _) = _
      rw [if_pos h]
      show (match gb_Rw q a 3 with | some b => _ | none => _) = _
      rw [hz])
  | some b => exact gb_ex_nx (by
      show (if atag p a = 16 then _ else _) = _
      rw [if_pos h]
      show (match gb_Rw q a 3 with | some b => _ | none => _) = _
      rw [hz])
theorem x_put_387 {m : Nat} {r : List Instr} {ls st : List Value} {p : gb_Pi} {g : gb_Sg} {a x : Nat} (h : atag p a = 16) : gb_ex m (.putfield 387 :: r) ls (.ref x :: .ref a :: st) p g = gb_ex m r ls st p (sR g a 3 (some x)) := gb_ex_nx (by
  show (if atag p a = 16 then _ else _) = _
  rw [if_pos h] <;> rfl)
theorem x_get_388 {m : Nat} {r : List Instr} {ls st : List Value} {p : gb_Pi} {g : gb_Sg} {a : Nat} (h : atag p a = 16) : gb_ex m (.getfield 388 :: r) ls (.ref a :: st) p g = gb_ex m r ls (.int (gI g a 4) :: st) p g := gb_ex_nx (by
  show (if atag p a = 16 then _ else _) = _
  rw [if_pos h] <;> rfl)
theorem x_put_388 {m : Nat} {r : List Instr} {ls st : List Value} {p : gb_Pi} {g : gb_Sg} {a : Nat} {x : Int32} (h : atag p a = 16) : gb_ex m (.putfield 388 :: r) ls (.int x :: .ref a :: st) p g = gb_ex m r ls st p (sI g a 4 x) := gb_ex_nx (by
  show (if atag p a = 16 then _ else _) = _
  rw [if_pos h] <;> rfl)
theorem x_get_389 {m : Nat} {r : List Instr} {ls st : List Value} {p : gb_Pi} {I : Nat → Nat → Int32} {J : Nat → Nat → Int64} {q : Bool × Bool} {X : Nat × (Nat → Int32)} {a : Nat} (h : atag p a = 16) : gb_ex m (.getfield 389 :: r) ls (.ref a :: st) p (gS I J q X) = gb_orf (gb_Rw q a 5) (fun b => gb_ex m r ls (.ref b :: st) p (gS I J q X)) := by
  cases hz : gb_Rw q a 5 with
  | none => exact gb_ex_no (by
      show (if atag p a = 16 then _ else _) = _
      rw [if_pos h]
      show (match gb_Rw q a 5 with | some b => _ | none => _) = _
      rw [hz])
  | some b => exact gb_ex_nx (by
      show (if atag p a = 16 then _ else _) = _
      rw [if_pos h]
      show (match gb_Rw q a 5 with | some b => _ | none => _) = _
      rw [hz])
theorem x_put_389 {m : Nat} {r : List Instr} {ls st : List Value} {p : gb_Pi} {g : gb_Sg} {a x : Nat} (h : atag p a = 16) : gb_ex m (.putfield 389 :: r) ls (.ref x :: .ref a :: st) p g = gb_ex m r ls st p (sR g a 5 (some x)) := gb_ex_nx (by
  show (if atag p a = 16 then _ else _) = _
  rw [if_pos h] <;> rfl)
theorem x_get_390 {m : Nat} {r : List Instr} {ls st : List Value} {p : gb_Pi} {I : Nat → Nat → Int32} {J : Nat → Nat → Int64} {q : Bool × Bool} {X : Nat × (Nat → Int32)} {a : Nat} (h : atag p a = 16) : gb_ex m (.getfield 390 :: r) ls (.ref a :: st) p (gS I J q X) = gb_orf (gb_Rw q a 6) (fun b => gb_ex m r ls (.ref b :: st) p (gS I J q X)) := by
  cases hz : gb_Rw q a 6 with
  | none => exact gb_ex_no (by
      show (if atag p a = 16 then _ else _) = _
      rw [if_pos h]
      show (match gb_Rw q a 6 with | some b => _ | none => _) = _
      rw [hz])
  | some b => exact gb_ex_nx (by
      show (if atag p a = 16 then _ else _) = _
      rw [if_pos h]
      show (match gb_Rw q a 6 with | some b => _ | none => _) = _
      rw [hz])
theorem x_put_390 {m : Nat} {r : List Instr} {ls st : List Value} {p : gb_Pi} {g : gb_Sg} {a x : Nat} (h : atag p a = 16) : gb_ex m (.putfield 390 :: r) ls (.ref x :: .ref a :: st) p g = gb_ex m r ls st p (sR g a 6 (some x)) := gb_ex_nx (by
  show (if atag p a = 16 then _ else _) = _
  rw [if_pos h] <;> rfl)
theorem x_get_391 {m : Nat} {r : List Instr} {ls st : List Value} {p : gb_Pi} {I : Nat → Nat → Int32} {J : Nat → Nat → Int64} {q : Bool × Bool} {X : Nat × (Nat → Int32)} {a : Nat} (h : atag p a = 16) : gb_ex m (.getfield 391 :: r) ls (.ref a :: st) p (gS I J q X) = gb_orf (gb_Rw q a 7) (fun b => gb_ex m r ls (.ref b :: st) p (gS I J q X)) := by
  cases hz : gb_Rw q a 7 with
  | none => exact gb_ex_no (by
      show (if atag p a = 16 then _ else _) = _
      rw [if_pos h]
      show (match gb_Rw q a 7 with | some b => _ | none => _) = _
      rw [hz])
  | some b => exact gb_ex_nx (by
      show (if atag p a = 16 then _ else _) = _
      rw [if_pos h]
      show (match gb_Rw q a 7 with | some b => _ | none => _) = _
      rw [hz])
theorem x_put_391 {m : Nat} {r : List Instr} {ls st : List Value} {p : gb_Pi} {g : gb_Sg} {a x : Nat} (h : atag p a = 16) : gb_ex m (.putfield 391 :: r) ls (.ref x :: .ref a :: st) p g = gb_ex m r ls st p (sR g a 7 (some x)) := gb_ex_nx (by
  show (if atag p a = 16 then _ else _) = _
  rw [if_pos h] <;> rfl)
theorem x_get_392 {m : Nat} {r : List Instr} {ls st : List Value} {p : gb_Pi} {I : Nat → Nat → Int32} {J : Nat → Nat → Int64} {q : Bool × Bool} {X : Nat × (Nat → Int32)} {a : Nat} (h : atag p a = 16) : gb_ex m (.getfield 392 :: r) ls (.ref a :: st) p (gS I J q X) = gb_orf (gb_Rw q a 8) (fun b => gb_ex m r ls (.ref b :: st) p (gS I J q X)) := by
  cases hz : gb_Rw q a 8 with
  | none => exact gb_ex_no (by
      show (if atag p a = 16 then _ else _) = _
      rw [if_pos h]
      show (match gb_Rw q a 8 with | some b => _ | none => _) = _
      rw [hz])
  | some b => exact gb_ex_nx (by
      show (if atag p a = 16 then _ else _) = _
      rw [if_pos h]
      show (match gb_Rw q a 8 with | some b => _ | none => _) = _
      rw [hz])
theorem x_put_392 {m : Nat} {r : List Instr} {ls st : List Value} {p : gb_Pi} {g : gb_Sg} {a x : Nat} (h : atag p a = 16) : gb_ex m (.putfield 392 :: r) ls (.ref x :: .ref a :: st) p g = gb_ex m r ls st p (sR g a 8 (some x)) := gb_ex_nx (by
  show (if atag p a = 16 then _ else _) = _
  rw [if_pos h] <;> rfl)
theorem x_get_393 {m : Nat} {r : List Instr} {ls st : List Value} {p : gb_Pi} {I : Nat → Nat → Int32} {J : Nat → Nat → Int64} {q : Bool × Bool} {X : Nat × (Nat → Int32)} {a : Nat} (h : atag p a = 16) : gb_ex m (.getfield 393 :: r) ls (.ref a :: st) p (gS I J q X) = gb_orf (gb_Rw q a 9) (fun b => gb_ex m r ls (.ref b :: st) p (gS I J q X)) := by
  cases hz : gb_Rw q a 9 with
  | none => exact gb_ex_no (by
      show (if atag p a = 16 then _ else _) = _
      rw [if_pos h]
      show (match gb_Rw q a 9 with | some b => _ | none => _) = _
      rw [hz])
  | some b => exact gb_ex_nx (by
      show (if atag p a = 16 then _ else _) = _
      rw [if_pos h]
      show (match gb_Rw q a 9 with | some b => _ | none => _) = _
      rw [hz])
theorem x_put_393 {m : Nat} {r : List Instr} {ls st : List Value} {p : gb_Pi} {g : gb_Sg} {a x : Nat} (h : atag p a = 16) : gb_ex m (.putfield 393 :: r) ls (.ref x :: .ref a :: st) p g = gb_ex m r ls st p (sR g a 9 (some x)) := gb_ex_nx (by
  show (if atag p a = 16 then _ else _) = _
  rw [if_pos h] <;> rfl)
theorem x_get_394 {m : Nat} {r : List Instr} {ls st : List Value} {p : gb_Pi} {g : gb_Sg} {a : Nat} (h : atag p a = 16) : gb_ex m (.getfield 394 :: r) ls (.ref a :: st) p g = gb_ex m r ls (.int (gI g a 10) :: st) p g := gb_ex_nx (by
  show (if atag p a = 16 then _ else _) = _
  rw [if_pos h] <;> rfl)
theorem x_put_394 {m : Nat} {r : List Instr} {ls st : List Value} {p : gb_Pi} {g : gb_Sg} {a : Nat} {x : Int32} (h : atag p a = 16) : gb_ex m (.putfield 394 :: r) ls (.int x :: .ref a :: st) p g = gb_ex m r ls st p (sI g a 10 x) := gb_ex_nx (by
  show (if atag p a = 16 then _ else _) = _
  rw [if_pos h] <;> rfl)
theorem x_get_395 {m : Nat} {r : List Instr} {ls st : List Value} {p : gb_Pi} {I : Nat → Nat → Int32} {J : Nat → Nat → Int64} {q : Bool × Bool} {X : Nat × (Nat → Int32)} {a : Nat} (h : atag p a = 16) : gb_ex m (.getfield 395 :: r) ls (.ref a :: st) p (gS I J q X) = gb_orf (gb_Rw q a 11) (fun b => gb_ex m r ls (.ref b :: st) p (gS I J q X)) := by
  cases hz : gb_Rw q a 11 with
  | none => exact gb_ex_no (by
      show (if atag p a = 16 then _ else _) = _
      rw [if_pos h]
      show (match gb_Rw q a 11 with | some b => _ | none => _) = _
      rw [hz])
  | some b => exact gb_ex_nx (by
      show (if atag p a = 16 then _ else _) = _
      rw [if_pos h]
      show (match gb_Rw q a 11 with | some b => _ | none => _) = _
      rw [hz])
theorem x_put_395 {m : Nat} {r : List Instr} {ls st : List Value} {p : gb_Pi} {g : gb_Sg} {a x : Nat} (h : atag p a = 16) : gb_ex m (.putfield 395 :: r) ls (.ref x :: .ref a :: st) p g = gb_ex m r ls st p (sR g a 11 (some x)) := gb_ex_nx (by
  show (if atag p a = 16 then _ else _) = _
  rw [if_pos h] <;> rfl)
theorem x_get_396 {m : Nat} {r : List Instr} {ls st : List Value} {p : gb_Pi} {g : gb_Sg} {a : Nat} (h : atag p a = 16) : gb_ex m (.getfield 396 :: r) ls (.ref a :: st) p g = gb_ex m r ls (.int (gI g a 12) :: st) p g := gb_ex_nx (by
  show (if atag p a = 16 then _ else _) = _
  rw [if_pos h] <;> rfl)
theorem x_put_396 {m : Nat} {r : List Instr} {ls st : List Value} {p : gb_Pi} {g : gb_Sg} {a : Nat} {x : Int32} (h : atag p a = 16) : gb_ex m (.putfield 396 :: r) ls (.int x :: .ref a :: st) p g = gb_ex m r ls st p (sI g a 12 x) := gb_ex_nx (by
  show (if atag p a = 16 then _ else _) = _
  rw [if_pos h] <;> rfl)
theorem x_get_397 {m : Nat} {r : List Instr} {ls st : List Value} {p : gb_Pi} {I : Nat → Nat → Int32} {J : Nat → Nat → Int64} {q : Bool × Bool} {X : Nat × (Nat → Int32)} {a : Nat} (h : atag p a = 16) : gb_ex m (.getfield 397 :: r) ls (.ref a :: st) p (gS I J q X) = gb_orf (gb_Rw q a 13) (fun b => gb_ex m r ls (.ref b :: st) p (gS I J q X)) := by
  cases hz : gb_Rw q a 13 with
  | none => exact gb_ex_no (by
      show (if atag p a = 16 then _ else _) = _
      rw [if_pos h]
      show (match gb_Rw q a 13 with | some b => _ | none => _) = _
      rw [hz])
  | some b => exact gb_ex_nx (by
      show (if atag p a = 16 then _ else _) = _
      rw [if_pos h]
      show (match gb_Rw q a 13 with | some b => _ | none => _) = _
      rw [hz])
theorem x_put_397 {m : Nat} {r : List Instr} {ls st : List Value} {p : gb_Pi} {g : gb_Sg} {a x : Nat} (h : atag p a = 16) : gb_ex m (.putfield 397 :: r) ls (.ref x :: .ref a :: st) p g = gb_ex m r ls st p (sR g a 13 (some x)) := gb_ex_nx (by
  show (if atag p a = 16 then _ else _) = _
  rw [if_pos h] <;> rfl)
theorem x_get_398 {m : Nat} {r : List Instr} {ls st : List Value} {p : gb_Pi} {I : Nat → Nat → Int32} {J : Nat → Nat → Int64} {q : Bool × Bool} {X : Nat × (Nat → Int32)} {a : Nat} (h : atag p a = 16) : gb_ex m (.getfield 398 :: r) ls (.ref a :: st) p (gS I J q X) = gb_orf (gb_Rw q a 14) (fun b => gb_ex m r ls (.ref b :: st) p (gS I J q X)) := by
  cases hz : gb_Rw q a 14 with
  | none => exact gb_ex_no (by
      show (if atag p a = 16 then _ else _) = _
      rw [if_pos h]
      show (match gb_Rw q a 14 with | some b => _ | none => _) = _
      rw [hz])
  | some b => exact gb_ex_nx (by
      show (if atag p a = 16 then _ else _) = _
      rw [if_pos h]
      show (match gb_Rw q a 14 with | some b => _ | none => _) = _
      rw [hz])
theorem x_put_398 {m : Nat} {r : List Instr} {ls st : List Value} {p : gb_Pi} {g : gb_Sg} {a x : Nat} (h : atag p a = 16) : gb_ex m (.putfield 398 :: r) ls (.ref x :: .ref a :: st) p g = gb_ex m r ls st p (sR g a 14 (some x)) := gb_ex_nx (by
  show (if atag p a = 16 then _ else _) = _
  rw [if_pos h] <;> rfl)
theorem x_get_399 {m : Nat} {r : List Instr} {ls st : List Value} {p : gb_Pi} {I : Nat → Nat → Int32} {J : Nat → Nat → Int64} {q : Bool × Bool} {X : Nat × (Nat → Int32)} {a : Nat} (h : atag p a = 16) : gb_ex m (.getfield 399 :: r) ls (.ref a :: st) p (gS I J q X) = gb_orf (gb_Rw q a 15) (fun b => gb_ex m r ls (.ref b :: st) p (gS I J q X)) := by
  cases hz : gb_Rw q a 15 with
  | none => exact gb_ex_no (by
      show (if atag p a = 16 then _ else _) = _
      rw [if_pos h]
      show (match gb_Rw q a 15 with | some b => _ | none => _) = _
      rw [hz])
  | some b => exact gb_ex_nx (by
      show (if atag p a = 16 then _ else _) = _
      rw [if_pos h]
      show (match gb_Rw q a 15 with | some b => _ | none => _) = _
      rw [hz])
theorem x_put_399 {m : Nat} {r : List Instr} {ls st : List Value} {p : gb_Pi} {g : gb_Sg} {a x : Nat} (h : atag p a = 16) : gb_ex m (.putfield 399 :: r) ls (.ref x :: .ref a :: st) p g = gb_ex m r ls st p (sR g a 15 (some x)) := gb_ex_nx (by
  show (if atag p a = 16 then _ else _) = _
  rw [if_pos h] <;> rfl)
theorem x_get_448 {m : Nat} {r : List Instr} {ls st : List Value} {p : gb_Pi} {I : Nat → Nat → Int32} {J : Nat → Nat → Int64} {q : Bool × Bool} {X : Nat × (Nat → Int32)} {a : Nat} (h : atag p a = 17) : gb_ex m (.getfield 448 :: r) ls (.ref a :: st) p (gS I J q X) = gb_orf (gb_Rw q a 0) (fun b => gb_ex m r ls (.ref b :: st) p (gS I J q X)) := by
  cases hz : gb_Rw q a 0 with
  | none => exact gb_ex_no (by
      show (if atag p a = 17 then _ else _) = _
      rw [if_pos h]
      show (match gb_Rw q a 0 with | some b => _ | none => _) = _
      rw [hz])
  | some b => exact gb_ex_nx (by
      show (if atag p a = 17 then _ else _) = _
      rw [if_pos h]
      show (match gb_Rw q a 0 with | some b => _ | none => _) = _
      rw [hz])
theorem x_put_448 {m : Nat} {r : List Instr} {ls st : List Value} {p : gb_Pi} {g : gb_Sg} {a x : Nat} (h : atag p a = 17) : gb_ex m (.putfield 448 :: r) ls (.ref x :: .ref a :: st) p g = gb_ex m r ls st p (sR g a 0 (some x)) := gb_ex_nx (by
  show (if atag p a = 17 then _ else _) = _
  rw [if_pos h] <;> rfl)
theorem x_get_449 {m : Nat} {r : List Instr} {ls st : List Value} {p : gb_Pi} {I : Nat → Nat → Int32} {J : Nat → Nat → Int64} {q : Bool × Bool} {X : Nat × (Nat → Int32)} {a : Nat} (h : atag p a = 17) : gb_ex m (.getfield 449 :: r) ls (.ref a :: st) p (gS I J q X) = gb_orf (gb_Rw q a 1) (fun b => gb_ex m r ls (.ref b :: st) p (gS I J q X)) := by
  cases hz : gb_Rw q a 1 with
  | none => exact gb_ex_no (by
      show (if atag p a = 17 then _ else _) = _
      rw [if_pos h]
      show (match gb_Rw q a 1 with | some b => _ | none => _) = _
      rw [hz])
  | some b => exact gb_ex_nx (by
      show (if atag p a = 17 then _ else _) = _
      rw [if_pos h]
      show (match gb_Rw q a 1 with | some b => _ | none => _) = _
      rw [hz])
theorem x_put_449 {m : Nat} {r : List Instr} {ls st : List Value} {p : gb_Pi} {g : gb_Sg} {a x : Nat} (h : atag p a = 17) : gb_ex m (.putfield 449 :: r) ls (.ref x :: .ref a :: st) p g = gb_ex m r ls st p (sR g a 1 (some x)) := gb_ex_nx (by
  show (if atag p a = 17 then _ else _) = _
  rw [if_pos h] <;> rfl)
theorem x_get_450 {m : Nat} {r : List Instr} {ls st : List Value} {p : gb_Pi} {I : Nat → Nat → Int32} {J : Nat → Nat → Int64} {q : Bool × Bool} {X : Nat × (Nat → Int32)} {a : Nat} (h : atag p a = 17) : gb_ex m (.getfield 450 :: r) ls (.ref a :: st) p (gS I J q X) = gb_orf (gb_Rw q a 2) (fun b => gb_ex m r ls (.ref b :: st) p (gS I J q X)) := by
  cases hz : gb_Rw q a 2 with
  | none => exact gb_ex_no (by
      show (if atag p a = 17 then _ else _) = _
      rw [if_pos h]
      show (match gb_Rw q a 2 with | some b => _ | none => _) = _
      rw [hz])
  | some b => exact gb_ex_nx (by
      show (if atag p a = 17 then _ else _) = _
      rw [if_pos h]
      show (match gb_Rw q a 2 with | some b => _ | none => _) = _
      rw [hz])
theorem x_put_450 {m : Nat} {r : List Instr} {ls st : List Value} {p : gb_Pi} {g : gb_Sg} {a x : Nat} (h : atag p a = 17) : gb_ex m (.putfield 450 :: r) ls (.ref x :: .ref a :: st) p g = gb_ex m r ls st p (sR g a 2 (some x)) := gb_ex_nx (by
  show (if atag p a = 17 then _ else _) = _
  rw [if_pos h] <;> rfl)
theorem x_get_451 {m : Nat} {r : List Instr} {ls st : List Value} {p : gb_Pi} {I : Nat → Nat → Int32} {J : Nat → Nat → Int64} {q : Bool × Bool} {X : Nat × (Nat → Int32)} {a : Nat} (h : atag p a = 17) : gb_ex m (.getfield 451 :: r) ls (.ref a :: st) p (gS I J q X) = gb_orf (gb_Rw q a 3) (fun b => gb_ex m r ls (.ref b :: st) p (gS I J q X)) := by
  cases hz : gb_Rw q a 3 with
  | none => exact gb_ex_no (by
      show (if atag p a = 17 then _ else _) = _
      rw [if_pos h]
      show (match gb_Rw q a 3 with | some b => _ | none => _) = _
      rw [hz])
  | some b => exact gb_ex_nx (by
      show (if atag p a = 17 then _ else _) = _
      rw [if_pos h]
      show (match gb_Rw q a 3 with | some b => _ | none => _) = _
      rw [hz])
theorem x_put_451 {m : Nat} {r : List Instr} {ls st : List Value} {p : gb_Pi} {g : gb_Sg} {a x : Nat} (h : atag p a = 17) : gb_ex m (.putfield 451 :: r) ls (.ref x :: .ref a :: st) p g = gb_ex m r ls st p (sR g a 3 (some x)) := gb_ex_nx (by
  show (if atag p a = 17 then _ else _) = _
  rw [if_pos h] <;> rfl)
theorem x_get_512 {m : Nat} {r : List Instr} {ls st : List Value} {p : gb_Pi} {g : gb_Sg} {a : Nat} (h : atag p a = 18) : gb_ex m (.getfield 512 :: r) ls (.ref a :: st) p g = gb_ex m r ls (.int (gI g a 0) :: st) p g := gb_ex_nx (by
  show (if atag p a = 18 then _ else _) = _
  rw [if_pos h] <;> rfl)
theorem x_put_512 {m : Nat} {r : List Instr} {ls st : List Value} {p : gb_Pi} {g : gb_Sg} {a : Nat} {x : Int32} (h : atag p a = 18) : gb_ex m (.putfield 512 :: r) ls (.int x :: .ref a :: st) p g = gb_ex m r ls st p (sI g a 0 x) := gb_ex_nx (by
  show (if atag p a = 18 then _ else _) = _
  rw [if_pos h] <;> rfl)
theorem x_get_513 {m : Nat} {r : List Instr} {ls st : List Value} {p : gb_Pi} {I : Nat → Nat → Int32} {J : Nat → Nat → Int64} {q : Bool × Bool} {X : Nat × (Nat → Int32)} {a : Nat} (h : atag p a = 18) : gb_ex m (.getfield 513 :: r) ls (.ref a :: st) p (gS I J q X) = gb_orf (gb_Rw q a 1) (fun b => gb_ex m r ls (.ref b :: st) p (gS I J q X)) := by
  cases hz : gb_Rw q a 1 with
  | none => exact gb_ex_no (by
      show (if atag p a = 18 then _ else _) = _
      rw [if_pos h]
      show (match gb_Rw q a 1 with | some b => _ | none => _) = _
      rw [hz])
  | some b => exact gb_ex_nx (by
      show (if atag p a = 18 then _ else _) = _
      rw [if_pos h]
      show (match gb_Rw q a 1 with | some b => _ | none => _) = _
      rw [hz])
theorem x_put_513 {m : Nat} {r : List Instr} {ls st : List Value} {p : gb_Pi} {g : gb_Sg} {a x : Nat} (h : atag p a = 18) : gb_ex m (.putfield 513 :: r) ls (.ref x :: .ref a :: st) p g = gb_ex m r ls st p (sR g a 1 (some x)) := gb_ex_nx (by
  show (if atag p a = 18 then _ else _) = _
  rw [if_pos h] <;> rfl)
theorem x_get_514 {m : Nat} {r : List Instr} {ls st : List Value} {p : gb_Pi} {I : Nat → Nat → Int32} {J : Nat → Nat → Int64} {q : Bool × Bool} {X : Nat × (Nat → Int32)} {a : Nat} (h : atag p a = 18) : gb_ex m (.getfield 514 :: r) ls (.ref a :: st) p (gS I J q X) = gb_orf (gb_Rw q a 2) (fun b => gb_ex m r ls (.ref b :: st) p (gS I J q X)) := by
  cases hz : gb_Rw q a 2 with
  | none => exact gb_ex_no (by
      show (if atag p a = 18 then _ else _) = _
      rw [if_pos h]
      show (match gb_Rw q a 2 with | some b => _ | none => _) = _
      rw [hz])
  | some b => exact gb_ex_nx (by
      show (if atag p a = 18 then _ else _) = _
      rw [if_pos h]
      show (match gb_Rw q a 2 with | some b => _ | none => _) = _
      rw [hz])
theorem x_put_514 {m : Nat} {r : List Instr} {ls st : List Value} {p : gb_Pi} {g : gb_Sg} {a x : Nat} (h : atag p a = 18) : gb_ex m (.putfield 514 :: r) ls (.ref x :: .ref a :: st) p g = gb_ex m r ls st p (sR g a 2 (some x)) := gb_ex_nx (by
  show (if atag p a = 18 then _ else _) = _
  rw [if_pos h] <;> rfl)
theorem x_get_515 {m : Nat} {r : List Instr} {ls st : List Value} {p : gb_Pi} {g : gb_Sg} {a : Nat} (h : atag p a = 18) : gb_ex m (.getfield 515 :: r) ls (.ref a :: st) p g = gb_ex m r ls (.int (gI g a 3) :: st) p g := gb_ex_nx (by
  show (if atag p a = 18 then _ else _) = _
  rw [if_pos h] <;> rfl)
theorem x_put_515 {m : Nat} {r : List Instr} {ls st : List Value} {p : gb_Pi} {g : gb_Sg} {a : Nat} {x : Int32} (h : atag p a = 18) : gb_ex m (.putfield 515 :: r) ls (.int x :: .ref a :: st) p g = gb_ex m r ls st p (sI g a 3 x) := gb_ex_nx (by
  show (if atag p a = 18 then _ else _) = _
  rw [if_pos h] <;> rfl)
theorem x_get_516 {m : Nat} {r : List Instr} {ls st : List Value} {p : gb_Pi} {g : gb_Sg} {a : Nat} (h : atag p a = 18) : gb_ex m (.getfield 516 :: r) ls (.ref a :: st) p g = gb_ex m r ls (.int (gI g a 4) :: st) p g := gb_ex_nx (by
  show (if atag p a = 18 then _ else _) = _
  rw [if_pos h] <;> rfl)
theorem x_put_516 {m : Nat} {r : List Instr} {ls st : List Value} {p : gb_Pi} {g : gb_Sg} {a : Nat} {x : Int32} (h : atag p a = 18) : gb_ex m (.putfield 516 :: r) ls (.int x :: .ref a :: st) p g = gb_ex m r ls st p (sI g a 4 x) := gb_ex_nx (by
  show (if atag p a = 18 then _ else _) = _
  rw [if_pos h] <;> rfl)
theorem x_get_517 {m : Nat} {r : List Instr} {ls st : List Value} {p : gb_Pi} {I : Nat → Nat → Int32} {J : Nat → Nat → Int64} {q : Bool × Bool} {X : Nat × (Nat → Int32)} {a : Nat} (h : atag p a = 18) : gb_ex m (.getfield 517 :: r) ls (.ref a :: st) p (gS I J q X) = gb_orf (gb_Rw q a 5) (fun b => gb_ex m r ls (.ref b :: st) p (gS I J q X)) := by
  cases hz : gb_Rw q a 5 with
  | none => exact gb_ex_no (by
      show (if atag p a = 18 then _ else _) = _
      rw [if_pos h]
      show (match gb_Rw q a 5 with | some b => _ | none => _) = _
      rw [hz])
  | some b => exact gb_ex_nx (by
      show (if atag p a = 18 then _ else _) = _
      rw [if_pos h]
      show (match gb_Rw q a 5 with | some b => _ | none => _) = _
      rw [hz])
theorem x_put_517 {m : Nat} {r : List Instr} {ls st : List Value} {p : gb_Pi} {g : gb_Sg} {a x : Nat} (h : atag p a = 18) : gb_ex m (.putfield 517 :: r) ls (.ref x :: .ref a :: st) p g = gb_ex m r ls st p (sR g a 5 (some x)) := gb_ex_nx (by
  show (if atag p a = 18 then _ else _) = _
  rw [if_pos h] <;> rfl)
theorem x_get_518 {m : Nat} {r : List Instr} {ls st : List Value} {p : gb_Pi} {I : Nat → Nat → Int32} {J : Nat → Nat → Int64} {q : Bool × Bool} {X : Nat × (Nat → Int32)} {a : Nat} (h : atag p a = 18) : gb_ex m (.getfield 518 :: r) ls (.ref a :: st) p (gS I J q X) = gb_orf (gb_Rw q a 6) (fun b => gb_ex m r ls (.ref b :: st) p (gS I J q X)) := by
  cases hz : gb_Rw q a 6 with
  | none => exact gb_ex_no (by
      show (if atag p a = 18 then _ else _) = _
      rw [if_pos h]
      show (match gb_Rw q a 6 with | some b => _ | none => _) = _
      rw [hz])
  | some b => exact gb_ex_nx (by
      show (if atag p a = 18 then _ else _) = _
      rw [if_pos h]
      show (match gb_Rw q a 6 with | some b => _ | none => _) = _
      rw [hz])
theorem x_put_518 {m : Nat} {r : List Instr} {ls st : List Value} {p : gb_Pi} {g : gb_Sg} {a x : Nat} (h : atag p a = 18) : gb_ex m (.putfield 518 :: r) ls (.ref x :: .ref a :: st) p g = gb_ex m r ls st p (sR g a 6 (some x)) := gb_ex_nx (by
  show (if atag p a = 18 then _ else _) = _
  rw [if_pos h] <;> rfl)
theorem x_get_519 {m : Nat} {r : List Instr} {ls st : List Value} {p : gb_Pi} {I : Nat → Nat → Int32} {J : Nat → Nat → Int64} {q : Bool × Bool} {X : Nat × (Nat → Int32)} {a : Nat} (h : atag p a = 18) : gb_ex m (.getfield 519 :: r) ls (.ref a :: st) p (gS I J q X) = gb_orf (gb_Rw q a 7) (fun b => gb_ex m r ls (.ref b :: st) p (gS I J q X)) := by
  cases hz : gb_Rw q a 7 with
  | none => exact gb_ex_no (by
      show (if atag p a = 18 then _ else _) = _
      rw [if_pos h]
      show (match gb_Rw q a 7 with | some b => _ | none => _) = _
      rw [hz])
  | some b => exact gb_ex_nx (by
      show (if atag p a = 18 then _ else _) = _
      rw [if_pos h]
      show (match gb_Rw q a 7 with | some b => _ | none => _) = _
      rw [hz])
theorem x_put_519 {m : Nat} {r : List Instr} {ls st : List Value} {p : gb_Pi} {g : gb_Sg} {a x : Nat} (h : atag p a = 18) : gb_ex m (.putfield 519 :: r) ls (.ref x :: .ref a :: st) p g = gb_ex m r ls st p (sR g a 7 (some x)) := gb_ex_nx (by
  show (if atag p a = 18 then _ else _) = _
  rw [if_pos h] <;> rfl)
theorem x_get_576 {m : Nat} {r : List Instr} {ls st : List Value} {p : gb_Pi} {I : Nat → Nat → Int32} {J : Nat → Nat → Int64} {q : Bool × Bool} {X : Nat × (Nat → Int32)} {a : Nat} (h : atag p a = 19) : gb_ex m (.getfield 576 :: r) ls (.ref a :: st) p (gS I J q X) = gb_orf (gb_Rw q a 0) (fun b => gb_ex m r ls (.ref b :: st) p (gS I J q X)) := by
  cases hz : gb_Rw q a 0 with
  | none => exact gb_ex_no (by
      show (if atag p a = 19 then _ else _) = _
      rw [if_pos h]
      show (match gb_Rw q a 0 with | some b => _ | none => _) = _
      rw [hz])
  | some b => exact gb_ex_nx (by
      show (if atag p a = 19 then _ else _) = _
      rw [if_pos h]
      show (match gb_Rw q a 0 with | some b => _ | none => _) = _
      rw [hz])
theorem x_put_576 {m : Nat} {r : List Instr} {ls st : List Value} {p : gb_Pi} {g : gb_Sg} {a x : Nat} (h : atag p a = 19) : gb_ex m (.putfield 576 :: r) ls (.ref x :: .ref a :: st) p g = gb_ex m r ls st p (sR g a 0 (some x)) := gb_ex_nx (by
  show (if atag p a = 19 then _ else _) = _
  rw [if_pos h] <;> rfl)
theorem x_get_577 {m : Nat} {r : List Instr} {ls st : List Value} {p : gb_Pi} {I : Nat → Nat → Int32} {J : Nat → Nat → Int64} {q : Bool × Bool} {X : Nat × (Nat → Int32)} {a : Nat} (h : atag p a = 19) : gb_ex m (.getfield 577 :: r) ls (.ref a :: st) p (gS I J q X) = gb_orf (gb_Rw q a 1) (fun b => gb_ex m r ls (.ref b :: st) p (gS I J q X)) := by
  cases hz : gb_Rw q a 1 with
  | none => exact gb_ex_no (by
      show (if atag p a = 19 then _ else _) = _
      rw [if_pos h]
      show (match gb_Rw q a 1 with | some b => _ | none => _) = _
      rw [hz])
  | some b => exact gb_ex_nx (by
      show (if atag p a = 19 then _ else _) = _
      rw [if_pos h]
      show (match gb_Rw q a 1 with | some b => _ | none => _) = _
      rw [hz])
theorem x_put_577 {m : Nat} {r : List Instr} {ls st : List Value} {p : gb_Pi} {g : gb_Sg} {a x : Nat} (h : atag p a = 19) : gb_ex m (.putfield 577 :: r) ls (.ref x :: .ref a :: st) p g = gb_ex m r ls st p (sR g a 1 (some x)) := gb_ex_nx (by
  show (if atag p a = 19 then _ else _) = _
  rw [if_pos h] <;> rfl)
theorem x_get_578 {m : Nat} {r : List Instr} {ls st : List Value} {p : gb_Pi} {I : Nat → Nat → Int32} {J : Nat → Nat → Int64} {q : Bool × Bool} {X : Nat × (Nat → Int32)} {a : Nat} (h : atag p a = 19) : gb_ex m (.getfield 578 :: r) ls (.ref a :: st) p (gS I J q X) = gb_orf (gb_Rw q a 2) (fun b => gb_ex m r ls (.ref b :: st) p (gS I J q X)) := by
  cases hz : gb_Rw q a 2 with
  | none => exact gb_ex_no (by
      show (if atag p a = 19 then _ else _) = _
      rw [if_pos h]
      show (match gb_Rw q a 2 with | some b => _ | none => _) = _
      rw [hz])
  | some b => exact gb_ex_nx (by
      show (if atag p a = 19 then _ else _) = _
      rw [if_pos h]
      show (match gb_Rw q a 2 with | some b => _ | none => _) = _
      rw [hz])
theorem x_put_578 {m : Nat} {r : List Instr} {ls st : List Value} {p : gb_Pi} {g : gb_Sg} {a x : Nat} (h : atag p a = 19) : gb_ex m (.putfield 578 :: r) ls (.ref x :: .ref a :: st) p g = gb_ex m r ls st p (sR g a 2 (some x)) := gb_ex_nx (by
  show (if atag p a = 19 then _ else _) = _
  rw [if_pos h] <;> rfl)
theorem x_get_579 {m : Nat} {r : List Instr} {ls st : List Value} {p : gb_Pi} {I : Nat → Nat → Int32} {J : Nat → Nat → Int64} {q : Bool × Bool} {X : Nat × (Nat → Int32)} {a : Nat} (h : atag p a = 19) : gb_ex m (.getfield 579 :: r) ls (.ref a :: st) p (gS I J q X) = gb_orf (gb_Rw q a 3) (fun b => gb_ex m r ls (.ref b :: st) p (gS I J q X)) := by
  cases hz : gb_Rw q a 3 with
  | none => exact gb_ex_no (by
      show (if atag p a = 19 then _ else _) = _
      rw [if_pos h]
      show (match gb_Rw q a 3 with | some b => _ | none => _) = _
      rw [hz])
  | some b => exact gb_ex_nx (by
      show (if atag p a = 19 then _ else _) = _
      rw [if_pos h]
      show (match gb_Rw q a 3 with | some b => _ | none => _) = _
      rw [hz])
theorem x_put_579 {m : Nat} {r : List Instr} {ls st : List Value} {p : gb_Pi} {g : gb_Sg} {a x : Nat} (h : atag p a = 19) : gb_ex m (.putfield 579 :: r) ls (.ref x :: .ref a :: st) p g = gb_ex m r ls st p (sR g a 3 (some x)) := gb_ex_nx (by
  show (if atag p a = 19 then _ else _) = _
  rw [if_pos h] <;> rfl)
theorem x_get_580 {m : Nat} {r : List Instr} {ls st : List Value} {p : gb_Pi} {I : Nat → Nat → Int32} {J : Nat → Nat → Int64} {q : Bool × Bool} {X : Nat × (Nat → Int32)} {a : Nat} (h : atag p a = 19) : gb_ex m (.getfield 580 :: r) ls (.ref a :: st) p (gS I J q X) = gb_orf (gb_Rw q a 4) (fun b => gb_ex m r ls (.ref b :: st) p (gS I J q X)) := by
  cases hz : gb_Rw q a 4 with
  | none => exact gb_ex_no (by
      show (if atag p a = 19 then _ else _) = _
      rw [if_pos h]
      show (match gb_Rw q a 4 with | some b => _ | none => _) = _
      rw [hz])
  | some b => exact gb_ex_nx (by
      show (if atag p a = 19 then _ else _) = _
      rw [if_pos h]
      show (match gb_Rw q a 4 with | some b => _ | none => _) = _
      rw [hz])
theorem x_put_580 {m : Nat} {r : List Instr} {ls st : List Value} {p : gb_Pi} {g : gb_Sg} {a x : Nat} (h : atag p a = 19) : gb_ex m (.putfield 580 :: r) ls (.ref x :: .ref a :: st) p g = gb_ex m r ls st p (sR g a 4 (some x)) := gb_ex_nx (by
  show (if atag p a = 19 then _ else _) = _
  rw [if_pos h] <;> rfl)
theorem x_get_581 {m : Nat} {r : List Instr} {ls st : List Value} {p : gb_Pi} {I : Nat → Nat → Int32} {J : Nat → Nat → Int64} {q : Bool × Bool} {X : Nat × (Nat → Int32)} {a : Nat} (h : atag p a = 19) : gb_ex m (.getfield 581 :: r) ls (.ref a :: st) p (gS I J q X) = gb_orf (gb_Rw q a 5) (fun b => gb_ex m r ls (.ref b :: st) p (gS I J q X)) := by
  cases hz : gb_Rw q a 5 with
  | none => exact gb_ex_no (by
      show (if atag p a = 19 then _ else _) = _
      rw [if_pos h]
      show (match gb_Rw q a 5 with | some b => _ | none => _) = _
      rw [hz])
  | some b => exact gb_ex_nx (by
      show (if atag p a = 19 then _ else _) = _
      rw [if_pos h]
      show (match gb_Rw q a 5 with | some b => _ | none => _) = _
      rw [hz])
theorem x_put_581 {m : Nat} {r : List Instr} {ls st : List Value} {p : gb_Pi} {g : gb_Sg} {a x : Nat} (h : atag p a = 19) : gb_ex m (.putfield 581 :: r) ls (.ref x :: .ref a :: st) p g = gb_ex m r ls st p (sR g a 5 (some x)) := gb_ex_nx (by
  show (if atag p a = 19 then _ else _) = _
  rw [if_pos h] <;> rfl)
theorem x_get_582 {m : Nat} {r : List Instr} {ls st : List Value} {p : gb_Pi} {I : Nat → Nat → Int32} {J : Nat → Nat → Int64} {q : Bool × Bool} {X : Nat × (Nat → Int32)} {a : Nat} (h : atag p a = 19) : gb_ex m (.getfield 582 :: r) ls (.ref a :: st) p (gS I J q X) = gb_orf (gb_Rw q a 6) (fun b => gb_ex m r ls (.ref b :: st) p (gS I J q X)) := by
  cases hz : gb_Rw q a 6 with
  | none => exact gb_ex_no (by
      show (if atag p a = 19 then _ else _) = _
      rw [if_pos h]
      show (match gb_Rw q a 6 with | some b => _ | none => _) = _
      rw [hz])
  | some b => exact gb_ex_nx (by
      show (if atag p a = 19 then _ else _) = _
      rw [if_pos h]
      show (match gb_Rw q a 6 with | some b => _ | none => _) = _
      rw [hz])
theorem x_put_582 {m : Nat} {r : List Instr} {ls st : List Value} {p : gb_Pi} {g : gb_Sg} {a x : Nat} (h : atag p a = 19) : gb_ex m (.putfield 582 :: r) ls (.ref x :: .ref a :: st) p g = gb_ex m r ls st p (sR g a 6 (some x)) := gb_ex_nx (by
  show (if atag p a = 19 then _ else _) = _
  rw [if_pos h] <;> rfl)
theorem x_get_583 {m : Nat} {r : List Instr} {ls st : List Value} {p : gb_Pi} {I : Nat → Nat → Int32} {J : Nat → Nat → Int64} {q : Bool × Bool} {X : Nat × (Nat → Int32)} {a : Nat} (h : atag p a = 19) : gb_ex m (.getfield 583 :: r) ls (.ref a :: st) p (gS I J q X) = gb_orf (gb_Rw q a 7) (fun b => gb_ex m r ls (.ref b :: st) p (gS I J q X)) := by
  cases hz : gb_Rw q a 7 with
  | none => exact gb_ex_no (by
      show (if atag p a = 19 then _ else _) = _
      rw [if_pos h]
      show (match gb_Rw q a 7 with | some b => _ | none => _) = _
      rw [hz])
  | some b => exact gb_ex_nx (by
      show (if atag p a = 19 then _ else _) = _
      rw [if_pos h]
      show (match gb_Rw q a 7 with | some b => _ | none => _) = _
      rw [hz])
theorem x_put_583 {m : Nat} {r : List Instr} {ls st : List Value} {p : gb_Pi} {g : gb_Sg} {a x : Nat} (h : atag p a = 19) : gb_ex m (.putfield 583 :: r) ls (.ref x :: .ref a :: st) p g = gb_ex m r ls st p (sR g a 7 (some x)) := gb_ex_nx (by
  show (if atag p a = 19 then _ else _) = _
  rw [if_pos h] <;> rfl)
theorem x_get_584 {m : Nat} {r : List Instr} {ls st : List Value} {p : gb_Pi} {I : Nat → Nat → Int32} {J : Nat → Nat → Int64} {q : Bool × Bool} {X : Nat × (Nat → Int32)} {a : Nat} (h : atag p a = 19) : gb_ex m (.getfield 584 :: r) ls (.ref a :: st) p (gS I J q X) = gb_orf (gb_Rw q a 8) (fun b => gb_ex m r ls (.ref b :: st) p (gS I J q X)) := by
  cases hz : gb_Rw q a 8 with
  | none => exact gb_ex_no (by
      show (if atag p a = 19 then _ else _) = _
      rw [if_pos h]
      show (match gb_Rw q a 8 with | some b => _ | none => _) = _
      rw [hz])
  | some b => exact gb_ex_nx (by
      show (if atag p a = 19 then _ else _) = _
      rw [if_pos h]
      show (match gb_Rw q a 8 with | some b => _ | none => _) = _
      rw [hz])
theorem x_put_584 {m : Nat} {r : List Instr} {ls st : List Value} {p : gb_Pi} {g : gb_Sg} {a x : Nat} (h : atag p a = 19) : gb_ex m (.putfield 584 :: r) ls (.ref x :: .ref a :: st) p g = gb_ex m r ls st p (sR g a 8 (some x)) := gb_ex_nx (by
  show (if atag p a = 19 then _ else _) = _
  rw [if_pos h] <;> rfl)
theorem x_get_585 {m : Nat} {r : List Instr} {ls st : List Value} {p : gb_Pi} {I : Nat → Nat → Int32} {J : Nat → Nat → Int64} {q : Bool × Bool} {X : Nat × (Nat → Int32)} {a : Nat} (h : atag p a = 19) : gb_ex m (.getfield 585 :: r) ls (.ref a :: st) p (gS I J q X) = gb_orf (gb_Rw q a 9) (fun b => gb_ex m r ls (.ref b :: st) p (gS I J q X)) := by
  cases hz : gb_Rw q a 9 with
  | none => exact gb_ex_no (by
      show (if atag p a = 19 then _ else _) = _
      rw [if_pos h]
      show (match gb_Rw q a 9 with | some b => _ | none => _) = _
      rw [hz])
  | some b => exact gb_ex_nx (by
      show (if atag p a = 19 then _ else _) = _
      rw [if_pos h]
      show (match gb_Rw q a 9 with | some b => _ | none => _) = _
      rw [hz])
theorem x_put_585 {m : Nat} {r : List Instr} {ls st : List Value} {p : gb_Pi} {g : gb_Sg} {a x : Nat} (h : atag p a = 19) : gb_ex m (.putfield 585 :: r) ls (.ref x :: .ref a :: st) p g = gb_ex m r ls st p (sR g a 9 (some x)) := gb_ex_nx (by
  show (if atag p a = 19 then _ else _) = _
  rw [if_pos h] <;> rfl)
theorem x_get_640 {m : Nat} {r : List Instr} {ls st : List Value} {p : gb_Pi} {g : gb_Sg} {a : Nat} (h : atag p a = 20) : gb_ex m (.getfield 640 :: r) ls (.ref a :: st) p g = gb_ex m r ls (.int (gI g a 0) :: st) p g := gb_ex_nx (by
  show (if atag p a = 20 then _ else _) = _
  rw [if_pos h] <;> rfl)
theorem x_put_640 {m : Nat} {r : List Instr} {ls st : List Value} {p : gb_Pi} {g : gb_Sg} {a : Nat} {x : Int32} (h : atag p a = 20) : gb_ex m (.putfield 640 :: r) ls (.int x :: .ref a :: st) p g = gb_ex m r ls st p (sI g a 0 x) := gb_ex_nx (by
  show (if atag p a = 20 then _ else _) = _
  rw [if_pos h] <;> rfl)
theorem x_get_641 {m : Nat} {r : List Instr} {ls st : List Value} {p : gb_Pi} {I : Nat → Nat → Int32} {J : Nat → Nat → Int64} {q : Bool × Bool} {X : Nat × (Nat → Int32)} {a : Nat} (h : atag p a = 20) : gb_ex m (.getfield 641 :: r) ls (.ref a :: st) p (gS I J q X) = gb_orf (gb_Rw q a 1) (fun b => gb_ex m r ls (.ref b :: st) p (gS I J q X)) := by
  cases hz : gb_Rw q a 1 with
  | none => exact gb_ex_no (by
      show (if atag p a = 20 then _ else _) = _
      rw [if_pos h]
      show (match gb_Rw q a 1 with | some b => _ | none => _) = _
      rw [hz])
  | some b => exact gb_ex_nx (by
      show (if atag p a = 20 then _ else _) = _
      rw [if_pos h]
      show (match gb_Rw q a 1 with | some b => _ | none => _) = _
      rw [hz])
theorem x_put_641 {m : Nat} {r : List Instr} {ls st : List Value} {p : gb_Pi} {g : gb_Sg} {a x : Nat} (h : atag p a = 20) : gb_ex m (.putfield 641 :: r) ls (.ref x :: .ref a :: st) p g = gb_ex m r ls st p (sR g a 1 (some x)) := gb_ex_nx (by
  show (if atag p a = 20 then _ else _) = _
  rw [if_pos h] <;> rfl)
theorem x_get_642 {m : Nat} {r : List Instr} {ls st : List Value} {p : gb_Pi} {g : gb_Sg} {a : Nat} (h : atag p a = 20) : gb_ex m (.getfield 642 :: r) ls (.ref a :: st) p g = gb_ex m r ls (.int (gI g a 2) :: st) p g := gb_ex_nx (by
  show (if atag p a = 20 then _ else _) = _
  rw [if_pos h] <;> rfl)
theorem x_put_642 {m : Nat} {r : List Instr} {ls st : List Value} {p : gb_Pi} {g : gb_Sg} {a : Nat} {x : Int32} (h : atag p a = 20) : gb_ex m (.putfield 642 :: r) ls (.int x :: .ref a :: st) p g = gb_ex m r ls st p (sI g a 2 x) := gb_ex_nx (by
  show (if atag p a = 20 then _ else _) = _
  rw [if_pos h] <;> rfl)
theorem x_get_643 {m : Nat} {r : List Instr} {ls st : List Value} {p : gb_Pi} {I : Nat → Nat → Int32} {J : Nat → Nat → Int64} {q : Bool × Bool} {X : Nat × (Nat → Int32)} {a : Nat} (h : atag p a = 20) : gb_ex m (.getfield 643 :: r) ls (.ref a :: st) p (gS I J q X) = gb_orf (gb_Rw q a 3) (fun b => gb_ex m r ls (.ref b :: st) p (gS I J q X)) := by
  cases hz : gb_Rw q a 3 with
  | none => exact gb_ex_no (by
      show (if atag p a = 20 then _ else _) = _
      rw [if_pos h]
      show (match gb_Rw q a 3 with | some b => _ | none => _) = _
      rw [hz])
  | some b => exact gb_ex_nx (by
      show (if atag p a = 20 then _ else _) = _
      rw [if_pos h]
      show (match gb_Rw q a 3 with | some b => _ | none => _) = _
      rw [hz])
theorem x_put_643 {m : Nat} {r : List Instr} {ls st : List Value} {p : gb_Pi} {g : gb_Sg} {a x : Nat} (h : atag p a = 20) : gb_ex m (.putfield 643 :: r) ls (.ref x :: .ref a :: st) p g = gb_ex m r ls st p (sR g a 3 (some x)) := gb_ex_nx (by
  show (if atag p a = 20 then _ else _) = _
  rw [if_pos h] <;> rfl)
theorem x_get_644 {m : Nat} {r : List Instr} {ls st : List Value} {p : gb_Pi} {I : Nat → Nat → Int32} {J : Nat → Nat → Int64} {q : Bool × Bool} {X : Nat × (Nat → Int32)} {a : Nat} (h : atag p a = 20) : gb_ex m (.getfield 644 :: r) ls (.ref a :: st) p (gS I J q X) = gb_orf (gb_Rw q a 4) (fun b => gb_ex m r ls (.ref b :: st) p (gS I J q X)) := by
  cases hz : gb_Rw q a 4 with
  | none => exact gb_ex_no (by
      show (if atag p a = 20 then _ else _) = _
      rw [if_pos h]
      show (match gb_Rw q a 4 with | some b => _ | none => _) = _
      rw [hz])
  | some b => exact gb_ex_nx (by
      show (if atag p a = 20 then _ else _) = _
      rw [if_pos h]
      show (match gb_Rw q a 4 with | some b => _ | none => _) = _
      rw [hz])
theorem x_put_644 {m : Nat} {r : List Instr} {ls st : List Value} {p : gb_Pi} {g : gb_Sg} {a x : Nat} (h : atag p a = 20) : gb_ex m (.putfield 644 :: r) ls (.ref x :: .ref a :: st) p g = gb_ex m r ls st p (sR g a 4 (some x)) := gb_ex_nx (by
  show (if atag p a = 20 then _ else _) = _
  rw [if_pos h] <;> rfl)
theorem x_get_645 {m : Nat} {r : List Instr} {ls st : List Value} {p : gb_Pi} {I : Nat → Nat → Int32} {J : Nat → Nat → Int64} {q : Bool × Bool} {X : Nat × (Nat → Int32)} {a : Nat} (h : atag p a = 20) : gb_ex m (.getfield 645 :: r) ls (.ref a :: st) p (gS I J q X) = gb_orf (gb_Rw q a 5) (fun b => gb_ex m r ls (.ref b :: st) p (gS I J q X)) := by
  cases hz : gb_Rw q a 5 with
  | none => exact gb_ex_no (by
      show (if atag p a = 20 then _ else _) = _
      rw [if_pos h]
      show (match gb_Rw q a 5 with | some b => _ | none => _) = _
      rw [hz])
  | some b => exact gb_ex_nx (by
      show (if atag p a = 20 then _ else _) = _
      rw [if_pos h]
      show (match gb_Rw q a 5 with | some b => _ | none => _) = _
      rw [hz])
theorem x_put_645 {m : Nat} {r : List Instr} {ls st : List Value} {p : gb_Pi} {g : gb_Sg} {a x : Nat} (h : atag p a = 20) : gb_ex m (.putfield 645 :: r) ls (.ref x :: .ref a :: st) p g = gb_ex m r ls st p (sR g a 5 (some x)) := gb_ex_nx (by
  show (if atag p a = 20 then _ else _) = _
  rw [if_pos h] <;> rfl)
theorem x_get_646 {m : Nat} {r : List Instr} {ls st : List Value} {p : gb_Pi} {I : Nat → Nat → Int32} {J : Nat → Nat → Int64} {q : Bool × Bool} {X : Nat × (Nat → Int32)} {a : Nat} (h : atag p a = 20) : gb_ex m (.getfield 646 :: r) ls (.ref a :: st) p (gS I J q X) = gb_orf (gb_Rw q a 6) (fun b => gb_ex m r ls (.ref b :: st) p (gS I J q X)) := by
  cases hz : gb_Rw q a 6 with
  | none => exact gb_ex_no (by
      show (if atag p a = 20 then _ else _) = _
      rw [if_pos h]
      show (match gb_Rw q a 6 with | some b => _ | none => _) = _
      rw [hz])
  | some b => exact gb_ex_nx (by
      show (if atag p a = 20 then _ else _) = _
      rw [if_pos h]
      show (match gb_Rw q a 6 with | some b => _ | none => _) = _
      rw [hz])
theorem x_put_646 {m : Nat} {r : List Instr} {ls st : List Value} {p : gb_Pi} {g : gb_Sg} {a x : Nat} (h : atag p a = 20) : gb_ex m (.putfield 646 :: r) ls (.ref x :: .ref a :: st) p g = gb_ex m r ls st p (sR g a 6 (some x)) := gb_ex_nx (by
  show (if atag p a = 20 then _ else _) = _
  rw [if_pos h] <;> rfl)
theorem x_get_647 {m : Nat} {r : List Instr} {ls st : List Value} {p : gb_Pi} {I : Nat → Nat → Int32} {J : Nat → Nat → Int64} {q : Bool × Bool} {X : Nat × (Nat → Int32)} {a : Nat} (h : atag p a = 20) : gb_ex m (.getfield 647 :: r) ls (.ref a :: st) p (gS I J q X) = gb_orf (gb_Rw q a 7) (fun b => gb_ex m r ls (.ref b :: st) p (gS I J q X)) := by
  cases hz : gb_Rw q a 7 with
  | none => exact gb_ex_no (by
      show (if atag p a = 20 then _ else _) = _
      rw [if_pos h]
      show (match gb_Rw q a 7 with | some b => _ | none => _) = _
      rw [hz])
  | some b => exact gb_ex_nx (by
      show (if atag p a = 20 then _ else _) = _
      rw [if_pos h]
      show (match gb_Rw q a 7 with | some b => _ | none => _) = _
      rw [hz])
theorem x_put_647 {m : Nat} {r : List Instr} {ls st : List Value} {p : gb_Pi} {g : gb_Sg} {a x : Nat} (h : atag p a = 20) : gb_ex m (.putfield 647 :: r) ls (.ref x :: .ref a :: st) p g = gb_ex m r ls st p (sR g a 7 (some x)) := gb_ex_nx (by
  show (if atag p a = 20 then _ else _) = _
  rw [if_pos h] <;> rfl)
theorem x_get_648 {m : Nat} {r : List Instr} {ls st : List Value} {p : gb_Pi} {I : Nat → Nat → Int32} {J : Nat → Nat → Int64} {q : Bool × Bool} {X : Nat × (Nat → Int32)} {a : Nat} (h : atag p a = 20) : gb_ex m (.getfield 648 :: r) ls (.ref a :: st) p (gS I J q X) = gb_orf (gb_Rw q a 8) (fun b => gb_ex m r ls (.ref b :: st) p (gS I J q X)) := by
  cases hz : gb_Rw q a 8 with
  | none => exact gb_ex_no (by
      show (if atag p a = 20 then _ else _) = _
      rw [if_pos h]
      show (match gb_Rw q a 8 with | some b => _ | none => _) = _
      rw [hz])
  | some b => exact gb_ex_nx (by
      show (if atag p a = 20 then _ else _) = _
      rw [if_pos h]
      show (match gb_Rw q a 8 with | some b => _ | none => _) = _
      rw [hz])
theorem x_put_648 {m : Nat} {r : List Instr} {ls st : List Value} {p : gb_Pi} {g : gb_Sg} {a x : Nat} (h : atag p a = 20) : gb_ex m (.putfield 648 :: r) ls (.ref x :: .ref a :: st) p g = gb_ex m r ls st p (sR g a 8 (some x)) := gb_ex_nx (by
  show (if atag p a = 20 then _ else _) = _
  rw [if_pos h] <;> rfl)
theorem x_get_649 {m : Nat} {r : List Instr} {ls st : List Value} {p : gb_Pi} {I : Nat → Nat → Int32} {J : Nat → Nat → Int64} {q : Bool × Bool} {X : Nat × (Nat → Int32)} {a : Nat} (h : atag p a = 20) : gb_ex m (.getfield 649 :: r) ls (.ref a :: st) p (gS I J q X) = gb_orf (gb_Rw q a 9) (fun b => gb_ex m r ls (.ref b :: st) p (gS I J q X)) := by
  cases hz : gb_Rw q a 9 with
  | none => exact gb_ex_no (by
      show (if atag p a = 20 then _ else _) = _
      rw [if_pos h]
      show (match gb_Rw q a 9 with | some b => _ | none => _) = _
      rw [hz])
  | some b => exact gb_ex_nx (by
      show (if atag p a = 20 then _ else _) = _
      rw [if_pos h]
      show (match gb_Rw q a 9 with | some b => _ | none => _) = _
      rw [hz])
theorem x_put_649 {m : Nat} {r : List Instr} {ls st : List Value} {p : gb_Pi} {g : gb_Sg} {a x : Nat} (h : atag p a = 20) : gb_ex m (.putfield 649 :: r) ls (.ref x :: .ref a :: st) p g = gb_ex m r ls st p (sR g a 9 (some x)) := gb_ex_nx (by
  show (if atag p a = 20 then _ else _) = _
  rw [if_pos h] <;> rfl)
theorem x_get_650 {m : Nat} {r : List Instr} {ls st : List Value} {p : gb_Pi} {I : Nat → Nat → Int32} {J : Nat → Nat → Int64} {q : Bool × Bool} {X : Nat × (Nat → Int32)} {a : Nat} (h : atag p a = 20) : gb_ex m (.getfield 650 :: r) ls (.ref a :: st) p (gS I J q X) = gb_orf (gb_Rw q a 10) (fun b => gb_ex m r ls (.ref b :: st) p (gS I J q X)) := by
  cases hz : gb_Rw q a 10 with
  | none => exact gb_ex_no (by
      show (if atag p a = 20 then _ else _) = _
      rw [if_pos h]
      show (match gb_Rw q a 10 with | some b => _ | none => _) = _
      rw [hz])
  | some b => exact gb_ex_nx (by
      show (if atag p a = 20 then _ else _) = _
      rw [if_pos h]
      show (match gb_Rw q a 10 with | some b => _ | none => _) = _
      rw [hz])
theorem x_put_650 {m : Nat} {r : List Instr} {ls st : List Value} {p : gb_Pi} {g : gb_Sg} {a x : Nat} (h : atag p a = 20) : gb_ex m (.putfield 650 :: r) ls (.ref x :: .ref a :: st) p g = gb_ex m r ls st p (sR g a 10 (some x)) := gb_ex_nx (by
  show (if atag p a = 20 then _ else _) = _
  rw [if_pos h] <;> rfl)
theorem x_get_651 {m : Nat} {r : List Instr} {ls st : List Value} {p : gb_Pi} {I : Nat → Nat → Int32} {J : Nat → Nat → Int64} {q : Bool × Bool} {X : Nat × (Nat → Int32)} {a : Nat} (h : atag p a = 20) : gb_ex m (.getfield 651 :: r) ls (.ref a :: st) p (gS I J q X) = gb_orf (gb_Rw q a 11) (fun b => gb_ex m r ls (.ref b :: st) p (gS I J q X)) := by
  cases hz : gb_Rw q a 11 with
  | none => exact gb_ex_no (by
      show (if atag p a = 20 then _ else _) = _
      rw [if_pos h]
      show (match gb_Rw q a 11 with | some b => _ | none => _) = _
      rw [hz])
  | some b => exact gb_ex_nx (by
      show (if atag p a = 20 then _ else _) = _
      rw [if_pos h]
      show (match gb_Rw q a 11 with | some b => _ | none => _) = _
      rw [hz])
theorem x_put_651 {m : Nat} {r : List Instr} {ls st : List Value} {p : gb_Pi} {g : gb_Sg} {a x : Nat} (h : atag p a = 20) : gb_ex m (.putfield 651 :: r) ls (.ref x :: .ref a :: st) p g = gb_ex m r ls st p (sR g a 11 (some x)) := gb_ex_nx (by
  show (if atag p a = 20 then _ else _) = _
  rw [if_pos h] <;> rfl)
theorem x_get_652 {m : Nat} {r : List Instr} {ls st : List Value} {p : gb_Pi} {I : Nat → Nat → Int32} {J : Nat → Nat → Int64} {q : Bool × Bool} {X : Nat × (Nat → Int32)} {a : Nat} (h : atag p a = 20) : gb_ex m (.getfield 652 :: r) ls (.ref a :: st) p (gS I J q X) = gb_orf (gb_Rw q a 12) (fun b => gb_ex m r ls (.ref b :: st) p (gS I J q X)) := by
  cases hz : gb_Rw q a 12 with
  | none => exact gb_ex_no (by
      show (if atag p a = 20 then _ else _) = _
      rw [if_pos h]
      show (match gb_Rw q a 12 with | some b => _ | none => _) = _
      rw [hz])
  | some b => exact gb_ex_nx (by
      show (if atag p a = 20 then _ else _) = _
      rw [if_pos h]
      show (match gb_Rw q a 12 with | some b => _ | none => _) = _
      rw [hz])
theorem x_put_652 {m : Nat} {r : List Instr} {ls st : List Value} {p : gb_Pi} {g : gb_Sg} {a x : Nat} (h : atag p a = 20) : gb_ex m (.putfield 652 :: r) ls (.ref x :: .ref a :: st) p g = gb_ex m r ls st p (sR g a 12 (some x)) := gb_ex_nx (by
  show (if atag p a = 20 then _ else _) = _
  rw [if_pos h] <;> rfl)
theorem x_get_653 {m : Nat} {r : List Instr} {ls st : List Value} {p : gb_Pi} {I : Nat → Nat → Int32} {J : Nat → Nat → Int64} {q : Bool × Bool} {X : Nat × (Nat → Int32)} {a : Nat} (h : atag p a = 20) : gb_ex m (.getfield 653 :: r) ls (.ref a :: st) p (gS I J q X) = gb_orf (gb_Rw q a 13) (fun b => gb_ex m r ls (.ref b :: st) p (gS I J q X)) := by
  cases hz : gb_Rw q a 13 with
  | none => exact gb_ex_no (by
      show (if atag p a = 20 then _ else _) = _
      rw [if_pos h]
      show (match gb_Rw q a 13 with | some b => _ | none => _) = _
      rw [hz])
  | some b => exact gb_ex_nx (by
      show (if atag p a = 20 then _ else _) = _
      rw [if_pos h]
      show (match gb_Rw q a 13 with | some b => _ | none => _) = _
      rw [hz])
theorem x_put_653 {m : Nat} {r : List Instr} {ls st : List Value} {p : gb_Pi} {g : gb_Sg} {a x : Nat} (h : atag p a = 20) : gb_ex m (.putfield 653 :: r) ls (.ref x :: .ref a :: st) p g = gb_ex m r ls st p (sR g a 13 (some x)) := gb_ex_nx (by
  show (if atag p a = 20 then _ else _) = _
  rw [if_pos h] <;> rfl)
theorem x_get_654 {m : Nat} {r : List Instr} {ls st : List Value} {p : gb_Pi} {I : Nat → Nat → Int32} {J : Nat → Nat → Int64} {q : Bool × Bool} {X : Nat × (Nat → Int32)} {a : Nat} (h : atag p a = 20) : gb_ex m (.getfield 654 :: r) ls (.ref a :: st) p (gS I J q X) = gb_orf (gb_Rw q a 14) (fun b => gb_ex m r ls (.ref b :: st) p (gS I J q X)) := by
  cases hz : gb_Rw q a 14 with
  | none => exact gb_ex_no (by
      show (if atag p a = 20 then _ else _) = _
      rw [if_pos h]
      show (match gb_Rw q a 14 with | some b => _ | none => _) = _
      rw [hz])
  | some b => exact gb_ex_nx (by
      show (if atag p a = 20 then _ else _) = _
      rw [if_pos h]
      show (match gb_Rw q a 14 with | some b => _ | none => _) = _
      rw [hz])
theorem x_put_654 {m : Nat} {r : List Instr} {ls st : List Value} {p : gb_Pi} {g : gb_Sg} {a x : Nat} (h : atag p a = 20) : gb_ex m (.putfield 654 :: r) ls (.ref x :: .ref a :: st) p g = gb_ex m r ls st p (sR g a 14 (some x)) := gb_ex_nx (by
  show (if atag p a = 20 then _ else _) = _
  rw [if_pos h] <;> rfl)
theorem x_get_655 {m : Nat} {r : List Instr} {ls st : List Value} {p : gb_Pi} {I : Nat → Nat → Int32} {J : Nat → Nat → Int64} {q : Bool × Bool} {X : Nat × (Nat → Int32)} {a : Nat} (h : atag p a = 20) : gb_ex m (.getfield 655 :: r) ls (.ref a :: st) p (gS I J q X) = gb_orf (gb_Rw q a 15) (fun b => gb_ex m r ls (.ref b :: st) p (gS I J q X)) := by
  cases hz : gb_Rw q a 15 with
  | none => exact gb_ex_no (by
      show (if atag p a = 20 then _ else _) = _
      rw [if_pos h]
      show (match gb_Rw q a 15 with | some b => _ | none => _) = _
      rw [hz])
  | some b => exact gb_ex_nx (by
      show (if atag p a = 20 then _ else _) = _
      rw [if_pos h]
      show (match gb_Rw q a 15 with | some b => _ | none => _) = _
      rw [hz])
theorem x_put_655 {m : Nat} {r : List Instr} {ls st : List Value} {p : gb_Pi} {g : gb_Sg} {a x : Nat} (h : atag p a = 20) : gb_ex m (.putfield 655 :: r) ls (.ref x :: .ref a :: st) p g = gb_ex m r ls st p (sR g a 15 (some x)) := gb_ex_nx (by
  show (if atag p a = 20 then _ else _) = _
  rw [if_pos h] <;> rfl)
theorem x_get_656 {m : Nat} {r : List Instr} {ls st : List Value} {p : gb_Pi} {I : Nat → Nat → Int32} {J : Nat → Nat → Int64} {q : Bool × Bool} {X : Nat × (Nat → Int32)} {a : Nat} (h : atag p a = 20) : gb_ex m (.getfield 656 :: r) ls (.ref a :: st) p (gS I J q X) = gb_orf (gb_Rw q a 16) (fun b => gb_ex m r ls (.ref b :: st) p (gS I J q X)) := by
  cases hz : gb_Rw q a 16 with
  | none => exact gb_ex_no (by
      show (if atag p a = 20 then _ else _) = _
      rw [if_pos h]
      show (match gb_Rw q a 16 with | some b => _ | none => _) = _
      rw [hz])
  | some b => exact gb_ex_nx (by
      show (if atag p a = 20 then _ else _) = _
      rw [if_pos h]
      show (match gb_Rw q a 16 with | some b => _ | none => _) = _
      rw [hz])
theorem x_put_656 {m : Nat} {r : List Instr} {ls st : List Value} {p : gb_Pi} {g : gb_Sg} {a x : Nat} (h : atag p a = 20) : gb_ex m (.putfield 656 :: r) ls (.ref x :: .ref a :: st) p g = gb_ex m r ls st p (sR g a 16 (some x)) := gb_ex_nx (by
  show (if atag p a = 20 then _ else _) = _
  rw [if_pos h] <;> rfl)
theorem x_get_657 {m : Nat} {r : List Instr} {ls st : List Value} {p : gb_Pi} {g : gb_Sg} {a : Nat} (h : atag p a = 20) : gb_ex m (.getfield 657 :: r) ls (.ref a :: st) p g = gb_ex m r ls (.int (gI g a 17) :: st) p g := gb_ex_nx (by
  show (if atag p a = 20 then _ else _) = _
  rw [if_pos h] <;> rfl)
theorem x_put_657 {m : Nat} {r : List Instr} {ls st : List Value} {p : gb_Pi} {g : gb_Sg} {a : Nat} {x : Int32} (h : atag p a = 20) : gb_ex m (.putfield 657 :: r) ls (.int x :: .ref a :: st) p g = gb_ex m r ls st p (sI g a 17 x) := gb_ex_nx (by
  show (if atag p a = 20 then _ else _) = _
  rw [if_pos h] <;> rfl)
theorem x_get_658 {m : Nat} {r : List Instr} {ls st : List Value} {p : gb_Pi} {g : gb_Sg} {a : Nat} (h : atag p a = 20) : gb_ex m (.getfield 658 :: r) ls (.ref a :: st) p g = gb_ex m r ls (.int (gI g a 18) :: st) p g := gb_ex_nx (by
  show (if atag p a = 20 then _ else _) = _
  rw [if_pos h] <;> rfl)
theorem x_put_658 {m : Nat} {r : List Instr} {ls st : List Value} {p : gb_Pi} {g : gb_Sg} {a : Nat} {x : Int32} (h : atag p a = 20) : gb_ex m (.putfield 658 :: r) ls (.int x :: .ref a :: st) p g = gb_ex m r ls st p (sI g a 18 x) := gb_ex_nx (by
  show (if atag p a = 20 then _ else _) = _
  rw [if_pos h] <;> rfl)
theorem x_get_659 {m : Nat} {r : List Instr} {ls st : List Value} {p : gb_Pi} {I : Nat → Nat → Int32} {J : Nat → Nat → Int64} {q : Bool × Bool} {X : Nat × (Nat → Int32)} {a : Nat} (h : atag p a = 20) : gb_ex m (.getfield 659 :: r) ls (.ref a :: st) p (gS I J q X) = gb_orf (gb_Rw q a 19) (fun b => gb_ex m r ls (.ref b :: st) p (gS I J q X)) := by
  cases hz : gb_Rw q a 19 with
  | none => exact gb_ex_no (by
      show (if atag p a = 20 then _ else _) = _
      rw [if_pos h]
      show (match gb_Rw q a 19 with | some b => _ | none => _) = _
      rw [hz])
  | some b => exact gb_ex_nx (by
      show (if atag p a = 20 then _ else _) = _
      rw [if_pos h]
      show (match gb_Rw q a 19 with | some b => _ | none => _) = _
      rw [hz])
theorem x_put_659 {m : Nat} {r : List Instr} {ls st : List Value} {p : gb_Pi} {g : gb_Sg} {a x : Nat} (h : atag p a = 20) : gb_ex m (.putfield 659 :: r) ls (.ref x :: .ref a :: st) p g = gb_ex m r ls st p (sR g a 19 (some x)) := gb_ex_nx (by
  show (if atag p a = 20 then _ else _) = _
  rw [if_pos h] <;> rfl)
theorem x_get_660 {m : Nat} {r : List Instr} {ls st : List Value} {p : gb_Pi} {I : Nat → Nat → Int32} {J : Nat → Nat → Int64} {q : Bool × Bool} {X : Nat × (Nat → Int32)} {a : Nat} (h : atag p a = 20) : gb_ex m (.getfield 660 :: r) ls (.ref a :: st) p (gS I J q X) = gb_orf (gb_Rw q a 20) (fun b => gb_ex m r ls (.ref b :: st) p (gS I J q X)) := by
  cases hz : gb_Rw q a 20 with
  | none => exact gb_ex_no (by
      show (if atag p a = 20 then _ else _) = _
      rw [if_pos h]
      show (match gb_Rw q a 20 with | some b => _ | none => _) = _
      rw [hz])
  | some b => exact gb_ex_nx (by
      show (if atag p a = 20 then _ else _) = _
      rw [if_pos h]
      show (match gb_Rw q a 20 with | some b => _ | none => _) = _
      rw [hz])
theorem x_put_660 {m : Nat} {r : List Instr} {ls st : List Value} {p : gb_Pi} {g : gb_Sg} {a x : Nat} (h : atag p a = 20) : gb_ex m (.putfield 660 :: r) ls (.ref x :: .ref a :: st) p g = gb_ex m r ls st p (sR g a 20 (some x)) := gb_ex_nx (by
  show (if atag p a = 20 then _ else _) = _
  rw [if_pos h] <;> rfl)
theorem x_get_661 {m : Nat} {r : List Instr} {ls st : List Value} {p : gb_Pi} {I : Nat → Nat → Int32} {J : Nat → Nat → Int64} {q : Bool × Bool} {X : Nat × (Nat → Int32)} {a : Nat} (h : atag p a = 20) : gb_ex m (.getfield 661 :: r) ls (.ref a :: st) p (gS I J q X) = gb_orf (gb_Rw q a 21) (fun b => gb_ex m r ls (.ref b :: st) p (gS I J q X)) := by
  cases hz : gb_Rw q a 21 with
  | none => exact gb_ex_no (by
      show (if atag p a = 20 then _ else _) = _
      rw [if_pos h]
      show (match gb_Rw q a 21 with | some b => _ | none => _) = _
      rw [hz])
  | some b => exact gb_ex_nx (by
      show (if atag p a = 20 then _ else _) = _
      rw [if_pos h]
      show (match gb_Rw q a 21 with | some b => _ | none => _) = _
      rw [hz])
theorem x_put_661 {m : Nat} {r : List Instr} {ls st : List Value} {p : gb_Pi} {g : gb_Sg} {a x : Nat} (h : atag p a = 20) : gb_ex m (.putfield 661 :: r) ls (.ref x :: .ref a :: st) p g = gb_ex m r ls st p (sR g a 21 (some x)) := gb_ex_nx (by
  show (if atag p a = 20 then _ else _) = _
  rw [if_pos h] <;> rfl)
theorem x_get_662 {m : Nat} {r : List Instr} {ls st : List Value} {p : gb_Pi} {I : Nat → Nat → Int32} {J : Nat → Nat → Int64} {q : Bool × Bool} {X : Nat × (Nat → Int32)} {a : Nat} (h : atag p a = 20) : gb_ex m (.getfield 662 :: r) ls (.ref a :: st) p (gS I J q X) = gb_orf (gb_Rw q a 22) (fun b => gb_ex m r ls (.ref b :: st) p (gS I J q X)) := by
  cases hz : gb_Rw q a 22 with
  | none => exact gb_ex_no (by
      show (if atag p a = 20 then _ else _) = _
      rw [if_pos h]
      show (match gb_Rw q a 22 with | some b => _ | none => _) = _
      rw [hz])
  | some b => exact gb_ex_nx (by
      show (if atag p a = 20 then _ else _) = _
      rw [if_pos h]
      show (match gb_Rw q a 22 with | some b => _ | none => _) = _
      rw [hz])
theorem x_put_662 {m : Nat} {r : List Instr} {ls st : List Value} {p : gb_Pi} {g : gb_Sg} {a x : Nat} (h : atag p a = 20) : gb_ex m (.putfield 662 :: r) ls (.ref x :: .ref a :: st) p g = gb_ex m r ls st p (sR g a 22 (some x)) := gb_ex_nx (by
  show (if atag p a = 20 then _ else _) = _
  rw [if_pos h] <;> rfl)
theorem x_get_663 {m : Nat} {r : List Instr} {ls st : List Value} {p : gb_Pi} {I : Nat → Nat → Int32} {J : Nat → Nat → Int64} {q : Bool × Bool} {X : Nat × (Nat → Int32)} {a : Nat} (h : atag p a = 20) : gb_ex m (.getfield 663 :: r) ls (.ref a :: st) p (gS I J q X) = gb_orf (gb_Rw q a 23) (fun b => gb_ex m r ls (.ref b :: st) p (gS I J q X)) := by
  cases hz : gb_Rw q a 23 with
  | none => exact gb_ex_no (by
      show (if atag p a = 20 then _ else _) = _
      rw [if_pos h]
      show (match gb_Rw q a 23 with | some b => _ | none => _) = _
      rw [hz])
  | some b => exact gb_ex_nx (by
      show (if atag p a = 20 then _ else _) = _
      rw [if_pos h]
      show (match gb_Rw q a 23 with | some b => _ | none => _) = _
      rw [hz])
theorem x_put_663 {m : Nat} {r : List Instr} {ls st : List Value} {p : gb_Pi} {g : gb_Sg} {a x : Nat} (h : atag p a = 20) : gb_ex m (.putfield 663 :: r) ls (.ref x :: .ref a :: st) p g = gb_ex m r ls st p (sR g a 23 (some x)) := gb_ex_nx (by
  show (if atag p a = 20 then _ else _) = _
  rw [if_pos h] <;> rfl)
theorem x_get_664 {m : Nat} {r : List Instr} {ls st : List Value} {p : gb_Pi} {I : Nat → Nat → Int32} {J : Nat → Nat → Int64} {q : Bool × Bool} {X : Nat × (Nat → Int32)} {a : Nat} (h : atag p a = 20) : gb_ex m (.getfield 664 :: r) ls (.ref a :: st) p (gS I J q X) = gb_orf (gb_Rw q a 24) (fun b => gb_ex m r ls (.ref b :: st) p (gS I J q X)) := by
  cases hz : gb_Rw q a 24 with
  | none => exact gb_ex_no (by
      show (if atag p a = 20 then _ else _) = _
      rw [if_pos h]
      show (match gb_Rw q a 24 with | some b => _ | none => _) = _
      rw [hz])
  | some b => exact gb_ex_nx (by
      show (if atag p a = 20 then _ else _) = _
      rw [if_pos h]
      show (match gb_Rw q a 24 with | some b => _ | none => _) = _
      rw [hz])
theorem x_put_664 {m : Nat} {r : List Instr} {ls st : List Value} {p : gb_Pi} {g : gb_Sg} {a x : Nat} (h : atag p a = 20) : gb_ex m (.putfield 664 :: r) ls (.ref x :: .ref a :: st) p g = gb_ex m r ls st p (sR g a 24 (some x)) := gb_ex_nx (by
  show (if atag p a = 20 then _ else _) = _
  rw [if_pos h] <;> rfl)
theorem x_get_665 {m : Nat} {r : List Instr} {ls st : List Value} {p : gb_Pi} {I : Nat → Nat → Int32} {J : Nat → Nat → Int64} {q : Bool × Bool} {X : Nat × (Nat → Int32)} {a : Nat} (h : atag p a = 20) : gb_ex m (.getfield 665 :: r) ls (.ref a :: st) p (gS I J q X) = gb_orf (gb_Rw q a 25) (fun b => gb_ex m r ls (.ref b :: st) p (gS I J q X)) := by
  cases hz : gb_Rw q a 25 with
  | none => exact gb_ex_no (by
      show (if atag p a = 20 then _ else _) = _
      rw [if_pos h]
      show (match gb_Rw q a 25 with | some b => _ | none => _) = _
      rw [hz])
  | some b => exact gb_ex_nx (by
      show (if atag p a = 20 then _ else _) = _
      rw [if_pos h]
      show (match gb_Rw q a 25 with | some b => _ | none => _) = _
      rw [hz])
theorem x_put_665 {m : Nat} {r : List Instr} {ls st : List Value} {p : gb_Pi} {g : gb_Sg} {a x : Nat} (h : atag p a = 20) : gb_ex m (.putfield 665 :: r) ls (.ref x :: .ref a :: st) p g = gb_ex m r ls st p (sR g a 25 (some x)) := gb_ex_nx (by
  show (if atag p a = 20 then _ else _) = _
  rw [if_pos h] <;> rfl)
theorem x_get_666 {m : Nat} {r : List Instr} {ls st : List Value} {p : gb_Pi} {I : Nat → Nat → Int32} {J : Nat → Nat → Int64} {q : Bool × Bool} {X : Nat × (Nat → Int32)} {a : Nat} (h : atag p a = 20) : gb_ex m (.getfield 666 :: r) ls (.ref a :: st) p (gS I J q X) = gb_orf (gb_Rw q a 26) (fun b => gb_ex m r ls (.ref b :: st) p (gS I J q X)) := by
  cases hz : gb_Rw q a 26 with
  | none => exact gb_ex_no (by
      show (if atag p a = 20 then _ else _) = _
      rw [if_pos h]
      show (match gb_Rw q a 26 with | some b => _ | none => _) = _
      rw [hz])
  | some b => exact gb_ex_nx (by
      show (if atag p a = 20 then _ else _) = _
      rw [if_pos h]
      show (match gb_Rw q a 26 with | some b => _ | none => _) = _
      rw [hz])
theorem x_put_666 {m : Nat} {r : List Instr} {ls st : List Value} {p : gb_Pi} {g : gb_Sg} {a x : Nat} (h : atag p a = 20) : gb_ex m (.putfield 666 :: r) ls (.ref x :: .ref a :: st) p g = gb_ex m r ls st p (sR g a 26 (some x)) := gb_ex_nx (by
  show (if atag p a = 20 then _ else _) = _
  rw [if_pos h] <;> rfl)
theorem x_get_667 {m : Nat} {r : List Instr} {ls st : List Value} {p : gb_Pi} {I : Nat → Nat → Int32} {J : Nat → Nat → Int64} {q : Bool × Bool} {X : Nat × (Nat → Int32)} {a : Nat} (h : atag p a = 20) : gb_ex m (.getfield 667 :: r) ls (.ref a :: st) p (gS I J q X) = gb_orf (gb_Rw q a 27) (fun b => gb_ex m r ls (.ref b :: st) p (gS I J q X)) := by
  cases hz : gb_Rw q a 27 with
  | none => exact gb_ex_no (by
      show (if atag p a = 20 then _ else _) = _
      rw [if_pos h]
      show (match gb_Rw q a 27 with | some b => _ | none => _) = _
      rw [hz])
  | some b => exact gb_ex_nx (by
      show (if atag p a = 20 then _ else _) = _
      rw [if_pos h]
      show (match gb_Rw q a 27 with | some b => _ | none => _) = _
      rw [hz])
theorem x_put_667 {m : Nat} {r : List Instr} {ls st : List Value} {p : gb_Pi} {g : gb_Sg} {a x : Nat} (h : atag p a = 20) : gb_ex m (.putfield 667 :: r) ls (.ref x :: .ref a :: st) p g = gb_ex m r ls st p (sR g a 27 (some x)) := gb_ex_nx (by
  show (if atag p a = 20 then _ else _) = _
  rw [if_pos h] <;> rfl)
theorem x_put_668 {m : Nat} {r : List Instr} {ls st : List Value} {p : gb_Pi} {g : gb_Sg} {a x : Nat} (h : atag p a = 20) : gb_ex m (.putfield 668 :: r) ls (.ref x :: .ref a :: st) p g = gb_ex m r ls st p (sR g a 28 (some x)) := gb_ex_nx (by
  show (if atag p a = 20 then _ else _) = _
  rw [if_pos h] <;> rfl)
theorem x_get_669 {m : Nat} {r : List Instr} {ls st : List Value} {p : gb_Pi} {I : Nat → Nat → Int32} {J : Nat → Nat → Int64} {q : Bool × Bool} {X : Nat × (Nat → Int32)} {a : Nat} (h : atag p a = 20) : gb_ex m (.getfield 669 :: r) ls (.ref a :: st) p (gS I J q X) = gb_orf (gb_Rw q a 29) (fun b => gb_ex m r ls (.ref b :: st) p (gS I J q X)) := by
  cases hz : gb_Rw q a 29 with
  | none => exact gb_ex_no (by
      show (if atag p a = 20 then _ else _) = _
      rw [if_pos h]
      show (match gb_Rw q a 29 with | some b => _ | none => _) = _
      rw [hz])
  | some b => exact gb_ex_nx (by
      show (if atag p a = 20 then _ else _) = _
      rw [if_pos h]
      show (match gb_Rw q a 29 with | some b => _ | none => _) = _
      rw [hz])
theorem x_put_669 {m : Nat} {r : List Instr} {ls st : List Value} {p : gb_Pi} {g : gb_Sg} {a x : Nat} (h : atag p a = 20) : gb_ex m (.putfield 669 :: r) ls (.ref x :: .ref a :: st) p g = gb_ex m r ls st p (sR g a 29 (some x)) := gb_ex_nx (by
  show (if atag p a = 20 then _ else _) = _
  rw [if_pos h] <;> rfl)
theorem x_get_670 {m : Nat} {r : List Instr} {ls st : List Value} {p : gb_Pi} {I : Nat → Nat → Int32} {J : Nat → Nat → Int64} {q : Bool × Bool} {X : Nat × (Nat → Int32)} {a : Nat} (h : atag p a = 20) : gb_ex m (.getfield 670 :: r) ls (.ref a :: st) p (gS I J q X) = gb_orf (gb_Rw q a 30) (fun b => gb_ex m r ls (.ref b :: st) p (gS I J q X)) := by
  cases hz : gb_Rw q a 30 with
  | none => exact gb_ex_no (by
      show (if atag p a = 20 then _ else _) = _
      rw [if_pos h]
      show (match gb_Rw q a 30 with | some b => _ | none => _) = _
      rw [hz])
  | some b => exact gb_ex_nx (by
      show (if atag p a = 20 then _ else _) = _
      rw [if_pos h]
      show (match gb_Rw q a 30 with | some b => _ | none => _) = _
      rw [hz])
theorem x_put_670 {m : Nat} {r : List Instr} {ls st : List Value} {p : gb_Pi} {g : gb_Sg} {a x : Nat} (h : atag p a = 20) : gb_ex m (.putfield 670 :: r) ls (.ref x :: .ref a :: st) p g = gb_ex m r ls st p (sR g a 30 (some x)) := gb_ex_nx (by
  show (if atag p a = 20 then _ else _) = _
  rw [if_pos h] <;> rfl)
theorem x_get_671 {m : Nat} {r : List Instr} {ls st : List Value} {p : gb_Pi} {I : Nat → Nat → Int32} {J : Nat → Nat → Int64} {q : Bool × Bool} {X : Nat × (Nat → Int32)} {a : Nat} (h : atag p a = 20) : gb_ex m (.getfield 671 :: r) ls (.ref a :: st) p (gS I J q X) = gb_orf (gb_Rw q a 31) (fun b => gb_ex m r ls (.ref b :: st) p (gS I J q X)) := by
  cases hz : gb_Rw q a 31 with
  | none => exact gb_ex_no (by
      show (if atag p a = 20 then _ else _) = _
      rw [if_pos h]
      show (match gb_Rw q a 31 with | some b => _ | none => _) = _
      rw [hz])
  | some b => exact gb_ex_nx (by
      show (if atag p a = 20 then _ else _) = _
      rw [if_pos h]
      show (match gb_Rw q a 31 with | some b => _ | none => _) = _
      rw [hz])
theorem x_put_671 {m : Nat} {r : List Instr} {ls st : List Value} {p : gb_Pi} {g : gb_Sg} {a x : Nat} (h : atag p a = 20) : gb_ex m (.putfield 671 :: r) ls (.ref x :: .ref a :: st) p g = gb_ex m r ls st p (sR g a 31 (some x)) := gb_ex_nx (by
  show (if atag p a = 20 then _ else _) = _
  rw [if_pos h] <;> rfl)
theorem x_get_672 {m : Nat} {r : List Instr} {ls st : List Value} {p : gb_Pi} {g : gb_Sg} {a : Nat} (h : atag p a = 20) : gb_ex m (.getfield 672 :: r) ls (.ref a :: st) p g = gb_ex m r ls (.long (gL g a 32) :: st) p g := gb_ex_nx (by
  show (if atag p a = 20 then _ else _) = _
  rw [if_pos h] <;> rfl)
theorem x_put_672 {m : Nat} {r : List Instr} {ls st : List Value} {p : gb_Pi} {g : gb_Sg} {a : Nat} {x : Int64} (h : atag p a = 20) : gb_ex m (.putfield 672 :: r) ls (.long x :: .ref a :: st) p g = gb_ex m r ls st p (sL g a 32 x) := gb_ex_nx (by
  show (if atag p a = 20 then _ else _) = _
  rw [if_pos h] <;> rfl)
theorem x_get_673 {m : Nat} {r : List Instr} {ls st : List Value} {p : gb_Pi} {g : gb_Sg} {a : Nat} (h : atag p a = 20) : gb_ex m (.getfield 673 :: r) ls (.ref a :: st) p g = gb_ex m r ls (.long (gL g a 33) :: st) p g := gb_ex_nx (by
  show (if atag p a = 20 then _ else _) = _
  rw [if_pos h] <;> rfl)
theorem x_put_673 {m : Nat} {r : List Instr} {ls st : List Value} {p : gb_Pi} {g : gb_Sg} {a : Nat} {x : Int64} (h : atag p a = 20) : gb_ex m (.putfield 673 :: r) ls (.long x :: .ref a :: st) p g = gb_ex m r ls st p (sL g a 33 x) := gb_ex_nx (by
  show (if atag p a = 20 then _ else _) = _
  rw [if_pos h] <;> rfl)
theorem x_get_674 {m : Nat} {r : List Instr} {ls st : List Value} {p : gb_Pi} {g : gb_Sg} {a : Nat} (h : atag p a = 20) : gb_ex m (.getfield 674 :: r) ls (.ref a :: st) p g = gb_ex m r ls (.int (gI g a 34) :: st) p g := gb_ex_nx (by
  show (if atag p a = 20 then _ else _) = _
  rw [if_pos h] <;> rfl)
theorem x_put_674 {m : Nat} {r : List Instr} {ls st : List Value} {p : gb_Pi} {g : gb_Sg} {a : Nat} {x : Int32} (h : atag p a = 20) : gb_ex m (.putfield 674 :: r) ls (.int x :: .ref a :: st) p g = if x = 0 ∨ x = 1 then gb_ex m r ls st p (sI g a 34 x) else none := by
  by_cases hx : x = 0 ∨ x = 1
  · rw [if_pos hx]; exact gb_ex_nx (by
      show (if atag p a = 20 then _ else _) = _
      rw [if_pos h]
      show (if x = 0 ∨ x = 1 then _ else _) = _
      rw [if_pos hx])
  · rw [if_neg hx]; exact gb_ex_no (by
      show (if atag p a = 20 then _ else _) = _
      rw [if_pos h]
      show (if x = 0 ∨ x = 1 then _ else _) = _
      rw [if_neg hx])
theorem x_get_675 {m : Nat} {r : List Instr} {ls st : List Value} {p : gb_Pi} {I : Nat → Nat → Int32} {J : Nat → Nat → Int64} {q : Bool × Bool} {X : Nat × (Nat → Int32)} {a : Nat} (h : atag p a = 20) : gb_ex m (.getfield 675 :: r) ls (.ref a :: st) p (gS I J q X) = gb_orf (gb_Rw q a 35) (fun b => gb_ex m r ls (.ref b :: st) p (gS I J q X)) := by
  cases hz : gb_Rw q a 35 with
  | none => exact gb_ex_no (by
      show (if atag p a = 20 then _ else _) = _
      rw [if_pos h]
      show (match gb_Rw q a 35 with | some b => _ | none => _) = _
      rw [hz])
  | some b => exact gb_ex_nx (by
      show (if atag p a = 20 then _ else _) = _
      rw [if_pos h]
      show (match gb_Rw q a 35 with | some b => _ | none => _) = _
      rw [hz])
theorem x_put_675 {m : Nat} {r : List Instr} {ls st : List Value} {p : gb_Pi} {g : gb_Sg} {a x : Nat} (h : atag p a = 20) : gb_ex m (.putfield 675 :: r) ls (.ref x :: .ref a :: st) p g = gb_ex m r ls st p (sR g a 35 (some x)) := gb_ex_nx (by
  show (if atag p a = 20 then _ else _) = _
  rw [if_pos h] <;> rfl)
theorem x_iald {m : Nat} {r : List Instr} {ls st : List Value} {p : gb_Pi} {g : gb_Sg} {a : Nat} {i : Int32} (h : atag p a = 0) : gb_ex m (.iaload :: r) ls (.int i :: .ref a :: st) p g = if oob i (alen p a) then none else gb_ex m r ls (.int (gI g a (ix i)) :: st) p g := by
  by_cases ho : oob i (alen p a) = true
  · rw [if_pos ho]; exact gb_ex_no (by simp [gb_stp, h, ho])
  · rw [if_neg ho]; exact gb_ex_nx (by simp [gb_stp, h, ho])
theorem x_lald {m : Nat} {r : List Instr} {ls st : List Value} {p : gb_Pi} {g : gb_Sg} {a : Nat} {i : Int32} (h : atag p a = 3) : gb_ex m (.laload :: r) ls (.int i :: .ref a :: st) p g = if oob i (alen p a) then none else gb_ex m r ls (.long (gL g a (ix i)) :: st) p g := by
  by_cases ho : oob i (alen p a) = true
  · rw [if_pos ho]; exact gb_ex_no (by simp [gb_stp, h, ho])
  · rw [if_neg ho]; exact gb_ex_nx (by simp [gb_stp, h, ho])
theorem x_bald {m : Nat} {r : List Instr} {ls st : List Value} {p : gb_Pi} {g : gb_Sg} {a : Nat} {i : Int32} (h : atag p a = 1) : gb_ex m (.baload :: r) ls (.int i :: .ref a :: st) p g = if oob i (alen p a) then none else gb_ex m r ls (.int (gI g a (ix i)) :: st) p g := by
  by_cases ho : oob i (alen p a) = true
  · rw [if_pos ho]; exact gb_ex_no (by simp [gb_stp, h, ho])
  · rw [if_neg ho]; exact gb_ex_nx (by simp [gb_stp, h, ho])
theorem x_zald {m : Nat} {r : List Instr} {ls st : List Value} {p : gb_Pi} {g : gb_Sg} {a : Nat} {i : Int32} (h : atag p a = 2) : gb_ex m (.baload :: r) ls (.int i :: .ref a :: st) p g = if oob i (alen p a) then none else gb_ex m r ls (.int (gI g a (ix i)) :: st) p g := by
  by_cases ho : oob i (alen p a) = true
  · rw [if_pos ho]; exact gb_ex_no (by simp [gb_stp, h, ho])
  · rw [if_neg ho]; exact gb_ex_nx (by simp [gb_stp, h, ho])
theorem x_sald {m : Nat} {r : List Instr} {ls st : List Value} {p : gb_Pi} {g : gb_Sg} {z : Nat} {i : Int32} : gb_ex m (.iaload :: r) ls (.int i :: .retAddr z :: st) p g = if oob i (gN g) then none else gb_ex m r ls (.int (gX g (ix i)) :: st) p g := by
  by_cases ho : oob i (gN g) = true
  · rw [if_pos ho]; exact gb_ex_no (by simp [gb_stp, ho])
  · rw [if_neg ho]; exact gb_ex_nx (by simp [gb_stp, ho])
theorem x_aald {m : Nat} {r : List Instr} {ls st : List Value} {p : gb_Pi} {I : Nat → Nat → Int32} {J : Nat → Nat → Int64} {q : Bool × Bool} {X : Nat × (Nat → Int32)} {a : Nat} {i : Int32} (h : atag p a = 4) : gb_ex m (.aaload :: r) ls (.int i :: .ref a :: st) p (gS I J q X) = if oob i (alen p a) then none else gb_orf (gb_Rw q a (ix i)) (fun b => gb_ex m r ls (.ref b :: st) p (gS I J q X)) := by
  by_cases ho : oob i (alen p a) = true
  · rw [if_pos ho]; exact gb_ex_no (by simp [gb_stp, h, ho])
  · rw [if_neg ho]
    cases hz : gb_Rw q a (ix i) with
    | none => exact gb_ex_no (by simp [gb_stp, h, ho, gR_gS, hz])
    | some b => exact gb_ex_nx (by simp [gb_stp, h, ho, gR_gS, hz])
theorem x_aaldJ {m : Nat} {r : List Instr} {ls st : List Value} {p : gb_Pi} {I : Nat → Nat → Int32} {J : Nat → Nat → Int64} {q : Bool × Bool} {X : Nat × (Nat → Int32)} {a : Nat} {i : Int32} (h : atag p a = 5) : gb_ex m (.aaload :: r) ls (.int i :: .ref a :: st) p (gS I J q X) = if oob i (alen p a) then none else gb_orf (gb_Rw q a (ix i)) (fun b => gb_ex m r ls (.ref b :: st) p (gS I J q X)) := by
  by_cases ho : oob i (alen p a) = true
  · rw [if_pos ho]; exact gb_ex_no (by simp [gb_stp, h, ho])
  · rw [if_neg ho]
    cases hz : gb_Rw q a (ix i) with
    | none => exact gb_ex_no (by simp [gb_stp, h, ho, gR_gS, hz])
    | some b => exact gb_ex_nx (by simp [gb_stp, h, ho, gR_gS, hz])
theorem x_iast {m : Nat} {r : List Instr} {ls st : List Value} {p : gb_Pi} {g : gb_Sg} {a : Nat} {i : Int32} {x : Int32} (h : atag p a = 0) : gb_ex m (.iastore :: r) ls (.int x :: .int i :: .ref a :: st) p g = if oob i (alen p a) then none else gb_ex m r ls st p (sI g a (ix i) x) := by
  by_cases ho : oob i (alen p a) = true
  · rw [if_pos ho]; exact gb_ex_no (by simp [gb_stp, h, ho])
  · rw [if_neg ho]; exact gb_ex_nx (by simp [gb_stp, h, ho])
theorem x_last {m : Nat} {r : List Instr} {ls st : List Value} {p : gb_Pi} {g : gb_Sg} {a : Nat} {i : Int32} {x : Int64} (h : atag p a = 3) : gb_ex m (.lastore :: r) ls (.long x :: .int i :: .ref a :: st) p g = if oob i (alen p a) then none else gb_ex m r ls st p (sL g a (ix i) x) := by
  by_cases ho : oob i (alen p a) = true
  · rw [if_pos ho]; exact gb_ex_no (by simp [gb_stp, h, ho])
  · rw [if_neg ho]; exact gb_ex_nx (by simp [gb_stp, h, ho])
theorem x_bast {m : Nat} {r : List Instr} {ls st : List Value} {p : gb_Pi} {g : gb_Sg} {a : Nat} {i : Int32} {x : Int32} (h : atag p a = 1) : gb_ex m (.bastore :: r) ls (.int x :: .int i :: .ref a :: st) p g = if oob i (alen p a) then none else gb_ex m r ls st p (sI g a (ix i) x.toInt8.toInt32) := by
  by_cases ho : oob i (alen p a) = true
  · rw [if_pos ho]; exact gb_ex_no (by simp [gb_stp, h, ho])
  · rw [if_neg ho]; exact gb_ex_nx (by simp [gb_stp, h, ho])
theorem x_zast {m : Nat} {r : List Instr} {ls st : List Value} {p : gb_Pi} {g : gb_Sg} {a : Nat} {i : Int32} {x : Int32} (h : atag p a = 2) : gb_ex m (.bastore :: r) ls (.int x :: .int i :: .ref a :: st) p g = if oob i (alen p a) then none else gb_ex m r ls st p (sI g a (ix i) (x &&& 1)) := by
  by_cases ho : oob i (alen p a) = true
  · rw [if_pos ho]; exact gb_ex_no (by simp [gb_stp, h, ho])
  · rw [if_neg ho]; exact gb_ex_nx (by simp [gb_stp, h, ho])
theorem x_alen {m : Nat} {r : List Instr} {ls st : List Value} {p : gb_Pi} {g : gb_Sg} {a : Nat} (h : atag p a ≤ 5) : gb_ex m (.arraylength :: r) ls (.ref a :: st) p g = gb_ex m r ls (.int (nI (alen p a)) :: st) p g := gb_ex_nx (by simp only [gb_stp, if_pos h]; rfl)
theorem x_slen {m : Nat} {r : List Instr} {ls st : List Value} {p : gb_Pi} {g : gb_Sg} {a : Nat} : gb_ex m (.arraylength :: r) ls (.retAddr a :: st) p g = gb_ex m r ls (.int (nI (gN g)) :: st) p g := gb_ex_nx rfl
theorem x_iret {m : Nat} {r : List Instr} {ls : List Value} {p : gb_Pi} {g : gb_Sg} {x : Int32} : gb_ex m (.ireturn :: r) ls [.int x] p g = some (.int x, p, g) := gb_ex_rt rfl
theorem x_zret {m : Nat} {r : List Instr} {ls : List Value} {p : gb_Pi} {g : gb_Sg} {x : Int32} : gb_ex m (.areturn :: r) ls [.int x] p g = if x = 0 ∨ x = 1 then some (.int x, p, g) else none := by
  by_cases hx : x = 0 ∨ x = 1
  · rw [if_pos hx]; exact gb_ex_rt (by simp only [gb_stp, if_pos hx])
  · rw [if_neg hx]; exact gb_ex_no (by simp only [gb_stp, if_neg hx])
theorem x_lret {m : Nat} {r : List Instr} {ls : List Value} {p : gb_Pi} {g : gb_Sg} {x : Int64} : gb_ex m (.lreturn :: r) ls [.long x] p g = some (.long x, p, g) := gb_ex_rt rfl
theorem x_vret {m : Nat} {r : List Instr} {ls : List Value} {p : gb_Pi} {g : gb_Sg} : gb_ex m (.return_ :: r) ls [] p g = some (.null, p, g) := gb_ex_rt rfl
theorem x_tsw {m : Nat} {r : List Instr} {ls st : List Value} {p : gb_Pi} {g : gb_Sg} {d lo hi : Int} {offs : Array Int} {x : Int32} : gb_ex m (.tableswitch d lo hi offs :: r) ls (.int x :: st) p g = if x.toInt < lo ∨ hi < x.toInt then gb_ex m (gb_tgt m d.toNat) ls st p g else gb_orf ((offs[(x.toInt - lo).toNat]?).map (fun t => t.toNat)) (fun t => gb_ex m (gb_tgt m t) ls st p g) := by
  by_cases hx : x.toInt < lo ∨ hi < x.toInt
  · rw [if_pos hx]; exact gb_ex_jp (by simp only [gb_stp, if_pos hx])
  · rw [if_neg hx]
    cases hz : offs[(x.toInt - lo).toNat]? with
    | none => exact gb_ex_no (by simp only [gb_stp, if_neg hx, hz])
    | some t => exact gb_ex_jp (by simp only [gb_stp, if_neg hx, hz])
theorem x_lsw {m : Nat} {r : List Instr} {ls st : List Value} {p : gb_Pi} {g : gb_Sg} {d : Int} {ps : Array (Int × Int)} {x : Int32} : gb_ex m (.lookupswitch d ps :: r) ls (.int x :: st) p g = gb_ex m (gb_tgt m (Op.lookupswitch.offset ps.toList d x.toInt).toNat) ls st p g := gb_ex_jp rfl
theorem xc_BE_init {m : Nat} {r : List Instr} {ls st : List Value} {p : gb_Pi} {g : gb_Sg} {x0 : Nat} (h : atag p x0 = 10) (hs : st.length ≤ 4) : gb_ex m (.invokeinterface 1 1 :: r) ls (.ref x0 :: st) p g = (gb_call 1 [.ref x0] p g).bind (fun w => gb_ex m r ls (psh w.1 st) w.2.1 w.2.2) :=
  gb_ex_cl (k := 1) (n := 1) (st' := .ref x0 :: st) (by
    have h1 : 1 ≤ (.ref x0 :: st : List Value).length := by simp
    have h2 : gb_rcv 1 [.ref x0] p = true := by
      show (true && true && true && decide (atag p x0 = 10)) = true
      rw [h]
      rfl
    simp only [gb_stp]
    exact if_pos ⟨h1, hs, h2⟩)
theorem cl_BE_init {p : gb_Pi} {g : gb_Sg} {x0 : Nat} : gb_call 1 [.ref x0] p g = gb_ex 1 bk_BE_init_0 [.ref x0] [] p g := rfl
theorem xc_BE_worldsOf {m : Nat} {r : List Instr} {ls st : List Value} {p : gb_Pi} {g : gb_Sg} {x0 : Nat} {x1 : Int32} (h : atag p x0 = 10) (hs : st.length ≤ 4) : gb_ex m (.invokeinterface 2 2 :: r) ls (.int x1 :: .ref x0 :: st) p g = (gb_call 2 [.ref x0, .int x1] p g).bind (fun w => gb_ex m r ls (psh w.1 st) w.2.1 w.2.2) :=
  gb_ex_cl (k := 2) (n := 2) (st' := .int x1 :: .ref x0 :: st) (by
    have h1 : 2 ≤ (.int x1 :: .ref x0 :: st : List Value).length := by simp
    have h2 : gb_rcv 2 [.ref x0, .int x1] p = true := by
      show (true && true && true && decide (atag p x0 = 10)) = true
      rw [h]
      rfl
    simp only [gb_stp]
    exact if_pos ⟨h1, hs, h2⟩)
theorem cl_BE_worldsOf {p : gb_Pi} {g : gb_Sg} {x0 : Nat} {x1 : Int32} : gb_call 2 [.ref x0, .int x1] p g = gb_ex 2 bk_BE_worldsOf_0 [.ref x0, .int x1, .null] [] p g := rfl
theorem xc_BE_readFrom {m : Nat} {r : List Instr} {ls st : List Value} {p : gb_Pi} {g : gb_Sg} {x0 : Nat} {x1 : Nat} (h : atag p x0 = 10) (hs : st.length ≤ 4) : gb_ex m (.invokeinterface 3 2 :: r) ls (.ref x1 :: .ref x0 :: st) p g = (gb_call 3 [.ref x0, .ref x1] p g).bind (fun w => gb_ex m r ls (psh w.1 st) w.2.1 w.2.2) :=
  gb_ex_cl (k := 3) (n := 2) (st' := .ref x1 :: .ref x0 :: st) (by
    have h1 : 2 ≤ (.ref x1 :: .ref x0 :: st : List Value).length := by simp
    have h2 : gb_rcv 3 [.ref x0, .ref x1] p = true := by
      show (true && true && true && decide (atag p x0 = 10)) = true
      rw [h]
      rfl
    simp only [gb_stp]
    exact if_pos ⟨h1, hs, h2⟩)
theorem cl_BE_readFrom {p : gb_Pi} {g : gb_Sg} {x0 : Nat} {x1 : Nat} : gb_call 3 [.ref x0, .ref x1] p g = gb_ex 3 bk_BE_readFrom_0 [.ref x0, .ref x1, .null, .null] [] p g := rfl
theorem xc_BE_readItem {m : Nat} {r : List Instr} {ls st : List Value} {p : gb_Pi} {g : gb_Sg} {x0 : Nat} {x1 : Nat} (h : atag p x0 = 10) (hs : st.length ≤ 4) : gb_ex m (.invokeinterface 4 2 :: r) ls (.ref x1 :: .ref x0 :: st) p g = (gb_call 4 [.ref x0, .ref x1] p g).bind (fun w => gb_ex m r ls (psh w.1 st) w.2.1 w.2.2) :=
  gb_ex_cl (k := 4) (n := 2) (st' := .ref x1 :: .ref x0 :: st) (by
    have h1 : 2 ≤ (.ref x1 :: .ref x0 :: st : List Value).length := by simp
    have h2 : gb_rcv 4 [.ref x0, .ref x1] p = true := by
      show (true && true && true && decide (atag p x0 = 10)) = true
      rw [h]
      rfl
    simp only [gb_stp]
    exact if_pos ⟨h1, hs, h2⟩)
theorem cl_BE_readItem {p : gb_Pi} {g : gb_Sg} {x0 : Nat} {x1 : Nat} : gb_call 4 [.ref x0, .ref x1] p g = gb_ex 4 bk_BE_readItem_0 [.ref x0, .ref x1] [] p g := rfl
theorem xc_BE_readNumbers {m : Nat} {r : List Instr} {ls st : List Value} {p : gb_Pi} {g : gb_Sg} {x0 : Nat} {x1 : Nat} {x2 : Int32} (h : atag p x0 = 10) (hs : st.length ≤ 4) : gb_ex m (.invokeinterface 5 3 :: r) ls (.int x2 :: .ref x1 :: .ref x0 :: st) p g = (gb_call 5 [.ref x0, .ref x1, .int x2] p g).bind (fun w => gb_ex m r ls (psh w.1 st) w.2.1 w.2.2) :=
  gb_ex_cl (k := 5) (n := 3) (st' := .int x2 :: .ref x1 :: .ref x0 :: st) (by
    have h1 : 3 ≤ (.int x2 :: .ref x1 :: .ref x0 :: st : List Value).length := by simp
    have h2 : gb_rcv 5 [.ref x0, .ref x1, .int x2] p = true := by
      show (true && true && true && decide (atag p x0 = 10)) = true
      rw [h]
      rfl
    simp only [gb_stp]
    exact if_pos ⟨h1, hs, h2⟩)
theorem cl_BE_readNumbers {p : gb_Pi} {g : gb_Sg} {x0 : Nat} {x1 : Nat} {x2 : Int32} : gb_call 5 [.ref x0, .ref x1, .int x2] p g = gb_ex 5 bk_BE_readNumbers_0 [.ref x0, .ref x1, .int x2, .null] [] p g := rfl
theorem xc_BE_addCells {m : Nat} {r : List Instr} {ls st : List Value} {p : gb_Pi} {g : gb_Sg} {x0 : Nat} (h : atag p x0 = 10) (hs : st.length ≤ 4) : gb_ex m (.invokeinterface 6 1 :: r) ls (.ref x0 :: st) p g = (gb_call 6 [.ref x0] p g).bind (fun w => gb_ex m r ls (psh w.1 st) w.2.1 w.2.2) :=
  gb_ex_cl (k := 6) (n := 1) (st' := .ref x0 :: st) (by
    have h1 : 1 ≤ (.ref x0 :: st : List Value).length := by simp
    have h2 : gb_rcv 6 [.ref x0] p = true := by
      show (true && true && true && decide (atag p x0 = 10)) = true
      rw [h]
      rfl
    simp only [gb_stp]
    exact if_pos ⟨h1, hs, h2⟩)
theorem cl_BE_addCells {p : gb_Pi} {g : gb_Sg} {x0 : Nat} : gb_call 6 [.ref x0] p g = gb_ex 6 bk_BE_addCells_0 [.ref x0] [] p g := rfl
theorem xc_BE_addTide {m : Nat} {r : List Instr} {ls st : List Value} {p : gb_Pi} {g : gb_Sg} {x0 : Nat} (h : atag p x0 = 10) (hs : st.length ≤ 4) : gb_ex m (.invokeinterface 7 1 :: r) ls (.ref x0 :: st) p g = (gb_call 7 [.ref x0] p g).bind (fun w => gb_ex m r ls (psh w.1 st) w.2.1 w.2.2) :=
  gb_ex_cl (k := 7) (n := 1) (st' := .ref x0 :: st) (by
    have h1 : 1 ≤ (.ref x0 :: st : List Value).length := by simp
    have h2 : gb_rcv 7 [.ref x0] p = true := by
      show (true && true && true && decide (atag p x0 = 10)) = true
      rw [h]
      rfl
    simp only [gb_stp]
    exact if_pos ⟨h1, hs, h2⟩)
theorem cl_BE_addTide {p : gb_Pi} {g : gb_Sg} {x0 : Nat} : gb_call 7 [.ref x0] p g = gb_ex 7 bk_BE_addTide_0 [.ref x0] [] p g := rfl
theorem xc_BE_addWind {m : Nat} {r : List Instr} {ls st : List Value} {p : gb_Pi} {g : gb_Sg} {x0 : Nat} (h : atag p x0 = 10) (hs : st.length ≤ 4) : gb_ex m (.invokeinterface 8 1 :: r) ls (.ref x0 :: st) p g = (gb_call 8 [.ref x0] p g).bind (fun w => gb_ex m r ls (psh w.1 st) w.2.1 w.2.2) :=
  gb_ex_cl (k := 8) (n := 1) (st' := .ref x0 :: st) (by
    have h1 : 1 ≤ (.ref x0 :: st : List Value).length := by simp
    have h2 : gb_rcv 8 [.ref x0] p = true := by
      show (true && true && true && decide (atag p x0 = 10)) = true
      rw [h]
      rfl
    simp only [gb_stp]
    exact if_pos ⟨h1, hs, h2⟩)
theorem cl_BE_addWind {p : gb_Pi} {g : gb_Sg} {x0 : Nat} : gb_call 8 [.ref x0] p g = gb_ex 8 bk_BE_addWind_0 [.ref x0] [] p g := rfl
theorem xc_BE_addKind {m : Nat} {r : List Instr} {ls st : List Value} {p : gb_Pi} {g : gb_Sg} {x0 : Nat} (h : atag p x0 = 10) (hs : st.length ≤ 4) : gb_ex m (.invokeinterface 9 1 :: r) ls (.ref x0 :: st) p g = (gb_call 9 [.ref x0] p g).bind (fun w => gb_ex m r ls (psh w.1 st) w.2.1 w.2.2) :=
  gb_ex_cl (k := 9) (n := 1) (st' := .ref x0 :: st) (by
    have h1 : 1 ≤ (.ref x0 :: st : List Value).length := by simp
    have h2 : gb_rcv 9 [.ref x0] p = true := by
      show (true && true && true && decide (atag p x0 = 10)) = true
      rw [h]
      rfl
    simp only [gb_stp]
    exact if_pos ⟨h1, hs, h2⟩)
theorem cl_BE_addKind {p : gb_Pi} {g : gb_Sg} {x0 : Nat} : gb_call 9 [.ref x0] p g = gb_ex 9 bk_BE_addKind_0 [.ref x0] [] p g := rfl
theorem xc_BE_addLoss {m : Nat} {r : List Instr} {ls st : List Value} {p : gb_Pi} {g : gb_Sg} {x0 : Nat} (h : atag p x0 = 10) (hs : st.length ≤ 4) : gb_ex m (.invokeinterface 10 1 :: r) ls (.ref x0 :: st) p g = (gb_call 10 [.ref x0] p g).bind (fun w => gb_ex m r ls (psh w.1 st) w.2.1 w.2.2) :=
  gb_ex_cl (k := 10) (n := 1) (st' := .ref x0 :: st) (by
    have h1 : 1 ≤ (.ref x0 :: st : List Value).length := by simp
    have h2 : gb_rcv 10 [.ref x0] p = true := by
      show (true && true && true && decide (atag p x0 = 10)) = true
      rw [h]
      rfl
    simp only [gb_stp]
    exact if_pos ⟨h1, hs, h2⟩)
theorem cl_BE_addLoss {p : gb_Pi} {g : gb_Sg} {x0 : Nat} : gb_call 10 [.ref x0] p g = gb_ex 10 bk_BE_addLoss_0 [.ref x0] [] p g := rfl
theorem xc_LA_init {m : Nat} {r : List Instr} {ls st : List Value} {p : gb_Pi} {g : gb_Sg} {x0 : Nat} (h : atag p x0 = 11) (hs : st.length ≤ 4) : gb_ex m (.invokeinterface 11 1 :: r) ls (.ref x0 :: st) p g = (gb_call 11 [.ref x0] p g).bind (fun w => gb_ex m r ls (psh w.1 st) w.2.1 w.2.2) :=
  gb_ex_cl (k := 11) (n := 1) (st' := .ref x0 :: st) (by
    have h1 : 1 ≤ (.ref x0 :: st : List Value).length := by simp
    have h2 : gb_rcv 11 [.ref x0] p = true := by
      show (true && true && true && decide (atag p x0 = 11)) = true
      rw [h]
      rfl
    simp only [gb_stp]
    exact if_pos ⟨h1, hs, h2⟩)
theorem cl_LA_init {p : gb_Pi} {g : gb_Sg} {x0 : Nat} : gb_call 11 [.ref x0] p g = gb_ex 11 bk_LA_init_0 [.ref x0] [] p g := rfl
theorem xc_LA_forget {m : Nat} {r : List Instr} {ls st : List Value} {p : gb_Pi} {g : gb_Sg} {x0 : Nat} (h : atag p x0 = 11) (hs : st.length ≤ 4) : gb_ex m (.invokeinterface 12 1 :: r) ls (.ref x0 :: st) p g = (gb_call 12 [.ref x0] p g).bind (fun w => gb_ex m r ls (psh w.1 st) w.2.1 w.2.2) :=
  gb_ex_cl (k := 12) (n := 1) (st' := .ref x0 :: st) (by
    have h1 : 1 ≤ (.ref x0 :: st : List Value).length := by simp
    have h2 : gb_rcv 12 [.ref x0] p = true := by
      show (true && true && true && decide (atag p x0 = 11)) = true
      rw [h]
      rfl
    simp only [gb_stp]
    exact if_pos ⟨h1, hs, h2⟩)
theorem cl_LA_forget {p : gb_Pi} {g : gb_Sg} {x0 : Nat} : gb_call 12 [.ref x0] p g = gb_ex 12 bk_LA_forget_0 [.ref x0, .null] [] p g := rfl
theorem xc_LA_release {m : Nat} {r : List Instr} {ls st : List Value} {p : gb_Pi} {g : gb_Sg} {x0 : Nat} {x1 : Nat} {x2 : Int32} {x3 : Int32} {x4 : Int32} {x5 : Int32} (h : atag p x0 = 11) (hs : st.length ≤ 4) : gb_ex m (.invokeinterface 13 6 :: r) ls (.int x5 :: .int x4 :: .int x3 :: .int x2 :: .ref x1 :: .ref x0 :: st) p g = (gb_call 13 [.ref x0, .ref x1, .int x2, .int x3, .int x4, .int x5] p g).bind (fun w => gb_ex m r ls (psh w.1 st) w.2.1 w.2.2) :=
  gb_ex_cl (k := 13) (n := 6) (st' := .int x5 :: .int x4 :: .int x3 :: .int x2 :: .ref x1 :: .ref x0 :: st) (by
    have h1 : 6 ≤ (.int x5 :: .int x4 :: .int x3 :: .int x2 :: .ref x1 :: .ref x0 :: st : List Value).length := by simp
    have h2 : gb_rcv 13 [.ref x0, .ref x1, .int x2, .int x3, .int x4, .int x5] p = true := by
      show (true && true && true && decide (atag p x0 = 11)) = true
      rw [h]
      rfl
    simp only [gb_stp]
    exact if_pos ⟨h1, hs, h2⟩)
theorem cl_LA_release {p : gb_Pi} {g : gb_Sg} {x0 : Nat} {x1 : Nat} {x2 : Int32} {x3 : Int32} {x4 : Int32} {x5 : Int32} : gb_call 13 [.ref x0, .ref x1, .int x2, .int x3, .int x4, .int x5] p g = gb_ex 13 bk_LA_release_0 [.ref x0, .ref x1, .int x2, .int x3, .int x4, .int x5, .null, .null, .null, .null, .null, .null, .null, .null, .null] [] p g := rfl
theorem xc_LA_settle {m : Nat} {r : List Instr} {ls st : List Value} {p : gb_Pi} {g : gb_Sg} {x0 : Nat} {x1 : Nat} {x2 : Int32} (h : atag p x0 = 11) (hs : st.length ≤ 4) : gb_ex m (.invokeinterface 14 3 :: r) ls (.int x2 :: .ref x1 :: .ref x0 :: st) p g = (gb_call 14 [.ref x0, .ref x1, .int x2] p g).bind (fun w => gb_ex m r ls (psh w.1 st) w.2.1 w.2.2) :=
  gb_ex_cl (k := 14) (n := 3) (st' := .int x2 :: .ref x1 :: .ref x0 :: st) (by
    have h1 : 3 ≤ (.int x2 :: .ref x1 :: .ref x0 :: st : List Value).length := by simp
    have h2 : gb_rcv 14 [.ref x0, .ref x1, .int x2] p = true := by
      show (true && true && true && decide (atag p x0 = 11)) = true
      rw [h]
      rfl
    simp only [gb_stp]
    exact if_pos ⟨h1, hs, h2⟩)
theorem cl_LA_settle {p : gb_Pi} {g : gb_Sg} {x0 : Nat} {x1 : Nat} {x2 : Int32} : gb_call 14 [.ref x0, .ref x1, .int x2] p g = gb_ex 14 bk_LA_settle_0 [.ref x0, .ref x1, .int x2, .null, .null, .null, .null] [] p g := rfl
theorem xc_LA_howMany {m : Nat} {r : List Instr} {ls st : List Value} {p : gb_Pi} {g : gb_Sg} {x0 : Nat} {x1 : Int32} {x2 : Int32} {x3 : Int32} {x4 : Int32} {x5 : Int32} (h : atag p x0 = 11) (hs : st.length ≤ 4) : gb_ex m (.invokeinterface 15 6 :: r) ls (.int x5 :: .int x4 :: .int x3 :: .int x2 :: .int x1 :: .ref x0 :: st) p g = (gb_call 15 [.ref x0, .int x1, .int x2, .int x3, .int x4, .int x5] p g).bind (fun w => gb_ex m r ls (psh w.1 st) w.2.1 w.2.2) :=
  gb_ex_cl (k := 15) (n := 6) (st' := .int x5 :: .int x4 :: .int x3 :: .int x2 :: .int x1 :: .ref x0 :: st) (by
    have h1 : 6 ≤ (.int x5 :: .int x4 :: .int x3 :: .int x2 :: .int x1 :: .ref x0 :: st : List Value).length := by simp
    have h2 : gb_rcv 15 [.ref x0, .int x1, .int x2, .int x3, .int x4, .int x5] p = true := by
      show (true && true && true && decide (atag p x0 = 11)) = true
      rw [h]
      rfl
    simp only [gb_stp]
    exact if_pos ⟨h1, hs, h2⟩)
theorem cl_LA_howMany {p : gb_Pi} {g : gb_Sg} {x0 : Nat} {x1 : Int32} {x2 : Int32} {x3 : Int32} {x4 : Int32} {x5 : Int32} : gb_call 15 [.ref x0, .int x1, .int x2, .int x3, .int x4, .int x5] p g = gb_ex 15 bk_LA_howMany_0 [.ref x0, .int x1, .int x2, .int x3, .int x4, .int x5, .null, .null] [] p g := rfl
theorem xc_LW_init {m : Nat} {r : List Instr} {ls st : List Value} {p : gb_Pi} {g : gb_Sg} {x0 : Nat} (h : atag p x0 = 12) (hs : st.length ≤ 4) : gb_ex m (.invokeinterface 16 1 :: r) ls (.ref x0 :: st) p g = (gb_call 16 [.ref x0] p g).bind (fun w => gb_ex m r ls (psh w.1 st) w.2.1 w.2.2) :=
  gb_ex_cl (k := 16) (n := 1) (st' := .ref x0 :: st) (by
    have h1 : 1 ≤ (.ref x0 :: st : List Value).length := by simp
    have h2 : gb_rcv 16 [.ref x0] p = true := by
      show (true && true && true && decide (atag p x0 = 12)) = true
      rw [h]
      rfl
    simp only [gb_stp]
    exact if_pos ⟨h1, hs, h2⟩)
theorem cl_LW_init {p : gb_Pi} {g : gb_Sg} {x0 : Nat} : gb_call 16 [.ref x0] p g = gb_ex 16 bk_LW_init_0 [.ref x0] [] p g := rfl
theorem xc_LW_readFrom {m : Nat} {r : List Instr} {ls st : List Value} {p : gb_Pi} {g : gb_Sg} {x0 : Nat} {x1 : Nat} (h : atag p x0 = 12) (hs : st.length ≤ 4) : gb_ex m (.invokeinterface 17 2 :: r) ls (.ref x1 :: .ref x0 :: st) p g = (gb_call 17 [.ref x0, .ref x1] p g).bind (fun w => gb_ex m r ls (psh w.1 st) w.2.1 w.2.2) :=
  gb_ex_cl (k := 17) (n := 2) (st' := .ref x1 :: .ref x0 :: st) (by
    have h1 : 2 ≤ (.ref x1 :: .ref x0 :: st : List Value).length := by simp
    have h2 : gb_rcv 17 [.ref x0, .ref x1] p = true := by
      show (true && true && true && decide (atag p x0 = 12)) = true
      rw [h]
      rfl
    simp only [gb_stp]
    exact if_pos ⟨h1, hs, h2⟩)
theorem cl_LW_readFrom {p : gb_Pi} {g : gb_Sg} {x0 : Nat} {x1 : Nat} : gb_call 17 [.ref x0, .ref x1] p g = gb_ex 17 bk_LW_readFrom_0 [.ref x0, .ref x1, .null, .null] [] p g := rfl
theorem xc_LW_readConditions {m : Nat} {r : List Instr} {ls st : List Value} {p : gb_Pi} {g : gb_Sg} {x0 : Nat} {x1 : Nat} (h : atag p x0 = 12) (hs : st.length ≤ 4) : gb_ex m (.invokeinterface 18 2 :: r) ls (.ref x1 :: .ref x0 :: st) p g = (gb_call 18 [.ref x0, .ref x1] p g).bind (fun w => gb_ex m r ls (psh w.1 st) w.2.1 w.2.2) :=
  gb_ex_cl (k := 18) (n := 2) (st' := .ref x1 :: .ref x0 :: st) (by
    have h1 : 2 ≤ (.ref x1 :: .ref x0 :: st : List Value).length := by simp
    have h2 : gb_rcv 18 [.ref x0, .ref x1] p = true := by
      show (true && true && true && decide (atag p x0 = 12)) = true
      rw [h]
      rfl
    simp only [gb_stp]
    exact if_pos ⟨h1, hs, h2⟩)
theorem cl_LW_readConditions {p : gb_Pi} {g : gb_Sg} {x0 : Nat} {x1 : Nat} : gb_call 18 [.ref x0, .ref x1] p g = gb_ex 18 bk_LW_readConditions_0 [.ref x0, .ref x1, .null] [] p g := rfl
theorem xc_LW_readCondition {m : Nat} {r : List Instr} {ls st : List Value} {p : gb_Pi} {g : gb_Sg} {x0 : Nat} {x1 : Nat} {x2 : Int32} (h : atag p x0 = 12) (hs : st.length ≤ 4) : gb_ex m (.invokeinterface 19 3 :: r) ls (.int x2 :: .ref x1 :: .ref x0 :: st) p g = (gb_call 19 [.ref x0, .ref x1, .int x2] p g).bind (fun w => gb_ex m r ls (psh w.1 st) w.2.1 w.2.2) :=
  gb_ex_cl (k := 19) (n := 3) (st' := .int x2 :: .ref x1 :: .ref x0 :: st) (by
    have h1 : 3 ≤ (.int x2 :: .ref x1 :: .ref x0 :: st : List Value).length := by simp
    have h2 : gb_rcv 19 [.ref x0, .ref x1, .int x2] p = true := by
      show (true && true && true && decide (atag p x0 = 12)) = true
      rw [h]
      rfl
    simp only [gb_stp]
    exact if_pos ⟨h1, hs, h2⟩)
theorem cl_LW_readCondition {p : gb_Pi} {g : gb_Sg} {x0 : Nat} {x1 : Nat} {x2 : Int32} : gb_call 19 [.ref x0, .ref x1, .int x2] p g = gb_ex 19 bk_LW_readCondition_0 [.ref x0, .ref x1, .int x2, .null, .null, .null] [] p g := rfl
theorem xc_LW_readOutcome {m : Nat} {r : List Instr} {ls st : List Value} {p : gb_Pi} {g : gb_Sg} {x0 : Nat} {x1 : Nat} (h : atag p x0 = 12) (hs : st.length ≤ 4) : gb_ex m (.invokeinterface 20 2 :: r) ls (.ref x1 :: .ref x0 :: st) p g = (gb_call 20 [.ref x0, .ref x1] p g).bind (fun w => gb_ex m r ls (psh w.1 st) w.2.1 w.2.2) :=
  gb_ex_cl (k := 20) (n := 2) (st' := .ref x1 :: .ref x0 :: st) (by
    have h1 : 2 ≤ (.ref x1 :: .ref x0 :: st : List Value).length := by simp
    have h2 : gb_rcv 20 [.ref x0, .ref x1] p = true := by
      show (true && true && true && decide (atag p x0 = 12)) = true
      rw [h]
      rfl
    simp only [gb_stp]
    exact if_pos ⟨h1, hs, h2⟩)
theorem cl_LW_readOutcome {p : gb_Pi} {g : gb_Sg} {x0 : Nat} {x1 : Nat} : gb_call 20 [.ref x0, .ref x1] p g = gb_ex 20 bk_LW_readOutcome_0 [.ref x0, .ref x1, .null] [] p g := rfl
theorem xc_LW_firstThatHolds {m : Nat} {r : List Instr} {ls st : List Value} {p : gb_Pi} {g : gb_Sg} {x0 : Nat} {x1 : Int32} {x2 : Int32} {x3 : Int32} {x4 : Int32} (h : atag p x0 = 12) (hs : st.length ≤ 4) : gb_ex m (.invokeinterface 21 5 :: r) ls (.int x4 :: .int x3 :: .int x2 :: .int x1 :: .ref x0 :: st) p g = (gb_call 21 [.ref x0, .int x1, .int x2, .int x3, .int x4] p g).bind (fun w => gb_ex m r ls (psh w.1 st) w.2.1 w.2.2) :=
  gb_ex_cl (k := 21) (n := 5) (st' := .int x4 :: .int x3 :: .int x2 :: .int x1 :: .ref x0 :: st) (by
    have h1 : 5 ≤ (.int x4 :: .int x3 :: .int x2 :: .int x1 :: .ref x0 :: st : List Value).length := by simp
    have h2 : gb_rcv 21 [.ref x0, .int x1, .int x2, .int x3, .int x4] p = true := by
      show (true && true && true && decide (atag p x0 = 12)) = true
      rw [h]
      rfl
    simp only [gb_stp]
    exact if_pos ⟨h1, hs, h2⟩)
theorem cl_LW_firstThatHolds {p : gb_Pi} {g : gb_Sg} {x0 : Nat} {x1 : Int32} {x2 : Int32} {x3 : Int32} {x4 : Int32} : gb_call 21 [.ref x0, .int x1, .int x2, .int x3, .int x4] p g = gb_ex 21 bk_LW_firstThatHolds_0 [.ref x0, .int x1, .int x2, .int x3, .int x4, .null, .null, .null, .null, .null] [] p g := rfl
theorem xc_LW_valueOf {m : Nat} {r : List Instr} {ls st : List Value} {p : gb_Pi} {g : gb_Sg} {x0 : Int32} {x1 : Int32} {x2 : Int32} {x3 : Int32} {x4 : Int32} (hs : st.length ≤ 4) : gb_ex m (.invokeinterface 22 5 :: r) ls (.int x4 :: .int x3 :: .int x2 :: .int x1 :: .int x0 :: st) p g = (gb_call 22 [.int x0, .int x1, .int x2, .int x3, .int x4] p g).bind (fun w => gb_ex m r ls (psh w.1 st) w.2.1 w.2.2) :=
  gb_ex_cl (k := 22) (n := 5) (st' := .int x4 :: .int x3 :: .int x2 :: .int x1 :: .int x0 :: st) (by
    have h1 : 5 ≤ (.int x4 :: .int x3 :: .int x2 :: .int x1 :: .int x0 :: st : List Value).length := by simp
    have h2 : gb_rcv 22 [.int x0, .int x1, .int x2, .int x3, .int x4] p = true := by rfl
    simp only [gb_stp]
    exact if_pos ⟨h1, hs, h2⟩)
theorem cl_LW_valueOf {p : gb_Pi} {g : gb_Sg} {x0 : Int32} {x1 : Int32} {x2 : Int32} {x3 : Int32} {x4 : Int32} : gb_call 22 [.int x0, .int x1, .int x2, .int x3, .int x4] p g = gb_ex 22 bk_LW_valueOf_0 [.int x0, .int x1, .int x2, .int x3, .int x4] [] p g := rfl
theorem xc_MA_init {m : Nat} {r : List Instr} {ls st : List Value} {p : gb_Pi} {g : gb_Sg} {x0 : Nat} (h : atag p x0 = 13) (hs : st.length ≤ 4) : gb_ex m (.invokeinterface 23 1 :: r) ls (.ref x0 :: st) p g = (gb_call 23 [.ref x0] p g).bind (fun w => gb_ex m r ls (psh w.1 st) w.2.1 w.2.2) :=
  gb_ex_cl (k := 23) (n := 1) (st' := .ref x0 :: st) (by
    have h1 : 1 ≤ (.ref x0 :: st : List Value).length := by simp
    have h2 : gb_rcv 23 [.ref x0] p = true := by
      show (true && true && true && decide (atag p x0 = 13)) = true
      rw [h]
      rfl
    simp only [gb_stp]
    exact if_pos ⟨h1, hs, h2⟩)
theorem cl_MA_init {p : gb_Pi} {g : gb_Sg} {x0 : Nat} : gb_call 23 [.ref x0] p g = gb_ex 23 bk_MA_init_0 [.ref x0] [] p g := rfl
theorem xc_MA_solve {m : Nat} {r : List Instr} {ls st : List Value} {p : gb_Pi} {g : gb_Sg} {x0 : Nat} {x1 : Int32} (h : atag p x0 = 13) (hs : st.length ≤ 4) : gb_ex m (.invokeinterface 24 2 :: r) ls (.int x1 :: .ref x0 :: st) p g = (gb_call 24 [.ref x0, .int x1] p g).bind (fun w => gb_ex m r ls (psh w.1 st) w.2.1 w.2.2) :=
  gb_ex_cl (k := 24) (n := 2) (st' := .int x1 :: .ref x0 :: st) (by
    have h1 : 2 ≤ (.int x1 :: .ref x0 :: st : List Value).length := by simp
    have h2 : gb_rcv 24 [.ref x0, .int x1] p = true := by
      show (true && true && true && decide (atag p x0 = 13)) = true
      rw [h]
      rfl
    simp only [gb_stp]
    exact if_pos ⟨h1, hs, h2⟩)
theorem cl_MA_solve {p : gb_Pi} {g : gb_Sg} {x0 : Nat} {x1 : Int32} : gb_call 24 [.ref x0, .int x1] p g = gb_ex 24 bk_MA_solve_0 [.ref x0, .int x1, .null, .null] [] p g := rfl
theorem xc_MA_lowestFor {m : Nat} {r : List Instr} {ls st : List Value} {p : gb_Pi} {g : gb_Sg} {x0 : Nat} {x1 : Int32} {x2 : Int32} (h : atag p x0 = 13) (hs : st.length ≤ 4) : gb_ex m (.invokeinterface 25 3 :: r) ls (.int x2 :: .int x1 :: .ref x0 :: st) p g = (gb_call 25 [.ref x0, .int x1, .int x2] p g).bind (fun w => gb_ex m r ls (psh w.1 st) w.2.1 w.2.2) :=
  gb_ex_cl (k := 25) (n := 3) (st' := .int x2 :: .int x1 :: .ref x0 :: st) (by
    have h1 : 3 ≤ (.int x2 :: .int x1 :: .ref x0 :: st : List Value).length := by simp
    have h2 : gb_rcv 25 [.ref x0, .int x1, .int x2] p = true := by
      show (true && true && true && decide (atag p x0 = 13)) = true
      rw [h]
      rfl
    simp only [gb_stp]
    exact if_pos ⟨h1, hs, h2⟩)
theorem cl_MA_lowestFor {p : gb_Pi} {g : gb_Sg} {x0 : Nat} {x1 : Int32} {x2 : Int32} : gb_call 25 [.ref x0, .int x1, .int x2] p g = gb_ex 25 bk_MA_lowestFor_0 [.ref x0, .int x1, .int x2, .null, .null] [] p g := rfl
theorem xc_MA_choiceOf {m : Nat} {r : List Instr} {ls st : List Value} {p : gb_Pi} {g : gb_Sg} {x0 : Nat} {x1 : Int32} (h : atag p x0 = 13) (hs : st.length ≤ 4) : gb_ex m (.invokeinterface 26 2 :: r) ls (.int x1 :: .ref x0 :: st) p g = (gb_call 26 [.ref x0, .int x1] p g).bind (fun w => gb_ex m r ls (psh w.1 st) w.2.1 w.2.2) :=
  gb_ex_cl (k := 26) (n := 2) (st' := .int x1 :: .ref x0 :: st) (by
    have h1 : 2 ≤ (.int x1 :: .ref x0 :: st : List Value).length := by simp
    have h2 : gb_rcv 26 [.ref x0, .int x1] p = true := by
      show (true && true && true && decide (atag p x0 = 13)) = true
      rw [h]
      rfl
    simp only [gb_stp]
    exact if_pos ⟨h1, hs, h2⟩)
theorem cl_MA_choiceOf {p : gb_Pi} {g : gb_Sg} {x0 : Nat} {x1 : Int32} : gb_call 26 [.ref x0, .int x1] p g = gb_ex 26 bk_MA_choiceOf_0 [.ref x0, .int x1, .null, .null, .null] [] p g := rfl
theorem xc_OU_init {m : Nat} {r : List Instr} {ls st : List Value} {p : gb_Pi} {g : gb_Sg} {x0 : Nat} (h : atag p x0 = 14) (hs : st.length ≤ 4) : gb_ex m (.invokeinterface 27 1 :: r) ls (.ref x0 :: st) p g = (gb_call 27 [.ref x0] p g).bind (fun w => gb_ex m r ls (psh w.1 st) w.2.1 w.2.2) :=
  gb_ex_cl (k := 27) (n := 1) (st' := .ref x0 :: st) (by
    have h1 : 1 ≤ (.ref x0 :: st : List Value).length := by simp
    have h2 : gb_rcv 27 [.ref x0] p = true := by
      show (true && true && true && decide (atag p x0 = 14)) = true
      rw [h]
      rfl
    simp only [gb_stp]
    exact if_pos ⟨h1, hs, h2⟩)
theorem cl_OU_init {p : gb_Pi} {g : gb_Sg} {x0 : Nat} : gb_call 27 [.ref x0] p g = gb_ex 27 bk_OU_init_0 [.ref x0] [] p g := rfl
theorem xc_OU_readReports {m : Nat} {r : List Instr} {ls st : List Value} {p : gb_Pi} {g : gb_Sg} {x0 : Nat} {x1 : Nat} {x2 : Nat} (h : atag p x0 = 14) (hs : st.length ≤ 4) : gb_ex m (.invokeinterface 28 3 :: r) ls (.ref x2 :: .ref x1 :: .ref x0 :: st) p g = (gb_call 28 [.ref x0, .ref x1, .ref x2] p g).bind (fun w => gb_ex m r ls (psh w.1 st) w.2.1 w.2.2) :=
  gb_ex_cl (k := 28) (n := 3) (st' := .ref x2 :: .ref x1 :: .ref x0 :: st) (by
    have h1 : 3 ≤ (.ref x2 :: .ref x1 :: .ref x0 :: st : List Value).length := by simp
    have h2 : gb_rcv 28 [.ref x0, .ref x1, .ref x2] p = true := by
      show (true && true && true && decide (atag p x0 = 14)) = true
      rw [h]
      rfl
    simp only [gb_stp]
    exact if_pos ⟨h1, hs, h2⟩)
theorem cl_OU_readReports {p : gb_Pi} {g : gb_Sg} {x0 : Nat} {x1 : Nat} {x2 : Nat} : gb_call 28 [.ref x0, .ref x1, .ref x2] p g = gb_ex 28 bk_OU_readReports_0 [.ref x0, .ref x1, .ref x2, .null, .null, .null] [] p g := rfl
theorem xc_OU_weigh {m : Nat} {r : List Instr} {ls st : List Value} {p : gb_Pi} {g : gb_Sg} {x0 : Nat} {x1 : Nat} {x2 : Nat} {x3 : Int32} {x4 : Int32} (h : atag p x0 = 14) (hs : st.length ≤ 4) : gb_ex m (.invokeinterface 29 5 :: r) ls (.int x4 :: .int x3 :: .ref x2 :: .ref x1 :: .ref x0 :: st) p g = (gb_call 29 [.ref x0, .ref x1, .ref x2, .int x3, .int x4] p g).bind (fun w => gb_ex m r ls (psh w.1 st) w.2.1 w.2.2) :=
  gb_ex_cl (k := 29) (n := 5) (st' := .int x4 :: .int x3 :: .ref x2 :: .ref x1 :: .ref x0 :: st) (by
    have h1 : 5 ≤ (.int x4 :: .int x3 :: .ref x2 :: .ref x1 :: .ref x0 :: st : List Value).length := by simp
    have h2 : gb_rcv 29 [.ref x0, .ref x1, .ref x2, .int x3, .int x4] p = true := by
      show (true && true && true && decide (atag p x0 = 14)) = true
      rw [h]
      rfl
    simp only [gb_stp]
    exact if_pos ⟨h1, hs, h2⟩)
theorem cl_OU_weigh {p : gb_Pi} {g : gb_Sg} {x0 : Nat} {x1 : Nat} {x2 : Nat} {x3 : Int32} {x4 : Int32} : gb_call 29 [.ref x0, .ref x1, .ref x2, .int x3, .int x4] p g = gb_ex 29 bk_OU_weigh_0 [.ref x0, .ref x1, .ref x2, .int x3, .int x4, .null, .null, .null, .null, .null] [] p g := rfl
theorem xc_OU_sumOver {m : Nat} {r : List Instr} {ls st : List Value} {p : gb_Pi} {g : gb_Sg} {x0 : Nat} {x1 : Nat} {x2 : Int32} {x3 : Int32} {x4 : Int32} (h : atag p x0 = 14) (hs : st.length ≤ 4) : gb_ex m (.invokeinterface 30 5 :: r) ls (.int x4 :: .int x3 :: .int x2 :: .ref x1 :: .ref x0 :: st) p g = (gb_call 30 [.ref x0, .ref x1, .int x2, .int x3, .int x4] p g).bind (fun w => gb_ex m r ls (psh w.1 st) w.2.1 w.2.2) :=
  gb_ex_cl (k := 30) (n := 5) (st' := .int x4 :: .int x3 :: .int x2 :: .ref x1 :: .ref x0 :: st) (by
    have h1 : 5 ≤ (.int x4 :: .int x3 :: .int x2 :: .ref x1 :: .ref x0 :: st : List Value).length := by simp
    have h2 : gb_rcv 30 [.ref x0, .ref x1, .int x2, .int x3, .int x4] p = true := by
      show (true && true && true && decide (atag p x0 = 14)) = true
      rw [h]
      rfl
    simp only [gb_stp]
    exact if_pos ⟨h1, hs, h2⟩)
theorem cl_OU_sumOver {p : gb_Pi} {g : gb_Sg} {x0 : Nat} {x1 : Nat} {x2 : Int32} {x3 : Int32} {x4 : Int32} : gb_call 30 [.ref x0, .ref x1, .int x2, .int x3, .int x4] p g = gb_ex 30 bk_OU_sumOver_0 [.ref x0, .ref x1, .int x2, .int x3, .int x4, .null, .null, .null, .null, .null, .null, .null] [] p g := rfl
theorem xc_OU_weighStretches {m : Nat} {r : List Instr} {ls st : List Value} {p : gb_Pi} {g : gb_Sg} {x0 : Nat} {x1 : Nat} {x2 : Int32} {x3 : Int32} (h : atag p x0 = 14) (hs : st.length ≤ 4) : gb_ex m (.invokeinterface 31 4 :: r) ls (.int x3 :: .int x2 :: .ref x1 :: .ref x0 :: st) p g = (gb_call 31 [.ref x0, .ref x1, .int x2, .int x3] p g).bind (fun w => gb_ex m r ls (psh w.1 st) w.2.1 w.2.2) :=
  gb_ex_cl (k := 31) (n := 4) (st' := .int x3 :: .int x2 :: .ref x1 :: .ref x0 :: st) (by
    have h1 : 4 ≤ (.int x3 :: .int x2 :: .ref x1 :: .ref x0 :: st : List Value).length := by simp
    have h2 : gb_rcv 31 [.ref x0, .ref x1, .int x2, .int x3] p = true := by
      show (true && true && true && decide (atag p x0 = 14)) = true
      rw [h]
      rfl
    simp only [gb_stp]
    exact if_pos ⟨h1, hs, h2⟩)
theorem cl_OU_weighStretches {p : gb_Pi} {g : gb_Sg} {x0 : Nat} {x1 : Nat} {x2 : Int32} {x3 : Int32} : gb_call 31 [.ref x0, .ref x1, .int x2, .int x3] p g = gb_ex 31 bk_OU_weighStretches_0 [.ref x0, .ref x1, .int x2, .int x3, .null] [] p g := rfl
theorem xc_OU_bestStretch {m : Nat} {r : List Instr} {ls st : List Value} {p : gb_Pi} {g : gb_Sg} {x0 : Nat} {x1 : Int32} (h : atag p x0 = 14) (hs : st.length ≤ 4) : gb_ex m (.invokeinterface 32 2 :: r) ls (.int x1 :: .ref x0 :: st) p g = (gb_call 32 [.ref x0, .int x1] p g).bind (fun w => gb_ex m r ls (psh w.1 st) w.2.1 w.2.2) :=
  gb_ex_cl (k := 32) (n := 2) (st' := .int x1 :: .ref x0 :: st) (by
    have h1 : 2 ≤ (.int x1 :: .ref x0 :: st : List Value).length := by simp
    have h2 : gb_rcv 32 [.ref x0, .int x1] p = true := by
      show (true && true && true && decide (atag p x0 = 14)) = true
      rw [h]
      rfl
    simp only [gb_stp]
    exact if_pos ⟨h1, hs, h2⟩)
theorem cl_OU_bestStretch {p : gb_Pi} {g : gb_Sg} {x0 : Nat} {x1 : Int32} : gb_call 32 [.ref x0, .int x1] p g = gb_ex 32 bk_OU_bestStretch_0 [.ref x0, .int x1, .null, .null] [] p g := rfl
theorem xc_OU_joinStretches {m : Nat} {r : List Instr} {ls st : List Value} {p : gb_Pi} {g : gb_Sg} {x0 : Nat} {x1 : Int32} {x2 : Int32} {x3 : Int32} (h : atag p x0 = 14) (hs : st.length ≤ 4) : gb_ex m (.invokeinterface 33 4 :: r) ls (.int x3 :: .int x2 :: .int x1 :: .ref x0 :: st) p g = (gb_call 33 [.ref x0, .int x1, .int x2, .int x3] p g).bind (fun w => gb_ex m r ls (psh w.1 st) w.2.1 w.2.2) :=
  gb_ex_cl (k := 33) (n := 4) (st' := .int x3 :: .int x2 :: .int x1 :: .ref x0 :: st) (by
    have h1 : 4 ≤ (.int x3 :: .int x2 :: .int x1 :: .ref x0 :: st : List Value).length := by simp
    have h2 : gb_rcv 33 [.ref x0, .int x1, .int x2, .int x3] p = true := by
      show (true && true && true && decide (atag p x0 = 14)) = true
      rw [h]
      rfl
    simp only [gb_stp]
    exact if_pos ⟨h1, hs, h2⟩)
theorem cl_OU_joinStretches {p : gb_Pi} {g : gb_Sg} {x0 : Nat} {x1 : Int32} {x2 : Int32} {x3 : Int32} : gb_call 33 [.ref x0, .int x1, .int x2, .int x3] p g = gb_ex 33 bk_OU_joinStretches_0 [.ref x0, .int x1, .int x2, .int x3, .null, .null] [] p g := rfl
theorem xc_OU_sumFrom {m : Nat} {r : List Instr} {ls st : List Value} {p : gb_Pi} {g : gb_Sg} {x0 : Nat} {x1 : Int32} {x2 : Int32} {x3 : Int32} (h : atag p x0 = 14) (hs : st.length ≤ 4) : gb_ex m (.invokeinterface 34 4 :: r) ls (.int x3 :: .int x2 :: .int x1 :: .ref x0 :: st) p g = (gb_call 34 [.ref x0, .int x1, .int x2, .int x3] p g).bind (fun w => gb_ex m r ls (psh w.1 st) w.2.1 w.2.2) :=
  gb_ex_cl (k := 34) (n := 4) (st' := .int x3 :: .int x2 :: .int x1 :: .ref x0 :: st) (by
    have h1 : 4 ≤ (.int x3 :: .int x2 :: .int x1 :: .ref x0 :: st : List Value).length := by simp
    have h2 : gb_rcv 34 [.ref x0, .int x1, .int x2, .int x3] p = true := by
      show (true && true && true && decide (atag p x0 = 14)) = true
      rw [h]
      rfl
    simp only [gb_stp]
    exact if_pos ⟨h1, hs, h2⟩)
theorem cl_OU_sumFrom {p : gb_Pi} {g : gb_Sg} {x0 : Nat} {x1 : Int32} {x2 : Int32} {x3 : Int32} : gb_call 34 [.ref x0, .int x1, .int x2, .int x3] p g = gb_ex 34 bk_OU_sumFrom_0 [.ref x0, .int x1, .int x2, .int x3, .null, .null] [] p g := rfl
theorem xc_OU_beginOf {m : Nat} {r : List Instr} {ls st : List Value} {p : gb_Pi} {g : gb_Sg} {x0 : Nat} {x1 : Int32} {x2 : Int32} {x3 : Int32} {x4 : Int32} (h : atag p x0 = 14) (hs : st.length ≤ 4) : gb_ex m (.invokeinterface 35 5 :: r) ls (.int x4 :: .int x3 :: .int x2 :: .int x1 :: .ref x0 :: st) p g = (gb_call 35 [.ref x0, .int x1, .int x2, .int x3, .int x4] p g).bind (fun w => gb_ex m r ls (psh w.1 st) w.2.1 w.2.2) :=
  gb_ex_cl (k := 35) (n := 5) (st' := .int x4 :: .int x3 :: .int x2 :: .int x1 :: .ref x0 :: st) (by
    have h1 : 5 ≤ (.int x4 :: .int x3 :: .int x2 :: .int x1 :: .ref x0 :: st : List Value).length := by simp
    have h2 : gb_rcv 35 [.ref x0, .int x1, .int x2, .int x3, .int x4] p = true := by
      show (true && true && true && decide (atag p x0 = 14)) = true
      rw [h]
      rfl
    simp only [gb_stp]
    exact if_pos ⟨h1, hs, h2⟩)
theorem cl_OU_beginOf {p : gb_Pi} {g : gb_Sg} {x0 : Nat} {x1 : Int32} {x2 : Int32} {x3 : Int32} {x4 : Int32} : gb_call 35 [.ref x0, .int x1, .int x2, .int x3, .int x4] p g = gb_ex 35 bk_OU_beginOf_0 [.ref x0, .int x1, .int x2, .int x3, .int x4, .null, .null, .null, .null, .null] [] p g := rfl
theorem xc_SC_init {m : Nat} {r : List Instr} {ls st : List Value} {p : gb_Pi} {g : gb_Sg} {x0 : Nat} (h : atag p x0 = 15) (hs : st.length ≤ 4) : gb_ex m (.invokeinterface 36 1 :: r) ls (.ref x0 :: st) p g = (gb_call 36 [.ref x0] p g).bind (fun w => gb_ex m r ls (psh w.1 st) w.2.1 w.2.2) :=
  gb_ex_cl (k := 36) (n := 1) (st' := .ref x0 :: st) (by
    have h1 : 1 ≤ (.ref x0 :: st : List Value).length := by simp
    have h2 : gb_rcv 36 [.ref x0] p = true := by
      show (true && true && true && decide (atag p x0 = 15)) = true
      rw [h]
      rfl
    simp only [gb_stp]
    exact if_pos ⟨h1, hs, h2⟩)
theorem cl_SC_init {p : gb_Pi} {g : gb_Sg} {x0 : Nat} : gb_call 36 [.ref x0] p g = gb_ex 36 bk_SC_init_0 [.ref x0] [] p g := rfl
theorem xc_SC_append {m : Nat} {r : List Instr} {ls st : List Value} {p : gb_Pi} {g : gb_Sg} {x0 : Nat} {x1 : Int32} {x2 : Int64} (h : atag p x0 = 15) (hs : st.length ≤ 4) : gb_ex m (.invokeinterface 37 3 :: r) ls (.long x2 :: .int x1 :: .ref x0 :: st) p g = (gb_call 37 [.ref x0, .int x1, .long x2] p g).bind (fun w => gb_ex m r ls (psh w.1 st) w.2.1 w.2.2) :=
  gb_ex_cl (k := 37) (n := 3) (st' := .long x2 :: .int x1 :: .ref x0 :: st) (by
    have h1 : 3 ≤ (.long x2 :: .int x1 :: .ref x0 :: st : List Value).length := by simp
    have h2 : gb_rcv 37 [.ref x0, .int x1, .long x2] p = true := by
      show (true && true && true && decide (atag p x0 = 15)) = true
      rw [h]
      rfl
    simp only [gb_stp]
    exact if_pos ⟨h1, hs, h2⟩)
theorem cl_SC_append {p : gb_Pi} {g : gb_Sg} {x0 : Nat} {x1 : Int32} {x2 : Int64} : gb_call 37 [.ref x0, .int x1, .long x2] p g = gb_ex 37 bk_SC_append_0 [.ref x0, .int x1, .long x2, .null, .null] [] p g := rfl
theorem xc_SC_hasMore {m : Nat} {r : List Instr} {ls st : List Value} {p : gb_Pi} {g : gb_Sg} {x0 : Nat} (h : atag p x0 = 15) (hs : st.length ≤ 4) : gb_ex m (.invokeinterface 38 1 :: r) ls (.ref x0 :: st) p g = (gb_call 38 [.ref x0] p g).bind (fun w => gb_ex m r ls (psh w.1 st) w.2.1 w.2.2) :=
  gb_ex_cl (k := 38) (n := 1) (st' := .ref x0 :: st) (by
    have h1 : 1 ≤ (.ref x0 :: st : List Value).length := by simp
    have h2 : gb_rcv 38 [.ref x0] p = true := by
      show (true && true && true && decide (atag p x0 = 15)) = true
      rw [h]
      rfl
    simp only [gb_stp]
    exact if_pos ⟨h1, hs, h2⟩)
theorem cl_SC_hasMore {p : gb_Pi} {g : gb_Sg} {x0 : Nat} : gb_call 38 [.ref x0] p g = gb_ex 38 bk_SC_hasMore_0 [.ref x0] [] p g := rfl
theorem xc_SC_peek {m : Nat} {r : List Instr} {ls st : List Value} {p : gb_Pi} {g : gb_Sg} {x0 : Nat} (h : atag p x0 = 15) (hs : st.length ≤ 4) : gb_ex m (.invokeinterface 39 1 :: r) ls (.ref x0 :: st) p g = (gb_call 39 [.ref x0] p g).bind (fun w => gb_ex m r ls (psh w.1 st) w.2.1 w.2.2) :=
  gb_ex_cl (k := 39) (n := 1) (st' := .ref x0 :: st) (by
    have h1 : 1 ≤ (.ref x0 :: st : List Value).length := by simp
    have h2 : gb_rcv 39 [.ref x0] p = true := by
      show (true && true && true && decide (atag p x0 = 15)) = true
      rw [h]
      rfl
    simp only [gb_stp]
    exact if_pos ⟨h1, hs, h2⟩)
theorem cl_SC_peek {p : gb_Pi} {g : gb_Sg} {x0 : Nat} : gb_call 39 [.ref x0] p g = gb_ex 39 bk_SC_peek_0 [.ref x0] [] p g := rfl
theorem xc_SC_takeByte {m : Nat} {r : List Instr} {ls st : List Value} {p : gb_Pi} {g : gb_Sg} {x0 : Nat} (h : atag p x0 = 15) (hs : st.length ≤ 4) : gb_ex m (.invokeinterface 40 1 :: r) ls (.ref x0 :: st) p g = (gb_call 40 [.ref x0] p g).bind (fun w => gb_ex m r ls (psh w.1 st) w.2.1 w.2.2) :=
  gb_ex_cl (k := 40) (n := 1) (st' := .ref x0 :: st) (by
    have h1 : 1 ≤ (.ref x0 :: st : List Value).length := by simp
    have h2 : gb_rcv 40 [.ref x0] p = true := by
      show (true && true && true && decide (atag p x0 = 15)) = true
      rw [h]
      rfl
    simp only [gb_stp]
    exact if_pos ⟨h1, hs, h2⟩)
theorem cl_SC_takeByte {p : gb_Pi} {g : gb_Sg} {x0 : Nat} : gb_call 40 [.ref x0] p g = gb_ex 40 bk_SC_takeByte_0 [.ref x0, .null] [] p g := rfl
theorem xc_SC_take {m : Nat} {r : List Instr} {ls st : List Value} {p : gb_Pi} {g : gb_Sg} {x0 : Nat} {x1 : Int32} (h : atag p x0 = 15) (hs : st.length ≤ 4) : gb_ex m (.invokeinterface 41 2 :: r) ls (.int x1 :: .ref x0 :: st) p g = (gb_call 41 [.ref x0, .int x1] p g).bind (fun w => gb_ex m r ls (psh w.1 st) w.2.1 w.2.2) :=
  gb_ex_cl (k := 41) (n := 2) (st' := .int x1 :: .ref x0 :: st) (by
    have h1 : 2 ≤ (.int x1 :: .ref x0 :: st : List Value).length := by simp
    have h2 : gb_rcv 41 [.ref x0, .int x1] p = true := by
      show (true && true && true && decide (atag p x0 = 15)) = true
      rw [h]
      rfl
    simp only [gb_stp]
    exact if_pos ⟨h1, hs, h2⟩)
theorem cl_SC_take {p : gb_Pi} {g : gb_Sg} {x0 : Nat} {x1 : Int32} : gb_call 41 [.ref x0, .int x1] p g = gb_ex 41 bk_SC_take_0 [.ref x0, .int x1] [] p g := rfl
theorem xc_SC_takeNumber {m : Nat} {r : List Instr} {ls st : List Value} {p : gb_Pi} {g : gb_Sg} {x0 : Nat} {x1 : Int32} (h : atag p x0 = 15) (hs : st.length ≤ 4) : gb_ex m (.invokeinterface 42 2 :: r) ls (.int x1 :: .ref x0 :: st) p g = (gb_call 42 [.ref x0, .int x1] p g).bind (fun w => gb_ex m r ls (psh w.1 st) w.2.1 w.2.2) :=
  gb_ex_cl (k := 42) (n := 2) (st' := .int x1 :: .ref x0 :: st) (by
    have h1 : 2 ≤ (.int x1 :: .ref x0 :: st : List Value).length := by simp
    have h2 : gb_rcv 42 [.ref x0, .int x1] p = true := by
      show (true && true && true && decide (atag p x0 = 15)) = true
      rw [h]
      rfl
    simp only [gb_stp]
    exact if_pos ⟨h1, hs, h2⟩)
theorem cl_SC_takeNumber {p : gb_Pi} {g : gb_Sg} {x0 : Nat} {x1 : Int32} : gb_call 42 [.ref x0, .int x1] p g = gb_ex 42 bk_SC_takeNumber_0 [.ref x0, .int x1, .null, .null, .null] [] p g := rfl
theorem xc_SH_init {m : Nat} {r : List Instr} {ls st : List Value} {p : gb_Pi} {g : gb_Sg} {x0 : Nat} (h : atag p x0 = 16) (hs : st.length ≤ 4) : gb_ex m (.invokeinterface 43 1 :: r) ls (.ref x0 :: st) p g = (gb_call 43 [.ref x0] p g).bind (fun w => gb_ex m r ls (psh w.1 st) w.2.1 w.2.2) :=
  gb_ex_cl (k := 43) (n := 1) (st' := .ref x0 :: st) (by
    have h1 : 1 ≤ (.ref x0 :: st : List Value).length := by simp
    have h2 : gb_rcv 43 [.ref x0] p = true := by
      show (true && true && true && decide (atag p x0 = 16)) = true
      rw [h]
      rfl
    simp only [gb_stp]
    exact if_pos ⟨h1, hs, h2⟩)
theorem cl_SH_init {p : gb_Pi} {g : gb_Sg} {x0 : Nat} : gb_call 43 [.ref x0] p g = gb_ex 43 bk_SH_init_0 [.ref x0] [] p g := rfl
theorem xc_SH_clear {m : Nat} {r : List Instr} {ls st : List Value} {p : gb_Pi} {g : gb_Sg} {x0 : Nat} (h : atag p x0 = 16) (hs : st.length ≤ 4) : gb_ex m (.invokeinterface 44 1 :: r) ls (.ref x0 :: st) p g = (gb_call 44 [.ref x0] p g).bind (fun w => gb_ex m r ls (psh w.1 st) w.2.1 w.2.2) :=
  gb_ex_cl (k := 44) (n := 1) (st' := .ref x0 :: st) (by
    have h1 : 1 ≤ (.ref x0 :: st : List Value).length := by simp
    have h2 : gb_rcv 44 [.ref x0] p = true := by
      show (true && true && true && decide (atag p x0 = 16)) = true
      rw [h]
      rfl
    simp only [gb_stp]
    exact if_pos ⟨h1, hs, h2⟩)
theorem cl_SH_clear {p : gb_Pi} {g : gb_Sg} {x0 : Nat} : gb_call 44 [.ref x0] p g = gb_ex 44 bk_SH_clear_0 [.ref x0] [] p g := rfl
theorem xc_SH_addKept {m : Nat} {r : List Instr} {ls st : List Value} {p : gb_Pi} {g : gb_Sg} {x0 : Nat} (h : atag p x0 = 16) (hs : st.length ≤ 4) : gb_ex m (.invokeinterface 45 1 :: r) ls (.ref x0 :: st) p g = (gb_call 45 [.ref x0] p g).bind (fun w => gb_ex m r ls (psh w.1 st) w.2.1 w.2.2) :=
  gb_ex_cl (k := 45) (n := 1) (st' := .ref x0 :: st) (by
    have h1 : 1 ≤ (.ref x0 :: st : List Value).length := by simp
    have h2 : gb_rcv 45 [.ref x0] p = true := by
      show (true && true && true && decide (atag p x0 = 16)) = true
      rw [h]
      rfl
    simp only [gb_stp]
    exact if_pos ⟨h1, hs, h2⟩)
theorem cl_SH_addKept {p : gb_Pi} {g : gb_Sg} {x0 : Nat} : gb_call 45 [.ref x0] p g = gb_ex 45 bk_SH_addKept_0 [.ref x0] [] p g := rfl
theorem xc_SH_goBack {m : Nat} {r : List Instr} {ls st : List Value} {p : gb_Pi} {g : gb_Sg} {x0 : Nat} (h : atag p x0 = 16) (hs : st.length ≤ 4) : gb_ex m (.invokeinterface 46 1 :: r) ls (.ref x0 :: st) p g = (gb_call 46 [.ref x0] p g).bind (fun w => gb_ex m r ls (psh w.1 st) w.2.1 w.2.2) :=
  gb_ex_cl (k := 46) (n := 1) (st' := .ref x0 :: st) (by
    have h1 : 1 ≤ (.ref x0 :: st : List Value).length := by simp
    have h2 : gb_rcv 46 [.ref x0] p = true := by
      show (true && true && true && decide (atag p x0 = 16)) = true
      rw [h]
      rfl
    simp only [gb_stp]
    exact if_pos ⟨h1, hs, h2⟩)
theorem cl_SH_goBack {p : gb_Pi} {g : gb_Sg} {x0 : Nat} : gb_call 46 [.ref x0] p g = gb_ex 46 bk_SH_goBack_0 [.ref x0] [] p g := rfl
theorem xc_SH_addFind {m : Nat} {r : List Instr} {ls st : List Value} {p : gb_Pi} {g : gb_Sg} {x0 : Nat} {x1 : Int32} {x2 : Int32} {x3 : Int32} (h : atag p x0 = 16) (hs : st.length ≤ 4) : gb_ex m (.invokeinterface 47 4 :: r) ls (.int x3 :: .int x2 :: .int x1 :: .ref x0 :: st) p g = (gb_call 47 [.ref x0, .int x1, .int x2, .int x3] p g).bind (fun w => gb_ex m r ls (psh w.1 st) w.2.1 w.2.2) :=
  gb_ex_cl (k := 47) (n := 4) (st' := .int x3 :: .int x2 :: .int x1 :: .ref x0 :: st) (by
    have h1 : 4 ≤ (.int x3 :: .int x2 :: .int x1 :: .ref x0 :: st : List Value).length := by simp
    have h2 : gb_rcv 47 [.ref x0, .int x1, .int x2, .int x3] p = true := by
      show (true && true && true && decide (atag p x0 = 16)) = true
      rw [h]
      rfl
    simp only [gb_stp]
    exact if_pos ⟨h1, hs, h2⟩)
theorem cl_SH_addFind {p : gb_Pi} {g : gb_Sg} {x0 : Nat} {x1 : Int32} {x2 : Int32} {x3 : Int32} : gb_call 47 [.ref x0, .int x1, .int x2, .int x3] p g = gb_ex 47 bk_SH_addFind_0 [.ref x0, .int x1, .int x2, .int x3] [] p g := rfl
theorem xc_SH_addReport {m : Nat} {r : List Instr} {ls st : List Value} {p : gb_Pi} {g : gb_Sg} {x0 : Nat} {x1 : Int32} {x2 : Int32} {x3 : Int32} {x4 : Int32} {x5 : Int32} (h : atag p x0 = 16) (hs : st.length ≤ 4) : gb_ex m (.invokeinterface 48 6 :: r) ls (.int x5 :: .int x4 :: .int x3 :: .int x2 :: .int x1 :: .ref x0 :: st) p g = (gb_call 48 [.ref x0, .int x1, .int x2, .int x3, .int x4, .int x5] p g).bind (fun w => gb_ex m r ls (psh w.1 st) w.2.1 w.2.2) :=
  gb_ex_cl (k := 48) (n := 6) (st' := .int x5 :: .int x4 :: .int x3 :: .int x2 :: .int x1 :: .ref x0 :: st) (by
    have h1 : 6 ≤ (.int x5 :: .int x4 :: .int x3 :: .int x2 :: .int x1 :: .ref x0 :: st : List Value).length := by simp
    have h2 : gb_rcv 48 [.ref x0, .int x1, .int x2, .int x3, .int x4, .int x5] p = true := by
      show (true && true && true && decide (atag p x0 = 16)) = true
      rw [h]
      rfl
    simp only [gb_stp]
    exact if_pos ⟨h1, hs, h2⟩)
theorem cl_SH_addReport {p : gb_Pi} {g : gb_Sg} {x0 : Nat} {x1 : Int32} {x2 : Int32} {x3 : Int32} {x4 : Int32} {x5 : Int32} : gb_call 48 [.ref x0, .int x1, .int x2, .int x3, .int x4, .int x5] p g = gb_ex 48 bk_SH_addReport_0 [.ref x0, .int x1, .int x2, .int x3, .int x4, .int x5] [] p g := rfl
theorem xc_SH_sawBy {m : Nat} {r : List Instr} {ls st : List Value} {p : gb_Pi} {g : gb_Sg} {x0 : Nat} {x1 : Int32} {x2 : Int32} {x3 : Int32} (h : atag p x0 = 16) (hs : st.length ≤ 4) : gb_ex m (.invokeinterface 49 4 :: r) ls (.int x3 :: .int x2 :: .int x1 :: .ref x0 :: st) p g = (gb_call 49 [.ref x0, .int x1, .int x2, .int x3] p g).bind (fun w => gb_ex m r ls (psh w.1 st) w.2.1 w.2.2) :=
  gb_ex_cl (k := 49) (n := 4) (st' := .int x3 :: .int x2 :: .int x1 :: .ref x0 :: st) (by
    have h1 : 4 ≤ (.int x3 :: .int x2 :: .int x1 :: .ref x0 :: st : List Value).length := by simp
    have h2 : gb_rcv 49 [.ref x0, .int x1, .int x2, .int x3] p = true := by
      show (true && true && true && decide (atag p x0 = 16)) = true
      rw [h]
      rfl
    simp only [gb_stp]
    exact if_pos ⟨h1, hs, h2⟩)
theorem cl_SH_sawBy {p : gb_Pi} {g : gb_Sg} {x0 : Nat} {x1 : Int32} {x2 : Int32} {x3 : Int32} : gb_call 49 [.ref x0, .int x1, .int x2, .int x3] p g = gb_ex 49 bk_SH_sawBy_0 [.ref x0, .int x1, .int x2, .int x3, .null] [] p g := rfl
theorem xc_SH_sawNoneFrom {m : Nat} {r : List Instr} {ls st : List Value} {p : gb_Pi} {g : gb_Sg} {x0 : Nat} {x1 : Int32} {x2 : Int32} {x3 : Int32} {x4 : Int32} (h : atag p x0 = 16) (hs : st.length ≤ 4) : gb_ex m (.invokeinterface 50 5 :: r) ls (.int x4 :: .int x3 :: .int x2 :: .int x1 :: .ref x0 :: st) p g = (gb_call 50 [.ref x0, .int x1, .int x2, .int x3, .int x4] p g).bind (fun w => gb_ex m r ls (psh w.1 st) w.2.1 w.2.2) :=
  gb_ex_cl (k := 50) (n := 5) (st' := .int x4 :: .int x3 :: .int x2 :: .int x1 :: .ref x0 :: st) (by
    have h1 : 5 ≤ (.int x4 :: .int x3 :: .int x2 :: .int x1 :: .ref x0 :: st : List Value).length := by simp
    have h2 : gb_rcv 50 [.ref x0, .int x1, .int x2, .int x3, .int x4] p = true := by
      show (true && true && true && decide (atag p x0 = 16)) = true
      rw [h]
      rfl
    simp only [gb_stp]
    exact if_pos ⟨h1, hs, h2⟩)
theorem cl_SH_sawNoneFrom {p : gb_Pi} {g : gb_Sg} {x0 : Nat} {x1 : Int32} {x2 : Int32} {x3 : Int32} {x4 : Int32} : gb_call 50 [.ref x0, .int x1, .int x2, .int x3, .int x4] p g = gb_ex 50 bk_SH_sawNoneFrom_0 [.ref x0, .int x1, .int x2, .int x3, .int x4, .null] [] p g := rfl
theorem xc_SH_hasNumber {m : Nat} {r : List Instr} {ls st : List Value} {p : gb_Pi} {g : gb_Sg} {x0 : Nat} {x1 : Int32} (h : atag p x0 = 16) (hs : st.length ≤ 4) : gb_ex m (.invokeinterface 51 2 :: r) ls (.int x1 :: .ref x0 :: st) p g = (gb_call 51 [.ref x0, .int x1] p g).bind (fun w => gb_ex m r ls (psh w.1 st) w.2.1 w.2.2) :=
  gb_ex_cl (k := 51) (n := 2) (st' := .int x1 :: .ref x0 :: st) (by
    have h1 : 2 ≤ (.int x1 :: .ref x0 :: st : List Value).length := by simp
    have h2 : gb_rcv 51 [.ref x0, .int x1] p = true := by
      show (true && true && true && decide (atag p x0 = 16)) = true
      rw [h]
      rfl
    simp only [gb_stp]
    exact if_pos ⟨h1, hs, h2⟩)
theorem cl_SH_hasNumber {p : gb_Pi} {g : gb_Sg} {x0 : Nat} {x1 : Int32} : gb_call 51 [.ref x0, .int x1] p g = gb_ex 51 bk_SH_hasNumber_0 [.ref x0, .int x1, .null] [] p g := rfl
theorem xc_SH_addNumber {m : Nat} {r : List Instr} {ls st : List Value} {p : gb_Pi} {g : gb_Sg} {x0 : Nat} {x1 : Int32} (h : atag p x0 = 16) (hs : st.length ≤ 4) : gb_ex m (.invokeinterface 52 2 :: r) ls (.int x1 :: .ref x0 :: st) p g = (gb_call 52 [.ref x0, .int x1] p g).bind (fun w => gb_ex m r ls (psh w.1 st) w.2.1 w.2.2) :=
  gb_ex_cl (k := 52) (n := 2) (st' := .int x1 :: .ref x0 :: st) (by
    have h1 : 2 ≤ (.int x1 :: .ref x0 :: st : List Value).length := by simp
    have h2 : gb_rcv 52 [.ref x0, .int x1] p = true := by
      show (true && true && true && decide (atag p x0 = 16)) = true
      rw [h]
      rfl
    simp only [gb_stp]
    exact if_pos ⟨h1, hs, h2⟩)
theorem cl_SH_addNumber {p : gb_Pi} {g : gb_Sg} {x0 : Nat} {x1 : Int32} : gb_call 52 [.ref x0, .int x1] p g = gb_ex 52 bk_SH_addNumber_0 [.ref x0, .int x1] [] p g := rfl
theorem xc_SH_greatestNumber {m : Nat} {r : List Instr} {ls st : List Value} {p : gb_Pi} {g : gb_Sg} {x0 : Nat} (h : atag p x0 = 16) (hs : st.length ≤ 4) : gb_ex m (.invokeinterface 53 1 :: r) ls (.ref x0 :: st) p g = (gb_call 53 [.ref x0] p g).bind (fun w => gb_ex m r ls (psh w.1 st) w.2.1 w.2.2) :=
  gb_ex_cl (k := 53) (n := 1) (st' := .ref x0 :: st) (by
    have h1 : 1 ≤ (.ref x0 :: st : List Value).length := by simp
    have h2 : gb_rcv 53 [.ref x0] p = true := by
      show (true && true && true && decide (atag p x0 = 16)) = true
      rw [h]
      rfl
    simp only [gb_stp]
    exact if_pos ⟨h1, hs, h2⟩)
theorem cl_SH_greatestNumber {p : gb_Pi} {g : gb_Sg} {x0 : Nat} : gb_call 53 [.ref x0] p g = gb_ex 53 bk_SH_greatestNumber_0 [.ref x0, .null, .null] [] p g := rfl
theorem xc_SU_init {m : Nat} {r : List Instr} {ls st : List Value} {p : gb_Pi} {g : gb_Sg} {x0 : Nat} (h : atag p x0 = 17) (hs : st.length ≤ 4) : gb_ex m (.invokeinterface 54 1 :: r) ls (.ref x0 :: st) p g = (gb_call 54 [.ref x0] p g).bind (fun w => gb_ex m r ls (psh w.1 st) w.2.1 w.2.2) :=
  gb_ex_cl (k := 54) (n := 1) (st' := .ref x0 :: st) (by
    have h1 : 1 ≤ (.ref x0 :: st : List Value).length := by simp
    have h2 : gb_rcv 54 [.ref x0] p = true := by
      show (true && true && true && decide (atag p x0 = 17)) = true
      rw [h]
      rfl
    simp only [gb_stp]
    exact if_pos ⟨h1, hs, h2⟩)
theorem cl_SU_init {p : gb_Pi} {g : gb_Sg} {x0 : Nat} : gb_call 54 [.ref x0] p g = gb_ex 54 bk_SU_init_0 [.ref x0, .null] [] p g := rfl
theorem xc_SU_setShown {m : Nat} {r : List Instr} {ls st : List Value} {p : gb_Pi} {g : gb_Sg} {x0 : Nat} {x1 : Int32} {x2 : Int32} {x3 : Int32} (h : atag p x0 = 17) (hs : st.length ≤ 4) : gb_ex m (.invokeinterface 55 4 :: r) ls (.int x3 :: .int x2 :: .int x1 :: .ref x0 :: st) p g = (gb_call 55 [.ref x0, .int x1, .int x2, .int x3] p g).bind (fun w => gb_ex m r ls (psh w.1 st) w.2.1 w.2.2) :=
  gb_ex_cl (k := 55) (n := 4) (st' := .int x3 :: .int x2 :: .int x1 :: .ref x0 :: st) (by
    have h1 : 4 ≤ (.int x3 :: .int x2 :: .int x1 :: .ref x0 :: st : List Value).length := by simp
    have h2 : gb_rcv 55 [.ref x0, .int x1, .int x2, .int x3] p = true := by
      show (true && true && true && decide (atag p x0 = 17)) = true
      rw [h]
      rfl
    simp only [gb_stp]
    exact if_pos ⟨h1, hs, h2⟩)
theorem cl_SU_setShown {p : gb_Pi} {g : gb_Sg} {x0 : Nat} {x1 : Int32} {x2 : Int32} {x3 : Int32} : gb_call 55 [.ref x0, .int x1, .int x2, .int x3] p g = gb_ex 55 bk_SU_setShown_0 [.ref x0, .int x1, .int x2, .int x3, .null] [] p g := rfl
theorem xc_SU_part {m : Nat} {r : List Instr} {ls st : List Value} {p : gb_Pi} {g : gb_Sg} {x0 : Nat} {x1 : Int32} {x2 : Int32} {x3 : Int32} (h : atag p x0 = 17) (hs : st.length ≤ 4) : gb_ex m (.invokeinterface 56 4 :: r) ls (.int x3 :: .int x2 :: .int x1 :: .ref x0 :: st) p g = (gb_call 56 [.ref x0, .int x1, .int x2, .int x3] p g).bind (fun w => gb_ex m r ls (psh w.1 st) w.2.1 w.2.2) :=
  gb_ex_cl (k := 56) (n := 4) (st' := .int x3 :: .int x2 :: .int x1 :: .ref x0 :: st) (by
    have h1 : 4 ≤ (.int x3 :: .int x2 :: .int x1 :: .ref x0 :: st : List Value).length := by simp
    have h2 : gb_rcv 56 [.ref x0, .int x1, .int x2, .int x3] p = true := by
      show (true && true && true && decide (atag p x0 = 17)) = true
      rw [h]
      rfl
    simp only [gb_stp]
    exact if_pos ⟨h1, hs, h2⟩)
theorem cl_SU_part {p : gb_Pi} {g : gb_Sg} {x0 : Nat} {x1 : Int32} {x2 : Int32} {x3 : Int32} : gb_call 56 [.ref x0, .int x1, .int x2, .int x3] p g = gb_ex 56 bk_SU_part_0 [.ref x0, .int x1, .int x2, .int x3] [] p g := rfl
theorem xc_SU_solve {m : Nat} {r : List Instr} {ls st : List Value} {p : gb_Pi} {g : gb_Sg} {x0 : Nat} {x1 : Int32} (h : atag p x0 = 17) (hs : st.length ≤ 4) : gb_ex m (.invokeinterface 57 2 :: r) ls (.int x1 :: .ref x0 :: st) p g = (gb_call 57 [.ref x0, .int x1] p g).bind (fun w => gb_ex m r ls (psh w.1 st) w.2.1 w.2.2) :=
  gb_ex_cl (k := 57) (n := 2) (st' := .int x1 :: .ref x0 :: st) (by
    have h1 : 2 ≤ (.int x1 :: .ref x0 :: st : List Value).length := by simp
    have h2 : gb_rcv 57 [.ref x0, .int x1] p = true := by
      show (true && true && true && decide (atag p x0 = 17)) = true
      rw [h]
      rfl
    simp only [gb_stp]
    exact if_pos ⟨h1, hs, h2⟩)
theorem cl_SU_solve {p : gb_Pi} {g : gb_Sg} {x0 : Nat} {x1 : Int32} : gb_call 57 [.ref x0, .int x1] p g = gb_ex 57 bk_SU_solve_0 [.ref x0, .int x1, .null] [] p g := rfl
theorem xc_SU_leastCost {m : Nat} {r : List Instr} {ls st : List Value} {p : gb_Pi} {g : gb_Sg} {x0 : Nat} {x1 : Int32} (h : atag p x0 = 17) (hs : st.length ≤ 4) : gb_ex m (.invokeinterface 58 2 :: r) ls (.int x1 :: .ref x0 :: st) p g = (gb_call 58 [.ref x0, .int x1] p g).bind (fun w => gb_ex m r ls (psh w.1 st) w.2.1 w.2.2) :=
  gb_ex_cl (k := 58) (n := 2) (st' := .int x1 :: .ref x0 :: st) (by
    have h1 : 2 ≤ (.int x1 :: .ref x0 :: st : List Value).length := by simp
    have h2 : gb_rcv 58 [.ref x0, .int x1] p = true := by
      show (true && true && true && decide (atag p x0 = 17)) = true
      rw [h]
      rfl
    simp only [gb_stp]
    exact if_pos ⟨h1, hs, h2⟩)
theorem cl_SU_leastCost {p : gb_Pi} {g : gb_Sg} {x0 : Nat} {x1 : Int32} : gb_call 58 [.ref x0, .int x1] p g = gb_ex 58 bk_SU_leastCost_0 [.ref x0, .int x1, .null, .null] [] p g := rfl
theorem xc_SU_costThrough {m : Nat} {r : List Instr} {ls st : List Value} {p : gb_Pi} {g : gb_Sg} {x0 : Nat} {x1 : Int32} {x2 : Int32} (h : atag p x0 = 17) (hs : st.length ≤ 4) : gb_ex m (.invokeinterface 59 3 :: r) ls (.int x2 :: .int x1 :: .ref x0 :: st) p g = (gb_call 59 [.ref x0, .int x1, .int x2] p g).bind (fun w => gb_ex m r ls (psh w.1 st) w.2.1 w.2.2) :=
  gb_ex_cl (k := 59) (n := 3) (st' := .int x2 :: .int x1 :: .ref x0 :: st) (by
    have h1 : 3 ≤ (.int x2 :: .int x1 :: .ref x0 :: st : List Value).length := by simp
    have h2 : gb_rcv 59 [.ref x0, .int x1, .int x2] p = true := by
      show (true && true && true && decide (atag p x0 = 17)) = true
      rw [h]
      rfl
    simp only [gb_stp]
    exact if_pos ⟨h1, hs, h2⟩)
theorem cl_SU_costThrough {p : gb_Pi} {g : gb_Sg} {x0 : Nat} {x1 : Int32} {x2 : Int32} : gb_call 59 [.ref x0, .int x1, .int x2] p g = gb_ex 59 bk_SU_costThrough_0 [.ref x0, .int x1, .int x2, .null, .null, .null] [] p g := rfl
theorem xc_SU_firstTest {m : Nat} {r : List Instr} {ls st : List Value} {p : gb_Pi} {g : gb_Sg} {x0 : Nat} {x1 : Int32} (h : atag p x0 = 17) (hs : st.length ≤ 4) : gb_ex m (.invokeinterface 60 2 :: r) ls (.int x1 :: .ref x0 :: st) p g = (gb_call 60 [.ref x0, .int x1] p g).bind (fun w => gb_ex m r ls (psh w.1 st) w.2.1 w.2.2) :=
  gb_ex_cl (k := 60) (n := 2) (st' := .int x1 :: .ref x0 :: st) (by
    have h1 : 2 ≤ (.int x1 :: .ref x0 :: st : List Value).length := by simp
    have h2 : gb_rcv 60 [.ref x0, .int x1] p = true := by
      show (true && true && true && decide (atag p x0 = 17)) = true
      rw [h]
      rfl
    simp only [gb_stp]
    exact if_pos ⟨h1, hs, h2⟩)
theorem cl_SU_firstTest {p : gb_Pi} {g : gb_Sg} {x0 : Nat} {x1 : Int32} : gb_call 60 [.ref x0, .int x1] p g = gb_ex 60 bk_SU_firstTest_0 [.ref x0, .int x1, .null] [] p g := rfl
theorem xc_WE_init {m : Nat} {r : List Instr} {ls st : List Value} {p : gb_Pi} {g : gb_Sg} {x0 : Nat} (h : atag p x0 = 18) (hs : st.length ≤ 4) : gb_ex m (.invokeinterface 61 1 :: r) ls (.ref x0 :: st) p g = (gb_call 61 [.ref x0] p g).bind (fun w => gb_ex m r ls (psh w.1 st) w.2.1 w.2.2) :=
  gb_ex_cl (k := 61) (n := 1) (st' := .ref x0 :: st) (by
    have h1 : 1 ≤ (.ref x0 :: st : List Value).length := by simp
    have h2 : gb_rcv 61 [.ref x0] p = true := by
      show (true && true && true && decide (atag p x0 = 18)) = true
      rw [h]
      rfl
    simp only [gb_stp]
    exact if_pos ⟨h1, hs, h2⟩)
theorem cl_WE_init {p : gb_Pi} {g : gb_Sg} {x0 : Nat} : gb_call 61 [.ref x0] p g = gb_ex 61 bk_WE_init_0 [.ref x0] [] p g := rfl
theorem xc_WE_clear {m : Nat} {r : List Instr} {ls st : List Value} {p : gb_Pi} {g : gb_Sg} {x0 : Nat} (h : atag p x0 = 18) (hs : st.length ≤ 4) : gb_ex m (.invokeinterface 62 1 :: r) ls (.ref x0 :: st) p g = (gb_call 62 [.ref x0] p g).bind (fun w => gb_ex m r ls (psh w.1 st) w.2.1 w.2.2) :=
  gb_ex_cl (k := 62) (n := 1) (st' := .ref x0 :: st) (by
    have h1 : 1 ≤ (.ref x0 :: st : List Value).length := by simp
    have h2 : gb_rcv 62 [.ref x0] p = true := by
      show (true && true && true && decide (atag p x0 = 18)) = true
      rw [h]
      rfl
    simp only [gb_stp]
    exact if_pos ⟨h1, hs, h2⟩)
theorem cl_WE_clear {p : gb_Pi} {g : gb_Sg} {x0 : Nat} : gb_call 62 [.ref x0] p g = gb_ex 62 bk_WE_clear_0 [.ref x0] [] p g := rfl
theorem xc_WE_addTide {m : Nat} {r : List Instr} {ls st : List Value} {p : gb_Pi} {g : gb_Sg} {x0 : Nat} {x1 : Int32} {x2 : Int32} (h : atag p x0 = 18) (hs : st.length ≤ 4) : gb_ex m (.invokeinterface 63 3 :: r) ls (.int x2 :: .int x1 :: .ref x0 :: st) p g = (gb_call 63 [.ref x0, .int x1, .int x2] p g).bind (fun w => gb_ex m r ls (psh w.1 st) w.2.1 w.2.2) :=
  gb_ex_cl (k := 63) (n := 3) (st' := .int x2 :: .int x1 :: .ref x0 :: st) (by
    have h1 : 3 ≤ (.int x2 :: .int x1 :: .ref x0 :: st : List Value).length := by simp
    have h2 : gb_rcv 63 [.ref x0, .int x1, .int x2] p = true := by
      show (true && true && true && decide (atag p x0 = 18)) = true
      rw [h]
      rfl
    simp only [gb_stp]
    exact if_pos ⟨h1, hs, h2⟩)
theorem cl_WE_addTide {p : gb_Pi} {g : gb_Sg} {x0 : Nat} {x1 : Int32} {x2 : Int32} : gb_call 63 [.ref x0, .int x1, .int x2] p g = gb_ex 63 bk_WE_addTide_0 [.ref x0, .int x1, .int x2] [] p g := rfl
theorem xc_WE_addWind {m : Nat} {r : List Instr} {ls st : List Value} {p : gb_Pi} {g : gb_Sg} {x0 : Nat} {x1 : Int32} {x2 : Int32} {x3 : Int32} (h : atag p x0 = 18) (hs : st.length ≤ 4) : gb_ex m (.invokeinterface 64 4 :: r) ls (.int x3 :: .int x2 :: .int x1 :: .ref x0 :: st) p g = (gb_call 64 [.ref x0, .int x1, .int x2, .int x3] p g).bind (fun w => gb_ex m r ls (psh w.1 st) w.2.1 w.2.2) :=
  gb_ex_cl (k := 64) (n := 4) (st' := .int x3 :: .int x2 :: .int x1 :: .ref x0 :: st) (by
    have h1 : 4 ≤ (.int x3 :: .int x2 :: .int x1 :: .ref x0 :: st : List Value).length := by simp
    have h2 : gb_rcv 64 [.ref x0, .int x1, .int x2, .int x3] p = true := by
      show (true && true && true && decide (atag p x0 = 18)) = true
      rw [h]
      rfl
    simp only [gb_stp]
    exact if_pos ⟨h1, hs, h2⟩)
theorem cl_WE_addWind {p : gb_Pi} {g : gb_Sg} {x0 : Nat} {x1 : Int32} {x2 : Int32} {x3 : Int32} : gb_call 64 [.ref x0, .int x1, .int x2, .int x3] p g = gb_ex 64 bk_WE_addWind_0 [.ref x0, .int x1, .int x2, .int x3, .null] [] p g := rfl
theorem xc_WE_makeRoom {m : Nat} {r : List Instr} {ls st : List Value} {p : gb_Pi} {g : gb_Sg} {x0 : Nat} {x1 : Int32} (h : atag p x0 = 18) (hs : st.length ≤ 4) : gb_ex m (.invokeinterface 65 2 :: r) ls (.int x1 :: .ref x0 :: st) p g = (gb_call 65 [.ref x0, .int x1] p g).bind (fun w => gb_ex m r ls (psh w.1 st) w.2.1 w.2.2) :=
  gb_ex_cl (k := 65) (n := 2) (st' := .int x1 :: .ref x0 :: st) (by
    have h1 : 2 ≤ (.int x1 :: .ref x0 :: st : List Value).length := by simp
    have h2 : gb_rcv 65 [.ref x0, .int x1] p = true := by
      show (true && true && true && decide (atag p x0 = 18)) = true
      rw [h]
      rfl
    simp only [gb_stp]
    exact if_pos ⟨h1, hs, h2⟩)
theorem cl_WE_makeRoom {p : gb_Pi} {g : gb_Sg} {x0 : Nat} {x1 : Int32} : gb_call 65 [.ref x0, .int x1] p g = gb_ex 65 bk_WE_makeRoom_0 [.ref x0, .int x1, .null] [] p g := rfl
theorem xc_GB_init {m : Nat} {r : List Instr} {ls st : List Value} {p : gb_Pi} {g : gb_Sg} {x0 : Nat} (h : atag p x0 = 19) (hs : st.length ≤ 4) : gb_ex m (.invokeinterface 66 1 :: r) ls (.ref x0 :: st) p g = (gb_call 66 [.ref x0] p g).bind (fun w => gb_ex m r ls (psh w.1 st) w.2.1 w.2.2) :=
  gb_ex_cl (k := 66) (n := 1) (st' := .ref x0 :: st) (by
    have h1 : 1 ≤ (.ref x0 :: st : List Value).length := by simp
    have h2 : gb_rcv 66 [.ref x0] p = true := by
      show (true && true && true && decide (atag p x0 = 19)) = true
      rw [h]
      rfl
    simp only [gb_stp]
    exact if_pos ⟨h1, hs, h2⟩)
theorem cl_GB_init {p : gb_Pi} {g : gb_Sg} {x0 : Nat} : gb_call 66 [.ref x0] p g = gb_ex 66 bk_GB_init_0 [.ref x0] [] p g := rfl
theorem xc_GB_write {m : Nat} {r : List Instr} {ls st : List Value} {p : gb_Pi} {g : gb_Sg} {x0 : Nat} {x1 : Int32} {x2 : Int64} (h : atag p x0 = 19) (hs : st.length ≤ 4) : gb_ex m (.invokeinterface 67 3 :: r) ls (.long x2 :: .int x1 :: .ref x0 :: st) p g = (gb_call 67 [.ref x0, .int x1, .long x2] p g).bind (fun w => gb_ex m r ls (psh w.1 st) w.2.1 w.2.2) :=
  gb_ex_cl (k := 67) (n := 3) (st' := .long x2 :: .int x1 :: .ref x0 :: st) (by
    have h1 : 3 ≤ (.long x2 :: .int x1 :: .ref x0 :: st : List Value).length := by simp
    have h2 : gb_rcv 67 [.ref x0, .int x1, .long x2] p = true := by
      show (true && true && true && decide (atag p x0 = 19)) = true
      rw [h]
      rfl
    simp only [gb_stp]
    exact if_pos ⟨h1, hs, h2⟩)
theorem cl_GB_write {p : gb_Pi} {g : gb_Sg} {x0 : Nat} {x1 : Int32} {x2 : Int64} : gb_call 67 [.ref x0, .int x1, .long x2] p g = gb_ex 67 bk_GB_write_0 [.ref x0, .int x1, .long x2, .null] [] p g := rfl
theorem xc_GB_wipe {m : Nat} {r : List Instr} {ls st : List Value} {p : gb_Pi} {g : gb_Sg} {x0 : Nat} (h : atag p x0 = 19) (hs : st.length ≤ 4) : gb_ex m (.invokeinterface 68 1 :: r) ls (.ref x0 :: st) p g = (gb_call 68 [.ref x0] p g).bind (fun w => gb_ex m r ls (psh w.1 st) w.2.1 w.2.2) :=
  gb_ex_cl (k := 68) (n := 1) (st' := .ref x0 :: st) (by
    have h1 : 1 ≤ (.ref x0 :: st : List Value).length := by simp
    have h2 : gb_rcv 68 [.ref x0] p = true := by
      show (true && true && true && decide (atag p x0 = 19)) = true
      rw [h]
      rfl
    simp only [gb_stp]
    exact if_pos ⟨h1, hs, h2⟩)
theorem cl_GB_wipe {p : gb_Pi} {g : gb_Sg} {x0 : Nat} : gb_call 68 [.ref x0] p g = gb_ex 68 bk_GB_wipe_0 [.ref x0, .null] [] p g := rfl
theorem xc_GB_fault {m : Nat} {r : List Instr} {ls st : List Value} {p : gb_Pi} {g : gb_Sg} {x0 : Nat} {x1 : Int32} (h : atag p x0 = 19) (hs : st.length ≤ 4) : gb_ex m (.invokeinterface 69 2 :: r) ls (.int x1 :: .ref x0 :: st) p g = (gb_call 69 [.ref x0, .int x1] p g).bind (fun w => gb_ex m r ls (psh w.1 st) w.2.1 w.2.2) :=
  gb_ex_cl (k := 69) (n := 2) (st' := .int x1 :: .ref x0 :: st) (by
    have h1 : 2 ≤ (.int x1 :: .ref x0 :: st : List Value).length := by simp
    have h2 : gb_rcv 69 [.ref x0, .int x1] p = true := by
      show (true && true && true && decide (atag p x0 = 19)) = true
      rw [h]
      rfl
    simp only [gb_stp]
    exact if_pos ⟨h1, hs, h2⟩)
theorem cl_GB_fault {p : gb_Pi} {g : gb_Sg} {x0 : Nat} {x1 : Int32} : gb_call 69 [.ref x0, .int x1] p g = gb_ex 69 bk_GB_fault_0 [.ref x0, .int x1] [] p g := rfl
theorem xc_GB_lay {m : Nat} {r : List Instr} {ls st : List Value} {p : gb_Pi} {g : gb_Sg} {x0 : Nat} {x1 : Int32} (h : atag p x0 = 19) (hs : st.length ≤ 4) : gb_ex m (.invokeinterface 70 2 :: r) ls (.int x1 :: .ref x0 :: st) p g = (gb_call 70 [.ref x0, .int x1] p g).bind (fun w => gb_ex m r ls (psh w.1 st) w.2.1 w.2.2) :=
  gb_ex_cl (k := 70) (n := 2) (st' := .int x1 :: .ref x0 :: st) (by
    have h1 : 2 ≤ (.int x1 :: .ref x0 :: st : List Value).length := by simp
    have h2 : gb_rcv 70 [.ref x0, .int x1] p = true := by
      show (true && true && true && decide (atag p x0 = 19)) = true
      rw [h]
      rfl
    simp only [gb_stp]
    exact if_pos ⟨h1, hs, h2⟩)
theorem cl_GB_lay {p : gb_Pi} {g : gb_Sg} {x0 : Nat} {x1 : Int32} : gb_call 70 [.ref x0, .int x1] p g = gb_ex 70 bk_GB_lay_0 [.ref x0, .int x1] [] p g := rfl
theorem xc_GB_layLaw {m : Nat} {r : List Instr} {ls st : List Value} {p : gb_Pi} {g : gb_Sg} {x0 : Nat} (h : atag p x0 = 19) (hs : st.length ≤ 4) : gb_ex m (.invokeinterface 71 1 :: r) ls (.ref x0 :: st) p g = (gb_call 71 [.ref x0] p g).bind (fun w => gb_ex m r ls (psh w.1 st) w.2.1 w.2.2) :=
  gb_ex_cl (k := 71) (n := 1) (st' := .ref x0 :: st) (by
    have h1 : 1 ≤ (.ref x0 :: st : List Value).length := by simp
    have h2 : gb_rcv 71 [.ref x0] p = true := by
      show (true && true && true && decide (atag p x0 = 19)) = true
      rw [h]
      rfl
    simp only [gb_stp]
    exact if_pos ⟨h1, hs, h2⟩)
theorem cl_GB_layLaw {p : gb_Pi} {g : gb_Sg} {x0 : Nat} : gb_call 71 [.ref x0] p g = gb_ex 71 bk_GB_layLaw_0 [.ref x0, .null] [] p g := rfl
theorem xc_GB_layBeach {m : Nat} {r : List Instr} {ls st : List Value} {p : gb_Pi} {g : gb_Sg} {x0 : Nat} (h : atag p x0 = 19) (hs : st.length ≤ 4) : gb_ex m (.invokeinterface 72 1 :: r) ls (.ref x0 :: st) p g = (gb_call 72 [.ref x0] p g).bind (fun w => gb_ex m r ls (psh w.1 st) w.2.1 w.2.2) :=
  gb_ex_cl (k := 72) (n := 1) (st' := .ref x0 :: st) (by
    have h1 : 1 ≤ (.ref x0 :: st : List Value).length := by simp
    have h2 : gb_rcv 72 [.ref x0] p = true := by
      show (true && true && true && decide (atag p x0 = 19)) = true
      rw [h]
      rfl
    simp only [gb_stp]
    exact if_pos ⟨h1, hs, h2⟩)
theorem cl_GB_layBeach {p : gb_Pi} {g : gb_Sg} {x0 : Nat} : gb_call 72 [.ref x0] p g = gb_ex 72 bk_GB_layBeach_0 [.ref x0, .null] [] p g := rfl
theorem xc_GB_drift {m : Nat} {r : List Instr} {ls st : List Value} {p : gb_Pi} {g : gb_Sg} {x0 : Nat} {x1 : Int32} {x2 : Int32} {x3 : Int32} {x4 : Int32} {x5 : Int32} (h : atag p x0 = 19) (hs : st.length ≤ 4) : gb_ex m (.invokeinterface 73 6 :: r) ls (.int x5 :: .int x4 :: .int x3 :: .int x2 :: .int x1 :: .ref x0 :: st) p g = (gb_call 73 [.ref x0, .int x1, .int x2, .int x3, .int x4, .int x5] p g).bind (fun w => gb_ex m r ls (psh w.1 st) w.2.1 w.2.2) :=
  gb_ex_cl (k := 73) (n := 6) (st' := .int x5 :: .int x4 :: .int x3 :: .int x2 :: .int x1 :: .ref x0 :: st) (by
    have h1 : 6 ≤ (.int x5 :: .int x4 :: .int x3 :: .int x2 :: .int x1 :: .ref x0 :: st : List Value).length := by simp
    have h2 : gb_rcv 73 [.ref x0, .int x1, .int x2, .int x3, .int x4, .int x5] p = true := by
      show (true && true && true && decide (atag p x0 = 19)) = true
      rw [h]
      rfl
    simp only [gb_stp]
    exact if_pos ⟨h1, hs, h2⟩)
theorem cl_GB_drift {p : gb_Pi} {g : gb_Sg} {x0 : Nat} {x1 : Int32} {x2 : Int32} {x3 : Int32} {x4 : Int32} {x5 : Int32} : gb_call 73 [.ref x0, .int x1, .int x2, .int x3, .int x4, .int x5] p g = gb_ex 73 bk_GB_drift_0 [.ref x0, .int x1, .int x2, .int x3, .int x4, .int x5] [] p g := rfl
theorem xc_GB_worlds {m : Nat} {r : List Instr} {ls st : List Value} {p : gb_Pi} {g : gb_Sg} {x0 : Nat} {x1 : Int32} {x2 : Int32} (h : atag p x0 = 19) (hs : st.length ≤ 4) : gb_ex m (.invokeinterface 74 3 :: r) ls (.int x2 :: .int x1 :: .ref x0 :: st) p g = (gb_call 74 [.ref x0, .int x1, .int x2] p g).bind (fun w => gb_ex m r ls (psh w.1 st) w.2.1 w.2.2) :=
  gb_ex_cl (k := 74) (n := 3) (st' := .int x2 :: .int x1 :: .ref x0 :: st) (by
    have h1 : 3 ≤ (.int x2 :: .int x1 :: .ref x0 :: st : List Value).length := by simp
    have h2 : gb_rcv 74 [.ref x0, .int x1, .int x2] p = true := by
      show (true && true && true && decide (atag p x0 = 19)) = true
      rw [h]
      rfl
    simp only [gb_stp]
    exact if_pos ⟨h1, hs, h2⟩)
theorem cl_GB_worlds {p : gb_Pi} {g : gb_Sg} {x0 : Nat} {x1 : Int32} {x2 : Int32} : gb_call 74 [.ref x0, .int x1, .int x2] p g = gb_ex 74 bk_GB_worlds_0 [.ref x0, .int x1, .int x2, .null, .null] [] p g := rfl
theorem xc_GB_ashore {m : Nat} {r : List Instr} {ls st : List Value} {p : gb_Pi} {g : gb_Sg} {x0 : Nat} {x1 : Int32} {x2 : Int32} {x3 : Int32} {x4 : Int32} (h : atag p x0 = 19) (hs : st.length ≤ 4) : gb_ex m (.invokeinterface 75 5 :: r) ls (.int x4 :: .int x3 :: .int x2 :: .int x1 :: .ref x0 :: st) p g = (gb_call 75 [.ref x0, .int x1, .int x2, .int x3, .int x4] p g).bind (fun w => gb_ex m r ls (psh w.1 st) w.2.1 w.2.2) :=
  gb_ex_cl (k := 75) (n := 5) (st' := .int x4 :: .int x3 :: .int x2 :: .int x1 :: .ref x0 :: st) (by
    have h1 : 5 ≤ (.int x4 :: .int x3 :: .int x2 :: .int x1 :: .ref x0 :: st : List Value).length := by simp
    have h2 : gb_rcv 75 [.ref x0, .int x1, .int x2, .int x3, .int x4] p = true := by
      show (true && true && true && decide (atag p x0 = 19)) = true
      rw [h]
      rfl
    simp only [gb_stp]
    exact if_pos ⟨h1, hs, h2⟩)
theorem cl_GB_ashore {p : gb_Pi} {g : gb_Sg} {x0 : Nat} {x1 : Int32} {x2 : Int32} {x3 : Int32} {x4 : Int32} : gb_call 75 [.ref x0, .int x1, .int x2, .int x3, .int x4] p g = gb_ex 75 bk_GB_ashore_0 [.ref x0, .int x1, .int x2, .int x3, .int x4] [] p g := rfl
theorem xc_GB_find {m : Nat} {r : List Instr} {ls st : List Value} {p : gb_Pi} {g : gb_Sg} {x0 : Nat} {x1 : Int32} {x2 : Int32} {x3 : Int32} (h : atag p x0 = 19) (hs : st.length ≤ 4) : gb_ex m (.invokeinterface 76 4 :: r) ls (.int x3 :: .int x2 :: .int x1 :: .ref x0 :: st) p g = (gb_call 76 [.ref x0, .int x1, .int x2, .int x3] p g).bind (fun w => gb_ex m r ls (psh w.1 st) w.2.1 w.2.2) :=
  gb_ex_cl (k := 76) (n := 4) (st' := .int x3 :: .int x2 :: .int x1 :: .ref x0 :: st) (by
    have h1 : 4 ≤ (.int x3 :: .int x2 :: .int x1 :: .ref x0 :: st : List Value).length := by simp
    have h2 : gb_rcv 76 [.ref x0, .int x1, .int x2, .int x3] p = true := by
      show (true && true && true && decide (atag p x0 = 19)) = true
      rw [h]
      rfl
    simp only [gb_stp]
    exact if_pos ⟨h1, hs, h2⟩)
theorem cl_GB_find {p : gb_Pi} {g : gb_Sg} {x0 : Nat} {x1 : Int32} {x2 : Int32} {x3 : Int32} : gb_call 76 [.ref x0, .int x1, .int x2, .int x3] p g = gb_ex 76 bk_GB_find_0 [.ref x0, .int x1, .int x2, .int x3] [] p g := rfl
theorem xc_GB_from {m : Nat} {r : List Instr} {ls st : List Value} {p : gb_Pi} {g : gb_Sg} {x0 : Nat} {x1 : Int32} (h : atag p x0 = 19) (hs : st.length ≤ 4) : gb_ex m (.invokeinterface 77 2 :: r) ls (.int x1 :: .ref x0 :: st) p g = (gb_call 77 [.ref x0, .int x1] p g).bind (fun w => gb_ex m r ls (psh w.1 st) w.2.1 w.2.2) :=
  gb_ex_cl (k := 77) (n := 2) (st' := .int x1 :: .ref x0 :: st) (by
    have h1 : 2 ≤ (.int x1 :: .ref x0 :: st : List Value).length := by simp
    have h2 : gb_rcv 77 [.ref x0, .int x1] p = true := by
      show (true && true && true && decide (atag p x0 = 19)) = true
      rw [h]
      rfl
    simp only [gb_stp]
    exact if_pos ⟨h1, hs, h2⟩)
theorem cl_GB_from {p : gb_Pi} {g : gb_Sg} {x0 : Nat} {x1 : Int32} : gb_call 77 [.ref x0, .int x1] p g = gb_ex 77 bk_GB_from_0 [.ref x0, .int x1] [] p g := rfl
theorem xc_GB_lossesBehind {m : Nat} {r : List Instr} {ls st : List Value} {p : gb_Pi} {g : gb_Sg} {x0 : Nat} {x1 : Int32} (h : atag p x0 = 19) (hs : st.length ≤ 4) : gb_ex m (.invokeinterface 78 2 :: r) ls (.int x1 :: .ref x0 :: st) p g = (gb_call 78 [.ref x0, .int x1] p g).bind (fun w => gb_ex m r ls (psh w.1 st) w.2.1 w.2.2) :=
  gb_ex_cl (k := 78) (n := 2) (st' := .int x1 :: .ref x0 :: st) (by
    have h1 : 2 ≤ (.int x1 :: .ref x0 :: st : List Value).length := by simp
    have h2 : gb_rcv 78 [.ref x0, .int x1] p = true := by
      show (true && true && true && decide (atag p x0 = 19)) = true
      rw [h]
      rfl
    simp only [gb_stp]
    exact if_pos ⟨h1, hs, h2⟩)
theorem cl_GB_lossesBehind {p : gb_Pi} {g : gb_Sg} {x0 : Nat} {x1 : Int32} : gb_call 78 [.ref x0, .int x1] p g = gb_ex 78 bk_GB_lossesBehind_0 [.ref x0, .int x1, .null, .null] [] p g := rfl
theorem xc_GB_parted {m : Nat} {r : List Instr} {ls st : List Value} {p : gb_Pi} {g : gb_Sg} {x0 : Nat} {x1 : Int32} (h : atag p x0 = 19) (hs : st.length ≤ 4) : gb_ex m (.invokeinterface 79 2 :: r) ls (.int x1 :: .ref x0 :: st) p g = (gb_call 79 [.ref x0, .int x1] p g).bind (fun w => gb_ex m r ls (psh w.1 st) w.2.1 w.2.2) :=
  gb_ex_cl (k := 79) (n := 2) (st' := .int x1 :: .ref x0 :: st) (by
    have h1 : 2 ≤ (.int x1 :: .ref x0 :: st : List Value).length := by simp
    have h2 : gb_rcv 79 [.ref x0, .int x1] p = true := by
      show (true && true && true && decide (atag p x0 = 19)) = true
      rw [h]
      rfl
    simp only [gb_stp]
    exact if_pos ⟨h1, hs, h2⟩)
theorem cl_GB_parted {p : gb_Pi} {g : gb_Sg} {x0 : Nat} {x1 : Int32} : gb_call 79 [.ref x0, .int x1] p g = gb_ex 79 bk_GB_parted_0 [.ref x0, .int x1, .null] [] p g := rfl
theorem xc_GB_report {m : Nat} {r : List Instr} {ls st : List Value} {p : gb_Pi} {g : gb_Sg} {x0 : Nat} {x1 : Int32} {x2 : Int32} {x3 : Int32} {x4 : Int32} {x5 : Int32} (h : atag p x0 = 19) (hs : st.length ≤ 4) : gb_ex m (.invokeinterface 80 6 :: r) ls (.int x5 :: .int x4 :: .int x3 :: .int x2 :: .int x1 :: .ref x0 :: st) p g = (gb_call 80 [.ref x0, .int x1, .int x2, .int x3, .int x4, .int x5] p g).bind (fun w => gb_ex m r ls (psh w.1 st) w.2.1 w.2.2) :=
  gb_ex_cl (k := 80) (n := 6) (st' := .int x5 :: .int x4 :: .int x3 :: .int x2 :: .int x1 :: .ref x0 :: st) (by
    have h1 : 6 ≤ (.int x5 :: .int x4 :: .int x3 :: .int x2 :: .int x1 :: .ref x0 :: st : List Value).length := by simp
    have h2 : gb_rcv 80 [.ref x0, .int x1, .int x2, .int x3, .int x4, .int x5] p = true := by
      show (true && true && true && decide (atag p x0 = 19)) = true
      rw [h]
      rfl
    simp only [gb_stp]
    exact if_pos ⟨h1, hs, h2⟩)
theorem cl_GB_report {p : gb_Pi} {g : gb_Sg} {x0 : Nat} {x1 : Int32} {x2 : Int32} {x3 : Int32} {x4 : Int32} {x5 : Int32} : gb_call 80 [.ref x0, .int x1, .int x2, .int x3, .int x4, .int x5] p g = gb_ex 80 bk_GB_report_0 [.ref x0, .int x1, .int x2, .int x3, .int x4, .int x5] [] p g := rfl
theorem xc_GB_there {m : Nat} {r : List Instr} {ls st : List Value} {p : gb_Pi} {g : gb_Sg} {x0 : Nat} {x1 : Int32} {x2 : Int32} {x3 : Int32} (h : atag p x0 = 19) (hs : st.length ≤ 4) : gb_ex m (.invokeinterface 81 4 :: r) ls (.int x3 :: .int x2 :: .int x1 :: .ref x0 :: st) p g = (gb_call 81 [.ref x0, .int x1, .int x2, .int x3] p g).bind (fun w => gb_ex m r ls (psh w.1 st) w.2.1 w.2.2) :=
  gb_ex_cl (k := 81) (n := 4) (st' := .int x3 :: .int x2 :: .int x1 :: .ref x0 :: st) (by
    have h1 : 4 ≤ (.int x3 :: .int x2 :: .int x1 :: .ref x0 :: st : List Value).length := by simp
    have h2 : gb_rcv 81 [.ref x0, .int x1, .int x2, .int x3] p = true := by
      show (true && true && true && decide (atag p x0 = 19)) = true
      rw [h]
      rfl
    simp only [gb_stp]
    exact if_pos ⟨h1, hs, h2⟩)
theorem cl_GB_there {p : gb_Pi} {g : gb_Sg} {x0 : Nat} {x1 : Int32} {x2 : Int32} {x3 : Int32} : gb_call 81 [.ref x0, .int x1, .int x2, .int x3] p g = gb_ex 81 bk_GB_there_0 [.ref x0, .int x1, .int x2, .int x3] [] p g := rfl
theorem xc_GB_missed {m : Nat} {r : List Instr} {ls st : List Value} {p : gb_Pi} {g : gb_Sg} {x0 : Nat} {x1 : Int32} (h : atag p x0 = 19) (hs : st.length ≤ 4) : gb_ex m (.invokeinterface 82 2 :: r) ls (.int x1 :: .ref x0 :: st) p g = (gb_call 82 [.ref x0, .int x1] p g).bind (fun w => gb_ex m r ls (psh w.1 st) w.2.1 w.2.2) :=
  gb_ex_cl (k := 82) (n := 2) (st' := .int x1 :: .ref x0 :: st) (by
    have h1 : 2 ≤ (.int x1 :: .ref x0 :: st : List Value).length := by simp
    have h2 : gb_rcv 82 [.ref x0, .int x1] p = true := by
      show (true && true && true && decide (atag p x0 = 19)) = true
      rw [h]
      rfl
    simp only [gb_stp]
    exact if_pos ⟨h1, hs, h2⟩)
theorem cl_GB_missed {p : gb_Pi} {g : gb_Sg} {x0 : Nat} {x1 : Int32} : gb_call 82 [.ref x0, .int x1] p g = gb_ex 82 bk_GB_missed_0 [.ref x0, .int x1, .null, .null, .null, .null] [] p g := rfl
theorem xc_GB_left {m : Nat} {r : List Instr} {ls st : List Value} {p : gb_Pi} {g : gb_Sg} {x0 : Nat} {x1 : Int32} (h : atag p x0 = 19) (hs : st.length ≤ 4) : gb_ex m (.invokeinterface 83 2 :: r) ls (.int x1 :: .ref x0 :: st) p g = (gb_call 83 [.ref x0, .int x1] p g).bind (fun w => gb_ex m r ls (psh w.1 st) w.2.1 w.2.2) :=
  gb_ex_cl (k := 83) (n := 2) (st' := .int x1 :: .ref x0 :: st) (by
    have h1 : 2 ≤ (.int x1 :: .ref x0 :: st : List Value).length := by simp
    have h2 : gb_rcv 83 [.ref x0, .int x1] p = true := by
      show (true && true && true && decide (atag p x0 = 19)) = true
      rw [h]
      rfl
    simp only [gb_stp]
    exact if_pos ⟨h1, hs, h2⟩)
theorem cl_GB_left {p : gb_Pi} {g : gb_Sg} {x0 : Nat} {x1 : Int32} : gb_call 83 [.ref x0, .int x1] p g = gb_ex 83 bk_GB_left_0 [.ref x0, .int x1] [] p g := rfl
theorem xc_GB_hope {m : Nat} {r : List Instr} {ls st : List Value} {p : gb_Pi} {g : gb_Sg} {x0 : Nat} {x1 : Int32} {x2 : Int32} {x3 : Int32} {x4 : Int32} (h : atag p x0 = 19) (hs : st.length ≤ 4) : gb_ex m (.invokeinterface 84 5 :: r) ls (.int x4 :: .int x3 :: .int x2 :: .int x1 :: .ref x0 :: st) p g = (gb_call 84 [.ref x0, .int x1, .int x2, .int x3, .int x4] p g).bind (fun w => gb_ex m r ls (psh w.1 st) w.2.1 w.2.2) :=
  gb_ex_cl (k := 84) (n := 5) (st' := .int x4 :: .int x3 :: .int x2 :: .int x1 :: .ref x0 :: st) (by
    have h1 : 5 ≤ (.int x4 :: .int x3 :: .int x2 :: .int x1 :: .ref x0 :: st : List Value).length := by simp
    have h2 : gb_rcv 84 [.ref x0, .int x1, .int x2, .int x3, .int x4] p = true := by
      show (true && true && true && decide (atag p x0 = 19)) = true
      rw [h]
      rfl
    simp only [gb_stp]
    exact if_pos ⟨h1, hs, h2⟩)
theorem cl_GB_hope {p : gb_Pi} {g : gb_Sg} {x0 : Nat} {x1 : Int32} {x2 : Int32} {x3 : Int32} {x4 : Int32} : gb_call 84 [.ref x0, .int x1, .int x2, .int x3, .int x4] p g = gb_ex 84 bk_GB_hope_0 [.ref x0, .int x1, .int x2, .int x3, .int x4] [] p g := rfl
theorem xc_GB_walk {m : Nat} {r : List Instr} {ls st : List Value} {p : gb_Pi} {g : gb_Sg} {x0 : Nat} {x1 : Int32} {x2 : Int32} {x3 : Int32} {x4 : Int32} (h : atag p x0 = 19) (hs : st.length ≤ 4) : gb_ex m (.invokeinterface 85 5 :: r) ls (.int x4 :: .int x3 :: .int x2 :: .int x1 :: .ref x0 :: st) p g = (gb_call 85 [.ref x0, .int x1, .int x2, .int x3, .int x4] p g).bind (fun w => gb_ex m r ls (psh w.1 st) w.2.1 w.2.2) :=
  gb_ex_cl (k := 85) (n := 5) (st' := .int x4 :: .int x3 :: .int x2 :: .int x1 :: .ref x0 :: st) (by
    have h1 : 5 ≤ (.int x4 :: .int x3 :: .int x2 :: .int x1 :: .ref x0 :: st : List Value).length := by simp
    have h2 : gb_rcv 85 [.ref x0, .int x1, .int x2, .int x3, .int x4] p = true := by
      show (true && true && true && decide (atag p x0 = 19)) = true
      rw [h]
      rfl
    simp only [gb_stp]
    exact if_pos ⟨h1, hs, h2⟩)
theorem cl_GB_walk {p : gb_Pi} {g : gb_Sg} {x0 : Nat} {x1 : Int32} {x2 : Int32} {x3 : Int32} {x4 : Int32} : gb_call 85 [.ref x0, .int x1, .int x2, .int x3, .int x4] p g = gb_ex 85 bk_GB_walk_0 [.ref x0, .int x1, .int x2, .int x3, .int x4, .null] [] p g := rfl
theorem xc_GB_walks {m : Nat} {r : List Instr} {ls st : List Value} {p : gb_Pi} {g : gb_Sg} {x0 : Nat} {x1 : Int32} {x2 : Int32} {x3 : Int32} {x4 : Int32} {x5 : Int32} (h : atag p x0 = 19) (hs : st.length ≤ 4) : gb_ex m (.invokeinterface 86 6 :: r) ls (.int x5 :: .int x4 :: .int x3 :: .int x2 :: .int x1 :: .ref x0 :: st) p g = (gb_call 86 [.ref x0, .int x1, .int x2, .int x3, .int x4, .int x5] p g).bind (fun w => gb_ex m r ls (psh w.1 st) w.2.1 w.2.2) :=
  gb_ex_cl (k := 86) (n := 6) (st' := .int x5 :: .int x4 :: .int x3 :: .int x2 :: .int x1 :: .ref x0 :: st) (by
    have h1 : 6 ≤ (.int x5 :: .int x4 :: .int x3 :: .int x2 :: .int x1 :: .ref x0 :: st : List Value).length := by simp
    have h2 : gb_rcv 86 [.ref x0, .int x1, .int x2, .int x3, .int x4, .int x5] p = true := by
      show (true && true && true && decide (atag p x0 = 19)) = true
      rw [h]
      rfl
    simp only [gb_stp]
    exact if_pos ⟨h1, hs, h2⟩)
theorem cl_GB_walks {p : gb_Pi} {g : gb_Sg} {x0 : Nat} {x1 : Int32} {x2 : Int32} {x3 : Int32} {x4 : Int32} {x5 : Int32} : gb_call 86 [.ref x0, .int x1, .int x2, .int x3, .int x4, .int x5] p g = gb_ex 86 bk_GB_walks_0 [.ref x0, .int x1, .int x2, .int x3, .int x4, .int x5] [] p g := rfl
theorem xc_GB_weighLosses {m : Nat} {r : List Instr} {ls st : List Value} {p : gb_Pi} {g : gb_Sg} {x0 : Nat} {x1 : Int32} (h : atag p x0 = 19) (hs : st.length ≤ 4) : gb_ex m (.invokeinterface 87 2 :: r) ls (.int x1 :: .ref x0 :: st) p g = (gb_call 87 [.ref x0, .int x1] p g).bind (fun w => gb_ex m r ls (psh w.1 st) w.2.1 w.2.2) :=
  gb_ex_cl (k := 87) (n := 2) (st' := .int x1 :: .ref x0 :: st) (by
    have h1 : 2 ≤ (.int x1 :: .ref x0 :: st : List Value).length := by simp
    have h2 : gb_rcv 87 [.ref x0, .int x1] p = true := by
      show (true && true && true && decide (atag p x0 = 19)) = true
      rw [h]
      rfl
    simp only [gb_stp]
    exact if_pos ⟨h1, hs, h2⟩)
theorem cl_GB_weighLosses {p : gb_Pi} {g : gb_Sg} {x0 : Nat} {x1 : Int32} : gb_call 87 [.ref x0, .int x1] p g = gb_ex 87 bk_GB_weighLosses_0 [.ref x0, .int x1, .null] [] p g := rfl
theorem xc_GB_number {m : Nat} {r : List Instr} {ls st : List Value} {p : gb_Pi} {g : gb_Sg} {x0 : Nat} {x1 : Int32} (h : atag p x0 = 19) (hs : st.length ≤ 4) : gb_ex m (.invokeinterface 88 2 :: r) ls (.int x1 :: .ref x0 :: st) p g = (gb_call 88 [.ref x0, .int x1] p g).bind (fun w => gb_ex m r ls (psh w.1 st) w.2.1 w.2.2) :=
  gb_ex_cl (k := 88) (n := 2) (st' := .int x1 :: .ref x0 :: st) (by
    have h1 : 2 ≤ (.int x1 :: .ref x0 :: st : List Value).length := by simp
    have h2 : gb_rcv 88 [.ref x0, .int x1] p = true := by
      show (true && true && true && decide (atag p x0 = 19)) = true
      rw [h]
      rfl
    simp only [gb_stp]
    exact if_pos ⟨h1, hs, h2⟩)
theorem cl_GB_number {p : gb_Pi} {g : gb_Sg} {x0 : Nat} {x1 : Int32} : gb_call 88 [.ref x0, .int x1] p g = gb_ex 88 bk_GB_number_0 [.ref x0, .int x1] [] p g := rfl
theorem xc_GB_fell {m : Nat} {r : List Instr} {ls st : List Value} {p : gb_Pi} {g : gb_Sg} {x0 : Nat} {x1 : Int32} (h : atag p x0 = 19) (hs : st.length ≤ 4) : gb_ex m (.invokeinterface 89 2 :: r) ls (.int x1 :: .ref x0 :: st) p g = (gb_call 89 [.ref x0, .int x1] p g).bind (fun w => gb_ex m r ls (psh w.1 st) w.2.1 w.2.2) :=
  gb_ex_cl (k := 89) (n := 2) (st' := .int x1 :: .ref x0 :: st) (by
    have h1 : 2 ≤ (.int x1 :: .ref x0 :: st : List Value).length := by simp
    have h2 : gb_rcv 89 [.ref x0, .int x1] p = true := by
      show (true && true && true && decide (atag p x0 = 19)) = true
      rw [h]
      rfl
    simp only [gb_stp]
    exact if_pos ⟨h1, hs, h2⟩)
theorem cl_GB_fell {p : gb_Pi} {g : gb_Sg} {x0 : Nat} {x1 : Int32} : gb_call 89 [.ref x0, .int x1] p g = gb_ex 89 bk_GB_fell_0 [.ref x0, .int x1, .null, .null, .null] [] p g := rfl
theorem xc_GB_most {m : Nat} {r : List Instr} {ls st : List Value} {p : gb_Pi} {g : gb_Sg} {x0 : Nat} {x1 : Int32} {x2 : Int32} (h : atag p x0 = 19) (hs : st.length ≤ 4) : gb_ex m (.invokeinterface 90 3 :: r) ls (.int x2 :: .int x1 :: .ref x0 :: st) p g = (gb_call 90 [.ref x0, .int x1, .int x2] p g).bind (fun w => gb_ex m r ls (psh w.1 st) w.2.1 w.2.2) :=
  gb_ex_cl (k := 90) (n := 3) (st' := .int x2 :: .int x1 :: .ref x0 :: st) (by
    have h1 : 3 ≤ (.int x2 :: .int x1 :: .ref x0 :: st : List Value).length := by simp
    have h2 : gb_rcv 90 [.ref x0, .int x1, .int x2] p = true := by
      show (true && true && true && decide (atag p x0 = 19)) = true
      rw [h]
      rfl
    simp only [gb_stp]
    exact if_pos ⟨h1, hs, h2⟩)
theorem cl_GB_most {p : gb_Pi} {g : gb_Sg} {x0 : Nat} {x1 : Int32} {x2 : Int32} : gb_call 90 [.ref x0, .int x1, .int x2] p g = gb_ex 90 bk_GB_most_0 [.ref x0, .int x1, .int x2] [] p g := rfl
theorem xc_GB_greatestLikely {m : Nat} {r : List Instr} {ls st : List Value} {p : gb_Pi} {g : gb_Sg} {x0 : Int32} {x1 : Int32} {x2 : Int64} (hs : st.length ≤ 4) : gb_ex m (.invokeinterface 91 3 :: r) ls (.long x2 :: .int x1 :: .int x0 :: st) p g = (gb_call 91 [.int x0, .int x1, .long x2] p g).bind (fun w => gb_ex m r ls (psh w.1 st) w.2.1 w.2.2) :=
  gb_ex_cl (k := 91) (n := 3) (st' := .long x2 :: .int x1 :: .int x0 :: st) (by
    have h1 : 3 ≤ (.long x2 :: .int x1 :: .int x0 :: st : List Value).length := by simp
    have h2 : gb_rcv 91 [.int x0, .int x1, .long x2] p = true := by rfl
    simp only [gb_stp]
    exact if_pos ⟨h1, hs, h2⟩)
theorem cl_GB_greatestLikely {p : gb_Pi} {g : gb_Sg} {x0 : Int32} {x1 : Int32} {x2 : Int64} : gb_call 91 [.int x0, .int x1, .long x2] p g = gb_ex 91 bk_GB_greatestLikely_0 [.int x0, .int x1, .long x2, .null, .null, .null, .null, .null] [] p g := rfl
theorem xc_GB_oddsOf {m : Nat} {r : List Instr} {ls st : List Value} {p : gb_Pi} {g : gb_Sg} {x0 : Int32} {x1 : Int32} {x2 : Int32} (hs : st.length ≤ 4) : gb_ex m (.invokeinterface 92 3 :: r) ls (.int x2 :: .int x1 :: .int x0 :: st) p g = (gb_call 92 [.int x0, .int x1, .int x2] p g).bind (fun w => gb_ex m r ls (psh w.1 st) w.2.1 w.2.2) :=
  gb_ex_cl (k := 92) (n := 3) (st' := .int x2 :: .int x1 :: .int x0 :: st) (by
    have h1 : 3 ≤ (.int x2 :: .int x1 :: .int x0 :: st : List Value).length := by simp
    have h2 : gb_rcv 92 [.int x0, .int x1, .int x2] p = true := by rfl
    simp only [gb_stp]
    exact if_pos ⟨h1, hs, h2⟩)
theorem cl_GB_oddsOf {p : gb_Pi} {g : gb_Sg} {x0 : Int32} {x1 : Int32} {x2 : Int32} : gb_call 92 [.int x0, .int x1, .int x2] p g = gb_ex 92 bk_GB_oddsOf_0 [.int x0, .int x1, .int x2, .null, .null, .null] [] p g := rfl
theorem xc_GB_shortened {m : Nat} {r : List Instr} {ls st : List Value} {p : gb_Pi} {g : gb_Sg} {x0 : Int32} {x1 : Int32} {x2 : Int32} (hs : st.length ≤ 4) : gb_ex m (.invokeinterface 93 3 :: r) ls (.int x2 :: .int x1 :: .int x0 :: st) p g = (gb_call 93 [.int x0, .int x1, .int x2] p g).bind (fun w => gb_ex m r ls (psh w.1 st) w.2.1 w.2.2) :=
  gb_ex_cl (k := 93) (n := 3) (st' := .int x2 :: .int x1 :: .int x0 :: st) (by
    have h1 : 3 ≤ (.int x2 :: .int x1 :: .int x0 :: st : List Value).length := by simp
    have h2 : gb_rcv 93 [.int x0, .int x1, .int x2] p = true := by rfl
    simp only [gb_stp]
    exact if_pos ⟨h1, hs, h2⟩)
theorem cl_GB_shortened {p : gb_Pi} {g : gb_Sg} {x0 : Int32} {x1 : Int32} {x2 : Int32} : gb_call 93 [.int x0, .int x1, .int x2] p g = gb_ex 93 bk_GB_shortened_0 [.int x0, .int x1, .int x2, .null] [] p g := rfl
theorem xc_GB_glass {m : Nat} {r : List Instr} {ls st : List Value} {p : gb_Pi} {g : gb_Sg} {x0 : Nat} {x1 : Int32} {x2 : Int32} {x3 : Int32} (h : atag p x0 = 19) (hs : st.length ≤ 4) : gb_ex m (.invokeinterface 94 4 :: r) ls (.int x3 :: .int x2 :: .int x1 :: .ref x0 :: st) p g = (gb_call 94 [.ref x0, .int x1, .int x2, .int x3] p g).bind (fun w => gb_ex m r ls (psh w.1 st) w.2.1 w.2.2) :=
  gb_ex_cl (k := 94) (n := 4) (st' := .int x3 :: .int x2 :: .int x1 :: .ref x0 :: st) (by
    have h1 : 4 ≤ (.int x3 :: .int x2 :: .int x1 :: .ref x0 :: st : List Value).length := by simp
    have h2 : gb_rcv 94 [.ref x0, .int x1, .int x2, .int x3] p = true := by
      show (true && true && true && decide (atag p x0 = 19)) = true
      rw [h]
      rfl
    simp only [gb_stp]
    exact if_pos ⟨h1, hs, h2⟩)
theorem cl_GB_glass {p : gb_Pi} {g : gb_Sg} {x0 : Nat} {x1 : Int32} {x2 : Int32} {x3 : Int32} : gb_call 94 [.ref x0, .int x1, .int x2, .int x3] p g = gb_ex 94 bk_GB_glass_0 [.ref x0, .int x1, .int x2, .int x3, .null, .null] [] p g := rfl
theorem xc_GB_life {m : Nat} {r : List Instr} {ls st : List Value} {p : gb_Pi} {g : gb_Sg} {x0 : Nat} {x1 : Int32} {x2 : Int32} (h : atag p x0 = 19) (hs : st.length ≤ 4) : gb_ex m (.invokeinterface 95 3 :: r) ls (.int x2 :: .int x1 :: .ref x0 :: st) p g = (gb_call 95 [.ref x0, .int x1, .int x2] p g).bind (fun w => gb_ex m r ls (psh w.1 st) w.2.1 w.2.2) :=
  gb_ex_cl (k := 95) (n := 3) (st' := .int x2 :: .int x1 :: .ref x0 :: st) (by
    have h1 : 3 ≤ (.int x2 :: .int x1 :: .ref x0 :: st : List Value).length := by simp
    have h2 : gb_rcv 95 [.ref x0, .int x1, .int x2] p = true := by
      show (true && true && true && decide (atag p x0 = 19)) = true
      rw [h]
      rfl
    simp only [gb_stp]
    exact if_pos ⟨h1, hs, h2⟩)
theorem cl_GB_life {p : gb_Pi} {g : gb_Sg} {x0 : Nat} {x1 : Int32} {x2 : Int32} : gb_call 95 [.ref x0, .int x1, .int x2] p g = gb_ex 95 bk_GB_life_0 [.ref x0, .int x1, .int x2, .null, .null] [] p g := rfl
theorem xc_GB_isGlass {m : Nat} {r : List Instr} {ls st : List Value} {p : gb_Pi} {g : gb_Sg} {x0 : Int32} {x1 : Int32} (hs : st.length ≤ 4) : gb_ex m (.invokeinterface 96 2 :: r) ls (.int x1 :: .int x0 :: st) p g = (gb_call 96 [.int x0, .int x1] p g).bind (fun w => gb_ex m r ls (psh w.1 st) w.2.1 w.2.2) :=
  gb_ex_cl (k := 96) (n := 2) (st' := .int x1 :: .int x0 :: st) (by
    have h1 : 2 ≤ (.int x1 :: .int x0 :: st : List Value).length := by simp
    have h2 : gb_rcv 96 [.int x0, .int x1] p = true := by rfl
    simp only [gb_stp]
    exact if_pos ⟨h1, hs, h2⟩)
theorem cl_GB_isGlass {p : gb_Pi} {g : gb_Sg} {x0 : Int32} {x1 : Int32} : gb_call 96 [.int x0, .int x1] p g = gb_ex 96 bk_GB_isGlass_0 [.int x0, .int x1] [] p g := rfl
theorem xc_GB_wornByAYear {m : Nat} {r : List Instr} {ls st : List Value} {p : gb_Pi} {g : gb_Sg} {x0 : Int32} {x1 : Int32} (hs : st.length ≤ 4) : gb_ex m (.invokeinterface 97 2 :: r) ls (.int x1 :: .int x0 :: st) p g = (gb_call 97 [.int x0, .int x1] p g).bind (fun w => gb_ex m r ls (psh w.1 st) w.2.1 w.2.2) :=
  gb_ex_cl (k := 97) (n := 2) (st' := .int x1 :: .int x0 :: st) (by
    have h1 : 2 ≤ (.int x1 :: .int x0 :: st : List Value).length := by simp
    have h2 : gb_rcv 97 [.int x0, .int x1] p = true := by rfl
    simp only [gb_stp]
    exact if_pos ⟨h1, hs, h2⟩)
theorem cl_GB_wornByAYear {p : gb_Pi} {g : gb_Sg} {x0 : Int32} {x1 : Int32} : gb_call 97 [.int x0, .int x1] p g = gb_ex 97 bk_GB_wornByAYear_0 [.int x0, .int x1] [] p g := rfl
theorem xc_GB_whose {m : Nat} {r : List Instr} {ls st : List Value} {p : gb_Pi} {g : gb_Sg} {x0 : Nat} {x1 : Int32} {x2 : Int32} {x3 : Int32} {x4 : Int32} (h : atag p x0 = 19) (hs : st.length ≤ 4) : gb_ex m (.invokeinterface 98 5 :: r) ls (.int x4 :: .int x3 :: .int x2 :: .int x1 :: .ref x0 :: st) p g = (gb_call 98 [.ref x0, .int x1, .int x2, .int x3, .int x4] p g).bind (fun w => gb_ex m r ls (psh w.1 st) w.2.1 w.2.2) :=
  gb_ex_cl (k := 98) (n := 5) (st' := .int x4 :: .int x3 :: .int x2 :: .int x1 :: .ref x0 :: st) (by
    have h1 : 5 ≤ (.int x4 :: .int x3 :: .int x2 :: .int x1 :: .ref x0 :: st : List Value).length := by simp
    have h2 : gb_rcv 98 [.ref x0, .int x1, .int x2, .int x3, .int x4] p = true := by
      show (true && true && true && decide (atag p x0 = 19)) = true
      rw [h]
      rfl
    simp only [gb_stp]
    exact if_pos ⟨h1, hs, h2⟩)
theorem cl_GB_whose {p : gb_Pi} {g : gb_Sg} {x0 : Nat} {x1 : Int32} {x2 : Int32} {x3 : Int32} {x4 : Int32} : gb_call 98 [.ref x0, .int x1, .int x2, .int x3, .int x4] p g = gb_ex 98 bk_GB_whose_0 [.ref x0, .int x1, .int x2, .int x3, .int x4, .null, .null] [] p g := rfl
theorem xc_GB_two {m : Nat} {r : List Instr} {ls st : List Value} {p : gb_Pi} {g : gb_Sg} {x0 : Nat} {x1 : Int32} {x2 : Int32} {x3 : Int32} {x4 : Int32} {x5 : Int32} (h : atag p x0 = 19) (hs : st.length ≤ 4) : gb_ex m (.invokeinterface 99 6 :: r) ls (.int x5 :: .int x4 :: .int x3 :: .int x2 :: .int x1 :: .ref x0 :: st) p g = (gb_call 99 [.ref x0, .int x1, .int x2, .int x3, .int x4, .int x5] p g).bind (fun w => gb_ex m r ls (psh w.1 st) w.2.1 w.2.2) :=
  gb_ex_cl (k := 99) (n := 6) (st' := .int x5 :: .int x4 :: .int x3 :: .int x2 :: .int x1 :: .ref x0 :: st) (by
    have h1 : 6 ≤ (.int x5 :: .int x4 :: .int x3 :: .int x2 :: .int x1 :: .ref x0 :: st : List Value).length := by simp
    have h2 : gb_rcv 99 [.ref x0, .int x1, .int x2, .int x3, .int x4, .int x5] p = true := by
      show (true && true && true && decide (atag p x0 = 19)) = true
      rw [h]
      rfl
    simp only [gb_stp]
    exact if_pos ⟨h1, hs, h2⟩)
theorem cl_GB_two {p : gb_Pi} {g : gb_Sg} {x0 : Nat} {x1 : Int32} {x2 : Int32} {x3 : Int32} {x4 : Int32} {x5 : Int32} : gb_call 99 [.ref x0, .int x1, .int x2, .int x3, .int x4, .int x5] p g = gb_ex 99 bk_GB_two_0 [.ref x0, .int x1, .int x2, .int x3, .int x4, .int x5, .null, .null, .null, .null] [] p g := rfl
theorem xc_GB_show {m : Nat} {r : List Instr} {ls st : List Value} {p : gb_Pi} {g : gb_Sg} {x0 : Nat} {x1 : Int32} {x2 : Int32} {x3 : Int32} (h : atag p x0 = 19) (hs : st.length ≤ 4) : gb_ex m (.invokeinterface 100 4 :: r) ls (.int x3 :: .int x2 :: .int x1 :: .ref x0 :: st) p g = (gb_call 100 [.ref x0, .int x1, .int x2, .int x3] p g).bind (fun w => gb_ex m r ls (psh w.1 st) w.2.1 w.2.2) :=
  gb_ex_cl (k := 100) (n := 4) (st' := .int x3 :: .int x2 :: .int x1 :: .ref x0 :: st) (by
    have h1 : 4 ≤ (.int x3 :: .int x2 :: .int x1 :: .ref x0 :: st : List Value).length := by simp
    have h2 : gb_rcv 100 [.ref x0, .int x1, .int x2, .int x3] p = true := by
      show (true && true && true && decide (atag p x0 = 19)) = true
      rw [h]
      rfl
    simp only [gb_stp]
    exact if_pos ⟨h1, hs, h2⟩)
theorem cl_GB_show {p : gb_Pi} {g : gb_Sg} {x0 : Nat} {x1 : Int32} {x2 : Int32} {x3 : Int32} : gb_call 100 [.ref x0, .int x1, .int x2, .int x3] p g = gb_ex 100 bk_GB_show_0 [.ref x0, .int x1, .int x2, .int x3] [] p g := rfl
theorem xc_GB_cost {m : Nat} {r : List Instr} {ls st : List Value} {p : gb_Pi} {g : gb_Sg} {x0 : Nat} {x1 : Int32} {x2 : Int32} (h : atag p x0 = 19) (hs : st.length ≤ 4) : gb_ex m (.invokeinterface 101 3 :: r) ls (.int x2 :: .int x1 :: .ref x0 :: st) p g = (gb_call 101 [.ref x0, .int x1, .int x2] p g).bind (fun w => gb_ex m r ls (psh w.1 st) w.2.1 w.2.2) :=
  gb_ex_cl (k := 101) (n := 3) (st' := .int x2 :: .int x1 :: .ref x0 :: st) (by
    have h1 : 3 ≤ (.int x2 :: .int x1 :: .ref x0 :: st : List Value).length := by simp
    have h2 : gb_rcv 101 [.ref x0, .int x1, .int x2] p = true := by
      show (true && true && true && decide (atag p x0 = 19)) = true
      rw [h]
      rfl
    simp only [gb_stp]
    exact if_pos ⟨h1, hs, h2⟩)
theorem cl_GB_cost {p : gb_Pi} {g : gb_Sg} {x0 : Nat} {x1 : Int32} {x2 : Int32} : gb_call 101 [.ref x0, .int x1, .int x2] p g = gb_ex 101 bk_GB_cost_0 [.ref x0, .int x1, .int x2, .null] [] p g := rfl
theorem xc_GB_parting {m : Nat} {r : List Instr} {ls st : List Value} {p : gb_Pi} {g : gb_Sg} {x0 : Nat} {x1 : Int32} {x2 : Int32} (h : atag p x0 = 19) (hs : st.length ≤ 4) : gb_ex m (.invokeinterface 102 3 :: r) ls (.int x2 :: .int x1 :: .ref x0 :: st) p g = (gb_call 102 [.ref x0, .int x1, .int x2] p g).bind (fun w => gb_ex m r ls (psh w.1 st) w.2.1 w.2.2) :=
  gb_ex_cl (k := 102) (n := 3) (st' := .int x2 :: .int x1 :: .ref x0 :: st) (by
    have h1 : 3 ≤ (.int x2 :: .int x1 :: .ref x0 :: st : List Value).length := by simp
    have h2 : gb_rcv 102 [.ref x0, .int x1, .int x2] p = true := by
      show (true && true && true && decide (atag p x0 = 19)) = true
      rw [h]
      rfl
    simp only [gb_stp]
    exact if_pos ⟨h1, hs, h2⟩)
theorem cl_GB_parting {p : gb_Pi} {g : gb_Sg} {x0 : Nat} {x1 : Int32} {x2 : Int32} : gb_call 102 [.ref x0, .int x1, .int x2] p g = gb_ex 102 bk_GB_parting_0 [.ref x0, .int x1, .int x2] [] p g := rfl
theorem xc_GB_shown {m : Nat} {r : List Instr} {ls st : List Value} {p : gb_Pi} {g : gb_Sg} {x0 : Nat} {x1 : Int32} {x2 : Int32} {x3 : Int32} (h : atag p x0 = 19) (hs : st.length ≤ 4) : gb_ex m (.invokeinterface 103 4 :: r) ls (.int x3 :: .int x2 :: .int x1 :: .ref x0 :: st) p g = (gb_call 103 [.ref x0, .int x1, .int x2, .int x3] p g).bind (fun w => gb_ex m r ls (psh w.1 st) w.2.1 w.2.2) :=
  gb_ex_cl (k := 103) (n := 4) (st' := .int x3 :: .int x2 :: .int x1 :: .ref x0 :: st) (by
    have h1 : 4 ≤ (.int x3 :: .int x2 :: .int x1 :: .ref x0 :: st : List Value).length := by simp
    have h2 : gb_rcv 103 [.ref x0, .int x1, .int x2, .int x3] p = true := by
      show (true && true && true && decide (atag p x0 = 19)) = true
      rw [h]
      rfl
    simp only [gb_stp]
    exact if_pos ⟨h1, hs, h2⟩)
theorem cl_GB_shown {p : gb_Pi} {g : gb_Sg} {x0 : Nat} {x1 : Int32} {x2 : Int32} {x3 : Int32} : gb_call 103 [.ref x0, .int x1, .int x2, .int x3] p g = gb_ex 103 bk_GB_shown_0 [.ref x0, .int x1, .int x2, .int x3] [] p g := rfl
theorem xc_GB_keep {m : Nat} {r : List Instr} {ls st : List Value} {p : gb_Pi} {g : gb_Sg} {x0 : Nat} (h : atag p x0 = 19) (hs : st.length ≤ 4) : gb_ex m (.invokeinterface 104 1 :: r) ls (.ref x0 :: st) p g = (gb_call 104 [.ref x0] p g).bind (fun w => gb_ex m r ls (psh w.1 st) w.2.1 w.2.2) :=
  gb_ex_cl (k := 104) (n := 1) (st' := .ref x0 :: st) (by
    have h1 : 1 ≤ (.ref x0 :: st : List Value).length := by simp
    have h2 : gb_rcv 104 [.ref x0] p = true := by
      show (true && true && true && decide (atag p x0 = 19)) = true
      rw [h]
      rfl
    simp only [gb_stp]
    exact if_pos ⟨h1, hs, h2⟩)
theorem cl_GB_keep {p : gb_Pi} {g : gb_Sg} {x0 : Nat} : gb_call 104 [.ref x0] p g = gb_ex 104 bk_GB_keep_0 [.ref x0] [] p g := rfl
theorem xc_GB_back {m : Nat} {r : List Instr} {ls st : List Value} {p : gb_Pi} {g : gb_Sg} {x0 : Nat} (h : atag p x0 = 19) (hs : st.length ≤ 4) : gb_ex m (.invokeinterface 105 1 :: r) ls (.ref x0 :: st) p g = (gb_call 105 [.ref x0] p g).bind (fun w => gb_ex m r ls (psh w.1 st) w.2.1 w.2.2) :=
  gb_ex_cl (k := 105) (n := 1) (st' := .ref x0 :: st) (by
    have h1 : 1 ≤ (.ref x0 :: st : List Value).length := by simp
    have h2 : gb_rcv 105 [.ref x0] p = true := by
      show (true && true && true && decide (atag p x0 = 19)) = true
      rw [h]
      rfl
    simp only [gb_stp]
    exact if_pos ⟨h1, hs, h2⟩)
theorem cl_GB_back {p : gb_Pi} {g : gb_Sg} {x0 : Nat} : gb_call 105 [.ref x0] p g = gb_ex 105 bk_GB_back_0 [.ref x0] [] p g := rfl
theorem xc_GB_count {m : Nat} {r : List Instr} {ls st : List Value} {p : gb_Pi} {g : gb_Sg} {x0 : Nat} {x1 : Int32} (h : atag p x0 = 19) (hs : st.length ≤ 4) : gb_ex m (.invokeinterface 106 2 :: r) ls (.int x1 :: .ref x0 :: st) p g = (gb_call 106 [.ref x0, .int x1] p g).bind (fun w => gb_ex m r ls (psh w.1 st) w.2.1 w.2.2) :=
  gb_ex_cl (k := 106) (n := 2) (st' := .int x1 :: .ref x0 :: st) (by
    have h1 : 2 ≤ (.int x1 :: .ref x0 :: st : List Value).length := by simp
    have h2 : gb_rcv 106 [.ref x0, .int x1] p = true := by
      show (true && true && true && decide (atag p x0 = 19)) = true
      rw [h]
      rfl
    simp only [gb_stp]
    exact if_pos ⟨h1, hs, h2⟩)
theorem cl_GB_count {p : gb_Pi} {g : gb_Sg} {x0 : Nat} {x1 : Int32} : gb_call 106 [.ref x0, .int x1] p g = gb_ex 106 bk_GB_count_0 [.ref x0, .int x1] [] p g := rfl
theorem xc_GB_within {m : Nat} {r : List Instr} {ls st : List Value} {p : gb_Pi} {g : gb_Sg} {x0 : Int32} {x1 : Int32} {x2 : Int32} (hs : st.length ≤ 4) : gb_ex m (.invokeinterface 107 3 :: r) ls (.int x2 :: .int x1 :: .int x0 :: st) p g = (gb_call 107 [.int x0, .int x1, .int x2] p g).bind (fun w => gb_ex m r ls (psh w.1 st) w.2.1 w.2.2) :=
  gb_ex_cl (k := 107) (n := 3) (st' := .int x2 :: .int x1 :: .int x0 :: st) (by
    have h1 : 3 ≤ (.int x2 :: .int x1 :: .int x0 :: st : List Value).length := by simp
    have h2 : gb_rcv 107 [.int x0, .int x1, .int x2] p = true := by rfl
    simp only [gb_stp]
    exact if_pos ⟨h1, hs, h2⟩)
theorem cl_GB_within {p : gb_Pi} {g : gb_Sg} {x0 : Int32} {x1 : Int32} {x2 : Int32} : gb_call 107 [.int x0, .int x1, .int x2] p g = gb_ex 107 bk_GB_within_0 [.int x0, .int x1, .int x2] [] p g := rfl
theorem xc_GB_isHour {m : Nat} {r : List Instr} {ls st : List Value} {p : gb_Pi} {g : gb_Sg} {x0 : Int32} (hs : st.length ≤ 4) : gb_ex m (.invokeinterface 108 1 :: r) ls (.int x0 :: st) p g = (gb_call 108 [.int x0] p g).bind (fun w => gb_ex m r ls (psh w.1 st) w.2.1 w.2.2) :=
  gb_ex_cl (k := 108) (n := 1) (st' := .int x0 :: st) (by
    have h1 : 1 ≤ (.int x0 :: st : List Value).length := by simp
    have h2 : gb_rcv 108 [.int x0] p = true := by rfl
    simp only [gb_stp]
    exact if_pos ⟨h1, hs, h2⟩)
theorem cl_GB_isHour {p : gb_Pi} {g : gb_Sg} {x0 : Int32} : gb_call 108 [.int x0] p g = gb_ex 108 bk_GB_isHour_0 [.int x0] [] p g := rfl
theorem xc_GB_isEyes {m : Nat} {r : List Instr} {ls st : List Value} {p : gb_Pi} {g : gb_Sg} {x0 : Int32} (hs : st.length ≤ 4) : gb_ex m (.invokeinterface 109 1 :: r) ls (.int x0 :: st) p g = (gb_call 109 [.int x0] p g).bind (fun w => gb_ex m r ls (psh w.1 st) w.2.1 w.2.2) :=
  gb_ex_cl (k := 109) (n := 1) (st' := .int x0 :: st) (by
    have h1 : 1 ≤ (.int x0 :: st : List Value).length := by simp
    have h2 : gb_rcv 109 [.int x0] p = true := by rfl
    simp only [gb_stp]
    exact if_pos ⟨h1, hs, h2⟩)
theorem cl_GB_isEyes {p : gb_Pi} {g : gb_Sg} {x0 : Int32} : gb_call 109 [.int x0] p g = gb_ex 109 bk_GB_isEyes_0 [.int x0] [] p g := rfl
theorem xc_GB_isTest {m : Nat} {r : List Instr} {ls st : List Value} {p : gb_Pi} {g : gb_Sg} {x0 : Int32} (hs : st.length ≤ 4) : gb_ex m (.invokeinterface 110 1 :: r) ls (.int x0 :: st) p g = (gb_call 110 [.int x0] p g).bind (fun w => gb_ex m r ls (psh w.1 st) w.2.1 w.2.2) :=
  gb_ex_cl (k := 110) (n := 1) (st' := .int x0 :: st) (by
    have h1 : 1 ≤ (.int x0 :: st : List Value).length := by simp
    have h2 : gb_rcv 110 [.int x0] p = true := by rfl
    simp only [gb_stp]
    exact if_pos ⟨h1, hs, h2⟩)
theorem cl_GB_isTest {p : gb_Pi} {g : gb_Sg} {x0 : Int32} : gb_call 110 [.int x0] p g = gb_ex 110 bk_GB_isTest_0 [.int x0] [] p g := rfl
theorem xc_GB_isShown {m : Nat} {r : List Instr} {ls st : List Value} {p : gb_Pi} {g : gb_Sg} {x0 : Int32} (hs : st.length ≤ 4) : gb_ex m (.invokeinterface 111 1 :: r) ls (.int x0 :: st) p g = (gb_call 111 [.int x0] p g).bind (fun w => gb_ex m r ls (psh w.1 st) w.2.1 w.2.2) :=
  gb_ex_cl (k := 111) (n := 1) (st' := .int x0 :: st) (by
    have h1 : 1 ≤ (.int x0 :: st : List Value).length := by simp
    have h2 : gb_rcv 111 [.int x0] p = true := by rfl
    simp only [gb_stp]
    exact if_pos ⟨h1, hs, h2⟩)
theorem cl_GB_isShown {p : gb_Pi} {g : gb_Sg} {x0 : Int32} : gb_call 111 [.int x0] p g = gb_ex 111 bk_GB_isShown_0 [.int x0] [] p g := rfl
theorem xc_GB_isSet {m : Nat} {r : List Instr} {ls st : List Value} {p : gb_Pi} {g : gb_Sg} {x0 : Int32} (hs : st.length ≤ 4) : gb_ex m (.invokeinterface 112 1 :: r) ls (.int x0 :: st) p g = (gb_call 112 [.int x0] p g).bind (fun w => gb_ex m r ls (psh w.1 st) w.2.1 w.2.2) :=
  gb_ex_cl (k := 112) (n := 1) (st' := .int x0 :: st) (by
    have h1 : 1 ≤ (.int x0 :: st : List Value).length := by simp
    have h2 : gb_rcv 112 [.int x0] p = true := by rfl
    simp only [gb_stp]
    exact if_pos ⟨h1, hs, h2⟩)
theorem cl_GB_isSet {p : gb_Pi} {g : gb_Sg} {x0 : Int32} : gb_call 112 [.int x0] p g = gb_ex 112 bk_GB_isSet_0 [.int x0] [] p g := rfl
theorem xc_GB_isCell {m : Nat} {r : List Instr} {ls st : List Value} {p : gb_Pi} {g : gb_Sg} {x0 : Nat} {x1 : Int32} (h : atag p x0 = 19) (hs : st.length ≤ 4) : gb_ex m (.invokeinterface 113 2 :: r) ls (.int x1 :: .ref x0 :: st) p g = (gb_call 113 [.ref x0, .int x1] p g).bind (fun w => gb_ex m r ls (psh w.1 st) w.2.1 w.2.2) :=
  gb_ex_cl (k := 113) (n := 2) (st' := .int x1 :: .ref x0 :: st) (by
    have h1 : 2 ≤ (.int x1 :: .ref x0 :: st : List Value).length := by simp
    have h2 : gb_rcv 113 [.ref x0, .int x1] p = true := by
      show (true && true && true && decide (atag p x0 = 19)) = true
      rw [h]
      rfl
    simp only [gb_stp]
    exact if_pos ⟨h1, hs, h2⟩)
theorem cl_GB_isCell {p : gb_Pi} {g : gb_Sg} {x0 : Nat} {x1 : Int32} : gb_call 113 [.ref x0, .int x1] p g = gb_ex 113 bk_GB_isCell_0 [.ref x0, .int x1] [] p g := rfl
theorem xc_GB_isKind {m : Nat} {r : List Instr} {ls st : List Value} {p : gb_Pi} {g : gb_Sg} {x0 : Nat} {x1 : Int32} (h : atag p x0 = 19) (hs : st.length ≤ 4) : gb_ex m (.invokeinterface 114 2 :: r) ls (.int x1 :: .ref x0 :: st) p g = (gb_call 114 [.ref x0, .int x1] p g).bind (fun w => gb_ex m r ls (psh w.1 st) w.2.1 w.2.2) :=
  gb_ex_cl (k := 114) (n := 2) (st' := .int x1 :: .ref x0 :: st) (by
    have h1 : 2 ≤ (.int x1 :: .ref x0 :: st : List Value).length := by simp
    have h2 : gb_rcv 114 [.ref x0, .int x1] p = true := by
      show (true && true && true && decide (atag p x0 = 19)) = true
      rw [h]
      rfl
    simp only [gb_stp]
    exact if_pos ⟨h1, hs, h2⟩)
theorem cl_GB_isKind {p : gb_Pi} {g : gb_Sg} {x0 : Nat} {x1 : Int32} : gb_call 114 [.ref x0, .int x1] p g = gb_ex 114 bk_GB_isKind_0 [.ref x0, .int x1] [] p g := rfl
theorem xc_GB_isLoss {m : Nat} {r : List Instr} {ls st : List Value} {p : gb_Pi} {g : gb_Sg} {x0 : Nat} {x1 : Int32} (h : atag p x0 = 19) (hs : st.length ≤ 4) : gb_ex m (.invokeinterface 115 2 :: r) ls (.int x1 :: .ref x0 :: st) p g = (gb_call 115 [.ref x0, .int x1] p g).bind (fun w => gb_ex m r ls (psh w.1 st) w.2.1 w.2.2) :=
  gb_ex_cl (k := 115) (n := 2) (st' := .int x1 :: .ref x0 :: st) (by
    have h1 : 2 ≤ (.int x1 :: .ref x0 :: st : List Value).length := by simp
    have h2 : gb_rcv 115 [.ref x0, .int x1] p = true := by
      show (true && true && true && decide (atag p x0 = 19)) = true
      rw [h]
      rfl
    simp only [gb_stp]
    exact if_pos ⟨h1, hs, h2⟩)
theorem cl_GB_isLoss {p : gb_Pi} {g : gb_Sg} {x0 : Nat} {x1 : Int32} : gb_call 115 [.ref x0, .int x1] p g = gb_ex 115 bk_GB_isLoss_0 [.ref x0, .int x1] [] p g := rfl
theorem xc_RM_init {m : Nat} {r : List Instr} {ls st : List Value} {p : gb_Pi} {g : gb_Sg} {x0 : Nat} (h : atag p x0 = 20) (hs : st.length ≤ 4) : gb_ex m (.invokeinterface 116 1 :: r) ls (.ref x0 :: st) p g = (gb_call 116 [.ref x0] p g).bind (fun w => gb_ex m r ls (psh w.1 st) w.2.1 w.2.2) :=
  gb_ex_cl (k := 116) (n := 1) (st' := .ref x0 :: st) (by
    have h1 : 1 ≤ (.ref x0 :: st : List Value).length := by simp
    have h2 : gb_rcv 116 [.ref x0] p = true := by
      show (true && true && true && decide (atag p x0 = 20)) = true
      rw [h]
      rfl
    simp only [gb_stp]
    exact if_pos ⟨h1, hs, h2⟩)
theorem cl_RM_init {p : gb_Pi} {g : gb_Sg} {x0 : Nat} : gb_call 116 [.ref x0] p g = gb_ex 116 bk_RM_init_0 [.ref x0] [] p g := rfl
theorem xc_RM_in {m : Nat} {r : List Instr} {ls st : List Value} {p : gb_Pi} {g : gb_Sg} {x0 : Int64} {x1 : Int64} {x2 : Int64} (hs : st.length ≤ 4) : gb_ex m (.invokeinterface 117 3 :: r) ls (.long x2 :: .long x1 :: .long x0 :: st) p g = (gb_call 117 [.long x0, .long x1, .long x2] p g).bind (fun w => gb_ex m r ls (psh w.1 st) w.2.1 w.2.2) :=
  gb_ex_cl (k := 117) (n := 3) (st' := .long x2 :: .long x1 :: .long x0 :: st) (by
    have h1 : 3 ≤ (.long x2 :: .long x1 :: .long x0 :: st : List Value).length := by simp
    have h2 : gb_rcv 117 [.long x0, .long x1, .long x2] p = true := by rfl
    simp only [gb_stp]
    exact if_pos ⟨h1, hs, h2⟩)
theorem cl_RM_in {p : gb_Pi} {g : gb_Sg} {x0 : Int64} {x1 : Int64} {x2 : Int64} : gb_call 117 [.long x0, .long x1, .long x2] p g = gb_ex 117 bk_RM_in_0 [.long x0, .null, .long x1, .null, .long x2, .null] [] p g := rfl
theorem xc_RM_write {m : Nat} {r : List Instr} {ls st : List Value} {p : gb_Pi} {g : gb_Sg} {x0 : Nat} {x1 : Int32} {x2 : Int64} (h : atag p x0 = 20) (hs : st.length ≤ 4) : gb_ex m (.invokeinterface 118 3 :: r) ls (.long x2 :: .int x1 :: .ref x0 :: st) p g = (gb_call 118 [.ref x0, .int x1, .long x2] p g).bind (fun w => gb_ex m r ls (psh w.1 st) w.2.1 w.2.2) :=
  gb_ex_cl (k := 118) (n := 3) (st' := .long x2 :: .int x1 :: .ref x0 :: st) (by
    have h1 : 3 ≤ (.long x2 :: .int x1 :: .ref x0 :: st : List Value).length := by simp
    have h2 : gb_rcv 118 [.ref x0, .int x1, .long x2] p = true := by
      show (true && true && true && decide (atag p x0 = 20)) = true
      rw [h]
      rfl
    simp only [gb_stp]
    exact if_pos ⟨h1, hs, h2⟩)
theorem cl_RM_write {p : gb_Pi} {g : gb_Sg} {x0 : Nat} {x1 : Int32} {x2 : Int64} : gb_call 118 [.ref x0, .int x1, .long x2] p g = gb_ex 118 bk_RM_write_0 [.ref x0, .int x1, .long x2, .null, .null] [] p g := rfl
theorem xc_RM_wipe {m : Nat} {r : List Instr} {ls st : List Value} {p : gb_Pi} {g : gb_Sg} {x0 : Nat} (h : atag p x0 = 20) (hs : st.length ≤ 4) : gb_ex m (.invokeinterface 119 1 :: r) ls (.ref x0 :: st) p g = (gb_call 119 [.ref x0] p g).bind (fun w => gb_ex m r ls (psh w.1 st) w.2.1 w.2.2) :=
  gb_ex_cl (k := 119) (n := 1) (st' := .ref x0 :: st) (by
    have h1 : 1 ≤ (.ref x0 :: st : List Value).length := by simp
    have h2 : gb_rcv 119 [.ref x0] p = true := by
      show (true && true && true && decide (atag p x0 = 20)) = true
      rw [h]
      rfl
    simp only [gb_stp]
    exact if_pos ⟨h1, hs, h2⟩)
theorem cl_RM_wipe {p : gb_Pi} {g : gb_Sg} {x0 : Nat} : gb_call 119 [.ref x0] p g = gb_ex 119 bk_RM_wipe_0 [.ref x0, .null] [] p g := rfl
theorem xc_RM_next {m : Nat} {r : List Instr} {ls st : List Value} {p : gb_Pi} {g : gb_Sg} {x0 : Nat} (h : atag p x0 = 20) (hs : st.length ≤ 4) : gb_ex m (.invokeinterface 120 1 :: r) ls (.ref x0 :: st) p g = (gb_call 120 [.ref x0] p g).bind (fun w => gb_ex m r ls (psh w.1 st) w.2.1 w.2.2) :=
  gb_ex_cl (k := 120) (n := 1) (st' := .ref x0 :: st) (by
    have h1 : 1 ≤ (.ref x0 :: st : List Value).length := by simp
    have h2 : gb_rcv 120 [.ref x0] p = true := by
      show (true && true && true && decide (atag p x0 = 20)) = true
      rw [h]
      rfl
    simp only [gb_stp]
    exact if_pos ⟨h1, hs, h2⟩)
theorem cl_RM_next {p : gb_Pi} {g : gb_Sg} {x0 : Nat} : gb_call 120 [.ref x0] p g = gb_ex 120 bk_RM_next_0 [.ref x0] [] p g := rfl
theorem xc_RM_value {m : Nat} {r : List Instr} {ls st : List Value} {p : gb_Pi} {g : gb_Sg} {x0 : Nat} {x1 : Int32} {x2 : Int32} (h : atag p x0 = 20) (hs : st.length ≤ 4) : gb_ex m (.invokeinterface 121 3 :: r) ls (.int x2 :: .int x1 :: .ref x0 :: st) p g = (gb_call 121 [.ref x0, .int x1, .int x2] p g).bind (fun w => gb_ex m r ls (psh w.1 st) w.2.1 w.2.2) :=
  gb_ex_cl (k := 121) (n := 3) (st' := .int x2 :: .int x1 :: .ref x0 :: st) (by
    have h1 : 3 ≤ (.int x2 :: .int x1 :: .ref x0 :: st : List Value).length := by simp
    have h2 : gb_rcv 121 [.ref x0, .int x1, .int x2] p = true := by
      show (true && true && true && decide (atag p x0 = 20)) = true
      rw [h]
      rfl
    simp only [gb_stp]
    exact if_pos ⟨h1, hs, h2⟩)
theorem cl_RM_value {p : gb_Pi} {g : gb_Sg} {x0 : Nat} {x1 : Int32} {x2 : Int32} : gb_call 121 [.ref x0, .int x1, .int x2] p g = gb_ex 121 bk_RM_value_0 [.ref x0, .int x1, .int x2, .null, .null, .null] [] p g := rfl
theorem xc_RM_more {m : Nat} {r : List Instr} {ls st : List Value} {p : gb_Pi} {g : gb_Sg} {x0 : Nat} {x1 : Int32} {x2 : Int32} (h : atag p x0 = 20) (hs : st.length ≤ 4) : gb_ex m (.invokeinterface 122 3 :: r) ls (.int x2 :: .int x1 :: .ref x0 :: st) p g = (gb_call 122 [.ref x0, .int x1, .int x2] p g).bind (fun w => gb_ex m r ls (psh w.1 st) w.2.1 w.2.2) :=
  gb_ex_cl (k := 122) (n := 3) (st' := .int x2 :: .int x1 :: .ref x0 :: st) (by
    have h1 : 3 ≤ (.int x2 :: .int x1 :: .ref x0 :: st : List Value).length := by simp
    have h2 : gb_rcv 122 [.ref x0, .int x1, .int x2] p = true := by
      show (true && true && true && decide (atag p x0 = 20)) = true
      rw [h]
      rfl
    simp only [gb_stp]
    exact if_pos ⟨h1, hs, h2⟩)
theorem cl_RM_more {p : gb_Pi} {g : gb_Sg} {x0 : Nat} {x1 : Int32} {x2 : Int32} : gb_call 122 [.ref x0, .int x1, .int x2] p g = gb_ex 122 bk_RM_more_0 [.ref x0, .int x1, .int x2] [] p g := rfl
theorem xc_RM_ends {m : Nat} {r : List Instr} {ls st : List Value} {p : gb_Pi} {g : gb_Sg} {x0 : Nat} (h : atag p x0 = 20) (hs : st.length ≤ 4) : gb_ex m (.invokeinterface 123 1 :: r) ls (.ref x0 :: st) p g = (gb_call 123 [.ref x0] p g).bind (fun w => gb_ex m r ls (psh w.1 st) w.2.1 w.2.2) :=
  gb_ex_cl (k := 123) (n := 1) (st' := .ref x0 :: st) (by
    have h1 : 1 ≤ (.ref x0 :: st : List Value).length := by simp
    have h2 : gb_rcv 123 [.ref x0] p = true := by
      show (true && true && true && decide (atag p x0 = 20)) = true
      rw [h]
      rfl
    simp only [gb_stp]
    exact if_pos ⟨h1, hs, h2⟩)
theorem cl_RM_ends {p : gb_Pi} {g : gb_Sg} {x0 : Nat} : gb_call 123 [.ref x0] p g = gb_ex 123 bk_RM_ends_0 [.ref x0] [] p g := rfl
theorem xc_RM_item {m : Nat} {r : List Instr} {ls st : List Value} {p : gb_Pi} {g : gb_Sg} {x0 : Nat} (h : atag p x0 = 20) (hs : st.length ≤ 4) : gb_ex m (.invokeinterface 124 1 :: r) ls (.ref x0 :: st) p g = (gb_call 124 [.ref x0] p g).bind (fun w => gb_ex m r ls (psh w.1 st) w.2.1 w.2.2) :=
  gb_ex_cl (k := 124) (n := 1) (st' := .ref x0 :: st) (by
    have h1 : 1 ≤ (.ref x0 :: st : List Value).length := by simp
    have h2 : gb_rcv 124 [.ref x0] p = true := by
      show (true && true && true && decide (atag p x0 = 20)) = true
      rw [h]
      rfl
    simp only [gb_stp]
    exact if_pos ⟨h1, hs, h2⟩)
theorem cl_RM_item {p : gb_Pi} {g : gb_Sg} {x0 : Nat} : gb_call 124 [.ref x0] p g = gb_ex 124 bk_RM_item_0 [.ref x0, .null, .null, .null, .null] [] p g := rfl
theorem xc_RM_kindItem {m : Nat} {r : List Instr} {ls st : List Value} {p : gb_Pi} {g : gb_Sg} {x0 : Nat} (h : atag p x0 = 20) (hs : st.length ≤ 4) : gb_ex m (.invokeinterface 125 1 :: r) ls (.ref x0 :: st) p g = (gb_call 125 [.ref x0] p g).bind (fun w => gb_ex m r ls (psh w.1 st) w.2.1 w.2.2) :=
  gb_ex_cl (k := 125) (n := 1) (st' := .ref x0 :: st) (by
    have h1 : 1 ≤ (.ref x0 :: st : List Value).length := by simp
    have h2 : gb_rcv 125 [.ref x0] p = true := by
      show (true && true && true && decide (atag p x0 = 20)) = true
      rw [h]
      rfl
    simp only [gb_stp]
    exact if_pos ⟨h1, hs, h2⟩)
theorem cl_RM_kindItem {p : gb_Pi} {g : gb_Sg} {x0 : Nat} : gb_call 125 [.ref x0] p g = gb_ex 125 bk_RM_kindItem_0 [.ref x0, .null, .null, .null, .null, .null] [] p g := rfl
theorem xc_RM_lossItem {m : Nat} {r : List Instr} {ls st : List Value} {p : gb_Pi} {g : gb_Sg} {x0 : Nat} (h : atag p x0 = 20) (hs : st.length ≤ 4) : gb_ex m (.invokeinterface 126 1 :: r) ls (.ref x0 :: st) p g = (gb_call 126 [.ref x0] p g).bind (fun w => gb_ex m r ls (psh w.1 st) w.2.1 w.2.2) :=
  gb_ex_cl (k := 126) (n := 1) (st' := .ref x0 :: st) (by
    have h1 : 1 ≤ (.ref x0 :: st : List Value).length := by simp
    have h2 : gb_rcv 126 [.ref x0] p = true := by
      show (true && true && true && decide (atag p x0 = 20)) = true
      rw [h]
      rfl
    simp only [gb_stp]
    exact if_pos ⟨h1, hs, h2⟩)
theorem cl_RM_lossItem {p : gb_Pi} {g : gb_Sg} {x0 : Nat} : gb_call 126 [.ref x0] p g = gb_ex 126 bk_RM_lossItem_0 [.ref x0, .null, .null, .null, .null, .null, .null] [] p g := rfl
theorem xc_RM_ruleItem {m : Nat} {r : List Instr} {ls st : List Value} {p : gb_Pi} {g : gb_Sg} {x0 : Nat} (h : atag p x0 = 20) (hs : st.length ≤ 4) : gb_ex m (.invokeinterface 127 1 :: r) ls (.ref x0 :: st) p g = (gb_call 127 [.ref x0] p g).bind (fun w => gb_ex m r ls (psh w.1 st) w.2.1 w.2.2) :=
  gb_ex_cl (k := 127) (n := 1) (st' := .ref x0 :: st) (by
    have h1 : 1 ≤ (.ref x0 :: st : List Value).length := by simp
    have h2 : gb_rcv 127 [.ref x0] p = true := by
      show (true && true && true && decide (atag p x0 = 20)) = true
      rw [h]
      rfl
    simp only [gb_stp]
    exact if_pos ⟨h1, hs, h2⟩)
theorem cl_RM_ruleItem {p : gb_Pi} {g : gb_Sg} {x0 : Nat} : gb_call 127 [.ref x0] p g = gb_ex 127 bk_RM_ruleItem_0 [.ref x0, .null, .null, .null, .null, .null, .null] [] p g := rfl
theorem xc_RM_fault {m : Nat} {r : List Instr} {ls st : List Value} {p : gb_Pi} {g : gb_Sg} {x0 : Nat} {x1 : Int32} (h : atag p x0 = 20) (hs : st.length ≤ 4) : gb_ex m (.invokeinterface 128 2 :: r) ls (.int x1 :: .ref x0 :: st) p g = (gb_call 128 [.ref x0, .int x1] p g).bind (fun w => gb_ex m r ls (psh w.1 st) w.2.1 w.2.2) :=
  gb_ex_cl (k := 128) (n := 2) (st' := .int x1 :: .ref x0 :: st) (by
    have h1 : 2 ≤ (.int x1 :: .ref x0 :: st : List Value).length := by simp
    have h2 : gb_rcv 128 [.ref x0, .int x1] p = true := by
      show (true && true && true && decide (atag p x0 = 20)) = true
      rw [h]
      rfl
    simp only [gb_stp]
    exact if_pos ⟨h1, hs, h2⟩)
theorem cl_RM_fault {p : gb_Pi} {g : gb_Sg} {x0 : Nat} {x1 : Int32} : gb_call 128 [.ref x0, .int x1] p g = gb_ex 128 bk_RM_fault_0 [.ref x0, .int x1, .null] [] p g := rfl
theorem xc_RM_lay {m : Nat} {r : List Instr} {ls st : List Value} {p : gb_Pi} {g : gb_Sg} {x0 : Nat} {x1 : Int32} (h : atag p x0 = 20) (hs : st.length ≤ 4) : gb_ex m (.invokeinterface 129 2 :: r) ls (.int x1 :: .ref x0 :: st) p g = (gb_call 129 [.ref x0, .int x1] p g).bind (fun w => gb_ex m r ls (psh w.1 st) w.2.1 w.2.2) :=
  gb_ex_cl (k := 129) (n := 2) (st' := .int x1 :: .ref x0 :: st) (by
    have h1 : 2 ≤ (.int x1 :: .ref x0 :: st : List Value).length := by simp
    have h2 : gb_rcv 129 [.ref x0, .int x1] p = true := by
      show (true && true && true && decide (atag p x0 = 20)) = true
      rw [h]
      rfl
    simp only [gb_stp]
    exact if_pos ⟨h1, hs, h2⟩)
theorem cl_RM_lay {p : gb_Pi} {g : gb_Sg} {x0 : Nat} {x1 : Int32} : gb_call 129 [.ref x0, .int x1] p g = gb_ex 129 bk_RM_lay_0 [.ref x0, .int x1, .null] [] p g := rfl
theorem xc_RM_isCell {m : Nat} {r : List Instr} {ls st : List Value} {p : gb_Pi} {g : gb_Sg} {x0 : Nat} {x1 : Int32} (h : atag p x0 = 20) (hs : st.length ≤ 4) : gb_ex m (.invokeinterface 130 2 :: r) ls (.int x1 :: .ref x0 :: st) p g = (gb_call 130 [.ref x0, .int x1] p g).bind (fun w => gb_ex m r ls (psh w.1 st) w.2.1 w.2.2) :=
  gb_ex_cl (k := 130) (n := 2) (st' := .int x1 :: .ref x0 :: st) (by
    have h1 : 2 ≤ (.int x1 :: .ref x0 :: st : List Value).length := by simp
    have h2 : gb_rcv 130 [.ref x0, .int x1] p = true := by
      show (true && true && true && decide (atag p x0 = 20)) = true
      rw [h]
      rfl
    simp only [gb_stp]
    exact if_pos ⟨h1, hs, h2⟩)
theorem cl_RM_isCell {p : gb_Pi} {g : gb_Sg} {x0 : Nat} {x1 : Int32} : gb_call 130 [.ref x0, .int x1] p g = gb_ex 130 bk_RM_isCell_0 [.ref x0, .int x1] [] p g := rfl
theorem xc_RM_isKind {m : Nat} {r : List Instr} {ls st : List Value} {p : gb_Pi} {g : gb_Sg} {x0 : Nat} {x1 : Int32} (h : atag p x0 = 20) (hs : st.length ≤ 4) : gb_ex m (.invokeinterface 131 2 :: r) ls (.int x1 :: .ref x0 :: st) p g = (gb_call 131 [.ref x0, .int x1] p g).bind (fun w => gb_ex m r ls (psh w.1 st) w.2.1 w.2.2) :=
  gb_ex_cl (k := 131) (n := 2) (st' := .int x1 :: .ref x0 :: st) (by
    have h1 : 2 ≤ (.int x1 :: .ref x0 :: st : List Value).length := by simp
    have h2 : gb_rcv 131 [.ref x0, .int x1] p = true := by
      show (true && true && true && decide (atag p x0 = 20)) = true
      rw [h]
      rfl
    simp only [gb_stp]
    exact if_pos ⟨h1, hs, h2⟩)
theorem cl_RM_isKind {p : gb_Pi} {g : gb_Sg} {x0 : Nat} {x1 : Int32} : gb_call 131 [.ref x0, .int x1] p g = gb_ex 131 bk_RM_isKind_0 [.ref x0, .int x1] [] p g := rfl
theorem xc_RM_isLoss {m : Nat} {r : List Instr} {ls st : List Value} {p : gb_Pi} {g : gb_Sg} {x0 : Nat} {x1 : Int32} (h : atag p x0 = 20) (hs : st.length ≤ 4) : gb_ex m (.invokeinterface 132 2 :: r) ls (.int x1 :: .ref x0 :: st) p g = (gb_call 132 [.ref x0, .int x1] p g).bind (fun w => gb_ex m r ls (psh w.1 st) w.2.1 w.2.2) :=
  gb_ex_cl (k := 132) (n := 2) (st' := .int x1 :: .ref x0 :: st) (by
    have h1 : 2 ≤ (.int x1 :: .ref x0 :: st : List Value).length := by simp
    have h2 : gb_rcv 132 [.ref x0, .int x1] p = true := by
      show (true && true && true && decide (atag p x0 = 20)) = true
      rw [h]
      rfl
    simp only [gb_stp]
    exact if_pos ⟨h1, hs, h2⟩)
theorem cl_RM_isLoss {p : gb_Pi} {g : gb_Sg} {x0 : Nat} {x1 : Int32} : gb_call 132 [.ref x0, .int x1] p g = gb_ex 132 bk_RM_isLoss_0 [.ref x0, .int x1] [] p g := rfl
theorem xc_RM_isHour {m : Nat} {r : List Instr} {ls st : List Value} {p : gb_Pi} {g : gb_Sg} {x0 : Int32} (hs : st.length ≤ 4) : gb_ex m (.invokeinterface 133 1 :: r) ls (.int x0 :: st) p g = (gb_call 133 [.int x0] p g).bind (fun w => gb_ex m r ls (psh w.1 st) w.2.1 w.2.2) :=
  gb_ex_cl (k := 133) (n := 1) (st' := .int x0 :: st) (by
    have h1 : 1 ≤ (.int x0 :: st : List Value).length := by simp
    have h2 : gb_rcv 133 [.int x0] p = true := by rfl
    simp only [gb_stp]
    exact if_pos ⟨h1, hs, h2⟩)
theorem cl_RM_isHour {p : gb_Pi} {g : gb_Sg} {x0 : Int32} : gb_call 133 [.int x0] p g = gb_ex 133 bk_RM_isHour_0 [.int x0] [] p g := rfl
theorem xc_RM_blows {m : Nat} {r : List Instr} {ls st : List Value} {p : gb_Pi} {g : gb_Sg} {x0 : Nat} {x1 : Int32} {x2 : Int32} (h : atag p x0 = 20) (hs : st.length ≤ 4) : gb_ex m (.invokeinterface 134 3 :: r) ls (.int x2 :: .int x1 :: .ref x0 :: st) p g = (gb_call 134 [.ref x0, .int x1, .int x2] p g).bind (fun w => gb_ex m r ls (psh w.1 st) w.2.1 w.2.2) :=
  gb_ex_cl (k := 134) (n := 3) (st' := .int x2 :: .int x1 :: .ref x0 :: st) (by
    have h1 : 3 ≤ (.int x2 :: .int x1 :: .ref x0 :: st : List Value).length := by simp
    have h2 : gb_rcv 134 [.ref x0, .int x1, .int x2] p = true := by
      show (true && true && true && decide (atag p x0 = 20)) = true
      rw [h]
      rfl
    simp only [gb_stp]
    exact if_pos ⟨h1, hs, h2⟩)
theorem cl_RM_blows {p : gb_Pi} {g : gb_Sg} {x0 : Nat} {x1 : Int32} {x2 : Int32} : gb_call 134 [.ref x0, .int x1, .int x2] p g = gb_ex 134 bk_RM_blows_0 [.ref x0, .int x1, .int x2, .null, .null] [] p g := rfl
theorem xc_RM_drifts {m : Nat} {r : List Instr} {ls st : List Value} {p : gb_Pi} {g : gb_Sg} {x0 : Nat} {x1 : Int32} {x2 : Int32} {x3 : Int32} {x4 : Int32} (h : atag p x0 = 20) (hs : st.length ≤ 4) : gb_ex m (.invokeinterface 135 5 :: r) ls (.int x4 :: .int x3 :: .int x2 :: .int x1 :: .ref x0 :: st) p g = (gb_call 135 [.ref x0, .int x1, .int x2, .int x3, .int x4] p g).bind (fun w => gb_ex m r ls (psh w.1 st) w.2.1 w.2.2) :=
  gb_ex_cl (k := 135) (n := 5) (st' := .int x4 :: .int x3 :: .int x2 :: .int x1 :: .ref x0 :: st) (by
    have h1 : 5 ≤ (.int x4 :: .int x3 :: .int x2 :: .int x1 :: .ref x0 :: st : List Value).length := by simp
    have h2 : gb_rcv 135 [.ref x0, .int x1, .int x2, .int x3, .int x4] p = true := by
      show (true && true && true && decide (atag p x0 = 20)) = true
      rw [h]
      rfl
    simp only [gb_stp]
    exact if_pos ⟨h1, hs, h2⟩)
theorem cl_RM_drifts {p : gb_Pi} {g : gb_Sg} {x0 : Nat} {x1 : Int32} {x2 : Int32} {x3 : Int32} {x4 : Int32} : gb_call 135 [.ref x0, .int x1, .int x2, .int x3, .int x4] p g = gb_ex 135 bk_RM_drifts_0 [.ref x0, .int x1, .int x2, .int x3, .int x4, .null, .null, .null, .null] [] p g := rfl
theorem xc_RM_drift {m : Nat} {r : List Instr} {ls st : List Value} {p : gb_Pi} {g : gb_Sg} {x0 : Nat} {x1 : Int32} {x2 : Int32} {x3 : Int32} {x4 : Int32} {x5 : Int32} (h : atag p x0 = 20) (hs : st.length ≤ 4) : gb_ex m (.invokeinterface 136 6 :: r) ls (.int x5 :: .int x4 :: .int x3 :: .int x2 :: .int x1 :: .ref x0 :: st) p g = (gb_call 136 [.ref x0, .int x1, .int x2, .int x3, .int x4, .int x5] p g).bind (fun w => gb_ex m r ls (psh w.1 st) w.2.1 w.2.2) :=
  gb_ex_cl (k := 136) (n := 6) (st' := .int x5 :: .int x4 :: .int x3 :: .int x2 :: .int x1 :: .ref x0 :: st) (by
    have h1 : 6 ≤ (.int x5 :: .int x4 :: .int x3 :: .int x2 :: .int x1 :: .ref x0 :: st : List Value).length := by simp
    have h2 : gb_rcv 136 [.ref x0, .int x1, .int x2, .int x3, .int x4, .int x5] p = true := by
      show (true && true && true && decide (atag p x0 = 20)) = true
      rw [h]
      rfl
    simp only [gb_stp]
    exact if_pos ⟨h1, hs, h2⟩)
theorem cl_RM_drift {p : gb_Pi} {g : gb_Sg} {x0 : Nat} {x1 : Int32} {x2 : Int32} {x3 : Int32} {x4 : Int32} {x5 : Int32} : gb_call 136 [.ref x0, .int x1, .int x2, .int x3, .int x4, .int x5] p g = gb_ex 136 bk_RM_drift_0 [.ref x0, .int x1, .int x2, .int x3, .int x4, .int x5, .null] [] p g := rfl
theorem xc_RM_laysWorlds {m : Nat} {r : List Instr} {ls st : List Value} {p : gb_Pi} {g : gb_Sg} {x0 : Nat} {x1 : Int32} (h : atag p x0 = 20) (hs : st.length ≤ 4) : gb_ex m (.invokeinterface 137 2 :: r) ls (.int x1 :: .ref x0 :: st) p g = (gb_call 137 [.ref x0, .int x1] p g).bind (fun w => gb_ex m r ls (psh w.1 st) w.2.1 w.2.2) :=
  gb_ex_cl (k := 137) (n := 2) (st' := .int x1 :: .ref x0 :: st) (by
    have h1 : 2 ≤ (.int x1 :: .ref x0 :: st : List Value).length := by simp
    have h2 : gb_rcv 137 [.ref x0, .int x1] p = true := by
      show (true && true && true && decide (atag p x0 = 20)) = true
      rw [h]
      rfl
    simp only [gb_stp]
    exact if_pos ⟨h1, hs, h2⟩)
theorem cl_RM_laysWorlds {p : gb_Pi} {g : gb_Sg} {x0 : Nat} {x1 : Int32} : gb_call 137 [.ref x0, .int x1] p g = gb_ex 137 bk_RM_laysWorlds_0 [.ref x0, .int x1, .null, .null, .null, .null] [] p g := rfl
theorem xc_RM_counts {m : Nat} {r : List Instr} {ls st : List Value} {p : gb_Pi} {g : gb_Sg} {x0 : Nat} {x1 : Int32} {x2 : Int32} {x3 : Int32} {x4 : Int32} {x5 : Int32} {x6 : Int32} (h : atag p x0 = 20) (hs : st.length ≤ 4) : gb_ex m (.invokeinterface 138 7 :: r) ls (.int x6 :: .int x5 :: .int x4 :: .int x3 :: .int x2 :: .int x1 :: .ref x0 :: st) p g = (gb_call 138 [.ref x0, .int x1, .int x2, .int x3, .int x4, .int x5, .int x6] p g).bind (fun w => gb_ex m r ls (psh w.1 st) w.2.1 w.2.2) :=
  gb_ex_cl (k := 138) (n := 7) (st' := .int x6 :: .int x5 :: .int x4 :: .int x3 :: .int x2 :: .int x1 :: .ref x0 :: st) (by
    have h1 : 7 ≤ (.int x6 :: .int x5 :: .int x4 :: .int x3 :: .int x2 :: .int x1 :: .ref x0 :: st : List Value).length := by simp
    have h2 : gb_rcv 138 [.ref x0, .int x1, .int x2, .int x3, .int x4, .int x5, .int x6] p = true := by
      show (true && true && true && decide (atag p x0 = 20)) = true
      rw [h]
      rfl
    simp only [gb_stp]
    exact if_pos ⟨h1, hs, h2⟩)
theorem cl_RM_counts {p : gb_Pi} {g : gb_Sg} {x0 : Nat} {x1 : Int32} {x2 : Int32} {x3 : Int32} {x4 : Int32} {x5 : Int32} {x6 : Int32} : gb_call 138 [.ref x0, .int x1, .int x2, .int x3, .int x4, .int x5, .int x6] p g = gb_ex 138 bk_RM_counts_0 [.ref x0, .int x1, .int x2, .int x3, .int x4, .int x5, .int x6, .null, .null, .null] [] p g := rfl
theorem xc_RM_worlds {m : Nat} {r : List Instr} {ls st : List Value} {p : gb_Pi} {g : gb_Sg} {x0 : Nat} {x1 : Int32} {x2 : Int32} (h : atag p x0 = 20) (hs : st.length ≤ 4) : gb_ex m (.invokeinterface 139 3 :: r) ls (.int x2 :: .int x1 :: .ref x0 :: st) p g = (gb_call 139 [.ref x0, .int x1, .int x2] p g).bind (fun w => gb_ex m r ls (psh w.1 st) w.2.1 w.2.2) :=
  gb_ex_cl (k := 139) (n := 3) (st' := .int x2 :: .int x1 :: .ref x0 :: st) (by
    have h1 : 3 ≤ (.int x2 :: .int x1 :: .ref x0 :: st : List Value).length := by simp
    have h2 : gb_rcv 139 [.ref x0, .int x1, .int x2] p = true := by
      show (true && true && true && decide (atag p x0 = 20)) = true
      rw [h]
      rfl
    simp only [gb_stp]
    exact if_pos ⟨h1, hs, h2⟩)
theorem cl_RM_worlds {p : gb_Pi} {g : gb_Sg} {x0 : Nat} {x1 : Int32} {x2 : Int32} : gb_call 139 [.ref x0, .int x1, .int x2] p g = gb_ex 139 bk_RM_worlds_0 [.ref x0, .int x1, .int x2, .null] [] p g := rfl
theorem xc_RM_ashore {m : Nat} {r : List Instr} {ls st : List Value} {p : gb_Pi} {g : gb_Sg} {x0 : Nat} {x1 : Int32} {x2 : Int32} {x3 : Int32} {x4 : Int32} (h : atag p x0 = 20) (hs : st.length ≤ 4) : gb_ex m (.invokeinterface 140 5 :: r) ls (.int x4 :: .int x3 :: .int x2 :: .int x1 :: .ref x0 :: st) p g = (gb_call 140 [.ref x0, .int x1, .int x2, .int x3, .int x4] p g).bind (fun w => gb_ex m r ls (psh w.1 st) w.2.1 w.2.2) :=
  gb_ex_cl (k := 140) (n := 5) (st' := .int x4 :: .int x3 :: .int x2 :: .int x1 :: .ref x0 :: st) (by
    have h1 : 5 ≤ (.int x4 :: .int x3 :: .int x2 :: .int x1 :: .ref x0 :: st : List Value).length := by simp
    have h2 : gb_rcv 140 [.ref x0, .int x1, .int x2, .int x3, .int x4] p = true := by
      show (true && true && true && decide (atag p x0 = 20)) = true
      rw [h]
      rfl
    simp only [gb_stp]
    exact if_pos ⟨h1, hs, h2⟩)
theorem cl_RM_ashore {p : gb_Pi} {g : gb_Sg} {x0 : Nat} {x1 : Int32} {x2 : Int32} {x3 : Int32} {x4 : Int32} : gb_call 140 [.ref x0, .int x1, .int x2, .int x3, .int x4] p g = gb_ex 140 bk_RM_ashore_0 [.ref x0, .int x1, .int x2, .int x3, .int x4] [] p g := rfl
theorem xc_RM_find {m : Nat} {r : List Instr} {ls st : List Value} {p : gb_Pi} {g : gb_Sg} {x0 : Nat} {x1 : Int32} {x2 : Int32} {x3 : Int32} (h : atag p x0 = 20) (hs : st.length ≤ 4) : gb_ex m (.invokeinterface 141 4 :: r) ls (.int x3 :: .int x2 :: .int x1 :: .ref x0 :: st) p g = (gb_call 141 [.ref x0, .int x1, .int x2, .int x3] p g).bind (fun w => gb_ex m r ls (psh w.1 st) w.2.1 w.2.2) :=
  gb_ex_cl (k := 141) (n := 4) (st' := .int x3 :: .int x2 :: .int x1 :: .ref x0 :: st) (by
    have h1 : 4 ≤ (.int x3 :: .int x2 :: .int x1 :: .ref x0 :: st : List Value).length := by simp
    have h2 : gb_rcv 141 [.ref x0, .int x1, .int x2, .int x3] p = true := by
      show (true && true && true && decide (atag p x0 = 20)) = true
      rw [h]
      rfl
    simp only [gb_stp]
    exact if_pos ⟨h1, hs, h2⟩)
theorem cl_RM_find {p : gb_Pi} {g : gb_Sg} {x0 : Nat} {x1 : Int32} {x2 : Int32} {x3 : Int32} : gb_call 141 [.ref x0, .int x1, .int x2, .int x3] p g = gb_ex 141 bk_RM_find_0 [.ref x0, .int x1, .int x2, .int x3, .null] [] p g := rfl
theorem xc_RM_fromOf {m : Nat} {r : List Instr} {ls st : List Value} {p : gb_Pi} {g : gb_Sg} {x0 : Nat} {x1 : Int32} (h : atag p x0 = 20) (hs : st.length ≤ 4) : gb_ex m (.invokeinterface 142 2 :: r) ls (.int x1 :: .ref x0 :: st) p g = (gb_call 142 [.ref x0, .int x1] p g).bind (fun w => gb_ex m r ls (psh w.1 st) w.2.1 w.2.2) :=
  gb_ex_cl (k := 142) (n := 2) (st' := .int x1 :: .ref x0 :: st) (by
    have h1 : 2 ≤ (.int x1 :: .ref x0 :: st : List Value).length := by simp
    have h2 : gb_rcv 142 [.ref x0, .int x1] p = true := by
      show (true && true && true && decide (atag p x0 = 20)) = true
      rw [h]
      rfl
    simp only [gb_stp]
    exact if_pos ⟨h1, hs, h2⟩)
theorem cl_RM_fromOf {p : gb_Pi} {g : gb_Sg} {x0 : Nat} {x1 : Int32} : gb_call 142 [.ref x0, .int x1] p g = gb_ex 142 bk_RM_fromOf_0 [.ref x0, .int x1, .null, .null, .null] [] p g := rfl
theorem xc_RM_from {m : Nat} {r : List Instr} {ls st : List Value} {p : gb_Pi} {g : gb_Sg} {x0 : Nat} {x1 : Int32} (h : atag p x0 = 20) (hs : st.length ≤ 4) : gb_ex m (.invokeinterface 143 2 :: r) ls (.int x1 :: .ref x0 :: st) p g = (gb_call 143 [.ref x0, .int x1] p g).bind (fun w => gb_ex m r ls (psh w.1 st) w.2.1 w.2.2) :=
  gb_ex_cl (k := 143) (n := 2) (st' := .int x1 :: .ref x0 :: st) (by
    have h1 : 2 ≤ (.int x1 :: .ref x0 :: st : List Value).length := by simp
    have h2 : gb_rcv 143 [.ref x0, .int x1] p = true := by
      show (true && true && true && decide (atag p x0 = 20)) = true
      rw [h]
      rfl
    simp only [gb_stp]
    exact if_pos ⟨h1, hs, h2⟩)
theorem cl_RM_from {p : gb_Pi} {g : gb_Sg} {x0 : Nat} {x1 : Int32} : gb_call 143 [.ref x0, .int x1] p g = gb_ex 143 bk_RM_from_0 [.ref x0, .int x1] [] p g := rfl
theorem xc_RM_parts {m : Nat} {r : List Instr} {ls st : List Value} {p : gb_Pi} {g : gb_Sg} {x0 : Nat} (h : atag p x0 = 20) (hs : st.length ≤ 4) : gb_ex m (.invokeinterface 144 1 :: r) ls (.ref x0 :: st) p g = (gb_call 144 [.ref x0] p g).bind (fun w => gb_ex m r ls (psh w.1 st) w.2.1 w.2.2) :=
  gb_ex_cl (k := 144) (n := 1) (st' := .ref x0 :: st) (by
    have h1 : 1 ≤ (.ref x0 :: st : List Value).length := by simp
    have h2 : gb_rcv 144 [.ref x0] p = true := by
      show (true && true && true && decide (atag p x0 = 20)) = true
      rw [h]
      rfl
    simp only [gb_stp]
    exact if_pos ⟨h1, hs, h2⟩)
theorem cl_RM_parts {p : gb_Pi} {g : gb_Sg} {x0 : Nat} : gb_call 144 [.ref x0] p g = gb_ex 144 bk_RM_parts_0 [.ref x0, .null, .null, .null, .null, .null] [] p g := rfl
theorem xc_RM_parted {m : Nat} {r : List Instr} {ls st : List Value} {p : gb_Pi} {g : gb_Sg} {x0 : Nat} {x1 : Int32} (h : atag p x0 = 20) (hs : st.length ≤ 4) : gb_ex m (.invokeinterface 145 2 :: r) ls (.int x1 :: .ref x0 :: st) p g = (gb_call 145 [.ref x0, .int x1] p g).bind (fun w => gb_ex m r ls (psh w.1 st) w.2.1 w.2.2) :=
  gb_ex_cl (k := 145) (n := 2) (st' := .int x1 :: .ref x0 :: st) (by
    have h1 : 2 ≤ (.int x1 :: .ref x0 :: st : List Value).length := by simp
    have h2 : gb_rcv 145 [.ref x0, .int x1] p = true := by
      show (true && true && true && decide (atag p x0 = 20)) = true
      rw [h]
      rfl
    simp only [gb_stp]
    exact if_pos ⟨h1, hs, h2⟩)
theorem cl_RM_parted {p : gb_Pi} {g : gb_Sg} {x0 : Nat} {x1 : Int32} : gb_call 145 [.ref x0, .int x1] p g = gb_ex 145 bk_RM_parted_0 [.ref x0, .int x1] [] p g := rfl
theorem xc_RM_report {m : Nat} {r : List Instr} {ls st : List Value} {p : gb_Pi} {g : gb_Sg} {x0 : Nat} {x1 : Int32} {x2 : Int32} {x3 : Int32} {x4 : Int32} {x5 : Int32} (h : atag p x0 = 20) (hs : st.length ≤ 4) : gb_ex m (.invokeinterface 146 6 :: r) ls (.int x5 :: .int x4 :: .int x3 :: .int x2 :: .int x1 :: .ref x0 :: st) p g = (gb_call 146 [.ref x0, .int x1, .int x2, .int x3, .int x4, .int x5] p g).bind (fun w => gb_ex m r ls (psh w.1 st) w.2.1 w.2.2) :=
  gb_ex_cl (k := 146) (n := 6) (st' := .int x5 :: .int x4 :: .int x3 :: .int x2 :: .int x1 :: .ref x0 :: st) (by
    have h1 : 6 ≤ (.int x5 :: .int x4 :: .int x3 :: .int x2 :: .int x1 :: .ref x0 :: st : List Value).length := by simp
    have h2 : gb_rcv 146 [.ref x0, .int x1, .int x2, .int x3, .int x4, .int x5] p = true := by
      show (true && true && true && decide (atag p x0 = 20)) = true
      rw [h]
      rfl
    simp only [gb_stp]
    exact if_pos ⟨h1, hs, h2⟩)
theorem cl_RM_report {p : gb_Pi} {g : gb_Sg} {x0 : Nat} {x1 : Int32} {x2 : Int32} {x3 : Int32} {x4 : Int32} {x5 : Int32} : gb_call 146 [.ref x0, .int x1, .int x2, .int x3, .int x4, .int x5] p g = gb_ex 146 bk_RM_report_0 [.ref x0, .int x1, .int x2, .int x3, .int x4, .int x5, .null] [] p g := rfl
theorem xc_RM_sees {m : Nat} {r : List Instr} {ls st : List Value} {p : gb_Pi} {g : gb_Sg} {x0 : Nat} {x1 : Int32} {x2 : Int32} (h : atag p x0 = 20) (hs : st.length ≤ 4) : gb_ex m (.invokeinterface 147 3 :: r) ls (.int x2 :: .int x1 :: .ref x0 :: st) p g = (gb_call 147 [.ref x0, .int x1, .int x2] p g).bind (fun w => gb_ex m r ls (psh w.1 st) w.2.1 w.2.2) :=
  gb_ex_cl (k := 147) (n := 3) (st' := .int x2 :: .int x1 :: .ref x0 :: st) (by
    have h1 : 3 ≤ (.int x2 :: .int x1 :: .ref x0 :: st : List Value).length := by simp
    have h2 : gb_rcv 147 [.ref x0, .int x1, .int x2] p = true := by
      show (true && true && true && decide (atag p x0 = 20)) = true
      rw [h]
      rfl
    simp only [gb_stp]
    exact if_pos ⟨h1, hs, h2⟩)
theorem cl_RM_sees {p : gb_Pi} {g : gb_Sg} {x0 : Nat} {x1 : Int32} {x2 : Int32} : gb_call 147 [.ref x0, .int x1, .int x2] p g = gb_ex 147 bk_RM_sees_0 [.ref x0, .int x1, .int x2] [] p g := rfl
theorem xc_RM_isOf {m : Nat} {r : List Instr} {ls st : List Value} {p : gb_Pi} {g : gb_Sg} {x0 : Nat} {x1 : Int32} {x2 : Int32} {x3 : Int32} (h : atag p x0 = 20) (hs : st.length ≤ 4) : gb_ex m (.invokeinterface 148 4 :: r) ls (.int x3 :: .int x2 :: .int x1 :: .ref x0 :: st) p g = (gb_call 148 [.ref x0, .int x1, .int x2, .int x3] p g).bind (fun w => gb_ex m r ls (psh w.1 st) w.2.1 w.2.2) :=
  gb_ex_cl (k := 148) (n := 4) (st' := .int x3 :: .int x2 :: .int x1 :: .ref x0 :: st) (by
    have h1 : 4 ≤ (.int x3 :: .int x2 :: .int x1 :: .ref x0 :: st : List Value).length := by simp
    have h2 : gb_rcv 148 [.ref x0, .int x1, .int x2, .int x3] p = true := by
      show (true && true && true && decide (atag p x0 = 20)) = true
      rw [h]
      rfl
    simp only [gb_stp]
    exact if_pos ⟨h1, hs, h2⟩)
theorem cl_RM_isOf {p : gb_Pi} {g : gb_Sg} {x0 : Nat} {x1 : Int32} {x2 : Int32} {x3 : Int32} : gb_call 148 [.ref x0, .int x1, .int x2, .int x3] p g = gb_ex 148 bk_RM_isOf_0 [.ref x0, .int x1, .int x2, .int x3] [] p g := rfl
theorem xc_RM_isThere {m : Nat} {r : List Instr} {ls st : List Value} {p : gb_Pi} {g : gb_Sg} {x0 : Nat} {x1 : Int32} {x2 : Int32} {x3 : Int32} (h : atag p x0 = 20) (hs : st.length ≤ 4) : gb_ex m (.invokeinterface 149 4 :: r) ls (.int x3 :: .int x2 :: .int x1 :: .ref x0 :: st) p g = (gb_call 149 [.ref x0, .int x1, .int x2, .int x3] p g).bind (fun w => gb_ex m r ls (psh w.1 st) w.2.1 w.2.2) :=
  gb_ex_cl (k := 149) (n := 4) (st' := .int x3 :: .int x2 :: .int x1 :: .ref x0 :: st) (by
    have h1 : 4 ≤ (.int x3 :: .int x2 :: .int x1 :: .ref x0 :: st : List Value).length := by simp
    have h2 : gb_rcv 149 [.ref x0, .int x1, .int x2, .int x3] p = true := by
      show (true && true && true && decide (atag p x0 = 20)) = true
      rw [h]
      rfl
    simp only [gb_stp]
    exact if_pos ⟨h1, hs, h2⟩)
theorem cl_RM_isThere {p : gb_Pi} {g : gb_Sg} {x0 : Nat} {x1 : Int32} {x2 : Int32} {x3 : Int32} : gb_call 149 [.ref x0, .int x1, .int x2, .int x3] p g = gb_ex 149 bk_RM_isThere_0 [.ref x0, .int x1, .int x2, .int x3, .null, .null] [] p g := rfl
theorem xc_RM_isNot {m : Nat} {r : List Instr} {ls st : List Value} {p : gb_Pi} {g : gb_Sg} {x0 : Nat} {x1 : Int32} {x2 : Int32} {x3 : Int32} (h : atag p x0 = 20) (hs : st.length ≤ 4) : gb_ex m (.invokeinterface 150 4 :: r) ls (.int x3 :: .int x2 :: .int x1 :: .ref x0 :: st) p g = (gb_call 150 [.ref x0, .int x1, .int x2, .int x3] p g).bind (fun w => gb_ex m r ls (psh w.1 st) w.2.1 w.2.2) :=
  gb_ex_cl (k := 150) (n := 4) (st' := .int x3 :: .int x2 :: .int x1 :: .ref x0 :: st) (by
    have h1 : 4 ≤ (.int x3 :: .int x2 :: .int x1 :: .ref x0 :: st : List Value).length := by simp
    have h2 : gb_rcv 150 [.ref x0, .int x1, .int x2, .int x3] p = true := by
      show (true && true && true && decide (atag p x0 = 20)) = true
      rw [h]
      rfl
    simp only [gb_stp]
    exact if_pos ⟨h1, hs, h2⟩)
theorem cl_RM_isNot {p : gb_Pi} {g : gb_Sg} {x0 : Nat} {x1 : Int32} {x2 : Int32} {x3 : Int32} : gb_call 150 [.ref x0, .int x1, .int x2, .int x3] p g = gb_ex 150 bk_RM_isNot_0 [.ref x0, .int x1, .int x2, .int x3, .null, .null] [] p g := rfl
theorem xc_RM_there {m : Nat} {r : List Instr} {ls st : List Value} {p : gb_Pi} {g : gb_Sg} {x0 : Nat} {x1 : Int32} {x2 : Int32} {x3 : Int32} (h : atag p x0 = 20) (hs : st.length ≤ 4) : gb_ex m (.invokeinterface 151 4 :: r) ls (.int x3 :: .int x2 :: .int x1 :: .ref x0 :: st) p g = (gb_call 151 [.ref x0, .int x1, .int x2, .int x3] p g).bind (fun w => gb_ex m r ls (psh w.1 st) w.2.1 w.2.2) :=
  gb_ex_cl (k := 151) (n := 4) (st' := .int x3 :: .int x2 :: .int x1 :: .ref x0 :: st) (by
    have h1 : 4 ≤ (.int x3 :: .int x2 :: .int x1 :: .ref x0 :: st : List Value).length := by simp
    have h2 : gb_rcv 151 [.ref x0, .int x1, .int x2, .int x3] p = true := by
      show (true && true && true && decide (atag p x0 = 20)) = true
      rw [h]
      rfl
    simp only [gb_stp]
    exact if_pos ⟨h1, hs, h2⟩)
theorem cl_RM_there {p : gb_Pi} {g : gb_Sg} {x0 : Nat} {x1 : Int32} {x2 : Int32} {x3 : Int32} : gb_call 151 [.ref x0, .int x1, .int x2, .int x3] p g = gb_ex 151 bk_RM_there_0 [.ref x0, .int x1, .int x2, .int x3] [] p g := rfl
theorem xc_RM_missed {m : Nat} {r : List Instr} {ls st : List Value} {p : gb_Pi} {g : gb_Sg} {x0 : Nat} {x1 : Int32} (h : atag p x0 = 20) (hs : st.length ≤ 4) : gb_ex m (.invokeinterface 152 2 :: r) ls (.int x1 :: .ref x0 :: st) p g = (gb_call 152 [.ref x0, .int x1] p g).bind (fun w => gb_ex m r ls (psh w.1 st) w.2.1 w.2.2) :=
  gb_ex_cl (k := 152) (n := 2) (st' := .int x1 :: .ref x0 :: st) (by
    have h1 : 2 ≤ (.int x1 :: .ref x0 :: st : List Value).length := by simp
    have h2 : gb_rcv 152 [.ref x0, .int x1] p = true := by
      show (true && true && true && decide (atag p x0 = 20)) = true
      rw [h]
      rfl
    simp only [gb_stp]
    exact if_pos ⟨h1, hs, h2⟩)
theorem cl_RM_missed {p : gb_Pi} {g : gb_Sg} {x0 : Nat} {x1 : Int32} : gb_call 152 [.ref x0, .int x1] p g = gb_ex 152 bk_RM_missed_0 [.ref x0, .int x1, .null, .null, .null] [] p g := rfl
theorem xc_RM_isGainsaid {m : Nat} {r : List Instr} {ls st : List Value} {p : gb_Pi} {g : gb_Sg} {x0 : Nat} {x1 : Int32} {x2 : Int32} (h : atag p x0 = 20) (hs : st.length ≤ 4) : gb_ex m (.invokeinterface 153 3 :: r) ls (.int x2 :: .int x1 :: .ref x0 :: st) p g = (gb_call 153 [.ref x0, .int x1, .int x2] p g).bind (fun w => gb_ex m r ls (psh w.1 st) w.2.1 w.2.2) :=
  gb_ex_cl (k := 153) (n := 3) (st' := .int x2 :: .int x1 :: .ref x0 :: st) (by
    have h1 : 3 ≤ (.int x2 :: .int x1 :: .ref x0 :: st : List Value).length := by simp
    have h2 : gb_rcv 153 [.ref x0, .int x1, .int x2] p = true := by
      show (true && true && true && decide (atag p x0 = 20)) = true
      rw [h]
      rfl
    simp only [gb_stp]
    exact if_pos ⟨h1, hs, h2⟩)
theorem cl_RM_isGainsaid {p : gb_Pi} {g : gb_Sg} {x0 : Nat} {x1 : Int32} {x2 : Int32} : gb_call 153 [.ref x0, .int x1, .int x2] p g = gb_ex 153 bk_RM_isGainsaid_0 [.ref x0, .int x1, .int x2] [] p g := rfl
theorem xc_RM_leftOf {m : Nat} {r : List Instr} {ls st : List Value} {p : gb_Pi} {g : gb_Sg} {x0 : Nat} {x1 : Int32} (h : atag p x0 = 20) (hs : st.length ≤ 4) : gb_ex m (.invokeinterface 154 2 :: r) ls (.int x1 :: .ref x0 :: st) p g = (gb_call 154 [.ref x0, .int x1] p g).bind (fun w => gb_ex m r ls (psh w.1 st) w.2.1 w.2.2) :=
  gb_ex_cl (k := 154) (n := 2) (st' := .int x1 :: .ref x0 :: st) (by
    have h1 : 2 ≤ (.int x1 :: .ref x0 :: st : List Value).length := by simp
    have h2 : gb_rcv 154 [.ref x0, .int x1] p = true := by
      show (true && true && true && decide (atag p x0 = 20)) = true
      rw [h]
      rfl
    simp only [gb_stp]
    exact if_pos ⟨h1, hs, h2⟩)
theorem cl_RM_leftOf {p : gb_Pi} {g : gb_Sg} {x0 : Nat} {x1 : Int32} : gb_call 154 [.ref x0, .int x1] p g = gb_ex 154 bk_RM_leftOf_0 [.ref x0, .int x1, .null, .null] [] p g := rfl
theorem xc_RM_left {m : Nat} {r : List Instr} {ls st : List Value} {p : gb_Pi} {g : gb_Sg} {x0 : Nat} {x1 : Int32} (h : atag p x0 = 20) (hs : st.length ≤ 4) : gb_ex m (.invokeinterface 155 2 :: r) ls (.int x1 :: .ref x0 :: st) p g = (gb_call 155 [.ref x0, .int x1] p g).bind (fun w => gb_ex m r ls (psh w.1 st) w.2.1 w.2.2) :=
  gb_ex_cl (k := 155) (n := 2) (st' := .int x1 :: .ref x0 :: st) (by
    have h1 : 2 ≤ (.int x1 :: .ref x0 :: st : List Value).length := by simp
    have h2 : gb_rcv 155 [.ref x0, .int x1] p = true := by
      show (true && true && true && decide (atag p x0 = 20)) = true
      rw [h]
      rfl
    simp only [gb_stp]
    exact if_pos ⟨h1, hs, h2⟩)
theorem cl_RM_left {p : gb_Pi} {g : gb_Sg} {x0 : Nat} {x1 : Int32} : gb_call 155 [.ref x0, .int x1] p g = gb_ex 155 bk_RM_left_0 [.ref x0, .int x1] [] p g := rfl
theorem xc_RM_hopeOf {m : Nat} {r : List Instr} {ls st : List Value} {p : gb_Pi} {g : gb_Sg} {x0 : Nat} {x1 : Int32} {x2 : Int32} {x3 : Int32} {x4 : Int32} (h : atag p x0 = 20) (hs : st.length ≤ 4) : gb_ex m (.invokeinterface 156 5 :: r) ls (.int x4 :: .int x3 :: .int x2 :: .int x1 :: .ref x0 :: st) p g = (gb_call 156 [.ref x0, .int x1, .int x2, .int x3, .int x4] p g).bind (fun w => gb_ex m r ls (psh w.1 st) w.2.1 w.2.2) :=
  gb_ex_cl (k := 156) (n := 5) (st' := .int x4 :: .int x3 :: .int x2 :: .int x1 :: .ref x0 :: st) (by
    have h1 : 5 ≤ (.int x4 :: .int x3 :: .int x2 :: .int x1 :: .ref x0 :: st : List Value).length := by simp
    have h2 : gb_rcv 156 [.ref x0, .int x1, .int x2, .int x3, .int x4] p = true := by
      show (true && true && true && decide (atag p x0 = 20)) = true
      rw [h]
      rfl
    simp only [gb_stp]
    exact if_pos ⟨h1, hs, h2⟩)
theorem cl_RM_hopeOf {p : gb_Pi} {g : gb_Sg} {x0 : Nat} {x1 : Int32} {x2 : Int32} {x3 : Int32} {x4 : Int32} : gb_call 156 [.ref x0, .int x1, .int x2, .int x3, .int x4] p g = gb_ex 156 bk_RM_hopeOf_0 [.ref x0, .int x1, .int x2, .int x3, .int x4, .null, .null, .null, .null, .null, .null] [] p g := rfl
theorem xc_RM_areEyes {m : Nat} {r : List Instr} {ls st : List Value} {p : gb_Pi} {g : gb_Sg} {x0 : Int32} (hs : st.length ≤ 4) : gb_ex m (.invokeinterface 157 1 :: r) ls (.int x0 :: st) p g = (gb_call 157 [.int x0] p g).bind (fun w => gb_ex m r ls (psh w.1 st) w.2.1 w.2.2) :=
  gb_ex_cl (k := 157) (n := 1) (st' := .int x0 :: st) (by
    have h1 : 1 ≤ (.int x0 :: st : List Value).length := by simp
    have h2 : gb_rcv 157 [.int x0] p = true := by rfl
    simp only [gb_stp]
    exact if_pos ⟨h1, hs, h2⟩)
theorem cl_RM_areEyes {p : gb_Pi} {g : gb_Sg} {x0 : Int32} : gb_call 157 [.int x0] p g = gb_ex 157 bk_RM_areEyes_0 [.int x0] [] p g := rfl
theorem xc_RM_hope {m : Nat} {r : List Instr} {ls st : List Value} {p : gb_Pi} {g : gb_Sg} {x0 : Nat} {x1 : Int32} {x2 : Int32} {x3 : Int32} {x4 : Int32} (h : atag p x0 = 20) (hs : st.length ≤ 4) : gb_ex m (.invokeinterface 158 5 :: r) ls (.int x4 :: .int x3 :: .int x2 :: .int x1 :: .ref x0 :: st) p g = (gb_call 158 [.ref x0, .int x1, .int x2, .int x3, .int x4] p g).bind (fun w => gb_ex m r ls (psh w.1 st) w.2.1 w.2.2) :=
  gb_ex_cl (k := 158) (n := 5) (st' := .int x4 :: .int x3 :: .int x2 :: .int x1 :: .ref x0 :: st) (by
    have h1 : 5 ≤ (.int x4 :: .int x3 :: .int x2 :: .int x1 :: .ref x0 :: st : List Value).length := by simp
    have h2 : gb_rcv 158 [.ref x0, .int x1, .int x2, .int x3, .int x4] p = true := by
      show (true && true && true && decide (atag p x0 = 20)) = true
      rw [h]
      rfl
    simp only [gb_stp]
    exact if_pos ⟨h1, hs, h2⟩)
theorem cl_RM_hope {p : gb_Pi} {g : gb_Sg} {x0 : Nat} {x1 : Int32} {x2 : Int32} {x3 : Int32} {x4 : Int32} : gb_call 158 [.ref x0, .int x1, .int x2, .int x3, .int x4] p g = gb_ex 158 bk_RM_hope_0 [.ref x0, .int x1, .int x2, .int x3, .int x4] [] p g := rfl
theorem xc_RM_walk {m : Nat} {r : List Instr} {ls st : List Value} {p : gb_Pi} {g : gb_Sg} {x0 : Nat} {x1 : Int32} {x2 : Int32} {x3 : Int32} {x4 : Int32} (h : atag p x0 = 20) (hs : st.length ≤ 4) : gb_ex m (.invokeinterface 159 5 :: r) ls (.int x4 :: .int x3 :: .int x2 :: .int x1 :: .ref x0 :: st) p g = (gb_call 159 [.ref x0, .int x1, .int x2, .int x3, .int x4] p g).bind (fun w => gb_ex m r ls (psh w.1 st) w.2.1 w.2.2) :=
  gb_ex_cl (k := 159) (n := 5) (st' := .int x4 :: .int x3 :: .int x2 :: .int x1 :: .ref x0 :: st) (by
    have h1 : 5 ≤ (.int x4 :: .int x3 :: .int x2 :: .int x1 :: .ref x0 :: st : List Value).length := by simp
    have h2 : gb_rcv 159 [.ref x0, .int x1, .int x2, .int x3, .int x4] p = true := by
      show (true && true && true && decide (atag p x0 = 20)) = true
      rw [h]
      rfl
    simp only [gb_stp]
    exact if_pos ⟨h1, hs, h2⟩)
theorem cl_RM_walk {p : gb_Pi} {g : gb_Sg} {x0 : Nat} {x1 : Int32} {x2 : Int32} {x3 : Int32} {x4 : Int32} : gb_call 159 [.ref x0, .int x1, .int x2, .int x3, .int x4] p g = gb_ex 159 bk_RM_walk_0 [.ref x0, .int x1, .int x2, .int x3, .int x4, .null, .null, .null, .null, .null, .null] [] p g := rfl
theorem xc_RM_walks {m : Nat} {r : List Instr} {ls st : List Value} {p : gb_Pi} {g : gb_Sg} {x0 : Nat} {x1 : Int32} {x2 : Int32} {x3 : Int32} {x4 : Int32} {x5 : Int32} (h : atag p x0 = 20) (hs : st.length ≤ 4) : gb_ex m (.invokeinterface 160 6 :: r) ls (.int x5 :: .int x4 :: .int x3 :: .int x2 :: .int x1 :: .ref x0 :: st) p g = (gb_call 160 [.ref x0, .int x1, .int x2, .int x3, .int x4, .int x5] p g).bind (fun w => gb_ex m r ls (psh w.1 st) w.2.1 w.2.2) :=
  gb_ex_cl (k := 160) (n := 6) (st' := .int x5 :: .int x4 :: .int x3 :: .int x2 :: .int x1 :: .ref x0 :: st) (by
    have h1 : 6 ≤ (.int x5 :: .int x4 :: .int x3 :: .int x2 :: .int x1 :: .ref x0 :: st : List Value).length := by simp
    have h2 : gb_rcv 160 [.ref x0, .int x1, .int x2, .int x3, .int x4, .int x5] p = true := by
      show (true && true && true && decide (atag p x0 = 20)) = true
      rw [h]
      rfl
    simp only [gb_stp]
    exact if_pos ⟨h1, hs, h2⟩)
theorem cl_RM_walks {p : gb_Pi} {g : gb_Sg} {x0 : Nat} {x1 : Int32} {x2 : Int32} {x3 : Int32} {x4 : Int32} {x5 : Int32} : gb_call 160 [.ref x0, .int x1, .int x2, .int x3, .int x4, .int x5] p g = gb_ex 160 bk_RM_walks_0 [.ref x0, .int x1, .int x2, .int x3, .int x4, .int x5, .null, .null, .null, .null, .null, .null, .null, .null] [] p g := rfl
theorem xc_RM_number {m : Nat} {r : List Instr} {ls st : List Value} {p : gb_Pi} {g : gb_Sg} {x0 : Nat} {x1 : Int32} (h : atag p x0 = 20) (hs : st.length ≤ 4) : gb_ex m (.invokeinterface 161 2 :: r) ls (.int x1 :: .ref x0 :: st) p g = (gb_call 161 [.ref x0, .int x1] p g).bind (fun w => gb_ex m r ls (psh w.1 st) w.2.1 w.2.2) :=
  gb_ex_cl (k := 161) (n := 2) (st' := .int x1 :: .ref x0 :: st) (by
    have h1 : 2 ≤ (.int x1 :: .ref x0 :: st : List Value).length := by simp
    have h2 : gb_rcv 161 [.ref x0, .int x1] p = true := by
      show (true && true && true && decide (atag p x0 = 20)) = true
      rw [h]
      rfl
    simp only [gb_stp]
    exact if_pos ⟨h1, hs, h2⟩)
theorem cl_RM_number {p : gb_Pi} {g : gb_Sg} {x0 : Nat} {x1 : Int32} : gb_call 161 [.ref x0, .int x1] p g = gb_ex 161 bk_RM_number_0 [.ref x0, .int x1, .null] [] p g := rfl
theorem xc_RM_greatest {m : Nat} {r : List Instr} {ls st : List Value} {p : gb_Pi} {g : gb_Sg} {x0 : Nat} (h : atag p x0 = 20) (hs : st.length ≤ 4) : gb_ex m (.invokeinterface 162 1 :: r) ls (.ref x0 :: st) p g = (gb_call 162 [.ref x0] p g).bind (fun w => gb_ex m r ls (psh w.1 st) w.2.1 w.2.2) :=
  gb_ex_cl (k := 162) (n := 1) (st' := .ref x0 :: st) (by
    have h1 : 1 ≤ (.ref x0 :: st : List Value).length := by simp
    have h2 : gb_rcv 162 [.ref x0] p = true := by
      show (true && true && true && decide (atag p x0 = 20)) = true
      rw [h]
      rfl
    simp only [gb_stp]
    exact if_pos ⟨h1, hs, h2⟩)
theorem cl_RM_greatest {p : gb_Pi} {g : gb_Sg} {x0 : Nat} : gb_call 162 [.ref x0] p g = gb_ex 162 bk_RM_greatest_0 [.ref x0, .null, .null] [] p g := rfl
theorem xc_RM_lowest {m : Nat} {r : List Instr} {ls st : List Value} {p : gb_Pi} {g : gb_Sg} {x0 : Nat} {x1 : Int64} {x2 : Int64} (h : atag p x0 = 20) (hs : st.length ≤ 4) : gb_ex m (.invokeinterface 163 3 :: r) ls (.long x2 :: .long x1 :: .ref x0 :: st) p g = (gb_call 163 [.ref x0, .long x1, .long x2] p g).bind (fun w => gb_ex m r ls (psh w.1 st) w.2.1 w.2.2) :=
  gb_ex_cl (k := 163) (n := 3) (st' := .long x2 :: .long x1 :: .ref x0 :: st) (by
    have h1 : 3 ≤ (.long x2 :: .long x1 :: .ref x0 :: st : List Value).length := by simp
    have h2 : gb_rcv 163 [.ref x0, .long x1, .long x2] p = true := by
      show (true && true && true && decide (atag p x0 = 20)) = true
      rw [h]
      rfl
    simp only [gb_stp]
    exact if_pos ⟨h1, hs, h2⟩)
theorem cl_RM_lowest {p : gb_Pi} {g : gb_Sg} {x0 : Nat} {x1 : Int64} {x2 : Int64} : gb_call 163 [.ref x0, .long x1, .long x2] p g = gb_ex 163 bk_RM_lowest_0 [.ref x0, .long x1, .null, .long x2, .null, .null, .null, .null, .null, .null, .null] [] p g := rfl
theorem xc_RM_fell {m : Nat} {r : List Instr} {ls st : List Value} {p : gb_Pi} {g : gb_Sg} {x0 : Nat} {x1 : Int32} (h : atag p x0 = 20) (hs : st.length ≤ 4) : gb_ex m (.invokeinterface 164 2 :: r) ls (.int x1 :: .ref x0 :: st) p g = (gb_call 164 [.ref x0, .int x1] p g).bind (fun w => gb_ex m r ls (psh w.1 st) w.2.1 w.2.2) :=
  gb_ex_cl (k := 164) (n := 2) (st' := .int x1 :: .ref x0 :: st) (by
    have h1 : 2 ≤ (.int x1 :: .ref x0 :: st : List Value).length := by simp
    have h2 : gb_rcv 164 [.ref x0, .int x1] p = true := by
      show (true && true && true && decide (atag p x0 = 20)) = true
      rw [h]
      rfl
    simp only [gb_stp]
    exact if_pos ⟨h1, hs, h2⟩)
theorem cl_RM_fell {p : gb_Pi} {g : gb_Sg} {x0 : Nat} {x1 : Int32} : gb_call 164 [.ref x0, .int x1] p g = gb_ex 164 bk_RM_fell_0 [.ref x0, .int x1, .null, .null] [] p g := rfl
theorem xc_RM_most {m : Nat} {r : List Instr} {ls st : List Value} {p : gb_Pi} {g : gb_Sg} {x0 : Nat} {x1 : Int32} {x2 : Int32} (h : atag p x0 = 20) (hs : st.length ≤ 4) : gb_ex m (.invokeinterface 165 3 :: r) ls (.int x2 :: .int x1 :: .ref x0 :: st) p g = (gb_call 165 [.ref x0, .int x1, .int x2] p g).bind (fun w => gb_ex m r ls (psh w.1 st) w.2.1 w.2.2) :=
  gb_ex_cl (k := 165) (n := 3) (st' := .int x2 :: .int x1 :: .ref x0 :: st) (by
    have h1 : 3 ≤ (.int x2 :: .int x1 :: .ref x0 :: st : List Value).length := by simp
    have h2 : gb_rcv 165 [.ref x0, .int x1, .int x2] p = true := by
      show (true && true && true && decide (atag p x0 = 20)) = true
      rw [h]
      rfl
    simp only [gb_stp]
    exact if_pos ⟨h1, hs, h2⟩)
theorem cl_RM_most {p : gb_Pi} {g : gb_Sg} {x0 : Nat} {x1 : Int32} {x2 : Int32} : gb_call 165 [.ref x0, .int x1, .int x2] p g = gb_ex 165 bk_RM_most_0 [.ref x0, .int x1, .int x2, .null, .null, .null, .null] [] p g := rfl
theorem xc_RM_odds {m : Nat} {r : List Instr} {ls st : List Value} {p : gb_Pi} {g : gb_Sg} {x0 : Nat} {x1 : Int32} {x2 : Int32} (h : atag p x0 = 20) (hs : st.length ≤ 4) : gb_ex m (.invokeinterface 166 3 :: r) ls (.int x2 :: .int x1 :: .ref x0 :: st) p g = (gb_call 166 [.ref x0, .int x1, .int x2] p g).bind (fun w => gb_ex m r ls (psh w.1 st) w.2.1 w.2.2) :=
  gb_ex_cl (k := 166) (n := 3) (st' := .int x2 :: .int x1 :: .ref x0 :: st) (by
    have h1 : 3 ≤ (.int x2 :: .int x1 :: .ref x0 :: st : List Value).length := by simp
    have h2 : gb_rcv 166 [.ref x0, .int x1, .int x2] p = true := by
      show (true && true && true && decide (atag p x0 = 20)) = true
      rw [h]
      rfl
    simp only [gb_stp]
    exact if_pos ⟨h1, hs, h2⟩)
theorem cl_RM_odds {p : gb_Pi} {g : gb_Sg} {x0 : Nat} {x1 : Int32} {x2 : Int32} : gb_call 166 [.ref x0, .int x1, .int x2] p g = gb_ex 166 bk_RM_odds_0 [.ref x0, .int x1, .int x2, .null, .null, .null] [] p g := rfl
theorem xc_RM_worn {m : Nat} {r : List Instr} {ls st : List Value} {p : gb_Pi} {g : gb_Sg} {x0 : Int32} {x1 : Int32} (hs : st.length ≤ 4) : gb_ex m (.invokeinterface 167 2 :: r) ls (.int x1 :: .int x0 :: st) p g = (gb_call 167 [.int x0, .int x1] p g).bind (fun w => gb_ex m r ls (psh w.1 st) w.2.1 w.2.2) :=
  gb_ex_cl (k := 167) (n := 2) (st' := .int x1 :: .int x0 :: st) (by
    have h1 : 2 ≤ (.int x1 :: .int x0 :: st : List Value).length := by simp
    have h2 : gb_rcv 167 [.int x0, .int x1] p = true := by rfl
    simp only [gb_stp]
    exact if_pos ⟨h1, hs, h2⟩)
theorem cl_RM_worn {p : gb_Pi} {g : gb_Sg} {x0 : Int32} {x1 : Int32} : gb_call 167 [.int x0, .int x1] p g = gb_ex 167 bk_RM_worn_0 [.int x0, .int x1, .null] [] p g := rfl
theorem xc_RM_isGlass {m : Nat} {r : List Instr} {ls st : List Value} {p : gb_Pi} {g : gb_Sg} {x0 : Int32} {x1 : Int32} (hs : st.length ≤ 4) : gb_ex m (.invokeinterface 168 2 :: r) ls (.int x1 :: .int x0 :: st) p g = (gb_call 168 [.int x0, .int x1] p g).bind (fun w => gb_ex m r ls (psh w.1 st) w.2.1 w.2.2) :=
  gb_ex_cl (k := 168) (n := 2) (st' := .int x1 :: .int x0 :: st) (by
    have h1 : 2 ≤ (.int x1 :: .int x0 :: st : List Value).length := by simp
    have h2 : gb_rcv 168 [.int x0, .int x1] p = true := by rfl
    simp only [gb_stp]
    exact if_pos ⟨h1, hs, h2⟩)
theorem cl_RM_isGlass {p : gb_Pi} {g : gb_Sg} {x0 : Int32} {x1 : Int32} : gb_call 168 [.int x0, .int x1] p g = gb_ex 168 bk_RM_isGlass_0 [.int x0, .int x1] [] p g := rfl
theorem xc_RM_glass {m : Nat} {r : List Instr} {ls st : List Value} {p : gb_Pi} {g : gb_Sg} {x0 : Nat} {x1 : Int32} {x2 : Int32} {x3 : Int32} (h : atag p x0 = 20) (hs : st.length ≤ 4) : gb_ex m (.invokeinterface 169 4 :: r) ls (.int x3 :: .int x2 :: .int x1 :: .ref x0 :: st) p g = (gb_call 169 [.ref x0, .int x1, .int x2, .int x3] p g).bind (fun w => gb_ex m r ls (psh w.1 st) w.2.1 w.2.2) :=
  gb_ex_cl (k := 169) (n := 4) (st' := .int x3 :: .int x2 :: .int x1 :: .ref x0 :: st) (by
    have h1 : 4 ≤ (.int x3 :: .int x2 :: .int x1 :: .ref x0 :: st : List Value).length := by simp
    have h2 : gb_rcv 169 [.ref x0, .int x1, .int x2, .int x3] p = true := by
      show (true && true && true && decide (atag p x0 = 20)) = true
      rw [h]
      rfl
    simp only [gb_stp]
    exact if_pos ⟨h1, hs, h2⟩)
theorem cl_RM_glass {p : gb_Pi} {g : gb_Sg} {x0 : Nat} {x1 : Int32} {x2 : Int32} {x3 : Int32} : gb_call 169 [.ref x0, .int x1, .int x2, .int x3] p g = gb_ex 169 bk_RM_glass_0 [.ref x0, .int x1, .int x2, .int x3, .null, .null] [] p g := rfl
theorem xc_RM_life {m : Nat} {r : List Instr} {ls st : List Value} {p : gb_Pi} {g : gb_Sg} {x0 : Nat} {x1 : Int32} {x2 : Int32} (h : atag p x0 = 20) (hs : st.length ≤ 4) : gb_ex m (.invokeinterface 170 3 :: r) ls (.int x2 :: .int x1 :: .ref x0 :: st) p g = (gb_call 170 [.ref x0, .int x1, .int x2] p g).bind (fun w => gb_ex m r ls (psh w.1 st) w.2.1 w.2.2) :=
  gb_ex_cl (k := 170) (n := 3) (st' := .int x2 :: .int x1 :: .ref x0 :: st) (by
    have h1 : 3 ≤ (.int x2 :: .int x1 :: .ref x0 :: st : List Value).length := by simp
    have h2 : gb_rcv 170 [.ref x0, .int x1, .int x2] p = true := by
      show (true && true && true && decide (atag p x0 = 20)) = true
      rw [h]
      rfl
    simp only [gb_stp]
    exact if_pos ⟨h1, hs, h2⟩)
theorem cl_RM_life {p : gb_Pi} {g : gb_Sg} {x0 : Nat} {x1 : Int32} {x2 : Int32} : gb_call 170 [.ref x0, .int x1, .int x2] p g = gb_ex 170 bk_RM_life_0 [.ref x0, .int x1, .int x2, .null, .null] [] p g := rfl
theorem xc_RM_holds {m : Nat} {r : List Instr} {ls st : List Value} {p : gb_Pi} {g : gb_Sg} {x0 : Nat} {x1 : Int32} {x2 : Int32} {x3 : Int32} {x4 : Int32} (h : atag p x0 = 20) (hs : st.length ≤ 4) : gb_ex m (.invokeinterface 171 5 :: r) ls (.int x4 :: .int x3 :: .int x2 :: .int x1 :: .ref x0 :: st) p g = (gb_call 171 [.ref x0, .int x1, .int x2, .int x3, .int x4] p g).bind (fun w => gb_ex m r ls (psh w.1 st) w.2.1 w.2.2) :=
  gb_ex_cl (k := 171) (n := 5) (st' := .int x4 :: .int x3 :: .int x2 :: .int x1 :: .ref x0 :: st) (by
    have h1 : 5 ≤ (.int x4 :: .int x3 :: .int x2 :: .int x1 :: .ref x0 :: st : List Value).length := by simp
    have h2 : gb_rcv 171 [.ref x0, .int x1, .int x2, .int x3, .int x4] p = true := by
      show (true && true && true && decide (atag p x0 = 20)) = true
      rw [h]
      rfl
    simp only [gb_stp]
    exact if_pos ⟨h1, hs, h2⟩)
theorem cl_RM_holds {p : gb_Pi} {g : gb_Sg} {x0 : Nat} {x1 : Int32} {x2 : Int32} {x3 : Int32} {x4 : Int32} : gb_call 171 [.ref x0, .int x1, .int x2, .int x3, .int x4] p g = gb_ex 171 bk_RM_holds_0 [.ref x0, .int x1, .int x2, .int x3, .int x4, .null, .null, .null, .null, .null] [] p g := rfl
theorem xc_RM_whose {m : Nat} {r : List Instr} {ls st : List Value} {p : gb_Pi} {g : gb_Sg} {x0 : Nat} {x1 : Int32} {x2 : Int32} {x3 : Int32} {x4 : Int32} (h : atag p x0 = 20) (hs : st.length ≤ 4) : gb_ex m (.invokeinterface 172 5 :: r) ls (.int x4 :: .int x3 :: .int x2 :: .int x1 :: .ref x0 :: st) p g = (gb_call 172 [.ref x0, .int x1, .int x2, .int x3, .int x4] p g).bind (fun w => gb_ex m r ls (psh w.1 st) w.2.1 w.2.2) :=
  gb_ex_cl (k := 172) (n := 5) (st' := .int x4 :: .int x3 :: .int x2 :: .int x1 :: .ref x0 :: st) (by
    have h1 : 5 ≤ (.int x4 :: .int x3 :: .int x2 :: .int x1 :: .ref x0 :: st : List Value).length := by simp
    have h2 : gb_rcv 172 [.ref x0, .int x1, .int x2, .int x3, .int x4] p = true := by
      show (true && true && true && decide (atag p x0 = 20)) = true
      rw [h]
      rfl
    simp only [gb_stp]
    exact if_pos ⟨h1, hs, h2⟩)
theorem cl_RM_whose {p : gb_Pi} {g : gb_Sg} {x0 : Nat} {x1 : Int32} {x2 : Int32} {x3 : Int32} {x4 : Int32} : gb_call 172 [.ref x0, .int x1, .int x2, .int x3, .int x4] p g = gb_ex 172 bk_RM_whose_0 [.ref x0, .int x1, .int x2, .int x3, .int x4, .null] [] p g := rfl
theorem xc_RM_two {m : Nat} {r : List Instr} {ls st : List Value} {p : gb_Pi} {g : gb_Sg} {x0 : Nat} {x1 : Int32} {x2 : Int32} {x3 : Int32} {x4 : Int32} {x5 : Int32} (h : atag p x0 = 20) (hs : st.length ≤ 4) : gb_ex m (.invokeinterface 173 6 :: r) ls (.int x5 :: .int x4 :: .int x3 :: .int x2 :: .int x1 :: .ref x0 :: st) p g = (gb_call 173 [.ref x0, .int x1, .int x2, .int x3, .int x4, .int x5] p g).bind (fun w => gb_ex m r ls (psh w.1 st) w.2.1 w.2.2) :=
  gb_ex_cl (k := 173) (n := 6) (st' := .int x5 :: .int x4 :: .int x3 :: .int x2 :: .int x1 :: .ref x0 :: st) (by
    have h1 : 6 ≤ (.int x5 :: .int x4 :: .int x3 :: .int x2 :: .int x1 :: .ref x0 :: st : List Value).length := by simp
    have h2 : gb_rcv 173 [.ref x0, .int x1, .int x2, .int x3, .int x4, .int x5] p = true := by
      show (true && true && true && decide (atag p x0 = 20)) = true
      rw [h]
      rfl
    simp only [gb_stp]
    exact if_pos ⟨h1, hs, h2⟩)
theorem cl_RM_two {p : gb_Pi} {g : gb_Sg} {x0 : Nat} {x1 : Int32} {x2 : Int32} {x3 : Int32} {x4 : Int32} {x5 : Int32} : gb_call 173 [.ref x0, .int x1, .int x2, .int x3, .int x4, .int x5] p g = gb_ex 173 bk_RM_two_0 [.ref x0, .int x1, .int x2, .int x3, .int x4, .int x5, .null, .null, .null, .null, .null] [] p g := rfl
theorem xc_RM_isTest {m : Nat} {r : List Instr} {ls st : List Value} {p : gb_Pi} {g : gb_Sg} {x0 : Int32} (hs : st.length ≤ 4) : gb_ex m (.invokeinterface 174 1 :: r) ls (.int x0 :: st) p g = (gb_call 174 [.int x0] p g).bind (fun w => gb_ex m r ls (psh w.1 st) w.2.1 w.2.2) :=
  gb_ex_cl (k := 174) (n := 1) (st' := .int x0 :: st) (by
    have h1 : 1 ≤ (.int x0 :: st : List Value).length := by simp
    have h2 : gb_rcv 174 [.int x0] p = true := by rfl
    simp only [gb_stp]
    exact if_pos ⟨h1, hs, h2⟩)
theorem cl_RM_isTest {p : gb_Pi} {g : gb_Sg} {x0 : Int32} : gb_call 174 [.int x0] p g = gb_ex 174 bk_RM_isTest_0 [.int x0] [] p g := rfl
theorem xc_RM_show {m : Nat} {r : List Instr} {ls st : List Value} {p : gb_Pi} {g : gb_Sg} {x0 : Nat} {x1 : Int32} {x2 : Int32} {x3 : Int32} (h : atag p x0 = 20) (hs : st.length ≤ 4) : gb_ex m (.invokeinterface 175 4 :: r) ls (.int x3 :: .int x2 :: .int x1 :: .ref x0 :: st) p g = (gb_call 175 [.ref x0, .int x1, .int x2, .int x3] p g).bind (fun w => gb_ex m r ls (psh w.1 st) w.2.1 w.2.2) :=
  gb_ex_cl (k := 175) (n := 4) (st' := .int x3 :: .int x2 :: .int x1 :: .ref x0 :: st) (by
    have h1 : 4 ≤ (.int x3 :: .int x2 :: .int x1 :: .ref x0 :: st : List Value).length := by simp
    have h2 : gb_rcv 175 [.ref x0, .int x1, .int x2, .int x3] p = true := by
      show (true && true && true && decide (atag p x0 = 20)) = true
      rw [h]
      rfl
    simp only [gb_stp]
    exact if_pos ⟨h1, hs, h2⟩)
theorem cl_RM_show {p : gb_Pi} {g : gb_Sg} {x0 : Nat} {x1 : Int32} {x2 : Int32} {x3 : Int32} : gb_call 175 [.ref x0, .int x1, .int x2, .int x3] p g = gb_ex 175 bk_RM_show_0 [.ref x0, .int x1, .int x2, .int x3, .null] [] p g := rfl
theorem xc_RM_cost {m : Nat} {r : List Instr} {ls st : List Value} {p : gb_Pi} {g : gb_Sg} {x0 : Nat} {x1 : Int32} {x2 : Int32} (h : atag p x0 = 20) (hs : st.length ≤ 4) : gb_ex m (.invokeinterface 176 3 :: r) ls (.int x2 :: .int x1 :: .ref x0 :: st) p g = (gb_call 176 [.ref x0, .int x1, .int x2] p g).bind (fun w => gb_ex m r ls (psh w.1 st) w.2.1 w.2.2) :=
  gb_ex_cl (k := 176) (n := 3) (st' := .int x2 :: .int x1 :: .ref x0 :: st) (by
    have h1 : 3 ≤ (.int x2 :: .int x1 :: .ref x0 :: st : List Value).length := by simp
    have h2 : gb_rcv 176 [.ref x0, .int x1, .int x2] p = true := by
      show (true && true && true && decide (atag p x0 = 20)) = true
      rw [h]
      rfl
    simp only [gb_stp]
    exact if_pos ⟨h1, hs, h2⟩)
theorem cl_RM_cost {p : gb_Pi} {g : gb_Sg} {x0 : Nat} {x1 : Int32} {x2 : Int32} : gb_call 176 [.ref x0, .int x1, .int x2] p g = gb_ex 176 bk_RM_cost_0 [.ref x0, .int x1, .int x2, .null] [] p g := rfl
theorem xc_RM_shownOf {m : Nat} {r : List Instr} {ls st : List Value} {p : gb_Pi} {g : gb_Sg} {x0 : Nat} {x1 : Int32} {x2 : Int32} {x3 : Int32} (h : atag p x0 = 20) (hs : st.length ≤ 4) : gb_ex m (.invokeinterface 177 4 :: r) ls (.int x3 :: .int x2 :: .int x1 :: .ref x0 :: st) p g = (gb_call 177 [.ref x0, .int x1, .int x2, .int x3] p g).bind (fun w => gb_ex m r ls (psh w.1 st) w.2.1 w.2.2) :=
  gb_ex_cl (k := 177) (n := 4) (st' := .int x3 :: .int x2 :: .int x1 :: .ref x0 :: st) (by
    have h1 : 4 ≤ (.int x3 :: .int x2 :: .int x1 :: .ref x0 :: st : List Value).length := by simp
    have h2 : gb_rcv 177 [.ref x0, .int x1, .int x2, .int x3] p = true := by
      show (true && true && true && decide (atag p x0 = 20)) = true
      rw [h]
      rfl
    simp only [gb_stp]
    exact if_pos ⟨h1, hs, h2⟩)
theorem cl_RM_shownOf {p : gb_Pi} {g : gb_Sg} {x0 : Nat} {x1 : Int32} {x2 : Int32} {x3 : Int32} : gb_call 177 [.ref x0, .int x1, .int x2, .int x3] p g = gb_ex 177 bk_RM_shownOf_0 [.ref x0, .int x1, .int x2, .int x3, .null, .null] [] p g := rfl
theorem xc_RM_byTest {m : Nat} {r : List Instr} {ls st : List Value} {p : gb_Pi} {g : gb_Sg} {x0 : Nat} {x1 : Int32} {x2 : Int32} (h : atag p x0 = 20) (hs : st.length ≤ 4) : gb_ex m (.invokeinterface 178 3 :: r) ls (.int x2 :: .int x1 :: .ref x0 :: st) p g = (gb_call 178 [.ref x0, .int x1, .int x2] p g).bind (fun w => gb_ex m r ls (psh w.1 st) w.2.1 w.2.2) :=
  gb_ex_cl (k := 178) (n := 3) (st' := .int x2 :: .int x1 :: .ref x0 :: st) (by
    have h1 : 3 ≤ (.int x2 :: .int x1 :: .ref x0 :: st : List Value).length := by simp
    have h2 : gb_rcv 178 [.ref x0, .int x1, .int x2] p = true := by
      show (true && true && true && decide (atag p x0 = 20)) = true
      rw [h]
      rfl
    simp only [gb_stp]
    exact if_pos ⟨h1, hs, h2⟩)
theorem cl_RM_byTest {p : gb_Pi} {g : gb_Sg} {x0 : Nat} {x1 : Int32} {x2 : Int32} : gb_call 178 [.ref x0, .int x1, .int x2] p g = gb_ex 178 bk_RM_byTest_0 [.ref x0, .int x1, .int x2, .null, .null, .null] [] p g := rfl
theorem xc_RM_parting {m : Nat} {r : List Instr} {ls st : List Value} {p : gb_Pi} {g : gb_Sg} {x0 : Nat} {x1 : Int32} {x2 : Int32} (h : atag p x0 = 20) (hs : st.length ≤ 4) : gb_ex m (.invokeinterface 179 3 :: r) ls (.int x2 :: .int x1 :: .ref x0 :: st) p g = (gb_call 179 [.ref x0, .int x1, .int x2] p g).bind (fun w => gb_ex m r ls (psh w.1 st) w.2.1 w.2.2) :=
  gb_ex_cl (k := 179) (n := 3) (st' := .int x2 :: .int x1 :: .ref x0 :: st) (by
    have h1 : 3 ≤ (.int x2 :: .int x1 :: .ref x0 :: st : List Value).length := by simp
    have h2 : gb_rcv 179 [.ref x0, .int x1, .int x2] p = true := by
      show (true && true && true && decide (atag p x0 = 20)) = true
      rw [h]
      rfl
    simp only [gb_stp]
    exact if_pos ⟨h1, hs, h2⟩)
theorem cl_RM_parting {p : gb_Pi} {g : gb_Sg} {x0 : Nat} {x1 : Int32} {x2 : Int32} : gb_call 179 [.ref x0, .int x1, .int x2] p g = gb_ex 179 bk_RM_parting_0 [.ref x0, .int x1, .int x2, .null, .null, .null, .null] [] p g := rfl
theorem xc_RM_shown {m : Nat} {r : List Instr} {ls st : List Value} {p : gb_Pi} {g : gb_Sg} {x0 : Nat} {x1 : Int32} {x2 : Int32} {x3 : Int32} (h : atag p x0 = 20) (hs : st.length ≤ 4) : gb_ex m (.invokeinterface 180 4 :: r) ls (.int x3 :: .int x2 :: .int x1 :: .ref x0 :: st) p g = (gb_call 180 [.ref x0, .int x1, .int x2, .int x3] p g).bind (fun w => gb_ex m r ls (psh w.1 st) w.2.1 w.2.2) :=
  gb_ex_cl (k := 180) (n := 4) (st' := .int x3 :: .int x2 :: .int x1 :: .ref x0 :: st) (by
    have h1 : 4 ≤ (.int x3 :: .int x2 :: .int x1 :: .ref x0 :: st : List Value).length := by simp
    have h2 : gb_rcv 180 [.ref x0, .int x1, .int x2, .int x3] p = true := by
      show (true && true && true && decide (atag p x0 = 20)) = true
      rw [h]
      rfl
    simp only [gb_stp]
    exact if_pos ⟨h1, hs, h2⟩)
theorem cl_RM_shown {p : gb_Pi} {g : gb_Sg} {x0 : Nat} {x1 : Int32} {x2 : Int32} {x3 : Int32} : gb_call 180 [.ref x0, .int x1, .int x2, .int x3] p g = gb_ex 180 bk_RM_shown_0 [.ref x0, .int x1, .int x2, .int x3] [] p g := rfl
theorem xc_RM_copies {m : Nat} {r : List Instr} {ls st : List Value} {p : gb_Pi} {g : gb_Sg} {x0 : Nat} {x1 : Int32} {x2 : Int32} (h : atag p x0 = 20) (hs : st.length ≤ 4) : gb_ex m (.invokeinterface 181 3 :: r) ls (.int x2 :: .int x1 :: .ref x0 :: st) p g = (gb_call 181 [.ref x0, .int x1, .int x2] p g).bind (fun w => gb_ex m r ls (psh w.1 st) w.2.1 w.2.2) :=
  gb_ex_cl (k := 181) (n := 3) (st' := .int x2 :: .int x1 :: .ref x0 :: st) (by
    have h1 : 3 ≤ (.int x2 :: .int x1 :: .ref x0 :: st : List Value).length := by simp
    have h2 : gb_rcv 181 [.ref x0, .int x1, .int x2] p = true := by
      show (true && true && true && decide (atag p x0 = 20)) = true
      rw [h]
      rfl
    simp only [gb_stp]
    exact if_pos ⟨h1, hs, h2⟩)
theorem cl_RM_copies {p : gb_Pi} {g : gb_Sg} {x0 : Nat} {x1 : Int32} {x2 : Int32} : gb_call 181 [.ref x0, .int x1, .int x2] p g = gb_ex 181 bk_RM_copies_0 [.ref x0, .int x1, .int x2, .null] [] p g := rfl
theorem xc_RM_keep {m : Nat} {r : List Instr} {ls st : List Value} {p : gb_Pi} {g : gb_Sg} {x0 : Nat} (h : atag p x0 = 20) (hs : st.length ≤ 4) : gb_ex m (.invokeinterface 182 1 :: r) ls (.ref x0 :: st) p g = (gb_call 182 [.ref x0] p g).bind (fun w => gb_ex m r ls (psh w.1 st) w.2.1 w.2.2) :=
  gb_ex_cl (k := 182) (n := 1) (st' := .ref x0 :: st) (by
    have h1 : 1 ≤ (.ref x0 :: st : List Value).length := by simp
    have h2 : gb_rcv 182 [.ref x0] p = true := by
      show (true && true && true && decide (atag p x0 = 20)) = true
      rw [h]
      rfl
    simp only [gb_stp]
    exact if_pos ⟨h1, hs, h2⟩)
theorem cl_RM_keep {p : gb_Pi} {g : gb_Sg} {x0 : Nat} : gb_call 182 [.ref x0] p g = gb_ex 182 bk_RM_keep_0 [.ref x0] [] p g := rfl
theorem xc_RM_back {m : Nat} {r : List Instr} {ls st : List Value} {p : gb_Pi} {g : gb_Sg} {x0 : Nat} (h : atag p x0 = 20) (hs : st.length ≤ 4) : gb_ex m (.invokeinterface 183 1 :: r) ls (.ref x0 :: st) p g = (gb_call 183 [.ref x0] p g).bind (fun w => gb_ex m r ls (psh w.1 st) w.2.1 w.2.2) :=
  gb_ex_cl (k := 183) (n := 1) (st' := .ref x0 :: st) (by
    have h1 : 1 ≤ (.ref x0 :: st : List Value).length := by simp
    have h2 : gb_rcv 183 [.ref x0] p = true := by
      show (true && true && true && decide (atag p x0 = 20)) = true
      rw [h]
      rfl
    simp only [gb_stp]
    exact if_pos ⟨h1, hs, h2⟩)
theorem cl_RM_back {p : gb_Pi} {g : gb_Sg} {x0 : Nat} : gb_call 183 [.ref x0] p g = gb_ex 183 bk_RM_back_0 [.ref x0] [] p g := rfl
theorem xc_RM_count {m : Nat} {r : List Instr} {ls st : List Value} {p : gb_Pi} {g : gb_Sg} {x0 : Nat} {x1 : Int32} (h : atag p x0 = 20) (hs : st.length ≤ 4) : gb_ex m (.invokeinterface 184 2 :: r) ls (.int x1 :: .ref x0 :: st) p g = (gb_call 184 [.ref x0, .int x1] p g).bind (fun w => gb_ex m r ls (psh w.1 st) w.2.1 w.2.2) :=
  gb_ex_cl (k := 184) (n := 2) (st' := .int x1 :: .ref x0 :: st) (by
    have h1 : 2 ≤ (.int x1 :: .ref x0 :: st : List Value).length := by simp
    have h2 : gb_rcv 184 [.ref x0, .int x1] p = true := by
      show (true && true && true && decide (atag p x0 = 20)) = true
      rw [h]
      rfl
    simp only [gb_stp]
    exact if_pos ⟨h1, hs, h2⟩)
theorem cl_RM_count {p : gb_Pi} {g : gb_Sg} {x0 : Nat} {x1 : Int32} : gb_call 184 [.ref x0, .int x1] p g = gb_ex 184 bk_RM_count_0 [.ref x0, .int x1] [] p g := rfl
theorem xc_JI_bitCount_0f7a4 {m : Nat} {r : List Instr} {ls st : List Value} {p : gb_Pi} {g : gb_Sg} {x0 : Int32} (hs : st.length ≤ 4) : gb_ex m (.invokeinterface 185 1 :: r) ls (.int x0 :: st) p g = (gb_call 185 [.int x0] p g).bind (fun w => gb_ex m r ls (psh w.1 st) w.2.1 w.2.2) :=
  gb_ex_cl (k := 185) (n := 1) (st' := .int x0 :: st) (by
    have h1 : 1 ≤ (.int x0 :: st : List Value).length := by simp
    have h2 : gb_rcv 185 [.int x0] p = true := by rfl
    simp only [gb_stp]
    exact if_pos ⟨h1, hs, h2⟩)
theorem cl_JI_bitCount_0f7a4 {p : gb_Pi} {g : gb_Sg} {x0 : Int32} : gb_call 185 [.int x0] p g = gb_ex 185 bk_JI_bitCount_0f7a4_0 [.int x0] [] p g := rfl
theorem xc_JA_fill_d0a16 {m : Nat} {r : List Instr} {ls st : List Value} {p : gb_Pi} {g : gb_Sg} {x0 : Nat} {x1 : Int64} (hs : st.length ≤ 4) : gb_ex m (.invokeinterface 186 2 :: r) ls (.long x1 :: .ref x0 :: st) p g = (gb_call 186 [.ref x0, .long x1] p g).bind (fun w => gb_ex m r ls (psh w.1 st) w.2.1 w.2.2) :=
  gb_ex_cl (k := 186) (n := 2) (st' := .long x1 :: .ref x0 :: st) (by
    have h1 : 2 ≤ (.long x1 :: .ref x0 :: st : List Value).length := by simp
    have h2 : gb_rcv 186 [.ref x0, .long x1] p = true := by rfl
    simp only [gb_stp]
    exact if_pos ⟨h1, hs, h2⟩)
theorem cl_JA_fill_d0a16 {p : gb_Pi} {g : gb_Sg} {x0 : Nat} {x1 : Int64} : gb_call 186 [.ref x0, .long x1] p g = gb_ex 186 bk_JA_fill_d0a16_0 [.ref x0, .long x1, .null, .null, .null] [] p g := rfl
theorem xc_JA_fill_53178 {m : Nat} {r : List Instr} {ls st : List Value} {p : gb_Pi} {g : gb_Sg} {x0 : Nat} {x1 : Int32} (hs : st.length ≤ 4) : gb_ex m (.invokeinterface 187 2 :: r) ls (.int x1 :: .ref x0 :: st) p g = (gb_call 187 [.ref x0, .int x1] p g).bind (fun w => gb_ex m r ls (psh w.1 st) w.2.1 w.2.2) :=
  gb_ex_cl (k := 187) (n := 2) (st' := .int x1 :: .ref x0 :: st) (by
    have h1 : 2 ≤ (.int x1 :: .ref x0 :: st : List Value).length := by simp
    have h2 : gb_rcv 187 [.ref x0, .int x1] p = true := by rfl
    simp only [gb_stp]
    exact if_pos ⟨h1, hs, h2⟩)
theorem cl_JA_fill_53178 {p : gb_Pi} {g : gb_Sg} {x0 : Nat} {x1 : Int32} : gb_call 187 [.ref x0, .int x1] p g = gb_ex 187 bk_JA_fill_53178_0 [.ref x0, .int x1, .null, .null] [] p g := rfl
theorem tg_GL_law_10 : gb_tgt 0 10 = bk_GL_law_10 := rfl
theorem tg_GL_law_22 : gb_tgt 0 22 = bk_GL_law_22 := rfl
theorem tg_GL_law_73 : gb_tgt 0 73 = bk_GL_law_73 := rfl
theorem tg_GL_law_80 : gb_tgt 0 80 = bk_GL_law_80 := rfl
theorem tg_GL_law_89 : gb_tgt 0 89 = bk_GL_law_89 := rfl
theorem tg_GL_law_90 : gb_tgt 0 90 = bk_GL_law_90 := rfl
theorem tg_GL_law_100 : gb_tgt 0 100 = bk_GL_law_100 := rfl
theorem tg_GL_law_101 : gb_tgt 0 101 = bk_GL_law_101 := rfl
theorem tg_GL_law_105 : gb_tgt 0 105 = bk_GL_law_105 := rfl
theorem tg_GL_law_114 : gb_tgt 0 114 = bk_GL_law_114 := rfl
theorem tg_GL_law_115 : gb_tgt 0 115 = bk_GL_law_115 := rfl
theorem tg_GL_law_125 : gb_tgt 0 125 = bk_GL_law_125 := rfl
theorem tg_GL_law_126 : gb_tgt 0 126 = bk_GL_law_126 := rfl
theorem tg_GL_law_130 : gb_tgt 0 130 = bk_GL_law_130 := rfl
set_option maxRecDepth 100000 in
theorem tg_GL_law_187 : gb_tgt 0 187 = bk_GL_law_187 := rfl
set_option maxRecDepth 100000 in
theorem tg_GL_law_214 : gb_tgt 0 214 = bk_GL_law_214 := rfl
set_option maxRecDepth 100000 in
theorem tg_GL_law_261 : gb_tgt 0 261 = bk_GL_law_261 := rfl
set_option maxRecDepth 100000 in
theorem tg_GL_law_298 : gb_tgt 0 298 = bk_GL_law_298 := rfl
set_option maxRecDepth 100000 in
theorem tg_GL_law_315 : gb_tgt 0 315 = bk_GL_law_315 := rfl
set_option maxRecDepth 100000 in
theorem tg_GL_law_332 : gb_tgt 0 332 = bk_GL_law_332 := rfl
set_option maxRecDepth 100000 in
theorem tg_GL_law_361 : gb_tgt 0 361 = bk_GL_law_361 := rfl
set_option maxRecDepth 100000 in
theorem tg_GL_law_362 : gb_tgt 0 362 = bk_GL_law_362 := rfl
set_option maxRecDepth 100000 in
theorem tg_GL_law_392 : gb_tgt 0 392 = bk_GL_law_392 := rfl
set_option maxRecDepth 100000 in
theorem tg_GL_law_393 : gb_tgt 0 393 = bk_GL_law_393 := rfl
set_option maxRecDepth 100000 in
theorem tg_GL_law_397 : gb_tgt 0 397 = bk_GL_law_397 := rfl
set_option maxRecDepth 100000 in
theorem tg_GL_law_434 : gb_tgt 0 434 = bk_GL_law_434 := rfl
set_option maxRecDepth 100000 in
theorem tg_GL_law_451 : gb_tgt 0 451 = bk_GL_law_451 := rfl
set_option maxRecDepth 100000 in
theorem tg_GL_law_468 : gb_tgt 0 468 = bk_GL_law_468 := rfl
set_option maxRecDepth 100000 in
theorem tg_GL_law_516 : gb_tgt 0 516 = bk_GL_law_516 := rfl
set_option maxRecDepth 100000 in
theorem tg_GL_law_564 : gb_tgt 0 564 = bk_GL_law_564 := rfl
set_option maxRecDepth 100000 in
theorem tg_GL_law_622 : gb_tgt 0 622 = bk_GL_law_622 := rfl
set_option maxRecDepth 100000 in
theorem tg_GL_law_639 : gb_tgt 0 639 = bk_GL_law_639 := rfl
set_option maxRecDepth 100000 in
theorem tg_GL_law_656 : gb_tgt 0 656 = bk_GL_law_656 := rfl
set_option maxRecDepth 100000 in
theorem tg_GL_law_683 : gb_tgt 0 683 = bk_GL_law_683 := rfl
set_option maxRecDepth 100000 in
theorem tg_GL_law_720 : gb_tgt 0 720 = bk_GL_law_720 := rfl
set_option maxRecDepth 100000 in
theorem tg_GL_law_747 : gb_tgt 0 747 = bk_GL_law_747 := rfl
set_option maxRecDepth 100000 in
theorem tg_GL_law_794 : gb_tgt 0 794 = bk_GL_law_794 := rfl
set_option maxRecDepth 100000 in
theorem tg_GL_law_851 : gb_tgt 0 851 = bk_GL_law_851 := rfl
set_option maxRecDepth 100000 in
theorem tg_GL_law_888 : gb_tgt 0 888 = bk_GL_law_888 := rfl
set_option maxRecDepth 100000 in
theorem tg_GL_law_915 : gb_tgt 0 915 = bk_GL_law_915 := rfl
set_option maxRecDepth 100000 in
theorem tg_GL_law_942 : gb_tgt 0 942 = bk_GL_law_942 := rfl
set_option maxRecDepth 100000 in
theorem tg_GL_law_979 : gb_tgt 0 979 = bk_GL_law_979 := rfl
set_option maxRecDepth 100000 in
theorem tg_GL_law_986 : gb_tgt 0 986 = bk_GL_law_986 := rfl
set_option maxRecDepth 100000 in
theorem tg_GL_law_993 : gb_tgt 0 993 = bk_GL_law_993 := rfl
set_option maxRecDepth 100000 in
theorem tg_GL_law_1010 : gb_tgt 0 1010 = bk_GL_law_1010 := rfl
set_option maxRecDepth 100000 in
theorem tg_GL_law_1012 : gb_tgt 0 1012 = bk_GL_law_1012 := rfl
theorem tg_BE_readFrom_17 : gb_tgt 3 17 = bk_BE_readFrom_17 := rfl
theorem tg_BE_readFrom_32 : gb_tgt 3 32 = bk_BE_readFrom_32 := rfl
theorem tg_BE_readFrom_34 : gb_tgt 3 34 = bk_BE_readFrom_34 := rfl
theorem tg_BE_readItem_3 : gb_tgt 4 3 = bk_BE_readItem_3 := rfl
theorem tg_BE_readItem_13 : gb_tgt 4 13 = bk_BE_readItem_13 := rfl
theorem tg_BE_readItem_14 : gb_tgt 4 14 = bk_BE_readItem_14 := rfl
theorem tg_BE_readItem_15 : gb_tgt 4 15 = bk_BE_readItem_15 := rfl
theorem tg_BE_readItem_25 : gb_tgt 4 25 = bk_BE_readItem_25 := rfl
theorem tg_BE_readItem_26 : gb_tgt 4 26 = bk_BE_readItem_26 := rfl
theorem tg_BE_readItem_27 : gb_tgt 4 27 = bk_BE_readItem_27 := rfl
theorem tg_BE_readItem_37 : gb_tgt 4 37 = bk_BE_readItem_37 := rfl
theorem tg_BE_readItem_38 : gb_tgt 4 38 = bk_BE_readItem_38 := rfl
theorem tg_BE_readItem_39 : gb_tgt 4 39 = bk_BE_readItem_39 := rfl
theorem tg_BE_readItem_49 : gb_tgt 4 49 = bk_BE_readItem_49 := rfl
theorem tg_BE_readItem_50 : gb_tgt 4 50 = bk_BE_readItem_50 := rfl
theorem tg_BE_readItem_51 : gb_tgt 4 51 = bk_BE_readItem_51 := rfl
theorem tg_BE_readItem_61 : gb_tgt 4 61 = bk_BE_readItem_61 := rfl
theorem tg_BE_readItem_62 : gb_tgt 4 62 = bk_BE_readItem_62 := rfl
theorem tg_BE_readItem_63 : gb_tgt 4 63 = bk_BE_readItem_63 := rfl
theorem tg_BE_readNumbers_2 : gb_tgt 5 2 = bk_BE_readNumbers_2 := rfl
theorem tg_BE_readNumbers_16 : gb_tgt 5 16 = bk_BE_readNumbers_16 := rfl
theorem tg_BE_readNumbers_30 : gb_tgt 5 30 = bk_BE_readNumbers_30 := rfl
theorem tg_BE_readNumbers_31 : gb_tgt 5 31 = bk_BE_readNumbers_31 := rfl
theorem tg_BE_readNumbers_35 : gb_tgt 5 35 = bk_BE_readNumbers_35 := rfl
theorem tg_BE_readNumbers_37 : gb_tgt 5 37 = bk_BE_readNumbers_37 := rfl
theorem tg_BE_addCells_10 : gb_tgt 6 10 = bk_BE_addCells_10 := rfl
theorem tg_BE_addTide_21 : gb_tgt 7 21 = bk_BE_addTide_21 := rfl
theorem tg_BE_addTide_23 : gb_tgt 7 23 = bk_BE_addTide_23 := rfl
theorem tg_BE_addWind_27 : gb_tgt 8 27 = bk_BE_addWind_27 := rfl
theorem tg_BE_addWind_29 : gb_tgt 8 29 = bk_BE_addWind_29 := rfl
theorem tg_BE_addKind_37 : gb_tgt 9 37 = bk_BE_addKind_37 := rfl
theorem tg_BE_addKind_39 : gb_tgt 9 39 = bk_BE_addKind_39 := rfl
theorem tg_BE_addLoss_59 : gb_tgt 10 59 = bk_BE_addLoss_59 := rfl
theorem tg_BE_addLoss_61 : gb_tgt 10 61 = bk_BE_addLoss_61 := rfl
theorem tg_LA_forget_2 : gb_tgt 12 2 = bk_LA_forget_2 := rfl
theorem tg_LA_forget_12 : gb_tgt 12 12 = bk_LA_forget_12 := rfl
theorem tg_LA_release_28 : gb_tgt 13 28 = bk_LA_release_28 := rfl
theorem tg_LA_release_31 : gb_tgt 13 31 = bk_LA_release_31 := rfl
theorem tg_LA_release_61 : gb_tgt 13 61 = bk_LA_release_61 := rfl
theorem tg_LA_release_83 : gb_tgt 13 83 = bk_LA_release_83 := rfl
theorem tg_LA_release_99 : gb_tgt 13 99 = bk_LA_release_99 := rfl
theorem tg_LA_release_100 : gb_tgt 13 100 = bk_LA_release_100 := rfl
theorem tg_LA_release_113 : gb_tgt 13 113 = bk_LA_release_113 := rfl
theorem tg_LA_release_115 : gb_tgt 13 115 = bk_LA_release_115 := rfl
theorem tg_LA_settle_6 : gb_tgt 14 6 = bk_LA_settle_6 := rfl
theorem tg_LA_settle_18 : gb_tgt 14 18 = bk_LA_settle_18 := rfl
theorem tg_LA_settle_29 : gb_tgt 14 29 = bk_LA_settle_29 := rfl
theorem tg_LA_settle_68 : gb_tgt 14 68 = bk_LA_settle_68 := rfl
theorem tg_LA_settle_70 : gb_tgt 14 70 = bk_LA_settle_70 := rfl
theorem tg_LA_settle_72 : gb_tgt 14 72 = bk_LA_settle_72 := rfl
theorem tg_LA_howMany_4 : gb_tgt 15 4 = bk_LA_howMany_4 := rfl
theorem tg_LA_howMany_29 : gb_tgt 15 29 = bk_LA_howMany_29 := rfl
theorem tg_LA_howMany_31 : gb_tgt 15 31 = bk_LA_howMany_31 := rfl
theorem tg_LW_readFrom_8 : gb_tgt 17 8 = bk_LW_readFrom_8 := rfl
theorem tg_LW_readFrom_29 : gb_tgt 17 29 = bk_LW_readFrom_29 := rfl
theorem tg_LW_readFrom_31 : gb_tgt 17 31 = bk_LW_readFrom_31 := rfl
theorem tg_LW_readFrom_39 : gb_tgt 17 39 = bk_LW_readFrom_39 := rfl
theorem tg_LW_readConditions_12 : gb_tgt 18 12 = bk_LW_readConditions_12 := rfl
theorem tg_LW_readConditions_14 : gb_tgt 18 14 = bk_LW_readConditions_14 := rfl
theorem tg_LW_readConditions_24 : gb_tgt 18 24 = bk_LW_readConditions_24 := rfl
theorem tg_LW_readConditions_38 : gb_tgt 18 38 = bk_LW_readConditions_38 := rfl
theorem tg_LW_readConditions_44 : gb_tgt 18 44 = bk_LW_readConditions_44 := rfl
theorem tg_LW_readConditions_46 : gb_tgt 18 46 = bk_LW_readConditions_46 := rfl
theorem tg_LW_readCondition_18 : gb_tgt 19 18 = bk_LW_readCondition_18 := rfl
theorem tg_LW_readCondition_20 : gb_tgt 19 20 = bk_LW_readCondition_20 := rfl
theorem tg_LW_readCondition_21 : gb_tgt 19 21 = bk_LW_readCondition_21 := rfl
theorem tg_LW_readCondition_30 : gb_tgt 19 30 = bk_LW_readCondition_30 := rfl
theorem tg_LW_readCondition_34 : gb_tgt 19 34 = bk_LW_readCondition_34 := rfl
theorem tg_LW_readCondition_36 : gb_tgt 19 36 = bk_LW_readCondition_36 := rfl
theorem tg_LW_readOutcome_12 : gb_tgt 20 12 = bk_LW_readOutcome_12 := rfl
theorem tg_LW_readOutcome_17 : gb_tgt 20 17 = bk_LW_readOutcome_17 := rfl
theorem tg_LW_readOutcome_18 : gb_tgt 20 18 = bk_LW_readOutcome_18 := rfl
theorem tg_LW_readOutcome_28 : gb_tgt 20 28 = bk_LW_readOutcome_28 := rfl
theorem tg_LW_readOutcome_32 : gb_tgt 20 32 = bk_LW_readOutcome_32 := rfl
theorem tg_LW_readOutcome_34 : gb_tgt 20 34 = bk_LW_readOutcome_34 := rfl
theorem tg_LW_readOutcome_53 : gb_tgt 20 53 = bk_LW_readOutcome_53 := rfl
theorem tg_LW_readOutcome_55 : gb_tgt 20 55 = bk_LW_readOutcome_55 := rfl
theorem tg_LW_firstThatHolds_2 : gb_tgt 21 2 = bk_LW_firstThatHolds_2 := rfl
theorem tg_LW_firstThatHolds_10 : gb_tgt 21 10 = bk_LW_firstThatHolds_10 := rfl
theorem tg_LW_firstThatHolds_49 : gb_tgt 21 49 = bk_LW_firstThatHolds_49 := rfl
theorem tg_LW_firstThatHolds_52 : gb_tgt 21 52 = bk_LW_firstThatHolds_52 := rfl
theorem tg_LW_firstThatHolds_54 : gb_tgt 21 54 = bk_LW_firstThatHolds_54 := rfl
theorem tg_LW_firstThatHolds_55 : gb_tgt 21 55 = bk_LW_firstThatHolds_55 := rfl
theorem tg_LW_firstThatHolds_58 : gb_tgt 21 58 = bk_LW_firstThatHolds_58 := rfl
theorem tg_LW_firstThatHolds_62 : gb_tgt 21 62 = bk_LW_firstThatHolds_62 := rfl
theorem tg_LW_firstThatHolds_64 : gb_tgt 21 64 = bk_LW_firstThatHolds_64 := rfl
theorem tg_LW_valueOf_2 : gb_tgt 22 2 = bk_LW_valueOf_2 := rfl
theorem tg_LW_valueOf_4 : gb_tgt 22 4 = bk_LW_valueOf_4 := rfl
theorem tg_LW_valueOf_6 : gb_tgt 22 6 = bk_LW_valueOf_6 := rfl
theorem tg_LW_valueOf_8 : gb_tgt 22 8 = bk_LW_valueOf_8 := rfl
theorem tg_MA_solve_2 : gb_tgt 24 2 = bk_MA_solve_2 := rfl
theorem tg_MA_solve_21 : gb_tgt 24 21 = bk_MA_solve_21 := rfl
theorem tg_MA_solve_23 : gb_tgt 24 23 = bk_MA_solve_23 := rfl
theorem tg_MA_solve_24 : gb_tgt 24 24 = bk_MA_solve_24 := rfl
theorem tg_MA_solve_27 : gb_tgt 24 27 = bk_MA_solve_27 := rfl
theorem tg_MA_lowestFor_11 : gb_tgt 25 11 = bk_MA_lowestFor_11 := rfl
theorem tg_MA_lowestFor_32 : gb_tgt 25 32 = bk_MA_lowestFor_32 := rfl
theorem tg_MA_lowestFor_34 : gb_tgt 25 34 = bk_MA_lowestFor_34 := rfl
theorem tg_MA_choiceOf_6 : gb_tgt 26 6 = bk_MA_choiceOf_6 := rfl
theorem tg_MA_choiceOf_18 : gb_tgt 26 18 = bk_MA_choiceOf_18 := rfl
theorem tg_MA_choiceOf_26 : gb_tgt 26 26 = bk_MA_choiceOf_26 := rfl
theorem tg_OU_readReports_2 : gb_tgt 28 2 = bk_OU_readReports_2 := rfl
theorem tg_OU_readReports_13 : gb_tgt 28 13 = bk_OU_readReports_13 := rfl
theorem tg_OU_readReports_15 : gb_tgt 28 15 = bk_OU_readReports_15 := rfl
theorem tg_OU_readReports_60 : gb_tgt 28 60 = bk_OU_readReports_60 := rfl
theorem tg_OU_readReports_62 : gb_tgt 28 62 = bk_OU_readReports_62 := rfl
theorem tg_OU_weigh_25 : gb_tgt 29 25 = bk_OU_weigh_25 := rfl
theorem tg_OU_weigh_57 : gb_tgt 29 57 = bk_OU_weigh_57 := rfl
theorem tg_OU_weigh_83 : gb_tgt 29 83 = bk_OU_weigh_83 := rfl
theorem tg_OU_weigh_85 : gb_tgt 29 85 = bk_OU_weigh_85 := rfl
theorem tg_OU_sumOver_4 : gb_tgt 30 4 = bk_OU_sumOver_4 := rfl
theorem tg_OU_sumOver_28 : gb_tgt 30 28 = bk_OU_sumOver_28 := rfl
theorem tg_OU_sumOver_46 : gb_tgt 30 46 = bk_OU_sumOver_46 := rfl
theorem tg_OU_sumOver_64 : gb_tgt 30 64 = bk_OU_sumOver_64 := rfl
theorem tg_OU_sumOver_66 : gb_tgt 30 66 = bk_OU_sumOver_66 := rfl
theorem tg_OU_weighStretches_2 : gb_tgt 31 2 = bk_OU_weighStretches_2 := rfl
theorem tg_OU_weighStretches_24 : gb_tgt 31 24 = bk_OU_weighStretches_24 := rfl
theorem tg_OU_bestStretch_4 : gb_tgt 32 4 = bk_OU_bestStretch_4 := rfl
theorem tg_OU_bestStretch_22 : gb_tgt 32 22 = bk_OU_bestStretch_22 := rfl
theorem tg_OU_bestStretch_24 : gb_tgt 32 24 = bk_OU_bestStretch_24 := rfl
theorem tg_OU_joinStretches_2 : gb_tgt 33 2 = bk_OU_joinStretches_2 := rfl
theorem tg_OU_joinStretches_18 : gb_tgt 33 18 = bk_OU_joinStretches_18 := rfl
theorem tg_OU_joinStretches_42 : gb_tgt 33 42 = bk_OU_joinStretches_42 := rfl
theorem tg_OU_joinStretches_44 : gb_tgt 33 44 = bk_OU_joinStretches_44 := rfl
theorem tg_OU_sumFrom_17 : gb_tgt 34 17 = bk_OU_sumFrom_17 := rfl
theorem tg_OU_sumFrom_23 : gb_tgt 34 23 = bk_OU_sumFrom_23 := rfl
theorem tg_OU_beginOf_4 : gb_tgt 35 4 = bk_OU_beginOf_4 := rfl
theorem tg_OU_beginOf_19 : gb_tgt 35 19 = bk_OU_beginOf_19 := rfl
theorem tg_OU_beginOf_20 : gb_tgt 35 20 = bk_OU_beginOf_20 := rfl
theorem tg_OU_beginOf_27 : gb_tgt 35 27 = bk_OU_beginOf_27 := rfl
theorem tg_OU_beginOf_34 : gb_tgt 35 34 = bk_OU_beginOf_34 := rfl
theorem tg_OU_beginOf_49 : gb_tgt 35 49 = bk_OU_beginOf_49 := rfl
theorem tg_OU_beginOf_51 : gb_tgt 35 51 = bk_OU_beginOf_51 := rfl
theorem tg_SC_append_4 : gb_tgt 37 4 = bk_SC_append_4 := rfl
theorem tg_SC_append_30 : gb_tgt 37 30 = bk_SC_append_30 := rfl
theorem tg_SC_hasMore_7 : gb_tgt 38 7 = bk_SC_hasMore_7 := rfl
theorem tg_SC_hasMore_8 : gb_tgt 38 8 = bk_SC_hasMore_8 := rfl
theorem tg_SC_peek_17 : gb_tgt 39 17 = bk_SC_peek_17 := rfl
theorem tg_SC_peek_18 : gb_tgt 39 18 = bk_SC_peek_18 := rfl
theorem tg_SC_take_6 : gb_tgt 41 6 = bk_SC_take_6 := rfl
theorem tg_SC_takeNumber_8 : gb_tgt 42 8 = bk_SC_takeNumber_8 := rfl
theorem tg_SC_takeNumber_9 : gb_tgt 42 9 = bk_SC_takeNumber_9 := rfl
theorem tg_SC_takeNumber_18 : gb_tgt 42 18 = bk_SC_takeNumber_18 := rfl
theorem tg_SC_takeNumber_47 : gb_tgt 42 47 = bk_SC_takeNumber_47 := rfl
theorem tg_SC_takeNumber_54 : gb_tgt 42 54 = bk_SC_takeNumber_54 := rfl
theorem tg_SC_takeNumber_56 : gb_tgt 42 56 = bk_SC_takeNumber_56 := rfl
theorem tg_SC_takeNumber_63 : gb_tgt 42 63 = bk_SC_takeNumber_63 := rfl
theorem tg_SC_takeNumber_65 : gb_tgt 42 65 = bk_SC_takeNumber_65 := rfl
theorem tg_SH_sawBy_2 : gb_tgt 49 2 = bk_SH_sawBy_2 := rfl
theorem tg_SH_sawBy_31 : gb_tgt 49 31 = bk_SH_sawBy_31 := rfl
theorem tg_SH_sawBy_33 : gb_tgt 49 33 = bk_SH_sawBy_33 := rfl
theorem tg_SH_sawNoneFrom_2 : gb_tgt 50 2 = bk_SH_sawNoneFrom_2 := rfl
theorem tg_SH_sawNoneFrom_37 : gb_tgt 50 37 = bk_SH_sawNoneFrom_37 := rfl
theorem tg_SH_sawNoneFrom_39 : gb_tgt 50 39 = bk_SH_sawNoneFrom_39 := rfl
theorem tg_SH_hasNumber_2 : gb_tgt 51 2 = bk_SH_hasNumber_2 := rfl
theorem tg_SH_hasNumber_14 : gb_tgt 51 14 = bk_SH_hasNumber_14 := rfl
theorem tg_SH_hasNumber_16 : gb_tgt 51 16 = bk_SH_hasNumber_16 := rfl
theorem tg_SH_greatestNumber_4 : gb_tgt 53 4 = bk_SH_greatestNumber_4 := rfl
theorem tg_SH_greatestNumber_17 : gb_tgt 53 17 = bk_SH_greatestNumber_17 := rfl
theorem tg_SU_init_22 : gb_tgt 54 22 = bk_SU_init_22 := rfl
theorem tg_SU_init_39 : gb_tgt 54 39 = bk_SU_init_39 := rfl
theorem tg_SU_solve_2 : gb_tgt 57 2 = bk_SU_solve_2 := rfl
theorem tg_SU_solve_23 : gb_tgt 57 23 = bk_SU_solve_23 := rfl
theorem tg_SU_solve_26 : gb_tgt 57 26 = bk_SU_solve_26 := rfl
theorem tg_SU_solve_27 : gb_tgt 57 27 = bk_SU_solve_27 := rfl
theorem tg_SU_solve_29 : gb_tgt 57 29 = bk_SU_solve_29 := rfl
theorem tg_SU_leastCost_4 : gb_tgt 58 4 = bk_SU_leastCost_4 := rfl
theorem tg_SU_leastCost_16 : gb_tgt 58 16 = bk_SU_leastCost_16 := rfl
theorem tg_SU_costThrough_4 : gb_tgt 59 4 = bk_SU_costThrough_4 := rfl
theorem tg_SU_costThrough_18 : gb_tgt 59 18 = bk_SU_costThrough_18 := rfl
theorem tg_SU_costThrough_27 : gb_tgt 59 27 = bk_SU_costThrough_27 := rfl
theorem tg_SU_costThrough_29 : gb_tgt 59 29 = bk_SU_costThrough_29 := rfl
theorem tg_SU_costThrough_34 : gb_tgt 59 34 = bk_SU_costThrough_34 := rfl
theorem tg_SU_costThrough_40 : gb_tgt 59 40 = bk_SU_costThrough_40 := rfl
theorem tg_SU_firstTest_2 : gb_tgt 60 2 = bk_SU_firstTest_2 := rfl
theorem tg_SU_firstTest_16 : gb_tgt 60 16 = bk_SU_firstTest_16 := rfl
theorem tg_SU_firstTest_18 : gb_tgt 60 18 = bk_SU_firstTest_18 := rfl
theorem tg_WE_addWind_8 : gb_tgt 64 8 = bk_WE_addWind_8 := rfl
theorem tg_WE_addWind_20 : gb_tgt 64 20 = bk_WE_addWind_20 := rfl
theorem tg_WE_addWind_30 : gb_tgt 64 30 = bk_WE_addWind_30 := rfl
theorem tg_WE_addWind_33 : gb_tgt 64 33 = bk_WE_addWind_33 := rfl
theorem tg_WE_makeRoom_3 : gb_tgt 65 3 = bk_WE_makeRoom_3 := rfl
theorem tg_WE_makeRoom_38 : gb_tgt 65 38 = bk_WE_makeRoom_38 := rfl
theorem tg_GB_write_7 : gb_tgt 67 7 = bk_GB_write_7 := rfl
theorem tg_GB_write_16 : gb_tgt 67 16 = bk_GB_write_16 := rfl
theorem tg_GB_fault_8 : gb_tgt 69 8 = bk_GB_fault_8 := rfl
theorem tg_GB_fault_13 : gb_tgt 69 13 = bk_GB_fault_13 := rfl
theorem tg_GB_lay_5 : gb_tgt 70 5 = bk_GB_lay_5 := rfl
theorem tg_GB_lay_7 : gb_tgt 70 7 = bk_GB_lay_7 := rfl
theorem tg_GB_layLaw_9 : gb_tgt 71 9 = bk_GB_layLaw_9 := rfl
theorem tg_GB_layBeach_9 : gb_tgt 72 9 = bk_GB_layBeach_9 := rfl
theorem tg_GB_drift_29 : gb_tgt 73 29 = bk_GB_drift_29 := rfl
theorem tg_GB_drift_31 : gb_tgt 73 31 = bk_GB_drift_31 := rfl
theorem tg_GB_drift_47 : gb_tgt 73 47 = bk_GB_drift_47 := rfl
theorem tg_GB_drift_53 : gb_tgt 73 53 = bk_GB_drift_53 := rfl
theorem tg_GB_drift_56 : gb_tgt 73 56 = bk_GB_drift_56 := rfl
theorem tg_GB_worlds_9 : gb_tgt 74 9 = bk_GB_worlds_9 := rfl
theorem tg_GB_worlds_11 : gb_tgt 74 11 = bk_GB_worlds_11 := rfl
theorem tg_GB_worlds_26 : gb_tgt 74 26 = bk_GB_worlds_26 := rfl
theorem tg_GB_worlds_42 : gb_tgt 74 42 = bk_GB_worlds_42 := rfl
theorem tg_GB_worlds_43 : gb_tgt 74 43 = bk_GB_worlds_43 := rfl
theorem tg_GB_ashore_17 : gb_tgt 75 17 = bk_GB_ashore_17 := rfl
theorem tg_GB_ashore_19 : gb_tgt 75 19 = bk_GB_ashore_19 := rfl
theorem tg_GB_find_11 : gb_tgt 76 11 = bk_GB_find_11 := rfl
theorem tg_GB_find_13 : gb_tgt 76 13 = bk_GB_find_13 := rfl
theorem tg_GB_find_20 : gb_tgt 76 20 = bk_GB_find_20 := rfl
theorem tg_GB_from_13 : gb_tgt 77 13 = bk_GB_from_13 := rfl
theorem tg_GB_from_14 : gb_tgt 77 14 = bk_GB_from_14 := rfl
theorem tg_GB_lossesBehind_4 : gb_tgt 78 4 = bk_GB_lossesBehind_4 := rfl
theorem tg_GB_lossesBehind_52 : gb_tgt 78 52 = bk_GB_lossesBehind_52 := rfl
theorem tg_GB_lossesBehind_54 : gb_tgt 78 54 = bk_GB_lossesBehind_54 := rfl
theorem tg_GB_parted_11 : gb_tgt 79 11 = bk_GB_parted_11 := rfl
theorem tg_GB_parted_18 : gb_tgt 79 18 = bk_GB_parted_18 := rfl
theorem tg_GB_parted_20 : gb_tgt 79 20 = bk_GB_parted_20 := rfl
theorem tg_GB_parted_35 : gb_tgt 79 35 = bk_GB_parted_35 := rfl
theorem tg_GB_parted_44 : gb_tgt 79 44 = bk_GB_parted_44 := rfl
theorem tg_GB_parted_48 : gb_tgt 79 48 = bk_GB_parted_48 := rfl
theorem tg_GB_parted_52 : gb_tgt 79 52 = bk_GB_parted_52 := rfl
theorem tg_GB_report_14 : gb_tgt 80 14 = bk_GB_report_14 := rfl
theorem tg_GB_report_16 : gb_tgt 80 16 = bk_GB_report_16 := rfl
theorem tg_GB_report_23 : gb_tgt 80 23 = bk_GB_report_23 := rfl
theorem tg_GB_there_11 : gb_tgt 81 11 = bk_GB_there_11 := rfl
theorem tg_GB_there_13 : gb_tgt 81 13 = bk_GB_there_13 := rfl
theorem tg_GB_there_22 : gb_tgt 81 22 = bk_GB_there_22 := rfl
theorem tg_GB_there_36 : gb_tgt 81 36 = bk_GB_there_36 := rfl
theorem tg_GB_there_37 : gb_tgt 81 37 = bk_GB_there_37 := rfl
theorem tg_GB_missed_7 : gb_tgt 82 7 = bk_GB_missed_7 := rfl
theorem tg_GB_missed_11 : gb_tgt 82 11 = bk_GB_missed_11 := rfl
theorem tg_GB_missed_35 : gb_tgt 82 35 = bk_GB_missed_35 := rfl
theorem tg_GB_missed_36 : gb_tgt 82 36 = bk_GB_missed_36 := rfl
theorem tg_GB_missed_49 : gb_tgt 82 49 = bk_GB_missed_49 := rfl
theorem tg_GB_missed_50 : gb_tgt 82 50 = bk_GB_missed_50 := rfl
theorem tg_GB_missed_72 : gb_tgt 82 72 = bk_GB_missed_72 := rfl
theorem tg_GB_missed_74 : gb_tgt 82 74 = bk_GB_missed_74 := rfl
theorem tg_GB_left_6 : gb_tgt 83 6 = bk_GB_left_6 := rfl
theorem tg_GB_hope_17 : gb_tgt 84 17 = bk_GB_hope_17 := rfl
theorem tg_GB_hope_19 : gb_tgt 84 19 = bk_GB_hope_19 := rfl
theorem tg_GB_walk_18 : gb_tgt 85 18 = bk_GB_walk_18 := rfl
theorem tg_GB_walk_20 : gb_tgt 85 20 = bk_GB_walk_20 := rfl
theorem tg_GB_walk_44 : gb_tgt 85 44 = bk_GB_walk_44 := rfl
theorem tg_GB_walk_49 : gb_tgt 85 49 = bk_GB_walk_49 := rfl
theorem tg_GB_walks_21 : gb_tgt 86 21 = bk_GB_walks_21 := rfl
theorem tg_GB_walks_23 : gb_tgt 86 23 = bk_GB_walks_23 := rfl
theorem tg_GB_walks_33 : gb_tgt 86 33 = bk_GB_walks_33 := rfl
theorem tg_GB_walks_35 : gb_tgt 86 35 = bk_GB_walks_35 := rfl
theorem tg_GB_walks_63 : gb_tgt 86 63 = bk_GB_walks_63 := rfl
theorem tg_GB_walks_73 : gb_tgt 86 73 = bk_GB_walks_73 := rfl
theorem tg_GB_weighLosses_9 : gb_tgt 87 9 = bk_GB_weighLosses_9 := rfl
theorem tg_GB_weighLosses_31 : gb_tgt 87 31 = bk_GB_weighLosses_31 := rfl
theorem tg_GB_number_7 : gb_tgt 88 7 = bk_GB_number_7 := rfl
theorem tg_GB_number_14 : gb_tgt 88 14 = bk_GB_number_14 := rfl
theorem tg_GB_number_21 : gb_tgt 88 21 = bk_GB_number_21 := rfl
theorem tg_GB_fell_7 : gb_tgt 89 7 = bk_GB_fell_7 := rfl
theorem tg_GB_fell_16 : gb_tgt 89 16 = bk_GB_fell_16 := rfl
theorem tg_GB_fell_24 : gb_tgt 89 24 = bk_GB_fell_24 := rfl
theorem tg_GB_fell_40 : gb_tgt 89 40 = bk_GB_fell_40 := rfl
theorem tg_GB_fell_44 : gb_tgt 89 44 = bk_GB_fell_44 := rfl
theorem tg_GB_most_13 : gb_tgt 90 13 = bk_GB_most_13 := rfl
theorem tg_GB_most_15 : gb_tgt 90 15 = bk_GB_most_15 := rfl
theorem tg_GB_most_22 : gb_tgt 90 22 = bk_GB_most_22 := rfl
theorem tg_GB_greatestLikely_6 : gb_tgt 91 6 = bk_GB_greatestLikely_6 := rfl
theorem tg_GB_greatestLikely_30 : gb_tgt 91 30 = bk_GB_greatestLikely_30 := rfl
theorem tg_GB_greatestLikely_34 : gb_tgt 91 34 = bk_GB_greatestLikely_34 := rfl
theorem tg_GB_greatestLikely_36 : gb_tgt 91 36 = bk_GB_greatestLikely_36 := rfl
theorem tg_GB_oddsOf_4 : gb_tgt 92 4 = bk_GB_oddsOf_4 := rfl
theorem tg_GB_oddsOf_24 : gb_tgt 92 24 = bk_GB_oddsOf_24 := rfl
theorem tg_GB_shortened_2 : gb_tgt 93 2 = bk_GB_shortened_2 := rfl
theorem tg_GB_shortened_17 : gb_tgt 93 17 = bk_GB_shortened_17 := rfl
theorem tg_GB_shortened_19 : gb_tgt 93 19 = bk_GB_shortened_19 := rfl
theorem tg_GB_glass_9 : gb_tgt 94 9 = bk_GB_glass_9 := rfl
theorem tg_GB_glass_11 : gb_tgt 94 11 = bk_GB_glass_11 := rfl
theorem tg_GB_glass_15 : gb_tgt 94 15 = bk_GB_glass_15 := rfl
theorem tg_GB_glass_24 : gb_tgt 94 24 = bk_GB_glass_24 := rfl
theorem tg_GB_life_6 : gb_tgt 95 6 = bk_GB_life_6 := rfl
theorem tg_GB_life_10 : gb_tgt 95 10 = bk_GB_life_10 := rfl
theorem tg_GB_life_21 : gb_tgt 95 21 = bk_GB_life_21 := rfl
theorem tg_GB_isGlass_12 : gb_tgt 96 12 = bk_GB_isGlass_12 := rfl
theorem tg_GB_isGlass_13 : gb_tgt 96 13 = bk_GB_isGlass_13 := rfl
theorem tg_GB_whose_16 : gb_tgt 98 16 = bk_GB_whose_16 := rfl
theorem tg_GB_whose_18 : gb_tgt 98 18 = bk_GB_whose_18 := rfl
theorem tg_GB_whose_38 : gb_tgt 98 38 = bk_GB_whose_38 := rfl
theorem tg_GB_whose_39 : gb_tgt 98 39 = bk_GB_whose_39 := rfl
theorem tg_GB_whose_40 : gb_tgt 98 40 = bk_GB_whose_40 := rfl
theorem tg_GB_whose_53 : gb_tgt 98 53 = bk_GB_whose_53 := rfl
theorem tg_GB_whose_61 : gb_tgt 98 61 = bk_GB_whose_61 := rfl
theorem tg_GB_whose_66 : gb_tgt 98 66 = bk_GB_whose_66 := rfl
theorem tg_GB_two_21 : gb_tgt 99 21 = bk_GB_two_21 := rfl
theorem tg_GB_two_23 : gb_tgt 99 23 = bk_GB_two_23 := rfl
theorem tg_GB_two_34 : gb_tgt 99 34 = bk_GB_two_34 := rfl
theorem tg_GB_two_43 : gb_tgt 99 43 = bk_GB_two_43 := rfl
theorem tg_GB_two_44 : gb_tgt 99 44 = bk_GB_two_44 := rfl
theorem tg_GB_two_45 : gb_tgt 99 45 = bk_GB_two_45 := rfl
theorem tg_GB_two_51 : gb_tgt 99 51 = bk_GB_two_51 := rfl
theorem tg_GB_two_60 : gb_tgt 99 60 = bk_GB_two_60 := rfl
theorem tg_GB_two_70 : gb_tgt 99 70 = bk_GB_two_70 := rfl
theorem tg_GB_two_75 : gb_tgt 99 75 = bk_GB_two_75 := rfl
theorem tg_GB_two_76 : gb_tgt 99 76 = bk_GB_two_76 := rfl
theorem tg_GB_two_81 : gb_tgt 99 81 = bk_GB_two_81 := rfl
theorem tg_GB_two_83 : gb_tgt 99 83 = bk_GB_two_83 := rfl
theorem tg_GB_two_85 : gb_tgt 99 85 = bk_GB_two_85 := rfl
theorem tg_GB_show_11 : gb_tgt 100 11 = bk_GB_show_11 := rfl
theorem tg_GB_show_13 : gb_tgt 100 13 = bk_GB_show_13 := rfl
theorem tg_GB_cost_8 : gb_tgt 101 8 = bk_GB_cost_8 := rfl
theorem tg_GB_cost_10 : gb_tgt 101 10 = bk_GB_cost_10 := rfl
theorem tg_GB_parting_8 : gb_tgt 102 8 = bk_GB_parting_8 := rfl
theorem tg_GB_parting_10 : gb_tgt 102 10 = bk_GB_parting_10 := rfl
theorem tg_GB_parting_23 : gb_tgt 102 23 = bk_GB_parting_23 := rfl
theorem tg_GB_parting_31 : gb_tgt 102 31 = bk_GB_parting_31 := rfl
theorem tg_GB_parting_35 : gb_tgt 102 35 = bk_GB_parting_35 := rfl
theorem tg_GB_shown_9 : gb_tgt 103 9 = bk_GB_shown_9 := rfl
theorem tg_GB_shown_11 : gb_tgt 103 11 = bk_GB_shown_11 := rfl
theorem tg_GB_keep_7 : gb_tgt 104 7 = bk_GB_keep_7 := rfl
theorem tg_GB_back_7 : gb_tgt 105 7 = bk_GB_back_7 := rfl
theorem tg_GB_count_2 : gb_tgt 106 2 = bk_GB_count_2 := rfl
theorem tg_GB_count_6 : gb_tgt 106 6 = bk_GB_count_6 := rfl
theorem tg_GB_count_10 : gb_tgt 106 10 = bk_GB_count_10 := rfl
theorem tg_GB_count_14 : gb_tgt 106 14 = bk_GB_count_14 := rfl
theorem tg_GB_count_18 : gb_tgt 106 18 = bk_GB_count_18 := rfl
theorem tg_GB_count_22 : gb_tgt 106 22 = bk_GB_count_22 := rfl
theorem tg_GB_count_26 : gb_tgt 106 26 = bk_GB_count_26 := rfl
theorem tg_GB_count_30 : gb_tgt 106 30 = bk_GB_count_30 := rfl
theorem tg_GB_count_34 : gb_tgt 106 34 = bk_GB_count_34 := rfl
theorem tg_GB_count_38 : gb_tgt 106 38 = bk_GB_count_38 := rfl
theorem tg_GB_within_8 : gb_tgt 107 8 = bk_GB_within_8 := rfl
theorem tg_GB_within_9 : gb_tgt 107 9 = bk_GB_within_9 := rfl
theorem tg_RM_in_10 : gb_tgt 117 10 = bk_RM_in_10 := rfl
theorem tg_RM_in_11 : gb_tgt 117 11 = bk_RM_in_11 := rfl
theorem tg_RM_write_8 : gb_tgt 118 8 = bk_RM_write_8 := rfl
theorem tg_RM_write_16 : gb_tgt 118 16 = bk_RM_write_16 := rfl
theorem tg_RM_write_20 : gb_tgt 118 20 = bk_RM_write_20 := rfl
theorem tg_RM_write_42 : gb_tgt 118 42 = bk_RM_write_42 := rfl
theorem tg_RM_next_11 : gb_tgt 120 11 = bk_RM_next_11 := rfl
theorem tg_RM_next_12 : gb_tgt 120 12 = bk_RM_next_12 := rfl
theorem tg_RM_value_6 : gb_tgt 121 6 = bk_RM_value_6 := rfl
theorem tg_RM_value_7 : gb_tgt 121 7 = bk_RM_value_7 := rfl
theorem tg_RM_value_15 : gb_tgt 121 15 = bk_RM_value_15 := rfl
theorem tg_RM_value_16 : gb_tgt 121 16 = bk_RM_value_16 := rfl
theorem tg_RM_value_22 : gb_tgt 121 22 = bk_RM_value_22 := rfl
theorem tg_RM_value_41 : gb_tgt 121 41 = bk_RM_value_41 := rfl
theorem tg_RM_value_42 : gb_tgt 121 42 = bk_RM_value_42 := rfl
theorem tg_RM_value_51 : gb_tgt 121 51 = bk_RM_value_51 := rfl
theorem tg_RM_value_65 : gb_tgt 121 65 = bk_RM_value_65 := rfl
theorem tg_RM_value_67 : gb_tgt 121 67 = bk_RM_value_67 := rfl
theorem tg_RM_value_68 : gb_tgt 121 68 = bk_RM_value_68 := rfl
theorem tg_RM_value_74 : gb_tgt 121 74 = bk_RM_value_74 := rfl
theorem tg_RM_value_75 : gb_tgt 121 75 = bk_RM_value_75 := rfl
theorem tg_RM_value_90 : gb_tgt 121 90 = bk_RM_value_90 := rfl
theorem tg_RM_value_91 : gb_tgt 121 91 = bk_RM_value_91 := rfl
theorem tg_RM_more_10 : gb_tgt 122 10 = bk_RM_more_10 := rfl
theorem tg_RM_more_11 : gb_tgt 122 11 = bk_RM_more_11 := rfl
theorem tg_RM_more_26 : gb_tgt 122 26 = bk_RM_more_26 := rfl
theorem tg_RM_more_27 : gb_tgt 122 27 = bk_RM_more_27 := rfl
theorem tg_RM_ends_10 : gb_tgt 123 10 = bk_RM_ends_10 := rfl
theorem tg_RM_ends_11 : gb_tgt 123 11 = bk_RM_ends_11 := rfl
theorem tg_RM_item_27 : gb_tgt 124 27 = bk_RM_item_27 := rfl
theorem tg_RM_item_31 : gb_tgt 124 31 = bk_RM_item_31 := rfl
theorem tg_RM_item_33 : gb_tgt 124 33 = bk_RM_item_33 := rfl
theorem tg_RM_item_60 : gb_tgt 124 60 = bk_RM_item_60 := rfl
theorem tg_RM_item_61 : gb_tgt 124 61 = bk_RM_item_61 := rfl
theorem tg_RM_item_97 : gb_tgt 124 97 = bk_RM_item_97 := rfl
theorem tg_RM_item_98 : gb_tgt 124 98 = bk_RM_item_98 := rfl
theorem tg_RM_item_130 : gb_tgt 124 130 = bk_RM_item_130 := rfl
theorem tg_RM_item_131 : gb_tgt 124 131 = bk_RM_item_131 := rfl
theorem tg_RM_item_179 : gb_tgt 124 179 = bk_RM_item_179 := rfl
theorem tg_RM_item_180 : gb_tgt 124 180 = bk_RM_item_180 := rfl
set_option maxRecDepth 100000 in
theorem tg_RM_item_186 : gb_tgt 124 186 = bk_RM_item_186 := rfl
set_option maxRecDepth 100000 in
theorem tg_RM_item_192 : gb_tgt 124 192 = bk_RM_item_192 := rfl
set_option maxRecDepth 100000 in
theorem tg_RM_item_195 : gb_tgt 124 195 = bk_RM_item_195 := rfl
theorem tg_RM_kindItem_37 : gb_tgt 125 37 = bk_RM_kindItem_37 := rfl
theorem tg_RM_kindItem_38 : gb_tgt 125 38 = bk_RM_kindItem_38 := rfl
theorem tg_RM_kindItem_85 : gb_tgt 125 85 = bk_RM_kindItem_85 := rfl
theorem tg_RM_lossItem_54 : gb_tgt 126 54 = bk_RM_lossItem_54 := rfl
theorem tg_RM_lossItem_55 : gb_tgt 126 55 = bk_RM_lossItem_55 := rfl
theorem tg_RM_lossItem_109 : gb_tgt 126 109 = bk_RM_lossItem_109 := rfl
theorem tg_RM_ruleItem_9 : gb_tgt 127 9 = bk_RM_ruleItem_9 := rfl
theorem tg_RM_ruleItem_10 : gb_tgt 127 10 = bk_RM_ruleItem_10 := rfl
theorem tg_RM_ruleItem_31 : gb_tgt 127 31 = bk_RM_ruleItem_31 := rfl
theorem tg_RM_ruleItem_32 : gb_tgt 127 32 = bk_RM_ruleItem_32 := rfl
theorem tg_RM_ruleItem_33 : gb_tgt 127 33 = bk_RM_ruleItem_33 := rfl
theorem tg_RM_ruleItem_69 : gb_tgt 127 69 = bk_RM_ruleItem_69 := rfl
theorem tg_RM_ruleItem_75 : gb_tgt 127 75 = bk_RM_ruleItem_75 := rfl
theorem tg_RM_ruleItem_84 : gb_tgt 127 84 = bk_RM_ruleItem_84 := rfl
theorem tg_RM_ruleItem_85 : gb_tgt 127 85 = bk_RM_ruleItem_85 := rfl
theorem tg_RM_ruleItem_94 : gb_tgt 127 94 = bk_RM_ruleItem_94 := rfl
theorem tg_RM_ruleItem_95 : gb_tgt 127 95 = bk_RM_ruleItem_95 := rfl
theorem tg_RM_ruleItem_133 : gb_tgt 127 133 = bk_RM_ruleItem_133 := rfl
theorem tg_RM_ruleItem_142 : gb_tgt 127 142 = bk_RM_ruleItem_142 := rfl
theorem tg_RM_ruleItem_143 : gb_tgt 127 143 = bk_RM_ruleItem_143 := rfl
theorem tg_RM_ruleItem_151 : gb_tgt 127 151 = bk_RM_ruleItem_151 := rfl
theorem tg_RM_ruleItem_152 : gb_tgt 127 152 = bk_RM_ruleItem_152 := rfl
theorem tg_RM_ruleItem_155 : gb_tgt 127 155 = bk_RM_ruleItem_155 := rfl
theorem tg_RM_ruleItem_165 : gb_tgt 127 165 = bk_RM_ruleItem_165 := rfl
theorem tg_RM_ruleItem_166 : gb_tgt 127 166 = bk_RM_ruleItem_166 := rfl
set_option maxRecDepth 100000 in
theorem tg_RM_ruleItem_195 : gb_tgt 127 195 = bk_RM_ruleItem_195 := rfl
set_option maxRecDepth 100000 in
theorem tg_RM_ruleItem_204 : gb_tgt 127 204 = bk_RM_ruleItem_204 := rfl
set_option maxRecDepth 100000 in
theorem tg_RM_ruleItem_205 : gb_tgt 127 205 = bk_RM_ruleItem_205 := rfl
set_option maxRecDepth 100000 in
theorem tg_RM_ruleItem_214 : gb_tgt 127 214 = bk_RM_ruleItem_214 := rfl
set_option maxRecDepth 100000 in
theorem tg_RM_ruleItem_215 : gb_tgt 127 215 = bk_RM_ruleItem_215 := rfl
set_option maxRecDepth 100000 in
theorem tg_RM_ruleItem_224 : gb_tgt 127 224 = bk_RM_ruleItem_224 := rfl
set_option maxRecDepth 100000 in
theorem tg_RM_ruleItem_225 : gb_tgt 127 225 = bk_RM_ruleItem_225 := rfl
set_option maxRecDepth 100000 in
theorem tg_RM_ruleItem_246 : gb_tgt 127 246 = bk_RM_ruleItem_246 := rfl
set_option maxRecDepth 100000 in
theorem tg_RM_ruleItem_251 : gb_tgt 127 251 = bk_RM_ruleItem_251 := rfl
set_option maxRecDepth 100000 in
theorem tg_RM_ruleItem_252 : gb_tgt 127 252 = bk_RM_ruleItem_252 := rfl
set_option maxRecDepth 100000 in
theorem tg_RM_ruleItem_275 : gb_tgt 127 275 = bk_RM_ruleItem_275 := rfl
theorem tg_RM_fault_33 : gb_tgt 128 33 = bk_RM_fault_33 := rfl
theorem tg_RM_fault_49 : gb_tgt 128 49 = bk_RM_fault_49 := rfl
theorem tg_RM_fault_51 : gb_tgt 128 51 = bk_RM_fault_51 := rfl
theorem tg_RM_fault_56 : gb_tgt 128 56 = bk_RM_fault_56 := rfl
theorem tg_RM_fault_57 : gb_tgt 128 57 = bk_RM_fault_57 := rfl
theorem tg_RM_lay_7 : gb_tgt 129 7 = bk_RM_lay_7 := rfl
theorem tg_RM_lay_19 : gb_tgt 129 19 = bk_RM_lay_19 := rfl
theorem tg_RM_lay_34 : gb_tgt 129 34 = bk_RM_lay_34 := rfl
theorem tg_RM_lay_39 : gb_tgt 129 39 = bk_RM_lay_39 := rfl
theorem tg_RM_lay_81 : gb_tgt 129 81 = bk_RM_lay_81 := rfl
theorem tg_RM_lay_117 : gb_tgt 129 117 = bk_RM_lay_117 := rfl
theorem tg_RM_lay_130 : gb_tgt 129 130 = bk_RM_lay_130 := rfl
theorem tg_RM_lay_132 : gb_tgt 129 132 = bk_RM_lay_132 := rfl
theorem tg_RM_lay_152 : gb_tgt 129 152 = bk_RM_lay_152 := rfl
theorem tg_RM_lay_163 : gb_tgt 129 163 = bk_RM_lay_163 := rfl
theorem tg_RM_blows_4 : gb_tgt 134 4 = bk_RM_blows_4 := rfl
theorem tg_RM_blows_33 : gb_tgt 134 33 = bk_RM_blows_33 := rfl
theorem tg_RM_blows_35 : gb_tgt 134 35 = bk_RM_blows_35 := rfl
theorem tg_RM_blows_36 : gb_tgt 134 36 = bk_RM_blows_36 := rfl
theorem tg_RM_blows_39 : gb_tgt 134 39 = bk_RM_blows_39 := rfl
theorem tg_RM_blows_43 : gb_tgt 134 43 = bk_RM_blows_43 := rfl
theorem tg_RM_blows_51 : gb_tgt 134 51 = bk_RM_blows_51 := rfl
theorem tg_RM_drifts_6 : gb_tgt 135 6 = bk_RM_drifts_6 := rfl
theorem tg_RM_drifts_16 : gb_tgt 135 16 = bk_RM_drifts_16 := rfl
theorem tg_RM_drifts_22 : gb_tgt 135 22 = bk_RM_drifts_22 := rfl
theorem tg_RM_drifts_31 : gb_tgt 135 31 = bk_RM_drifts_31 := rfl
theorem tg_RM_drifts_37 : gb_tgt 135 37 = bk_RM_drifts_37 := rfl
theorem tg_RM_drifts_56 : gb_tgt 135 56 = bk_RM_drifts_56 := rfl
theorem tg_RM_drifts_64 : gb_tgt 135 64 = bk_RM_drifts_64 := rfl
theorem tg_RM_drifts_92 : gb_tgt 135 92 = bk_RM_drifts_92 := rfl
theorem tg_RM_drifts_94 : gb_tgt 135 94 = bk_RM_drifts_94 := rfl
theorem tg_RM_drifts_105 : gb_tgt 135 105 = bk_RM_drifts_105 := rfl
theorem tg_RM_drifts_107 : gb_tgt 135 107 = bk_RM_drifts_107 := rfl
theorem tg_RM_drift_35 : gb_tgt 136 35 = bk_RM_drift_35 := rfl
theorem tg_RM_drift_37 : gb_tgt 136 37 = bk_RM_drift_37 := rfl
theorem tg_RM_drift_48 : gb_tgt 136 48 = bk_RM_drift_48 := rfl
theorem tg_RM_drift_52 : gb_tgt 136 52 = bk_RM_drift_52 := rfl
theorem tg_RM_drift_54 : gb_tgt 136 54 = bk_RM_drift_54 := rfl
theorem tg_RM_laysWorlds_16 : gb_tgt 137 16 = bk_RM_laysWorlds_16 := rfl
theorem tg_RM_laysWorlds_35 : gb_tgt 137 35 = bk_RM_laysWorlds_35 := rfl
theorem tg_RM_laysWorlds_86 : gb_tgt 137 86 = bk_RM_laysWorlds_86 := rfl
theorem tg_RM_laysWorlds_88 : gb_tgt 137 88 = bk_RM_laysWorlds_88 := rfl
theorem tg_RM_counts_6 : gb_tgt 138 6 = bk_RM_counts_6 := rfl
theorem tg_RM_counts_40 : gb_tgt 138 40 = bk_RM_counts_40 := rfl
theorem tg_RM_counts_41 : gb_tgt 138 41 = bk_RM_counts_41 := rfl
theorem tg_RM_counts_52 : gb_tgt 138 52 = bk_RM_counts_52 := rfl
theorem tg_RM_counts_54 : gb_tgt 138 54 = bk_RM_counts_54 := rfl
theorem tg_RM_counts_55 : gb_tgt 138 55 = bk_RM_counts_55 := rfl
theorem tg_RM_counts_59 : gb_tgt 138 59 = bk_RM_counts_59 := rfl
theorem tg_RM_worlds_10 : gb_tgt 139 10 = bk_RM_worlds_10 := rfl
theorem tg_RM_worlds_12 : gb_tgt 139 12 = bk_RM_worlds_12 := rfl
theorem tg_RM_worlds_28 : gb_tgt 139 28 = bk_RM_worlds_28 := rfl
theorem tg_RM_worlds_33 : gb_tgt 139 33 = bk_RM_worlds_33 := rfl
theorem tg_RM_worlds_39 : gb_tgt 139 39 = bk_RM_worlds_39 := rfl
theorem tg_RM_ashore_26 : gb_tgt 140 26 = bk_RM_ashore_26 := rfl
theorem tg_RM_ashore_27 : gb_tgt 140 27 = bk_RM_ashore_27 := rfl
theorem tg_RM_find_11 : gb_tgt 141 11 = bk_RM_find_11 := rfl
theorem tg_RM_find_13 : gb_tgt 141 13 = bk_RM_find_13 := rfl
theorem tg_RM_find_23 : gb_tgt 141 23 = bk_RM_find_23 := rfl
theorem tg_RM_fromOf_4 : gb_tgt 142 4 = bk_RM_fromOf_4 := rfl
theorem tg_RM_fromOf_53 : gb_tgt 142 53 = bk_RM_fromOf_53 := rfl
theorem tg_RM_fromOf_54 : gb_tgt 142 54 = bk_RM_fromOf_54 := rfl
theorem tg_RM_fromOf_58 : gb_tgt 142 58 = bk_RM_fromOf_58 := rfl
theorem tg_RM_from_16 : gb_tgt 143 16 = bk_RM_from_16 := rfl
theorem tg_RM_from_17 : gb_tgt 143 17 = bk_RM_from_17 := rfl
theorem tg_RM_parts_14 : gb_tgt 144 14 = bk_RM_parts_14 := rfl
theorem tg_RM_parts_34 : gb_tgt 144 34 = bk_RM_parts_34 := rfl
theorem tg_RM_parts_35 : gb_tgt 144 35 = bk_RM_parts_35 := rfl
theorem tg_RM_parts_52 : gb_tgt 144 52 = bk_RM_parts_52 := rfl
theorem tg_RM_parts_63 : gb_tgt 144 63 = bk_RM_parts_63 := rfl
theorem tg_RM_parts_68 : gb_tgt 144 68 = bk_RM_parts_68 := rfl
theorem tg_RM_parts_88 : gb_tgt 144 88 = bk_RM_parts_88 := rfl
theorem tg_RM_parts_89 : gb_tgt 144 89 = bk_RM_parts_89 := rfl
theorem tg_RM_parts_94 : gb_tgt 144 94 = bk_RM_parts_94 := rfl
theorem tg_RM_parts_95 : gb_tgt 144 95 = bk_RM_parts_95 := rfl
theorem tg_RM_parted_17 : gb_tgt 145 17 = bk_RM_parted_17 := rfl
theorem tg_RM_parted_22 : gb_tgt 145 22 = bk_RM_parted_22 := rfl
theorem tg_RM_parted_26 : gb_tgt 145 26 = bk_RM_parted_26 := rfl
theorem tg_RM_parted_30 : gb_tgt 145 30 = bk_RM_parted_30 := rfl
theorem tg_RM_report_17 : gb_tgt 146 17 = bk_RM_report_17 := rfl
theorem tg_RM_report_19 : gb_tgt 146 19 = bk_RM_report_19 := rfl
theorem tg_RM_report_29 : gb_tgt 146 29 = bk_RM_report_29 := rfl
theorem tg_RM_report_74 : gb_tgt 146 74 = bk_RM_report_74 := rfl
theorem tg_RM_report_75 : gb_tgt 146 75 = bk_RM_report_75 := rfl
theorem tg_RM_sees_12 : gb_tgt 147 12 = bk_RM_sees_12 := rfl
theorem tg_RM_sees_13 : gb_tgt 147 13 = bk_RM_sees_13 := rfl
theorem tg_RM_isOf_20 : gb_tgt 148 20 = bk_RM_isOf_20 := rfl
theorem tg_RM_isOf_21 : gb_tgt 148 21 = bk_RM_isOf_21 := rfl
theorem tg_RM_isThere_4 : gb_tgt 149 4 = bk_RM_isThere_4 := rfl
theorem tg_RM_isThere_38 : gb_tgt 149 38 = bk_RM_isThere_38 := rfl
theorem tg_RM_isThere_40 : gb_tgt 149 40 = bk_RM_isThere_40 := rfl
theorem tg_RM_isThere_41 : gb_tgt 149 41 = bk_RM_isThere_41 := rfl
theorem tg_RM_isThere_44 : gb_tgt 149 44 = bk_RM_isThere_44 := rfl
theorem tg_RM_isNot_4 : gb_tgt 150 4 = bk_RM_isNot_4 := rfl
theorem tg_RM_isNot_49 : gb_tgt 150 49 = bk_RM_isNot_49 := rfl
theorem tg_RM_isNot_51 : gb_tgt 150 51 = bk_RM_isNot_51 := rfl
theorem tg_RM_isNot_52 : gb_tgt 150 52 = bk_RM_isNot_52 := rfl
theorem tg_RM_isNot_55 : gb_tgt 150 55 = bk_RM_isNot_55 := rfl
theorem tg_RM_there_11 : gb_tgt 151 11 = bk_RM_there_11 := rfl
theorem tg_RM_there_13 : gb_tgt 151 13 = bk_RM_there_13 := rfl
theorem tg_RM_there_21 : gb_tgt 151 21 = bk_RM_there_21 := rfl
theorem tg_RM_there_29 : gb_tgt 151 29 = bk_RM_there_29 := rfl
theorem tg_RM_there_30 : gb_tgt 151 30 = bk_RM_there_30 := rfl
theorem tg_RM_missed_8 : gb_tgt 152 8 = bk_RM_missed_8 := rfl
theorem tg_RM_missed_12 : gb_tgt 152 12 = bk_RM_missed_12 := rfl
theorem tg_RM_missed_54 : gb_tgt 152 54 = bk_RM_missed_54 := rfl
theorem tg_RM_missed_55 : gb_tgt 152 55 = bk_RM_missed_55 := rfl
theorem tg_RM_missed_82 : gb_tgt 152 82 = bk_RM_missed_82 := rfl
theorem tg_RM_missed_83 : gb_tgt 152 83 = bk_RM_missed_83 := rfl
theorem tg_RM_missed_88 : gb_tgt 152 88 = bk_RM_missed_88 := rfl
theorem tg_RM_missed_89 : gb_tgt 152 89 = bk_RM_missed_89 := rfl
theorem tg_RM_missed_93 : gb_tgt 152 93 = bk_RM_missed_93 := rfl
theorem tg_RM_isGainsaid_24 : gb_tgt 153 24 = bk_RM_isGainsaid_24 := rfl
theorem tg_RM_isGainsaid_25 : gb_tgt 153 25 = bk_RM_isGainsaid_25 := rfl
theorem tg_RM_leftOf_6 : gb_tgt 154 6 = bk_RM_leftOf_6 := rfl
theorem tg_RM_leftOf_24 : gb_tgt 154 24 = bk_RM_leftOf_24 := rfl
theorem tg_RM_leftOf_25 : gb_tgt 154 25 = bk_RM_leftOf_25 := rfl
theorem tg_RM_leftOf_29 : gb_tgt 154 29 = bk_RM_leftOf_29 := rfl
theorem tg_RM_left_8 : gb_tgt 155 8 = bk_RM_left_8 := rfl
theorem tg_RM_left_9 : gb_tgt 155 9 = bk_RM_left_9 := rfl
theorem tg_RM_hopeOf_4 : gb_tgt 156 4 = bk_RM_hopeOf_4 := rfl
theorem tg_RM_hopeOf_27 : gb_tgt 156 27 = bk_RM_hopeOf_27 := rfl
theorem tg_RM_hopeOf_28 : gb_tgt 156 28 = bk_RM_hopeOf_28 := rfl
theorem tg_RM_hopeOf_36 : gb_tgt 156 36 = bk_RM_hopeOf_36 := rfl
theorem tg_RM_hopeOf_59 : gb_tgt 156 59 = bk_RM_hopeOf_59 := rfl
theorem tg_RM_hopeOf_63 : gb_tgt 156 63 = bk_RM_hopeOf_63 := rfl
theorem tg_RM_hope_24 : gb_tgt 158 24 = bk_RM_hope_24 := rfl
theorem tg_RM_hope_25 : gb_tgt 158 25 = bk_RM_hope_25 := rfl
theorem tg_RM_walk_22 : gb_tgt 159 22 = bk_RM_walk_22 := rfl
theorem tg_RM_walk_24 : gb_tgt 159 24 = bk_RM_walk_24 := rfl
theorem tg_RM_walk_30 : gb_tgt 159 30 = bk_RM_walk_30 := rfl
theorem tg_RM_walk_55 : gb_tgt 159 55 = bk_RM_walk_55 := rfl
theorem tg_RM_walk_56 : gb_tgt 159 56 = bk_RM_walk_56 := rfl
theorem tg_RM_walk_63 : gb_tgt 159 63 = bk_RM_walk_63 := rfl
theorem tg_RM_walk_64 : gb_tgt 159 64 = bk_RM_walk_64 := rfl
theorem tg_RM_walk_67 : gb_tgt 159 67 = bk_RM_walk_67 := rfl
theorem tg_RM_walk_72 : gb_tgt 159 72 = bk_RM_walk_72 := rfl
theorem tg_RM_walk_73 : gb_tgt 159 73 = bk_RM_walk_73 := rfl
theorem tg_RM_walks_25 : gb_tgt 160 25 = bk_RM_walks_25 := rfl
theorem tg_RM_walks_27 : gb_tgt 160 27 = bk_RM_walks_27 := rfl
theorem tg_RM_walks_29 : gb_tgt 160 29 = bk_RM_walks_29 := rfl
theorem tg_RM_walks_53 : gb_tgt 160 53 = bk_RM_walks_53 := rfl
theorem tg_RM_walks_64 : gb_tgt 160 64 = bk_RM_walks_64 := rfl
theorem tg_RM_walks_74 : gb_tgt 160 74 = bk_RM_walks_74 := rfl
theorem tg_RM_walks_75 : gb_tgt 160 75 = bk_RM_walks_75 := rfl
theorem tg_RM_walks_76 : gb_tgt 160 76 = bk_RM_walks_76 := rfl
theorem tg_RM_walks_82 : gb_tgt 160 82 = bk_RM_walks_82 := rfl
theorem tg_RM_walks_83 : gb_tgt 160 83 = bk_RM_walks_83 := rfl
theorem tg_RM_walks_91 : gb_tgt 160 91 = bk_RM_walks_91 := rfl
theorem tg_RM_walks_92 : gb_tgt 160 92 = bk_RM_walks_92 := rfl
theorem tg_RM_walks_93 : gb_tgt 160 93 = bk_RM_walks_93 := rfl
theorem tg_RM_walks_99 : gb_tgt 160 99 = bk_RM_walks_99 := rfl
theorem tg_RM_walks_100 : gb_tgt 160 100 = bk_RM_walks_100 := rfl
theorem tg_RM_walks_113 : gb_tgt 160 113 = bk_RM_walks_113 := rfl
theorem tg_RM_walks_114 : gb_tgt 160 114 = bk_RM_walks_114 := rfl
theorem tg_RM_walks_123 : gb_tgt 160 123 = bk_RM_walks_123 := rfl
theorem tg_RM_walks_124 : gb_tgt 160 124 = bk_RM_walks_124 := rfl
theorem tg_RM_walks_147 : gb_tgt 160 147 = bk_RM_walks_147 := rfl
theorem tg_RM_walks_149 : gb_tgt 160 149 = bk_RM_walks_149 := rfl
theorem tg_RM_walks_151 : gb_tgt 160 151 = bk_RM_walks_151 := rfl
theorem tg_RM_walks_153 : gb_tgt 160 153 = bk_RM_walks_153 := rfl
theorem tg_RM_walks_160 : gb_tgt 160 160 = bk_RM_walks_160 := rfl
theorem tg_RM_walks_162 : gb_tgt 160 162 = bk_RM_walks_162 := rfl
theorem tg_RM_walks_166 : gb_tgt 160 166 = bk_RM_walks_166 := rfl
theorem tg_RM_walks_171 : gb_tgt 160 171 = bk_RM_walks_171 := rfl
theorem tg_RM_number_8 : gb_tgt 161 8 = bk_RM_number_8 := rfl
theorem tg_RM_number_10 : gb_tgt 161 10 = bk_RM_number_10 := rfl
theorem tg_RM_number_24 : gb_tgt 161 24 = bk_RM_number_24 := rfl
theorem tg_RM_number_26 : gb_tgt 161 26 = bk_RM_number_26 := rfl
theorem tg_RM_number_34 : gb_tgt 161 34 = bk_RM_number_34 := rfl
theorem tg_RM_greatest_4 : gb_tgt 162 4 = bk_RM_greatest_4 := rfl
theorem tg_RM_greatest_21 : gb_tgt 162 21 = bk_RM_greatest_21 := rfl
theorem tg_RM_greatest_22 : gb_tgt 162 22 = bk_RM_greatest_22 := rfl
theorem tg_RM_greatest_25 : gb_tgt 162 25 = bk_RM_greatest_25 := rfl
theorem tg_RM_lowest_4 : gb_tgt 163 4 = bk_RM_lowest_4 := rfl
theorem tg_RM_lowest_17 : gb_tgt 163 17 = bk_RM_lowest_17 := rfl
theorem tg_RM_fell_8 : gb_tgt 164 8 = bk_RM_fell_8 := rfl
theorem tg_RM_fell_17 : gb_tgt 164 17 = bk_RM_fell_17 := rfl
theorem tg_RM_fell_40 : gb_tgt 164 40 = bk_RM_fell_40 := rfl
theorem tg_RM_fell_46 : gb_tgt 164 46 = bk_RM_fell_46 := rfl
theorem tg_RM_fell_48 : gb_tgt 164 48 = bk_RM_fell_48 := rfl
theorem tg_RM_most_13 : gb_tgt 165 13 = bk_RM_most_13 := rfl
theorem tg_RM_most_15 : gb_tgt 165 15 = bk_RM_most_15 := rfl
theorem tg_RM_most_22 : gb_tgt 165 22 = bk_RM_most_22 := rfl
theorem tg_RM_most_35 : gb_tgt 165 35 = bk_RM_most_35 := rfl
theorem tg_RM_most_44 : gb_tgt 165 44 = bk_RM_most_44 := rfl
theorem tg_RM_odds_4 : gb_tgt 166 4 = bk_RM_odds_4 := rfl
theorem tg_RM_odds_24 : gb_tgt 166 24 = bk_RM_odds_24 := rfl
theorem tg_RM_worn_14 : gb_tgt 167 14 = bk_RM_worn_14 := rfl
theorem tg_RM_worn_15 : gb_tgt 167 15 = bk_RM_worn_15 := rfl
theorem tg_RM_isGlass_14 : gb_tgt 168 14 = bk_RM_isGlass_14 := rfl
theorem tg_RM_isGlass_15 : gb_tgt 168 15 = bk_RM_isGlass_15 := rfl
theorem tg_RM_glass_10 : gb_tgt 169 10 = bk_RM_glass_10 := rfl
theorem tg_RM_glass_12 : gb_tgt 169 12 = bk_RM_glass_12 := rfl
theorem tg_RM_glass_16 : gb_tgt 169 16 = bk_RM_glass_16 := rfl
theorem tg_RM_glass_25 : gb_tgt 169 25 = bk_RM_glass_25 := rfl
theorem tg_RM_life_6 : gb_tgt 170 6 = bk_RM_life_6 := rfl
theorem tg_RM_life_10 : gb_tgt 170 10 = bk_RM_life_10 := rfl
theorem tg_RM_life_18 : gb_tgt 170 18 = bk_RM_life_18 := rfl
theorem tg_RM_holds_4 : gb_tgt 171 4 = bk_RM_holds_4 := rfl
theorem tg_RM_holds_37 : gb_tgt 171 37 = bk_RM_holds_37 := rfl
theorem tg_RM_holds_42 : gb_tgt 171 42 = bk_RM_holds_42 := rfl
theorem tg_RM_holds_47 : gb_tgt 171 47 = bk_RM_holds_47 := rfl
theorem tg_RM_holds_48 : gb_tgt 171 48 = bk_RM_holds_48 := rfl
theorem tg_RM_holds_82 : gb_tgt 171 82 = bk_RM_holds_82 := rfl
theorem tg_RM_holds_85 : gb_tgt 171 85 = bk_RM_holds_85 := rfl
theorem tg_RM_holds_87 : gb_tgt 171 87 = bk_RM_holds_87 := rfl
theorem tg_RM_holds_88 : gb_tgt 171 88 = bk_RM_holds_88 := rfl
theorem tg_RM_holds_91 : gb_tgt 171 91 = bk_RM_holds_91 := rfl
theorem tg_RM_whose_17 : gb_tgt 172 17 = bk_RM_whose_17 := rfl
theorem tg_RM_whose_19 : gb_tgt 172 19 = bk_RM_whose_19 := rfl
theorem tg_RM_whose_21 : gb_tgt 172 21 = bk_RM_whose_21 := rfl
theorem tg_RM_whose_48 : gb_tgt 172 48 = bk_RM_whose_48 := rfl
theorem tg_RM_whose_67 : gb_tgt 172 67 = bk_RM_whose_67 := rfl
theorem tg_RM_whose_68 : gb_tgt 172 68 = bk_RM_whose_68 := rfl
theorem tg_RM_whose_70 : gb_tgt 172 70 = bk_RM_whose_70 := rfl
theorem tg_RM_whose_74 : gb_tgt 172 74 = bk_RM_whose_74 := rfl
theorem tg_RM_whose_75 : gb_tgt 172 75 = bk_RM_whose_75 := rfl
theorem tg_RM_two_24 : gb_tgt 173 24 = bk_RM_two_24 := rfl
theorem tg_RM_two_26 : gb_tgt 173 26 = bk_RM_two_26 := rfl
theorem tg_RM_two_36 : gb_tgt 173 36 = bk_RM_two_36 := rfl
theorem tg_RM_two_45 : gb_tgt 173 45 = bk_RM_two_45 := rfl
theorem tg_RM_two_56 : gb_tgt 173 56 = bk_RM_two_56 := rfl
theorem tg_RM_two_57 : gb_tgt 173 57 = bk_RM_two_57 := rfl
theorem tg_RM_two_65 : gb_tgt 173 65 = bk_RM_two_65 := rfl
theorem tg_RM_two_66 : gb_tgt 173 66 = bk_RM_two_66 := rfl
theorem tg_RM_two_74 : gb_tgt 173 74 = bk_RM_two_74 := rfl
theorem tg_RM_two_75 : gb_tgt 173 75 = bk_RM_two_75 := rfl
theorem tg_RM_two_79 : gb_tgt 173 79 = bk_RM_two_79 := rfl
theorem tg_RM_two_81 : gb_tgt 173 81 = bk_RM_two_81 := rfl
theorem tg_RM_two_87 : gb_tgt 173 87 = bk_RM_two_87 := rfl
theorem tg_RM_two_93 : gb_tgt 173 93 = bk_RM_two_93 := rfl
theorem tg_RM_two_94 : gb_tgt 173 94 = bk_RM_two_94 := rfl
theorem tg_RM_two_99 : gb_tgt 173 99 = bk_RM_two_99 := rfl
theorem tg_RM_two_104 : gb_tgt 173 104 = bk_RM_two_104 := rfl
theorem tg_RM_two_109 : gb_tgt 173 109 = bk_RM_two_109 := rfl
theorem tg_RM_two_110 : gb_tgt 173 110 = bk_RM_two_110 := rfl
theorem tg_RM_show_15 : gb_tgt 175 15 = bk_RM_show_15 := rfl
theorem tg_RM_show_17 : gb_tgt 175 17 = bk_RM_show_17 := rfl
theorem tg_RM_cost_9 : gb_tgt 176 9 = bk_RM_cost_9 := rfl
theorem tg_RM_cost_11 : gb_tgt 176 11 = bk_RM_cost_11 := rfl
theorem tg_RM_shownOf_4 : gb_tgt 177 4 = bk_RM_shownOf_4 := rfl
theorem tg_RM_shownOf_29 : gb_tgt 177 29 = bk_RM_shownOf_29 := rfl
theorem tg_RM_shownOf_30 : gb_tgt 177 30 = bk_RM_shownOf_30 := rfl
theorem tg_RM_shownOf_34 : gb_tgt 177 34 = bk_RM_shownOf_34 := rfl
theorem tg_RM_byTest_4 : gb_tgt 178 4 = bk_RM_byTest_4 := rfl
theorem tg_RM_byTest_18 : gb_tgt 178 18 = bk_RM_byTest_18 := rfl
theorem tg_RM_byTest_31 : gb_tgt 178 31 = bk_RM_byTest_31 := rfl
theorem tg_RM_byTest_32 : gb_tgt 178 32 = bk_RM_byTest_32 := rfl
theorem tg_RM_byTest_35 : gb_tgt 178 35 = bk_RM_byTest_35 := rfl
theorem tg_RM_byTest_40 : gb_tgt 178 40 = bk_RM_byTest_40 := rfl
theorem tg_RM_byTest_46 : gb_tgt 178 46 = bk_RM_byTest_46 := rfl
theorem tg_RM_parting_12 : gb_tgt 179 12 = bk_RM_parting_12 := rfl
theorem tg_RM_parting_14 : gb_tgt 179 14 = bk_RM_parting_14 := rfl
theorem tg_RM_parting_16 : gb_tgt 179 16 = bk_RM_parting_16 := rfl
theorem tg_RM_parting_27 : gb_tgt 179 27 = bk_RM_parting_27 := rfl
theorem tg_RM_parting_28 : gb_tgt 179 28 = bk_RM_parting_28 := rfl
theorem tg_RM_parting_36 : gb_tgt 179 36 = bk_RM_parting_36 := rfl
theorem tg_RM_parting_37 : gb_tgt 179 37 = bk_RM_parting_37 := rfl
theorem tg_RM_parting_45 : gb_tgt 179 45 = bk_RM_parting_45 := rfl
theorem tg_RM_parting_71 : gb_tgt 179 71 = bk_RM_parting_71 := rfl
theorem tg_RM_parting_73 : gb_tgt 179 73 = bk_RM_parting_73 := rfl
theorem tg_RM_parting_75 : gb_tgt 179 75 = bk_RM_parting_75 := rfl
theorem tg_RM_parting_83 : gb_tgt 179 83 = bk_RM_parting_83 := rfl
theorem tg_RM_parting_90 : gb_tgt 179 90 = bk_RM_parting_90 := rfl
theorem tg_RM_parting_94 : gb_tgt 179 94 = bk_RM_parting_94 := rfl
theorem tg_RM_shown_21 : gb_tgt 180 21 = bk_RM_shown_21 := rfl
theorem tg_RM_shown_22 : gb_tgt 180 22 = bk_RM_shown_22 := rfl
theorem tg_RM_copies_26 : gb_tgt 181 26 = bk_RM_copies_26 := rfl
theorem tg_RM_copies_64 : gb_tgt 181 64 = bk_RM_copies_64 := rfl
theorem tg_RM_copies_83 : gb_tgt 181 83 = bk_RM_copies_83 := rfl
theorem tg_RM_copies_85 : gb_tgt 181 85 = bk_RM_copies_85 := rfl
theorem tg_RM_keep_6 : gb_tgt 182 6 = bk_RM_keep_6 := rfl
theorem tg_RM_back_5 : gb_tgt 183 5 = bk_RM_back_5 := rfl
theorem tg_RM_count_7 : gb_tgt 184 7 = bk_RM_count_7 := rfl
theorem tg_RM_count_15 : gb_tgt 184 15 = bk_RM_count_15 := rfl
theorem tg_RM_count_23 : gb_tgt 184 23 = bk_RM_count_23 := rfl
theorem tg_RM_count_31 : gb_tgt 184 31 = bk_RM_count_31 := rfl
theorem tg_RM_count_39 : gb_tgt 184 39 = bk_RM_count_39 := rfl
theorem tg_RM_count_47 : gb_tgt 184 47 = bk_RM_count_47 := rfl
theorem tg_RM_count_55 : gb_tgt 184 55 = bk_RM_count_55 := rfl
theorem tg_RM_count_61 : gb_tgt 184 61 = bk_RM_count_61 := rfl
theorem tg_RM_count_67 : gb_tgt 184 67 = bk_RM_count_67 := rfl
theorem tg_RM_count_68 : gb_tgt 184 68 = bk_RM_count_68 := rfl
theorem tg_JA_fill_d0a16_5 : gb_tgt 186 5 = bk_JA_fill_d0a16_5 := rfl
theorem tg_JA_fill_d0a16_14 : gb_tgt 186 14 = bk_JA_fill_d0a16_14 := rfl
theorem tg_JA_fill_53178_5 : gb_tgt 187 5 = bk_JA_fill_53178_5 := rfl
theorem tg_JA_fill_53178_14 : gb_tgt 187 14 = bk_JA_fill_53178_14 := rfl
