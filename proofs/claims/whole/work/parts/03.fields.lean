/-! the links of the fields: own class, pool index; class, place, type (0 int, 1 boolean, 2 a reference), final; place in lw_tbl -/
def flL : List ((Nat × Nat) × (Nat × Nat × Nat × Nat × Nat)) := [((0, 9), (0, 0, 2, 1, 68)), ((6, 32), (0, 0, 2, 1, 69)), ((2, 24), (0, 0, 2, 1, 70)), ((5, 79), (0, 0, 2, 1, 71)), ((8, 95), (0, 0, 2, 1, 72)), ((6, 11), (6, 0, 2, 1, 78)), ((8, 80), (6, 0, 2, 1, 79)), ((6, 20), (6, 1, 2, 1, 80)), ((5, 51), (6, 1, 2, 1, 81)), ((8, 92), (6, 1, 2, 1, 82)), ((6, 24), (6, 2, 2, 1, 83)), ((5, 84), (6, 2, 2, 1, 84)), ((8, 218), (6, 2, 2, 1, 85)), ((5, 61), (6, 3, 0, 0, 86)), ((6, 39), (6, 3, 0, 0, 87)), ((8, 154), (6, 3, 0, 0, 88)), ((3, 9), (3, 0, 2, 1, 108)), ((3, 15), (3, 1, 1, 0, 109)), ((3, 19), (3, 2, 0, 0, 110)), ((8, 203), (3, 2, 0, 0, 111)), ((2, 9), (2, 0, 2, 1, 125)), ((5, 99), (2, 0, 2, 1, 126)), ((2, 15), (2, 1, 2, 1, 127)), ((4, 9), (4, 0, 2, 1, 145)), ((5, 120), (4, 0, 2, 1, 146)), ((8, 222), (4, 0, 2, 1, 147)), ((4, 15), (4, 1, 0, 0, 148)), ((5, 117), (4, 1, 0, 0, 149)), ((8, 231), (4, 1, 0, 0, 150)), ((4, 19), (4, 2, 0, 0, 151)), ((5, 114), (4, 2, 0, 0, 152)), ((8, 228), (4, 2, 0, 0, 153)), ((4, 22), (4, 3, 0, 0, 154)), ((8, 153), (4, 3, 0, 0, 155)), ((5, 113), (4, 3, 0, 0, 156)), ((5, 12), (5, 0, 2, 1, 168)), ((8, 125), (5, 0, 2, 1, 169)), ((5, 21), (5, 1, 2, 1, 170)), ((5, 25), (5, 2, 2, 1, 171)), ((5, 29), (5, 3, 2, 1, 172)), ((5, 32), (5, 4, 2, 1, 173)), ((5, 35), (5, 5, 2, 1, 174)), ((5, 38), (5, 6, 1, 0, 175)), ((5, 48), (5, 7, 0, 0, 176)), ((7, 9), (7, 0, 2, 1, 201)), ((7, 17), (7, 1, 2, 1, 202)), ((7, 20), (7, 2, 2, 1, 203)), ((7, 23), (7, 3, 2, 1, 204)), ((7, 26), (7, 4, 0, 0, 205)), ((1, 9), (1, 0, 2, 1, 224)), ((8, 105), (1, 0, 2, 1, 225)), ((5, 123), (1, 0, 2, 1, 226)), ((1, 15), (1, 1, 2, 1, 227)), ((8, 143), (1, 1, 2, 1, 228)), ((1, 21), (1, 2, 2, 1, 229)), ((8, 146), (1, 2, 2, 1, 230)), ((1, 29), (1, 3, 0, 0, 231)), ((8, 108), (1, 3, 0, 0, 232)), ((5, 42), (1, 4, 0, 0, 233)), ((8, 111), (1, 4, 0, 0, 234)), ((1, 25), (1, 5, 0, 0, 235)), ((8, 118), (1, 5, 0, 0, 236)), ((8, 165), (1, 6, 1, 0, 237)), ((1, 36), (1, 7, 0, 0, 238)), ((8, 171), (1, 7, 0, 0, 239)), ((8, 10), (8, 0, 2, 1, 257)), ((8, 16), (8, 1, 2, 1, 258)), ((8, 23), (8, 2, 2, 1, 259)), ((8, 29), (8, 3, 2, 1, 260)), ((8, 36), (8, 4, 2, 1, 261)), ((8, 43), (8, 5, 2, 1, 262)), ((8, 50), (8, 6, 2, 1, 263)), ((8, 57), (8, 7, 2, 1, 264)), ((8, 101), (8, 8, 0, 0, 265)), ((8, 73), (8, 9, 1, 0, 266)), ((8, 168), (8, 10, 0, 0, 267)), ((9, 149), (9, 0, 0, 0, 674)), ((9, 7), (9, 1, 2, 1, 675)), ((9, 13), (9, 2, 2, 1, 676)), ((9, 16), (9, 3, 2, 1, 677)), ((9, 19), (9, 4, 2, 1, 678)), ((9, 124), (9, 5, 0, 0, 679)), ((9, 22), (9, 6, 2, 1, 680)), ((9, 75), (9, 7, 0, 0, 681)), ((9, 25), (9, 8, 2, 1, 682)), ((9, 28), (9, 9, 2, 1, 683)), ((9, 31), (9, 10, 2, 1, 684)), ((9, 34), (9, 11, 2, 1, 685)), ((9, 37), (9, 12, 2, 1, 686)), ((9, 40), (9, 13, 2, 1, 687)), ((9, 43), (9, 14, 2, 1, 688)), ((9, 97), (9, 15, 1, 0, 689)), ((9, 46), (9, 16, 0, 0, 690)), ((9, 146), (9, 17, 0, 0, 691)), ((9, 50), (9, 18, 2, 1, 692)), ((9, 53), (9, 19, 2, 1, 693)), ((9, 56), (9, 20, 2, 1, 694)), ((9, 60), (9, 21, 2, 1, 695)), ((9, 63), (9, 22, 2, 1, 696)), ((9, 109), (9, 23, 1, 0, 697)), ((9, 66), (9, 24, 2, 1, 698)), ((9, 69), (9, 25, 2, 1, 699)), ((9, 72), (9, 26, 0, 0, 700))]
def fl (o i : Nat) : Option (Nat × Nat × Nat × Nat × Nat) := (flL.find? (fun q => q.1.1 == o && q.1.2 == i)).map (fun q => q.2)
theorem fl_0_9 : fl 0 9 = some (0, 0, 2, 1, 68) := rfl
theorem fl_6_32 : fl 6 32 = some (0, 0, 2, 1, 69) := rfl
theorem fl_2_24 : fl 2 24 = some (0, 0, 2, 1, 70) := rfl
theorem fl_5_79 : fl 5 79 = some (0, 0, 2, 1, 71) := rfl
theorem fl_8_95 : fl 8 95 = some (0, 0, 2, 1, 72) := rfl
theorem fl_6_11 : fl 6 11 = some (6, 0, 2, 1, 78) := rfl
theorem fl_8_80 : fl 8 80 = some (6, 0, 2, 1, 79) := rfl
theorem fl_6_20 : fl 6 20 = some (6, 1, 2, 1, 80) := rfl
theorem fl_5_51 : fl 5 51 = some (6, 1, 2, 1, 81) := rfl
theorem fl_8_92 : fl 8 92 = some (6, 1, 2, 1, 82) := rfl
theorem fl_6_24 : fl 6 24 = some (6, 2, 2, 1, 83) := rfl
theorem fl_5_84 : fl 5 84 = some (6, 2, 2, 1, 84) := rfl
theorem fl_8_218 : fl 8 218 = some (6, 2, 2, 1, 85) := rfl
theorem fl_5_61 : fl 5 61 = some (6, 3, 0, 0, 86) := rfl
theorem fl_6_39 : fl 6 39 = some (6, 3, 0, 0, 87) := rfl
theorem fl_8_154 : fl 8 154 = some (6, 3, 0, 0, 88) := rfl
theorem fl_3_9 : fl 3 9 = some (3, 0, 2, 1, 108) := rfl
theorem fl_3_15 : fl 3 15 = some (3, 1, 1, 0, 109) := rfl
theorem fl_3_19 : fl 3 19 = some (3, 2, 0, 0, 110) := rfl
theorem fl_8_203 : fl 8 203 = some (3, 2, 0, 0, 111) := rfl
theorem fl_2_9 : fl 2 9 = some (2, 0, 2, 1, 125) := rfl
theorem fl_5_99 : fl 5 99 = some (2, 0, 2, 1, 126) := rfl
theorem fl_2_15 : fl 2 15 = some (2, 1, 2, 1, 127) := rfl
theorem fl_4_9 : fl 4 9 = some (4, 0, 2, 1, 145) := rfl
theorem fl_5_120 : fl 5 120 = some (4, 0, 2, 1, 146) := rfl
theorem fl_8_222 : fl 8 222 = some (4, 0, 2, 1, 147) := rfl
theorem fl_4_15 : fl 4 15 = some (4, 1, 0, 0, 148) := rfl
theorem fl_5_117 : fl 5 117 = some (4, 1, 0, 0, 149) := rfl
theorem fl_8_231 : fl 8 231 = some (4, 1, 0, 0, 150) := rfl
theorem fl_4_19 : fl 4 19 = some (4, 2, 0, 0, 151) := rfl
theorem fl_5_114 : fl 5 114 = some (4, 2, 0, 0, 152) := rfl
theorem fl_8_228 : fl 8 228 = some (4, 2, 0, 0, 153) := rfl
theorem fl_4_22 : fl 4 22 = some (4, 3, 0, 0, 154) := rfl
theorem fl_8_153 : fl 8 153 = some (4, 3, 0, 0, 155) := rfl
theorem fl_5_113 : fl 5 113 = some (4, 3, 0, 0, 156) := rfl
theorem fl_5_12 : fl 5 12 = some (5, 0, 2, 1, 168) := rfl
theorem fl_8_125 : fl 8 125 = some (5, 0, 2, 1, 169) := rfl
theorem fl_5_21 : fl 5 21 = some (5, 1, 2, 1, 170) := rfl
theorem fl_5_25 : fl 5 25 = some (5, 2, 2, 1, 171) := rfl
theorem fl_5_29 : fl 5 29 = some (5, 3, 2, 1, 172) := rfl
theorem fl_5_32 : fl 5 32 = some (5, 4, 2, 1, 173) := rfl
theorem fl_5_35 : fl 5 35 = some (5, 5, 2, 1, 174) := rfl
theorem fl_5_38 : fl 5 38 = some (5, 6, 1, 0, 175) := rfl
theorem fl_5_48 : fl 5 48 = some (5, 7, 0, 0, 176) := rfl
theorem fl_7_9 : fl 7 9 = some (7, 0, 2, 1, 201) := rfl
theorem fl_7_17 : fl 7 17 = some (7, 1, 2, 1, 202) := rfl
theorem fl_7_20 : fl 7 20 = some (7, 2, 2, 1, 203) := rfl
theorem fl_7_23 : fl 7 23 = some (7, 3, 2, 1, 204) := rfl
theorem fl_7_26 : fl 7 26 = some (7, 4, 0, 0, 205) := rfl
theorem fl_1_9 : fl 1 9 = some (1, 0, 2, 1, 224) := rfl
theorem fl_8_105 : fl 8 105 = some (1, 0, 2, 1, 225) := rfl
theorem fl_5_123 : fl 5 123 = some (1, 0, 2, 1, 226) := rfl
theorem fl_1_15 : fl 1 15 = some (1, 1, 2, 1, 227) := rfl
theorem fl_8_143 : fl 8 143 = some (1, 1, 2, 1, 228) := rfl
theorem fl_1_21 : fl 1 21 = some (1, 2, 2, 1, 229) := rfl
theorem fl_8_146 : fl 8 146 = some (1, 2, 2, 1, 230) := rfl
theorem fl_1_29 : fl 1 29 = some (1, 3, 0, 0, 231) := rfl
theorem fl_8_108 : fl 8 108 = some (1, 3, 0, 0, 232) := rfl
theorem fl_5_42 : fl 5 42 = some (1, 4, 0, 0, 233) := rfl
theorem fl_8_111 : fl 8 111 = some (1, 4, 0, 0, 234) := rfl
theorem fl_1_25 : fl 1 25 = some (1, 5, 0, 0, 235) := rfl
theorem fl_8_118 : fl 8 118 = some (1, 5, 0, 0, 236) := rfl
theorem fl_8_165 : fl 8 165 = some (1, 6, 1, 0, 237) := rfl
theorem fl_1_36 : fl 1 36 = some (1, 7, 0, 0, 238) := rfl
theorem fl_8_171 : fl 8 171 = some (1, 7, 0, 0, 239) := rfl
theorem fl_8_10 : fl 8 10 = some (8, 0, 2, 1, 257) := rfl
theorem fl_8_16 : fl 8 16 = some (8, 1, 2, 1, 258) := rfl
theorem fl_8_23 : fl 8 23 = some (8, 2, 2, 1, 259) := rfl
theorem fl_8_29 : fl 8 29 = some (8, 3, 2, 1, 260) := rfl
theorem fl_8_36 : fl 8 36 = some (8, 4, 2, 1, 261) := rfl
theorem fl_8_43 : fl 8 43 = some (8, 5, 2, 1, 262) := rfl
theorem fl_8_50 : fl 8 50 = some (8, 6, 2, 1, 263) := rfl
theorem fl_8_57 : fl 8 57 = some (8, 7, 2, 1, 264) := rfl
theorem fl_8_101 : fl 8 101 = some (8, 8, 0, 0, 265) := rfl
theorem fl_8_73 : fl 8 73 = some (8, 9, 1, 0, 266) := rfl
theorem fl_8_168 : fl 8 168 = some (8, 10, 0, 0, 267) := rfl
theorem fl_9_149 : fl 9 149 = some (9, 0, 0, 0, 674) := rfl
theorem fl_9_7 : fl 9 7 = some (9, 1, 2, 1, 675) := rfl
theorem fl_9_13 : fl 9 13 = some (9, 2, 2, 1, 676) := rfl
theorem fl_9_16 : fl 9 16 = some (9, 3, 2, 1, 677) := rfl
theorem fl_9_19 : fl 9 19 = some (9, 4, 2, 1, 678) := rfl
theorem fl_9_124 : fl 9 124 = some (9, 5, 0, 0, 679) := rfl
theorem fl_9_22 : fl 9 22 = some (9, 6, 2, 1, 680) := rfl
theorem fl_9_75 : fl 9 75 = some (9, 7, 0, 0, 681) := rfl
theorem fl_9_25 : fl 9 25 = some (9, 8, 2, 1, 682) := rfl
theorem fl_9_28 : fl 9 28 = some (9, 9, 2, 1, 683) := rfl
theorem fl_9_31 : fl 9 31 = some (9, 10, 2, 1, 684) := rfl
theorem fl_9_34 : fl 9 34 = some (9, 11, 2, 1, 685) := rfl
theorem fl_9_37 : fl 9 37 = some (9, 12, 2, 1, 686) := rfl
theorem fl_9_40 : fl 9 40 = some (9, 13, 2, 1, 687) := rfl
theorem fl_9_43 : fl 9 43 = some (9, 14, 2, 1, 688) := rfl
theorem fl_9_97 : fl 9 97 = some (9, 15, 1, 0, 689) := rfl
theorem fl_9_46 : fl 9 46 = some (9, 16, 0, 0, 690) := rfl
theorem fl_9_146 : fl 9 146 = some (9, 17, 0, 0, 691) := rfl
theorem fl_9_50 : fl 9 50 = some (9, 18, 2, 1, 692) := rfl
theorem fl_9_53 : fl 9 53 = some (9, 19, 2, 1, 693) := rfl
theorem fl_9_56 : fl 9 56 = some (9, 20, 2, 1, 694) := rfl
theorem fl_9_60 : fl 9 60 = some (9, 21, 2, 1, 695) := rfl
theorem fl_9_63 : fl 9 63 = some (9, 22, 2, 1, 696) := rfl
theorem fl_9_109 : fl 9 109 = some (9, 23, 1, 0, 697) := rfl
theorem fl_9_66 : fl 9 66 = some (9, 24, 2, 1, 698) := rfl
theorem fl_9_69 : fl 9 69 = some (9, 25, 2, 1, 699) := rfl
theorem fl_9_72 : fl 9 72 = some (9, 26, 0, 0, 700) := rfl
/-- the words that hold wherever the machine has warmed up -/
def gT : List Cond := lw_tbl.filter goodWord
theorem gT_of {w : Cond} (i : Nat) (h : lw_tbl[i]? = some w) (g : goodWord w = true) : w ∈ gT := List.mem_filter.mpr ⟨List.mem_of_getElem? h, g⟩
/-- own classes by their numbers; 10 is the law's -/
def oN (o : Nat) : String := [RX0, RX1, RX2, RX3, RX4, RX5, RX6, RX7, RX8, RX9, RL].getD o ""
def Cn (ci : Nat) : String := (vwCl.getD ci ("", TX0, 0)).1
def Tn (ci : Nat) : u_T := (vwCl.getD ci ("", TX0, 0)).2.1
def Nn (ci : Nat) : Nat := (vwCl.getD ci ("", TX0, 0)).2.2
def tyT (ci : Nat) : Nat → FieldType := [tyX0, tyX1, tyX2, tyX3, tyX4, tyX5, tyX6, tyX7, tyX8, tyX9].getD ci tyX0
theorem vwCl_at {ci : Nat} (h : ci < 10) : vwCl[ci]? = some (Cn ci, Tn ci, Nn ci) := by
  match ci, h with
  | 0, _ | 1, _ | 2, _ | 3, _ | 4, _ | 5, _ | 6, _ | 7, _ | 8, _ | 9, _ => rfl
/-- the type of a field: 0 int, 1 boolean, 2 a reference -/
def ftyL : List (List Nat) := [[2], [2,2,2,0,0,0,1,0], [2,2], [2,1,0], [2,0,0,0], [2,2,2,2,2,2,1,0], [2,2,2,0], [2,2,2,2,0], [2,2,2,2,2,2,2,2,0,1,0], [0,2,2,2,2,0,2,0,2,2,2,2,2,2,2,1,0,0,2,2,2,2,2,1,2,2,0]]
def fty (ci k : Nat) : Nat := (ftyL.getD ci []).getD k 0
def tyOK (t : Nat) (ty : FieldType) : Bool := match t, ty with
  | 0, .int => true
  | 1, .boolean => true
  | 2, .object _ => true
  | 2, .array _ => true
  | _, _ => false
theorem cw0 : ∀ w ∈ u_ws RX0 TX0 1, w ∈ gT := by decide +kernel
theorem cw1 : ∀ w ∈ u_ws RX1 TX1 8, w ∈ gT := by decide +kernel
theorem cw2 : ∀ w ∈ u_ws RX2 TX2 2, w ∈ gT := by decide +kernel
theorem cw3 : ∀ w ∈ u_ws RX3 TX3 3, w ∈ gT := by decide +kernel
theorem cw4 : ∀ w ∈ u_ws RX4 TX4 4, w ∈ gT := by decide +kernel
theorem cw5 : ∀ w ∈ u_ws RX5 TX5 8, w ∈ gT := by decide +kernel
theorem cw6 : ∀ w ∈ u_ws RX6 TX6 4, w ∈ gT := by decide +kernel
theorem cw7 : ∀ w ∈ u_ws RX7 TX7 5, w ∈ gT := by decide +kernel
theorem cw8 : ∀ w ∈ u_ws RX8 TX8 11, w ∈ gT := by decide +kernel
theorem cw9 : ∀ w ∈ u_ws RX9 TX9 27, w ∈ gT := by decide +kernel
theorem cw_all {ci : Nat} (h : ci < 10) : ∀ w ∈ u_ws (Cn ci) (Tn ci) (Nn ci), w ∈ gT := by
  match ci, h with
  | 0, _ => exact cw0
  | 1, _ => exact cw1
  | 2, _ => exact cw2
  | 3, _ => exact cw3
  | 4, _ => exact cw4
  | 5, _ => exact cw5
  | 6, _ => exact cw6
  | 7, _ => exact cw7
  | 8, _ => exact cw8
  | 9, _ => exact cw9
theorem ty_all {ci : Nat} (h : ci < 10) : ∀ k, k < Nn ci → parseFieldDescriptor (Tn ci k).2.2.1 = some (tyT ci k) := by
  match ci, h with
  | 0, _ => exact tyX0_ok
  | 1, _ => exact tyX1_ok
  | 2, _ => exact tyX2_ok
  | 3, _ => exact tyX3_ok
  | 4, _ => exact tyX4_ok
  | 5, _ => exact tyX5_ok
  | 6, _ => exact tyX6_ok
  | 7, _ => exact tyX7_ok
  | 8, _ => exact tyX8_ok
  | 9, _ => exact tyX9_ok
theorem nm_all {ci : Nat} (h : ci < 10) : ∀ a, a < Nn ci → ∀ b, b < Nn ci → a ≠ b → (Tn ci a).2.1 ≠ (Tn ci b).2.1 := by
  match ci, h with
  | 0, _ => exact nmX0
  | 1, _ => exact nmX1
  | 2, _ => exact nmX2
  | 3, _ => exact nmX3
  | 4, _ => exact nmX4
  | 5, _ => exact nmX5
  | 6, _ => exact nmX6
  | 7, _ => exact nmX7
  | 8, _ => exact nmX8
  | 9, _ => exact nmX9
theorem fty_all : ∀ ci, ci < 10 → ∀ k, k < Nn ci → tyOK (fty ci k) (tyT ci k) = true := by decide +kernel
/-- what a row of flL says -/
def flOK (o i ci k t w pl : Nat) : Prop := lw_tbl[pl]? = some (Cond.fieldLink (oN o) i (Cn ci) (Tn ci k).2.1 (Tn ci k).2.2.1) ∧ (Tn ci k).1 = Cn ci ∧ ci < 10 ∧ k < Nn ci ∧ t = fty ci k ∧ (Tn ci k).2.2.2 = decide (w = 1)
def flC (q : (Nat × Nat) × (Nat × Nat × Nat × Nat × Nat)) : Bool := decide (lw_tbl[q.2.2.2.2.2]? = some (Cond.fieldLink (oN q.1.1) q.1.2 (Cn q.2.1) (Tn q.2.1 q.2.2.1).2.1 (Tn q.2.1 q.2.2.1).2.2.1)) && decide ((Tn q.2.1 q.2.2.1).1 = Cn q.2.1) && decide (q.2.1 < 10) && decide (q.2.2.1 < Nn q.2.1) && decide (q.2.2.2.1 = fty q.2.1 q.2.2.1) && decide ((Tn q.2.1 q.2.2.1).2.2.2 = decide (q.2.2.2.2.1 = 1))
theorem flL_ok : flL.all flC = true := by decide +kernel
theorem fl_ok {o i ci k t w pl : Nat} (h : fl o i = some (ci, k, t, w, pl)) : flOK o i ci k t w pl := by
  unfold fl at h
  cases hf : flL.find? (fun q => q.1.1 == o && q.1.2 == i) with
  | none => rw [hf] at h; cases h
  | some q =>
    rw [hf] at h
    have h1 := List.find?_some hf
    have h2 := List.all_eq_true.mp flL_ok q (List.mem_of_find?_eq_some hf)
    simp only [Bool.and_eq_true, beq_iff_eq] at h1
    simp only [flC, Bool.and_eq_true, decide_eq_true_eq] at h2
    obtain ⟨⟨o', i'⟩, ci', k', t', w', pl'⟩ := q
    simp only [Option.map_some, Option.some.injEq, Prod.mk.injEq] at h
    obtain ⟨rfl, rfl, rfl, rfl, rfl⟩ := h
    obtain ⟨e1, e2⟩ := h1
    dsimp only at e1 e2 h2
    subst e1 e2
    exact ⟨h2.1.1.1.1.1, h2.1.1.1.1.2, h2.1.1.1.2, h2.1.1.2, h2.1.2, h2.2⟩
theorem flOK.word {o i ci k t w pl : Nat} (h : flOK o i ci k t w pl) : Cond.fieldLink (oN o) i (Cn ci) (Tn ci k).2.1 (Tn ci k).2.2.1 ∈ gT := gT_of pl h.1 rfl
