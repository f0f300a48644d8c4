/-! the links of the fields: own class, pool index; class, place, type (0 int, 1 boolean, 2 a reference), final; place in lw_tbl -/
def flL : List ((Nat × Nat) × (Nat × Nat × Nat × Nat × Nat)) := [((0, 9), (0, 0, 2, 1, 54)), ((6, 32), (0, 0, 2, 1, 55)), ((2, 24), (0, 0, 2, 1, 56)), ((5, 79), (0, 0, 2, 1, 57)), ((8, 95), (0, 0, 2, 1, 58)), ((6, 11), (6, 0, 2, 1, 64)), ((6, 20), (6, 1, 2, 1, 65)), ((5, 51), (6, 1, 2, 1, 66)), ((8, 92), (6, 1, 2, 1, 67)), ((6, 24), (6, 2, 2, 1, 68)), ((5, 84), (6, 2, 2, 1, 69)), ((8, 218), (6, 2, 2, 1, 70)), ((5, 61), (6, 3, 0, 0, 71)), ((6, 39), (6, 3, 0, 0, 72)), ((8, 154), (6, 3, 0, 0, 73)), ((3, 9), (3, 0, 2, 1, 93)), ((3, 15), (3, 1, 1, 0, 94)), ((3, 19), (3, 2, 0, 0, 95)), ((8, 203), (3, 2, 0, 0, 96)), ((2, 9), (2, 0, 2, 1, 110)), ((5, 99), (2, 0, 2, 1, 111)), ((2, 15), (2, 1, 2, 1, 112)), ((4, 9), (4, 0, 2, 1, 130)), ((5, 120), (4, 0, 2, 1, 131)), ((8, 222), (4, 0, 2, 1, 132)), ((4, 15), (4, 1, 0, 0, 133)), ((5, 117), (4, 1, 0, 0, 134)), ((8, 231), (4, 1, 0, 0, 135)), ((4, 19), (4, 2, 0, 0, 136)), ((5, 114), (4, 2, 0, 0, 137)), ((8, 228), (4, 2, 0, 0, 138)), ((4, 22), (4, 3, 0, 0, 139)), ((8, 153), (4, 3, 0, 0, 140)), ((5, 113), (4, 3, 0, 0, 141)), ((5, 12), (5, 0, 2, 1, 153)), ((8, 125), (5, 0, 2, 1, 154)), ((5, 21), (5, 1, 2, 1, 155)), ((5, 25), (5, 2, 2, 1, 156)), ((5, 29), (5, 3, 2, 1, 157)), ((5, 32), (5, 4, 2, 1, 158)), ((5, 35), (5, 5, 2, 1, 159)), ((5, 38), (5, 6, 1, 0, 160)), ((5, 48), (5, 7, 0, 0, 161)), ((7, 9), (7, 0, 2, 1, 186)), ((7, 17), (7, 1, 2, 1, 187)), ((7, 20), (7, 2, 2, 1, 188)), ((7, 23), (7, 3, 2, 1, 189)), ((7, 26), (7, 4, 0, 0, 190)), ((1, 9), (1, 0, 2, 1, 209)), ((8, 105), (1, 0, 2, 1, 210)), ((5, 123), (1, 0, 2, 1, 211)), ((1, 15), (1, 1, 2, 1, 212)), ((8, 143), (1, 1, 2, 1, 213)), ((1, 21), (1, 2, 2, 1, 214)), ((8, 146), (1, 2, 2, 1, 215)), ((1, 29), (1, 3, 0, 0, 216)), ((8, 108), (1, 3, 0, 0, 217)), ((5, 42), (1, 4, 0, 0, 218)), ((8, 111), (1, 4, 0, 0, 219)), ((1, 25), (1, 5, 0, 0, 220)), ((8, 118), (1, 5, 0, 0, 221)), ((8, 165), (1, 6, 1, 0, 222)), ((1, 36), (1, 7, 0, 0, 223)), ((8, 171), (1, 7, 0, 0, 224)), ((8, 10), (8, 0, 2, 1, 242)), ((8, 16), (8, 1, 2, 1, 243)), ((8, 23), (8, 2, 2, 1, 244)), ((8, 29), (8, 3, 2, 1, 245)), ((8, 36), (8, 4, 2, 1, 246)), ((8, 43), (8, 5, 2, 1, 247)), ((8, 50), (8, 6, 2, 1, 248)), ((8, 57), (8, 7, 2, 1, 249)), ((8, 101), (8, 8, 0, 0, 250)), ((8, 73), (8, 9, 1, 0, 251)), ((8, 168), (8, 10, 0, 0, 252))]
def fl (o i : Nat) : Option (Nat × Nat × Nat × Nat × Nat) := (flL.find? (fun q => q.1.1 == o && q.1.2 == i)).map (fun q => q.2)
theorem fl_0_9 : fl 0 9 = some (0, 0, 2, 1, 54) := rfl
theorem fl_6_32 : fl 6 32 = some (0, 0, 2, 1, 55) := rfl
theorem fl_2_24 : fl 2 24 = some (0, 0, 2, 1, 56) := rfl
theorem fl_5_79 : fl 5 79 = some (0, 0, 2, 1, 57) := rfl
theorem fl_8_95 : fl 8 95 = some (0, 0, 2, 1, 58) := rfl
theorem fl_6_11 : fl 6 11 = some (6, 0, 2, 1, 64) := rfl
theorem fl_6_20 : fl 6 20 = some (6, 1, 2, 1, 65) := rfl
theorem fl_5_51 : fl 5 51 = some (6, 1, 2, 1, 66) := rfl
theorem fl_8_92 : fl 8 92 = some (6, 1, 2, 1, 67) := rfl
theorem fl_6_24 : fl 6 24 = some (6, 2, 2, 1, 68) := rfl
theorem fl_5_84 : fl 5 84 = some (6, 2, 2, 1, 69) := rfl
theorem fl_8_218 : fl 8 218 = some (6, 2, 2, 1, 70) := rfl
theorem fl_5_61 : fl 5 61 = some (6, 3, 0, 0, 71) := rfl
theorem fl_6_39 : fl 6 39 = some (6, 3, 0, 0, 72) := rfl
theorem fl_8_154 : fl 8 154 = some (6, 3, 0, 0, 73) := rfl
theorem fl_3_9 : fl 3 9 = some (3, 0, 2, 1, 93) := rfl
theorem fl_3_15 : fl 3 15 = some (3, 1, 1, 0, 94) := rfl
theorem fl_3_19 : fl 3 19 = some (3, 2, 0, 0, 95) := rfl
theorem fl_8_203 : fl 8 203 = some (3, 2, 0, 0, 96) := rfl
theorem fl_2_9 : fl 2 9 = some (2, 0, 2, 1, 110) := rfl
theorem fl_5_99 : fl 5 99 = some (2, 0, 2, 1, 111) := rfl
theorem fl_2_15 : fl 2 15 = some (2, 1, 2, 1, 112) := rfl
theorem fl_4_9 : fl 4 9 = some (4, 0, 2, 1, 130) := rfl
theorem fl_5_120 : fl 5 120 = some (4, 0, 2, 1, 131) := rfl
theorem fl_8_222 : fl 8 222 = some (4, 0, 2, 1, 132) := rfl
theorem fl_4_15 : fl 4 15 = some (4, 1, 0, 0, 133) := rfl
theorem fl_5_117 : fl 5 117 = some (4, 1, 0, 0, 134) := rfl
theorem fl_8_231 : fl 8 231 = some (4, 1, 0, 0, 135) := rfl
theorem fl_4_19 : fl 4 19 = some (4, 2, 0, 0, 136) := rfl
theorem fl_5_114 : fl 5 114 = some (4, 2, 0, 0, 137) := rfl
theorem fl_8_228 : fl 8 228 = some (4, 2, 0, 0, 138) := rfl
theorem fl_4_22 : fl 4 22 = some (4, 3, 0, 0, 139) := rfl
theorem fl_8_153 : fl 8 153 = some (4, 3, 0, 0, 140) := rfl
theorem fl_5_113 : fl 5 113 = some (4, 3, 0, 0, 141) := rfl
theorem fl_5_12 : fl 5 12 = some (5, 0, 2, 1, 153) := rfl
theorem fl_8_125 : fl 8 125 = some (5, 0, 2, 1, 154) := rfl
theorem fl_5_21 : fl 5 21 = some (5, 1, 2, 1, 155) := rfl
theorem fl_5_25 : fl 5 25 = some (5, 2, 2, 1, 156) := rfl
theorem fl_5_29 : fl 5 29 = some (5, 3, 2, 1, 157) := rfl
theorem fl_5_32 : fl 5 32 = some (5, 4, 2, 1, 158) := rfl
theorem fl_5_35 : fl 5 35 = some (5, 5, 2, 1, 159) := rfl
theorem fl_5_38 : fl 5 38 = some (5, 6, 1, 0, 160) := rfl
theorem fl_5_48 : fl 5 48 = some (5, 7, 0, 0, 161) := rfl
theorem fl_7_9 : fl 7 9 = some (7, 0, 2, 1, 186) := rfl
theorem fl_7_17 : fl 7 17 = some (7, 1, 2, 1, 187) := rfl
theorem fl_7_20 : fl 7 20 = some (7, 2, 2, 1, 188) := rfl
theorem fl_7_23 : fl 7 23 = some (7, 3, 2, 1, 189) := rfl
theorem fl_7_26 : fl 7 26 = some (7, 4, 0, 0, 190) := rfl
theorem fl_1_9 : fl 1 9 = some (1, 0, 2, 1, 209) := rfl
theorem fl_8_105 : fl 8 105 = some (1, 0, 2, 1, 210) := rfl
theorem fl_5_123 : fl 5 123 = some (1, 0, 2, 1, 211) := rfl
theorem fl_1_15 : fl 1 15 = some (1, 1, 2, 1, 212) := rfl
theorem fl_8_143 : fl 8 143 = some (1, 1, 2, 1, 213) := rfl
theorem fl_1_21 : fl 1 21 = some (1, 2, 2, 1, 214) := rfl
theorem fl_8_146 : fl 8 146 = some (1, 2, 2, 1, 215) := rfl
theorem fl_1_29 : fl 1 29 = some (1, 3, 0, 0, 216) := rfl
theorem fl_8_108 : fl 8 108 = some (1, 3, 0, 0, 217) := rfl
theorem fl_5_42 : fl 5 42 = some (1, 4, 0, 0, 218) := rfl
theorem fl_8_111 : fl 8 111 = some (1, 4, 0, 0, 219) := rfl
theorem fl_1_25 : fl 1 25 = some (1, 5, 0, 0, 220) := rfl
theorem fl_8_118 : fl 8 118 = some (1, 5, 0, 0, 221) := rfl
theorem fl_8_165 : fl 8 165 = some (1, 6, 1, 0, 222) := rfl
theorem fl_1_36 : fl 1 36 = some (1, 7, 0, 0, 223) := rfl
theorem fl_8_171 : fl 8 171 = some (1, 7, 0, 0, 224) := rfl
theorem fl_8_10 : fl 8 10 = some (8, 0, 2, 1, 242) := rfl
theorem fl_8_16 : fl 8 16 = some (8, 1, 2, 1, 243) := rfl
theorem fl_8_23 : fl 8 23 = some (8, 2, 2, 1, 244) := rfl
theorem fl_8_29 : fl 8 29 = some (8, 3, 2, 1, 245) := rfl
theorem fl_8_36 : fl 8 36 = some (8, 4, 2, 1, 246) := rfl
theorem fl_8_43 : fl 8 43 = some (8, 5, 2, 1, 247) := rfl
theorem fl_8_50 : fl 8 50 = some (8, 6, 2, 1, 248) := rfl
theorem fl_8_57 : fl 8 57 = some (8, 7, 2, 1, 249) := rfl
theorem fl_8_101 : fl 8 101 = some (8, 8, 0, 0, 250) := rfl
theorem fl_8_73 : fl 8 73 = some (8, 9, 1, 0, 251) := rfl
theorem fl_8_168 : fl 8 168 = some (8, 10, 0, 0, 252) := rfl
/-- the words that hold wherever the machine has warmed up -/
def gT : List Cond := lw_tbl.filter goodWord
theorem gT_of {w : Cond} (i : Nat) (h : lw_tbl[i]? = some w) (g : goodWord w = true) : w ∈ gT := List.mem_filter.mpr ⟨List.mem_of_getElem? h, g⟩
/-- own classes by their numbers; 10 is the law's -/
def oN (o : Nat) : String := [RX0, RX1, RX2, RX3, RX4, RX5, RX6, RX7, RX8, RX0, RL].getD o ""
def Cn (ci : Nat) : String := (vwCl.getD ci ("", TX0, 0)).1
def Tn (ci : Nat) : u_T := (vwCl.getD ci ("", TX0, 0)).2.1
def Nn (ci : Nat) : Nat := (vwCl.getD ci ("", TX0, 0)).2.2
def tyT (ci : Nat) : Nat → FieldType := [tyX0, tyX1, tyX2, tyX3, tyX4, tyX5, tyX6, tyX7, tyX8, tyX0].getD ci tyX0
theorem vwCl_at {ci : Nat} (h : ci < 10) : vwCl[ci]? = some (Cn ci, Tn ci, Nn ci) := by
  match ci, h with
  | 0, _ | 1, _ | 2, _ | 3, _ | 4, _ | 5, _ | 6, _ | 7, _ | 8, _ | 9, _ => rfl
/-- the type of a field: 0 int, 1 boolean, 2 a reference -/
def ftyL : List (List Nat) := [[2], [2,2,2,0,0,0,1,0], [2,2], [2,1,0], [2,0,0,0], [2,2,2,2,2,2,1,0], [2,2,2,0], [2,2,2,2,0], [2,2,2,2,2,2,2,2,0,1,0], [2]]
def fty (ci k : Nat) : Nat := (ftyL.getD ci []).getD k 0
def tyOK (t : Nat) (ty : FieldType) : Bool := match t, ty with
  | 0, .int => true
  | 1, .boolean => true
  | 2, .object _ => true
  | 2, .array _ => true
  | _, _ => false
theorem cw0 : ∀ w ∈ u_ws RX0 TX0 1, w ∈ gT := by decide +kernel
theorem cw1 : ∀ w ∈ u_ws RX1 TX1 8, w ∈ gT := by decide +kernel
theorem cw2 : ∀ w ∈ u_ws RX2 TX2 2, w ∈ gT := by decide +kernel
theorem cw3 : ∀ w ∈ u_ws RX3 TX3 3, w ∈ gT := by decide +kernel
theorem cw4 : ∀ w ∈ u_ws RX4 TX4 4, w ∈ gT := by decide +kernel
theorem cw5 : ∀ w ∈ u_ws RX5 TX5 8, w ∈ gT := by decide +kernel
theorem cw6 : ∀ w ∈ u_ws RX6 TX6 4, w ∈ gT := by decide +kernel
theorem cw7 : ∀ w ∈ u_ws RX7 TX7 5, w ∈ gT := by decide +kernel
theorem cw8 : ∀ w ∈ u_ws RX8 TX8 11, w ∈ gT := by decide +kernel
theorem cw_all {ci : Nat} (h : ci < 10) : ∀ w ∈ u_ws (Cn ci) (Tn ci) (Nn ci), w ∈ gT := by
  match ci, h with
  | 0, _ => exact cw0
  | 1, _ => exact cw1
  | 2, _ => exact cw2
  | 3, _ => exact cw3
  | 4, _ => exact cw4
  | 5, _ => exact cw5
  | 6, _ => exact cw6
  | 7, _ => exact cw7
  | 8, _ => exact cw8
  | 9, _ => exact cw0
theorem ty_all {ci : Nat} (h : ci < 10) : ∀ k, k < Nn ci → parseFieldDescriptor (Tn ci k).2.2.1 = some (tyT ci k) := by
  match ci, h with
  | 0, _ => exact tyX0_ok
  | 1, _ => exact tyX1_ok
  | 2, _ => exact tyX2_ok
  | 3, _ => exact tyX3_ok
  | 4, _ => exact tyX4_ok
  | 5, _ => exact tyX5_ok
  | 6, _ => exact tyX6_ok
  | 7, _ => exact tyX7_ok
  | 8, _ => exact tyX8_ok
  | 9, _ => exact tyX0_ok
theorem nm_all {ci : Nat} (h : ci < 10) : ∀ a, a < Nn ci → ∀ b, b < Nn ci → a ≠ b → (Tn ci a).2.1 ≠ (Tn ci b).2.1 := by
  match ci, h with
  | 0, _ => exact nmX0
  | 1, _ => exact nmX1
  | 2, _ => exact nmX2
  | 3, _ => exact nmX3
  | 4, _ => exact nmX4
  | 5, _ => exact nmX5
  | 6, _ => exact nmX6
  | 7, _ => exact nmX7
  | 8, _ => exact nmX8
  | 9, _ => exact nmX0
theorem fty_all : ∀ ci, ci < 10 → ∀ k, k < Nn ci → tyOK (fty ci k) (tyT ci k) = true := by decide +kernel
/-- what a row of flL says -/
def flOK (o i ci k t w pl : Nat) : Prop := lw_tbl[pl]? = some (Cond.fieldLink (oN o) i (Cn ci) (Tn ci k).2.1 (Tn ci k).2.2.1) ∧ (Tn ci k).1 = Cn ci ∧ ci < 10 ∧ k < Nn ci ∧ t = fty ci k ∧ (Tn ci k).2.2.2 = decide (w = 1)
def flC (q : (Nat × Nat) × (Nat × Nat × Nat × Nat × Nat)) : Bool := decide (lw_tbl[q.2.2.2.2.2]? = some (Cond.fieldLink (oN q.1.1) q.1.2 (Cn q.2.1) (Tn q.2.1 q.2.2.1).2.1 (Tn q.2.1 q.2.2.1).2.2.1)) && decide ((Tn q.2.1 q.2.2.1).1 = Cn q.2.1) && decide (q.2.1 < 10) && decide (q.2.2.1 < Nn q.2.1) && decide (q.2.2.2.1 = fty q.2.1 q.2.2.1) && decide ((Tn q.2.1 q.2.2.1).2.2.2 = decide (q.2.2.2.2.1 = 1))
theorem flL_ok : flL.all flC = true := by decide +kernel
theorem fl_ok {o i ci k t w pl : Nat} (h : fl o i = some (ci, k, t, w, pl)) : flOK o i ci k t w pl := by
  unfold fl at h
  cases hf : flL.find? (fun q => q.1.1 == o && q.1.2 == i) with
  | none => rw [hf] at h; cases h
  | some q =>
    rw [hf] at h
    have h1 := List.find?_some hf
    have h2 := List.all_eq_true.mp flL_ok q (List.mem_of_find?_eq_some hf)
    simp only [Bool.and_eq_true, beq_iff_eq] at h1
    simp only [flC, Bool.and_eq_true, decide_eq_true_eq] at h2
    obtain ⟨⟨o', i'⟩, ci', k', t', w', pl'⟩ := q
    simp only [Option.map_some, Option.some.injEq, Prod.mk.injEq] at h
    obtain ⟨rfl, rfl, rfl, rfl, rfl⟩ := h
    obtain ⟨e1, e2⟩ := h1
    dsimp only at e1 e2 h2
    subst e1 e2
    exact ⟨h2.1.1.1.1.1, h2.1.1.1.1.2, h2.1.1.1.2, h2.1.1.2, h2.1.2, h2.2⟩
theorem flOK.word {o i ci k t w pl : Nat} (h : flOK o i ci k t w pl) : Cond.fieldLink (oN o) i (Cn ci) (Tn ci k).2.1 (Tn ci k).2.2.1 ∈ gT := gT_of pl h.1 rfl
