/-! THE LAYOUT behind the constructors: which cell each reference names -/
def N0 : Nat := 449
def R0 (c k : Nat) : Option Nat :=
  if kd c = 0 then (if k = 0 then some (c + 1) else none)
  else if kd c = 1 then (if k = 0 then some (c + 1) else if k = 1 then some (c + 2) else if k = 2 then some (c + 3) else none)
  else if kd c = 2 then (if k = 0 then some (c + 1) else if k = 1 then some (c + 2) else none)
  else if kd c = 3 then (if k = 0 then some (c + 1) else none)
  else if kd c = 4 then (if k = 0 then some (c + 1) else none)
  else if kd c = 5 then ([some 80, some 82, some 85, some 86, some 87, some 88].getD k none)
  else if kd c = 6 then ([some 2, some 7, some 9].getD k none)
  else if kd c = 7 then ([some 90, some 91, some 100, some 110].getD k none)
  else if kd c = 8 then ([some 1, some 70, some 71, some 73, some 74, some 76, some 79, some 89].getD k none)
  else if kd c = 12 then (if k < 30 then some (10 + 2 * k) else none)
  else if kd c = 13 then (if k < 16 then some (367 + 5 * k) else none)
  else if c = 2 then (if k < 4 then some (3 + k) else none)
  else if c = 91 then (if k < 8 then some (92 + k) else none)
  else if c = 100 then (if k < 9 then some (101 + k) else none)
  else if c = 110 then (if k < 256 then some (111 + k) else none)
  else none
theorem ink_at : ∀ c, c < 449 → kd c = 0 → R0 c 0 = some (c + 1) ∧ kd (c + 1) = 10 ∧ ln (c + 1) = 4 ∧ c + 1 < 449 := by decide +kernel
theorem job_at : ∀ i, i < 16 → kd (367 + 5 * i) = 1 ∧ kd (368 + 5 * i) = 10 ∧ ln (368 + 5 * i) = 3 ∧ kd (369 + 5 * i) = 10 ∧ ln (369 + 5 * i) = 3 ∧ kd (370 + 5 * i) = 0 ∧ kd (371 + 5 * i) = 10 ∧ ln (371 + 5 * i) = 4 ∧ R0 (367 + 5 * i) 0 = some (368 + 5 * i) ∧ R0 (367 + 5 * i) 1 = some (369 + 5 * i) ∧ R0 (367 + 5 * i) 2 = some (370 + 5 * i) ∧ R0 73 i = some (367 + 5 * i) ∧ R0 (370 + 5 * i) 0 = some (371 + 5 * i) := by decide +kernel
theorem tin_at : ∀ i, i < 30 → kd (10 + 2 * i) = 0 ∧ kd (11 + 2 * i) = 10 ∧ ln (11 + 2 * i) = 4 ∧ R0 9 i = some (10 + 2 * i) ∧ R0 (10 + 2 * i) 0 = some (11 + 2 * i) := by decide +kernel
theorem base_at : ∀ i, i < 4 → kd (3 + i) = 10 ∧ ln (3 + i) = 3 ∧ R0 2 i = some (3 + i) := by decide +kernel
theorem wcol_at : ∀ i, i < 8 → kd (92 + i) = 10 ∧ ln (92 + i) = 3 ∧ R0 91 i = some (92 + i) := by decide +kernel
theorem wcost_at : ∀ i, i < 9 → kd (101 + i) = 10 ∧ ln (101 + i) = 8 ∧ R0 100 i = some (101 + i) := by decide +kernel
theorem wleast_at : ∀ i, i < 256 → kd (111 + i) = 10 ∧ ln (111 + i) = 9 ∧ R0 110 i = some (111 + i) := by decide +kernel
theorem r0_0_0 : R0 0 0 = some 1 := by decide +kernel
theorem r0_0_1 : R0 0 1 = some 70 := by decide +kernel
theorem r0_0_2 : R0 0 2 = some 71 := by decide +kernel
theorem r0_0_3 : R0 0 3 = some 73 := by decide +kernel
theorem r0_0_4 : R0 0 4 = some 74 := by decide +kernel
theorem r0_0_5 : R0 0 5 = some 76 := by decide +kernel
theorem r0_0_6 : R0 0 6 = some 79 := by decide +kernel
theorem r0_0_7 : R0 0 7 = some 89 := by decide +kernel
theorem r0_1_0 : R0 1 0 = some 2 := by decide +kernel
theorem r0_1_1 : R0 1 1 = some 7 := by decide +kernel
theorem r0_1_2 : R0 1 2 = some 9 := by decide +kernel
theorem r0_7_0 : R0 7 0 = some 8 := by decide +kernel
theorem r0_71_0 : R0 71 0 = some 72 := by decide +kernel
theorem r0_74_0 : R0 74 0 = some 75 := by decide +kernel
theorem r0_76_0 : R0 76 0 = some 77 := by decide +kernel
theorem r0_76_1 : R0 76 1 = some 78 := by decide +kernel
theorem r0_79_0 : R0 79 0 = some 80 := by decide +kernel
theorem r0_79_1 : R0 79 1 = some 82 := by decide +kernel
theorem r0_79_2 : R0 79 2 = some 85 := by decide +kernel
theorem r0_79_3 : R0 79 3 = some 86 := by decide +kernel
theorem r0_79_4 : R0 79 4 = some 87 := by decide +kernel
theorem r0_79_5 : R0 79 5 = some 88 := by decide +kernel
theorem r0_80_0 : R0 80 0 = some 81 := by decide +kernel
theorem r0_82_0 : R0 82 0 = some 83 := by decide +kernel
theorem r0_82_1 : R0 82 1 = some 84 := by decide +kernel
theorem r0_89_0 : R0 89 0 = some 90 := by decide +kernel
theorem r0_89_1 : R0 89 1 = some 91 := by decide +kernel
theorem r0_89_2 : R0 89 2 = some 100 := by decide +kernel
theorem r0_89_3 : R0 89 3 = some 110 := by decide +kernel
theorem r0_2_0 : R0 2 0 = some 3 := by decide +kernel
theorem r0_2_1 : R0 2 1 = some 4 := by decide +kernel
theorem r0_2_2 : R0 2 2 = some 5 := by decide +kernel
theorem r0_2_3 : R0 2 3 = some 6 := by decide +kernel
theorem kd_0 : kd 0 = 8 := by decide +kernel
theorem kd_1 : kd 1 = 6 := by decide +kernel
theorem kd_2 : kd 2 = 14 := by decide +kernel
theorem kd_3 : kd 3 = 10 := by decide +kernel
theorem kd_4 : kd 4 = 10 := by decide +kernel
theorem kd_5 : kd 5 = 10 := by decide +kernel
theorem kd_6 : kd 6 = 10 := by decide +kernel
theorem kd_7 : kd 7 = 0 := by decide +kernel
theorem kd_8 : kd 8 = 10 := by decide +kernel
theorem kd_9 : kd 9 = 12 := by decide +kernel
theorem kd_70 : kd 70 = 10 := by decide +kernel
theorem kd_71 : kd 71 = 0 := by decide +kernel
theorem kd_72 : kd 72 = 10 := by decide +kernel
theorem kd_73 : kd 73 = 13 := by decide +kernel
theorem kd_74 : kd 74 = 3 := by decide +kernel
theorem kd_75 : kd 75 = 10 := by decide +kernel
theorem kd_76 : kd 76 = 2 := by decide +kernel
theorem kd_77 : kd 77 = 10 := by decide +kernel
theorem kd_78 : kd 78 = 10 := by decide +kernel
theorem kd_79 : kd 79 = 5 := by decide +kernel
theorem kd_80 : kd 80 = 4 := by decide +kernel
theorem kd_81 : kd 81 = 10 := by decide +kernel
theorem kd_82 : kd 82 = 2 := by decide +kernel
theorem kd_83 : kd 83 = 10 := by decide +kernel
theorem kd_84 : kd 84 = 10 := by decide +kernel
theorem kd_85 : kd 85 = 10 := by decide +kernel
theorem kd_86 : kd 86 = 10 := by decide +kernel
theorem kd_87 : kd 87 = 10 := by decide +kernel
theorem kd_88 : kd 88 = 10 := by decide +kernel
theorem kd_89 : kd 89 = 7 := by decide +kernel
theorem kd_90 : kd 90 = 10 := by decide +kernel
theorem kd_91 : kd 91 = 14 := by decide +kernel
theorem kd_100 : kd 100 = 14 := by decide +kernel
theorem kd_109 : kd 109 = 10 := by decide +kernel
theorem kd_110 : kd 110 = 14 := by decide +kernel
theorem ln_2 : ln 2 = 4 := by decide +kernel
theorem ln_3 : ln 3 = 3 := by decide +kernel
theorem ln_4 : ln 4 = 3 := by decide +kernel
theorem ln_5 : ln 5 = 3 := by decide +kernel
theorem ln_6 : ln 6 = 3 := by decide +kernel
theorem ln_8 : ln 8 = 4 := by decide +kernel
theorem ln_9 : ln 9 = 30 := by decide +kernel
theorem ln_70 : ln 70 = 4 := by decide +kernel
theorem ln_72 : ln 72 = 4 := by decide +kernel
theorem ln_73 : ln 73 = 16 := by decide +kernel
theorem ln_75 : ln 75 = 3 := by decide +kernel
theorem ln_77 : ln 77 = 4 := by decide +kernel
theorem ln_78 : ln 78 = 4 := by decide +kernel
theorem ln_81 : ln 81 = 4 := by decide +kernel
theorem ln_83 : ln 83 = 4 := by decide +kernel
theorem ln_84 : ln 84 = 4 := by decide +kernel
theorem ln_85 : ln 85 = 4 := by decide +kernel
theorem ln_86 : ln 86 = 4 := by decide +kernel
theorem ln_87 : ln 87 = 4 := by decide +kernel
theorem ln_88 : ln 88 = 3 := by decide +kernel
theorem ln_90 : ln 90 = 8 := by decide +kernel
theorem ln_91 : ln 91 = 8 := by decide +kernel
theorem ln_100 : ln 100 = 9 := by decide +kernel
theorem ln_109 : ln 109 = 8 := by decide +kernel
theorem ln_110 : ln 110 = 256 := by decide +kernel
theorem kd_447 : kd 447 = 10 := by decide +kernel
theorem kd_448 : kd 448 = 10 := by decide +kernel
theorem ln_447 : ln 447 = 4 := by decide +kernel
theorem ln_448 : ln 448 = 16 := by decide +kernel
