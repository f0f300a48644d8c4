/-! the private methods of the class -/
def inI (z lo hi : Int) : Int := if lo ≤ z ∧ z ≤ hi then 1 else 0
theorem inI_01 {z lo hi : Int} : inI z lo hi = 0 ∨ inI z lo hi = 1 := by
  unfold inI
  split <;> omega
def areI (a b c : Int) : Int := if (0 ≤ a ∧ a ≤ 100) ∧ (0 ≤ b ∧ b ≤ 100) ∧ (0 ≤ c ∧ c ≤ 100) then 1 else 0
def jgI (g : Int) : Int := if (10 ≤ g ∧ g ≤ 500) ∧ g % 10 = 0 then 1 else 0
/-- how many jobs are mixed, of the first k -/
def nMix (M : Nat → Nat → Int) : Nat → Nat
  | 0 => 0
  | k + 1 => nMix M k + if M (367 + 5 * k) 5 = 1 then 1 else 0
theorem nMix_le {M : Nat → Nat → Int} : ∀ k, nMix M k ≤ k
  | 0 => Nat.le_refl 0
  | k + 1 => by
    have := nMix_le (M := M) k
    rw [nMix]
    split <;> omega
def IOB : String := "java/lang/IndexOutOfBoundsException"
def IAE : String := "java/lang/IllegalArgumentException"
def ISE : String := "java/lang/IllegalStateException"
section C9
variable {l : Launch} {D : va_G} {cy : Nat → ClassId}
set_option maxRecDepth 100000 in
set_option maxHeartbeats 4000000 in
theorem ok_isWithin {M : Nat → Nat → Int} (d : Nat) (z lo hi : Int) (h1 : r32 z) (h2 : r32 lo) (h3 : r32 hi) : Ok l D cy (d + 1) 0 0 yX8_isWithin cX8_isWithin 3 (some (.boolean)) [.inl (z), .inl (lo), .inl (hi)] (N0, R0, M) (det (some (.inl (inI z lo hi))) (N0, R0, M)) := by
  refine Ok.intro (o := 8) (ini := false) [some (.inl (z)), some (.inl (lo)), some (.inl (hi))] (by decide +kernel) rfl (fun h => by cases h) rfl (Nat.le_of_ble_eq_true rfl) rfl ?_
  simp only [r32] at h1 h2 h3
  refine J_rnG GM_fa (by omega) (by omega) (by omega) 3 _ _ _ _ (fun K9v hK9 => ?_)
  simp (maxSteps := 4000000) only [↓(X_iload_n (k := 0) (pc' := 1) dX8_isWithin_0 rfl rfl), ↓gI_0, ↓(X_iload_n (k := 1) (pc' := 2) dX8_isWithin_1 rfl rfl), ↓gI_1, ↓(X_icmp_lt (tgt := 14) (pc' := 5) dX8_isWithin_2 (by decide) rfl), ↓(X_iload_n (k := 0) (pc' := 6) dX8_isWithin_5 rfl rfl), ↓(X_iload_n (k := 2) (pc' := 7) dX8_isWithin_6 rfl rfl), ↓gI_2, ↓(X_icmp_gt (tgt := 14) (pc' := 10) dX8_isWithin_7 (by decide) rfl), ↓(X_iconst (pc' := 11) dX8_isWithin_10 rfl), ↓(X_goto (pc' := 15) dX8_isWithin_11 (by decide)), ↓(X_iconst (pc' := 15) dX8_isWithin_14 rfl), ↓(X_ireturn dX8_isWithin_15), rn_0, gV_s, ↓pI_c, ↓pII_c, ↓pL_c, ↓pLL_c, ↓pR_c, ↓pRI_c, ↓pRII_c, ↓pRIL_c, ↓pRR_c, ↓pV_c, ↓pVV_c, ↓gI_c, ↓gL_c, ↓gR_c, f2_0, f2_1, nk_n, nk_i, nk_r, ↓reduceIte, r32, r64, Nat.reduceAdd, Nat.reduceSub, Nat.reduceEqDiff, Nat.reduceLT, Nat.reduceLeDiff, Nat.reduceBEq, Int.reduceAdd, Int.reduceSub, Int.reduceMul, Int.reduceNeg, Int.reduceToNat, Int.reduceLE, Int.reduceLT, Int.reduceEq, Int.reduceNatCast', Int.reduceNatCast, Int.natCast_zero, Int.toNat_natCast, Int.toNat_zero, Int.toNat_one, List.length_cons, List.length_nil, true_and, and_true, and_self, true_or, or_true, false_or, or_false, Bool.not_true, Bool.not_false, Nat.lt_add_one, Nat.zero_lt_succ, N0, swL_n, swL_c, List.toList_toArray, false_implies, true_implies, implies_true, forall_const, not_false_eq_true, not_true_eq_false, and_false, false_and, h1, h2, h3]
  simp only [hK9]
  clear hK9 K9v
  split
  · rename_i q
    refine J_rnG GM_fa (by omega) (by omega) (by omega) 1 _ _ _ _ (fun K9v hK9 => ?_)
    simp (maxSteps := 4000000) only [↓(X_iconst (pc' := 15) dX8_isWithin_14 rfl), rn_0, gV_s, ↓pI_c, ↓pII_c, ↓pL_c, ↓pLL_c, ↓pR_c, ↓pRI_c, ↓pRII_c, ↓pRIL_c, ↓pRR_c, ↓pV_c, ↓pVV_c, ↓gI_c, ↓gL_c, ↓gR_c, f2_0, f2_1, nk_n, nk_i, nk_r, ↓reduceIte, r32, r64, Nat.reduceAdd, Nat.reduceSub, Nat.reduceEqDiff, Nat.reduceLT, Nat.reduceLeDiff, Nat.reduceBEq, Int.reduceAdd, Int.reduceSub, Int.reduceMul, Int.reduceNeg, Int.reduceToNat, Int.reduceLE, Int.reduceLT, Int.reduceEq, Int.reduceNatCast', Int.reduceNatCast, Int.natCast_zero, Int.toNat_natCast, Int.toNat_zero, Int.toNat_one, List.length_cons, List.length_nil, true_and, and_true, and_self, true_or, or_true, false_or, or_false, Bool.not_true, Bool.not_false, Nat.lt_add_one, Nat.zero_lt_succ, N0, swL_n, swL_c, List.toList_toArray, false_implies, true_implies, implies_true, forall_const, not_false_eq_true, not_true_eq_false, and_false, false_and]
    simp only [hK9]
    clear hK9 K9v
    refine J_zret dX8_isWithin_15 rfl (by first | exact Or.inl rfl | exact Or.inr rfl | omega) (by omega) (by omega) (⟨by rw [inI, if_neg (by omega)], rfl⟩)
  · rename_i q
    refine J_rnG GM_fa (by omega) (by omega) (by omega) 3 _ _ _ _ (fun K9v hK9 => ?_)
    simp (maxSteps := 4000000) only [↓(X_iload_n (k := 0) (pc' := 1) dX8_isWithin_0 rfl rfl), ↓gI_0, ↓(X_iload_n (k := 1) (pc' := 2) dX8_isWithin_1 rfl rfl), ↓gI_1, ↓(X_icmp_lt (tgt := 14) (pc' := 5) dX8_isWithin_2 (by decide) rfl), ↓(X_iload_n (k := 0) (pc' := 6) dX8_isWithin_5 rfl rfl), ↓(X_iload_n (k := 2) (pc' := 7) dX8_isWithin_6 rfl rfl), ↓gI_2, ↓(X_icmp_gt (tgt := 14) (pc' := 10) dX8_isWithin_7 (by decide) rfl), ↓(X_iconst (pc' := 11) dX8_isWithin_10 rfl), ↓(X_goto (pc' := 15) dX8_isWithin_11 (by decide)), ↓(X_iconst (pc' := 15) dX8_isWithin_14 rfl), ↓(X_ireturn dX8_isWithin_15), rn_0, gV_s, ↓pI_c, ↓pII_c, ↓pL_c, ↓pLL_c, ↓pR_c, ↓pRI_c, ↓pRII_c, ↓pRIL_c, ↓pRR_c, ↓pV_c, ↓pVV_c, ↓gI_c, ↓gL_c, ↓gR_c, f2_0, f2_1, nk_n, nk_i, nk_r, ↓reduceIte, r32, r64, Nat.reduceAdd, Nat.reduceSub, Nat.reduceEqDiff, Nat.reduceLT, Nat.reduceLeDiff, Nat.reduceBEq, Int.reduceAdd, Int.reduceSub, Int.reduceMul, Int.reduceNeg, Int.reduceToNat, Int.reduceLE, Int.reduceLT, Int.reduceEq, Int.reduceNatCast', Int.reduceNatCast, Int.natCast_zero, Int.toNat_natCast, Int.toNat_zero, Int.toNat_one, List.length_cons, List.length_nil, true_and, and_true, and_self, true_or, or_true, false_or, or_false, Bool.not_true, Bool.not_false, Nat.lt_add_one, Nat.zero_lt_succ, N0, swL_n, swL_c, List.toList_toArray, false_implies, true_implies, implies_true, forall_const, not_false_eq_true, not_true_eq_false, and_false, false_and, h1, h2, h3]
    simp only [hK9]
    clear hK9 K9v
    split
    · rename_i q2
      refine J_rnG GM_fa (by omega) (by omega) (by omega) 1 _ _ _ _ (fun K9v hK9 => ?_)
      simp (maxSteps := 4000000) only [↓(X_iconst (pc' := 15) dX8_isWithin_14 rfl), rn_0, gV_s, ↓pI_c, ↓pII_c, ↓pL_c, ↓pLL_c, ↓pR_c, ↓pRI_c, ↓pRII_c, ↓pRIL_c, ↓pRR_c, ↓pV_c, ↓pVV_c, ↓gI_c, ↓gL_c, ↓gR_c, f2_0, f2_1, nk_n, nk_i, nk_r, ↓reduceIte, r32, r64, Nat.reduceAdd, Nat.reduceSub, Nat.reduceEqDiff, Nat.reduceLT, Nat.reduceLeDiff, Nat.reduceBEq, Int.reduceAdd, Int.reduceSub, Int.reduceMul, Int.reduceNeg, Int.reduceToNat, Int.reduceLE, Int.reduceLT, Int.reduceEq, Int.reduceNatCast', Int.reduceNatCast, Int.natCast_zero, Int.toNat_natCast, Int.toNat_zero, Int.toNat_one, List.length_cons, List.length_nil, true_and, and_true, and_self, true_or, or_true, false_or, or_false, Bool.not_true, Bool.not_false, Nat.lt_add_one, Nat.zero_lt_succ, N0, swL_n, swL_c, List.toList_toArray, false_implies, true_implies, implies_true, forall_const, not_false_eq_true, not_true_eq_false, and_false, false_and]
      simp only [hK9]
      clear hK9 K9v
      refine J_zret dX8_isWithin_15 rfl (by first | exact Or.inl rfl | exact Or.inr rfl | omega) (by omega) (by omega) (⟨by rw [inI, if_neg (by omega)], rfl⟩)
    · rename_i q2
      refine J_rnG GM_fa (by omega) (by omega) (by omega) 2 _ _ _ _ (fun K9v hK9 => ?_)
      simp (maxSteps := 4000000) only [↓(X_iconst (pc' := 11) dX8_isWithin_10 rfl), ↓(X_goto (pc' := 15) dX8_isWithin_11 (by decide)), rn_0, gV_s, ↓pI_c, ↓pII_c, ↓pL_c, ↓pLL_c, ↓pR_c, ↓pRI_c, ↓pRII_c, ↓pRIL_c, ↓pRR_c, ↓pV_c, ↓pVV_c, ↓gI_c, ↓gL_c, ↓gR_c, f2_0, f2_1, nk_n, nk_i, nk_r, ↓reduceIte, r32, r64, Nat.reduceAdd, Nat.reduceSub, Nat.reduceEqDiff, Nat.reduceLT, Nat.reduceLeDiff, Nat.reduceBEq, Int.reduceAdd, Int.reduceSub, Int.reduceMul, Int.reduceNeg, Int.reduceToNat, Int.reduceLE, Int.reduceLT, Int.reduceEq, Int.reduceNatCast', Int.reduceNatCast, Int.natCast_zero, Int.toNat_natCast, Int.toNat_zero, Int.toNat_one, List.length_cons, List.length_nil, true_and, and_true, and_self, true_or, or_true, false_or, or_false, Bool.not_true, Bool.not_false, Nat.lt_add_one, Nat.zero_lt_succ, N0, swL_n, swL_c, List.toList_toArray, false_implies, true_implies, implies_true, forall_const, not_false_eq_true, not_true_eq_false, and_false, false_and]
      simp only [hK9]
      clear hK9 K9v
      refine J_zret dX8_isWithin_15 rfl (by first | exact Or.inl rfl | exact Or.inr rfl | omega) (by omega) (by omega) (⟨by rw [inI, if_pos (by omega)], rfl⟩)
set_option maxRecDepth 100000 in
set_option maxHeartbeats 4000000 in
theorem ok_isBase {M : Nat → Nat → Int} (d : Nat) (z : Int) (h1 : r32 z) : Ok l D cy (d + 2) 0 0 yX8_isBase cX8_isBase 1 (some (.boolean)) [.inl (z)] (N0, R0, M) (det (some (.inl (inI z 0 3))) (N0, R0, M)) := by
  refine Ok.intro (o := 8) (ini := false) [some (.inl (z))] (by decide +kernel) rfl (fun h => by cases h) rfl (Nat.le_of_ble_eq_true rfl) rfl ?_
  refine J_rnG GM_fa (by omega) (by omega) (by omega) 3 _ _ _ _ (fun K9v hK9 => ?_)
  simp (maxSteps := 4000000) only [↓(X_iload_n (k := 0) (pc' := 1) dX8_isBase_0 rfl rfl), ↓gI_0, ↓(X_iconst (pc' := 2) dX8_isBase_1 rfl), ↓(X_iconst (pc' := 3) dX8_isBase_2 rfl), rn_0, gV_s, ↓pI_c, ↓pII_c, ↓pL_c, ↓pLL_c, ↓pR_c, ↓pRI_c, ↓pRII_c, ↓pRIL_c, ↓pRR_c, ↓pV_c, ↓pVV_c, ↓gI_c, ↓gL_c, ↓gR_c, f2_0, f2_1, nk_n, nk_i, nk_r, ↓reduceIte, r32, r64, Nat.reduceAdd, Nat.reduceSub, Nat.reduceEqDiff, Nat.reduceLT, Nat.reduceLeDiff, Nat.reduceBEq, Int.reduceAdd, Int.reduceSub, Int.reduceMul, Int.reduceNeg, Int.reduceToNat, Int.reduceLE, Int.reduceLT, Int.reduceEq, Int.reduceNatCast', Int.reduceNatCast, Int.natCast_zero, Int.toNat_natCast, Int.toNat_zero, Int.toNat_one, List.length_cons, List.length_nil, true_and, and_true, and_self, true_or, or_true, false_or, or_false, Bool.not_true, Bool.not_false, Nat.lt_add_one, Nat.zero_lt_succ, N0, swL_n, swL_c, List.toList_toArray, false_implies, true_implies, implies_true, forall_const, not_false_eq_true, not_true_eq_false, and_false, false_and]
  simp only [hK9]
  clear hK9 K9v
  refine J_callSd GM_fa (ok_isWithin (M := M) (d + 0) z 0 3 h1 (by simp only [r32]; omega) (by simp only [r32]; omega)) dX8_isBase_3 k_8_88 (by omega) (Nat.le_of_ble_eq_true rfl) ⟨by omega, by omega⟩ rfl (by simp) rfl rfl ?_
  simp only [Option.toList, List.cons_append, List.nil_append]
  have := @inI_01 z 0 3
  refine J_zret dX8_isBase_6 rfl (by first | exact Or.inl rfl | exact Or.inr rfl | omega) (by omega) (by omega) (⟨rfl, rfl⟩)
set_option maxRecDepth 100000 in
set_option maxHeartbeats 4000000 in
theorem ok_isColour {M : Nat → Nat → Int} (d : Nat) (a b c : Int) (h1 : r32 a) (h2 : r32 b) (h3 : r32 c) : Ok l D cy (d + 2) 0 0 yX8_isColour cX8_isColour 3 (some (.boolean)) [.inl (a), .inl (b), .inl (c)] (N0, R0, M) (det (some (.inl (areI a b c))) (N0, R0, M)) := by
  refine Ok.intro (o := 8) (ini := false) [some (.inl (a)), some (.inl (b)), some (.inl (c))] (by decide +kernel) rfl (fun h => by cases h) rfl (Nat.le_of_ble_eq_true rfl) rfl ?_
  refine J_rnG GM_fa (by omega) (by omega) (by omega) 3 _ _ _ _ (fun K9v hK9 => ?_)
  simp (maxSteps := 4000000) only [↓(X_iload_n (k := 0) (pc' := 1) dX8_isColour_0 rfl rfl), ↓gI_0, ↓(X_iconst (pc' := 2) dX8_isColour_1 rfl), ↓(X_bipush (pc' := 4) dX8_isColour_2 rfl), rn_0, gV_s, ↓pI_c, ↓pII_c, ↓pL_c, ↓pLL_c, ↓pR_c, ↓pRI_c, ↓pRII_c, ↓pRIL_c, ↓pRR_c, ↓pV_c, ↓pVV_c, ↓gI_c, ↓gL_c, ↓gR_c, f2_0, f2_1, nk_n, nk_i, nk_r, ↓reduceIte, r32, r64, Nat.reduceAdd, Nat.reduceSub, Nat.reduceEqDiff, Nat.reduceLT, Nat.reduceLeDiff, Nat.reduceBEq, Int.reduceAdd, Int.reduceSub, Int.reduceMul, Int.reduceNeg, Int.reduceToNat, Int.reduceLE, Int.reduceLT, Int.reduceEq, Int.reduceNatCast', Int.reduceNatCast, Int.natCast_zero, Int.toNat_natCast, Int.toNat_zero, Int.toNat_one, List.length_cons, List.length_nil, true_and, and_true, and_self, true_or, or_true, false_or, or_false, Bool.not_true, Bool.not_false, Nat.lt_add_one, Nat.zero_lt_succ, N0, swL_n, swL_c, List.toList_toArray, false_implies, true_implies, implies_true, forall_const, not_false_eq_true, not_true_eq_false, and_false, false_and]
  simp only [hK9]
  clear hK9 K9v
  refine J_callSd GM_fa (ok_isWithin (M := M) (d + 0) a 0 100 h1 (by simp only [r32]; omega) (by simp only [r32]; omega)) dX8_isColour_4 k_8_88 (by omega) (Nat.le_of_ble_eq_true rfl) ⟨by omega, by omega⟩ rfl (by simp) rfl rfl ?_
  simp only [Option.toList, List.cons_append, List.nil_append]
  rcases (show (0 ≤ a ∧ a ≤ 100) ∨ ¬ (0 ≤ a ∧ a ≤ 100) by omega) with q | q
  · rw [inI, if_pos q]
    refine J_rnG GM_fa (by omega) (by omega) (by omega) 4 _ _ _ _ (fun K9v hK9 => ?_)
    simp (maxSteps := 4000000) only [↓(X_if_eq (tgt := 34) (pc' := 10) dX8_isColour_7 (by decide) rfl), ↓(X_iload_n (k := 1) (pc' := 11) dX8_isColour_10 rfl rfl), ↓gI_1, ↓(X_iconst (pc' := 12) dX8_isColour_11 rfl), ↓(X_bipush (pc' := 14) dX8_isColour_12 rfl), rn_0, gV_s, ↓pI_c, ↓pII_c, ↓pL_c, ↓pLL_c, ↓pR_c, ↓pRI_c, ↓pRII_c, ↓pRIL_c, ↓pRR_c, ↓pV_c, ↓pVV_c, ↓gI_c, ↓gL_c, ↓gR_c, f2_0, f2_1, nk_n, nk_i, nk_r, ↓reduceIte, r32, r64, Nat.reduceAdd, Nat.reduceSub, Nat.reduceEqDiff, Nat.reduceLT, Nat.reduceLeDiff, Nat.reduceBEq, Int.reduceAdd, Int.reduceSub, Int.reduceMul, Int.reduceNeg, Int.reduceToNat, Int.reduceLE, Int.reduceLT, Int.reduceEq, Int.reduceNatCast', Int.reduceNatCast, Int.natCast_zero, Int.toNat_natCast, Int.toNat_zero, Int.toNat_one, List.length_cons, List.length_nil, true_and, and_true, and_self, true_or, or_true, false_or, or_false, Bool.not_true, Bool.not_false, Nat.lt_add_one, Nat.zero_lt_succ, N0, swL_n, swL_c, List.toList_toArray, false_implies, true_implies, implies_true, forall_const, not_false_eq_true, not_true_eq_false, and_false, false_and]
    simp only [hK9]
    clear hK9 K9v
    refine J_callSd GM_fa (ok_isWithin (M := M) (d + 0) b 0 100 h2 (by simp only [r32]; omega) (by simp only [r32]; omega)) dX8_isColour_14 k_8_88 (by omega) (Nat.le_of_ble_eq_true rfl) ⟨by omega, by omega⟩ rfl (by simp) rfl rfl ?_
    simp only [Option.toList, List.cons_append, List.nil_append]
    rcases (show (0 ≤ b ∧ b ≤ 100) ∨ ¬ (0 ≤ b ∧ b ≤ 100) by omega) with q2 | q2
    · rw [inI, if_pos q2]
      refine J_rnG GM_fa (by omega) (by omega) (by omega) 4 _ _ _ _ (fun K9v hK9 => ?_)
      simp (maxSteps := 4000000) only [↓(X_if_eq (tgt := 34) (pc' := 20) dX8_isColour_17 (by decide) rfl), ↓(X_iload_n (k := 2) (pc' := 21) dX8_isColour_20 rfl rfl), ↓gI_2, ↓(X_iconst (pc' := 22) dX8_isColour_21 rfl), ↓(X_bipush (pc' := 24) dX8_isColour_22 rfl), rn_0, gV_s, ↓pI_c, ↓pII_c, ↓pL_c, ↓pLL_c, ↓pR_c, ↓pRI_c, ↓pRII_c, ↓pRIL_c, ↓pRR_c, ↓pV_c, ↓pVV_c, ↓gI_c, ↓gL_c, ↓gR_c, f2_0, f2_1, nk_n, nk_i, nk_r, ↓reduceIte, r32, r64, Nat.reduceAdd, Nat.reduceSub, Nat.reduceEqDiff, Nat.reduceLT, Nat.reduceLeDiff, Nat.reduceBEq, Int.reduceAdd, Int.reduceSub, Int.reduceMul, Int.reduceNeg, Int.reduceToNat, Int.reduceLE, Int.reduceLT, Int.reduceEq, Int.reduceNatCast', Int.reduceNatCast, Int.natCast_zero, Int.toNat_natCast, Int.toNat_zero, Int.toNat_one, List.length_cons, List.length_nil, true_and, and_true, and_self, true_or, or_true, false_or, or_false, Bool.not_true, Bool.not_false, Nat.lt_add_one, Nat.zero_lt_succ, N0, swL_n, swL_c, List.toList_toArray, false_implies, true_implies, implies_true, forall_const, not_false_eq_true, not_true_eq_false, and_false, false_and]
      simp only [hK9]
      clear hK9 K9v
      refine J_callSd GM_fa (ok_isWithin (M := M) (d + 0) c 0 100 h3 (by simp only [r32]; omega) (by simp only [r32]; omega)) dX8_isColour_24 k_8_88 (by omega) (Nat.le_of_ble_eq_true rfl) ⟨by omega, by omega⟩ rfl (by simp) rfl rfl ?_
      simp only [Option.toList, List.cons_append, List.nil_append]
      rcases (show (0 ≤ c ∧ c ≤ 100) ∨ ¬ (0 ≤ c ∧ c ≤ 100) by omega) with q3 | q3
      · rw [inI, if_pos q3]
        refine J_rnG GM_fa (by omega) (by omega) (by omega) 3 _ _ _ _ (fun K9v hK9 => ?_)
        simp (maxSteps := 4000000) only [↓(X_if_eq (tgt := 34) (pc' := 30) dX8_isColour_27 (by decide) rfl), ↓(X_iconst (pc' := 31) dX8_isColour_30 rfl), ↓(X_goto (pc' := 35) dX8_isColour_31 (by decide)), rn_0, gV_s, ↓pI_c, ↓pII_c, ↓pL_c, ↓pLL_c, ↓pR_c, ↓pRI_c, ↓pRII_c, ↓pRIL_c, ↓pRR_c, ↓pV_c, ↓pVV_c, ↓gI_c, ↓gL_c, ↓gR_c, f2_0, f2_1, nk_n, nk_i, nk_r, ↓reduceIte, r32, r64, Nat.reduceAdd, Nat.reduceSub, Nat.reduceEqDiff, Nat.reduceLT, Nat.reduceLeDiff, Nat.reduceBEq, Int.reduceAdd, Int.reduceSub, Int.reduceMul, Int.reduceNeg, Int.reduceToNat, Int.reduceLE, Int.reduceLT, Int.reduceEq, Int.reduceNatCast', Int.reduceNatCast, Int.natCast_zero, Int.toNat_natCast, Int.toNat_zero, Int.toNat_one, List.length_cons, List.length_nil, true_and, and_true, and_self, true_or, or_true, false_or, or_false, Bool.not_true, Bool.not_false, Nat.lt_add_one, Nat.zero_lt_succ, N0, swL_n, swL_c, List.toList_toArray, false_implies, true_implies, implies_true, forall_const, not_false_eq_true, not_true_eq_false, and_false, false_and]
        simp only [hK9]
        clear hK9 K9v
        refine J_zret dX8_isColour_35 rfl (by first | exact Or.inl rfl | exact Or.inr rfl | omega) (by omega) (by omega) (⟨by rw [areI, if_pos ⟨q, q2, q3⟩], rfl⟩)
      · rw [inI, if_neg q3]
        refine J_rnG GM_fa (by omega) (by omega) (by omega) 2 _ _ _ _ (fun K9v hK9 => ?_)
        simp (maxSteps := 4000000) only [↓(X_iload_n (k := 0) (pc' := 1) dX8_isColour_0 rfl rfl), ↓gI_0, ↓(X_iconst (pc' := 2) dX8_isColour_1 rfl), ↓(X_bipush (pc' := 4) dX8_isColour_2 rfl), ↓(X_invokestatic (rfl : jd 8 88 = none) dX8_isColour_4), ↓(X_if_eq (tgt := 34) (pc' := 10) dX8_isColour_7 (by decide) rfl), ↓(X_iload_n (k := 1) (pc' := 11) dX8_isColour_10 rfl rfl), ↓gI_1, ↓(X_iconst (pc' := 12) dX8_isColour_11 rfl), ↓(X_bipush (pc' := 14) dX8_isColour_12 rfl), ↓(X_invokestatic (rfl : jd 8 88 = none) dX8_isColour_14), ↓(X_if_eq (tgt := 34) (pc' := 20) dX8_isColour_17 (by decide) rfl), ↓(X_iload_n (k := 2) (pc' := 21) dX8_isColour_20 rfl rfl), ↓gI_2, ↓(X_iconst (pc' := 22) dX8_isColour_21 rfl), ↓(X_bipush (pc' := 24) dX8_isColour_22 rfl), ↓(X_invokestatic (rfl : jd 8 88 = none) dX8_isColour_24), ↓(X_if_eq (tgt := 34) (pc' := 30) dX8_isColour_27 (by decide) rfl), ↓(X_iconst (pc' := 31) dX8_isColour_30 rfl), ↓(X_goto (pc' := 35) dX8_isColour_31 (by decide)), ↓(X_iconst (pc' := 35) dX8_isColour_34 rfl), ↓(X_ireturn dX8_isColour_35), rn_0, gV_s, ↓pI_c, ↓pII_c, ↓pL_c, ↓pLL_c, ↓pR_c, ↓pRI_c, ↓pRII_c, ↓pRIL_c, ↓pRR_c, ↓pV_c, ↓pVV_c, ↓gI_c, ↓gL_c, ↓gR_c, f2_0, f2_1, nk_n, nk_i, nk_r, ↓reduceIte, r32, r64, Nat.reduceAdd, Nat.reduceSub, Nat.reduceEqDiff, Nat.reduceLT, Nat.reduceLeDiff, Nat.reduceBEq, Int.reduceAdd, Int.reduceSub, Int.reduceMul, Int.reduceNeg, Int.reduceToNat, Int.reduceLE, Int.reduceLT, Int.reduceEq, Int.reduceNatCast', Int.reduceNatCast, Int.natCast_zero, Int.toNat_natCast, Int.toNat_zero, Int.toNat_one, List.length_cons, List.length_nil, true_and, and_true, and_self, true_or, or_true, false_or, or_false, Bool.not_true, Bool.not_false, Nat.lt_add_one, Nat.zero_lt_succ, N0, swL_n, swL_c, List.toList_toArray, false_implies, true_implies, implies_true, forall_const, not_false_eq_true, not_true_eq_false, and_false, false_and]
        simp only [hK9]
        clear hK9 K9v
        refine J_zret dX8_isColour_35 rfl (by first | exact Or.inl rfl | exact Or.inr rfl | omega) (by omega) (by omega) (⟨by rw [areI, if_neg (by omega)], rfl⟩)
    · rw [inI, if_neg q2]
      refine J_rnG GM_fa (by omega) (by omega) (by omega) 2 _ _ _ _ (fun K9v hK9 => ?_)
      simp (maxSteps := 4000000) only [↓(X_iload_n (k := 0) (pc' := 1) dX8_isColour_0 rfl rfl), ↓gI_0, ↓(X_iconst (pc' := 2) dX8_isColour_1 rfl), ↓(X_bipush (pc' := 4) dX8_isColour_2 rfl), ↓(X_invokestatic (rfl : jd 8 88 = none) dX8_isColour_4), ↓(X_if_eq (tgt := 34) (pc' := 10) dX8_isColour_7 (by decide) rfl), ↓(X_iload_n (k := 1) (pc' := 11) dX8_isColour_10 rfl rfl), ↓gI_1, ↓(X_iconst (pc' := 12) dX8_isColour_11 rfl), ↓(X_bipush (pc' := 14) dX8_isColour_12 rfl), ↓(X_invokestatic (rfl : jd 8 88 = none) dX8_isColour_14), ↓(X_if_eq (tgt := 34) (pc' := 20) dX8_isColour_17 (by decide) rfl), ↓(X_iload_n (k := 2) (pc' := 21) dX8_isColour_20 rfl rfl), ↓gI_2, ↓(X_iconst (pc' := 22) dX8_isColour_21 rfl), ↓(X_bipush (pc' := 24) dX8_isColour_22 rfl), ↓(X_invokestatic (rfl : jd 8 88 = none) dX8_isColour_24), ↓(X_if_eq (tgt := 34) (pc' := 30) dX8_isColour_27 (by decide) rfl), ↓(X_iconst (pc' := 31) dX8_isColour_30 rfl), ↓(X_goto (pc' := 35) dX8_isColour_31 (by decide)), ↓(X_iconst (pc' := 35) dX8_isColour_34 rfl), ↓(X_ireturn dX8_isColour_35), rn_0, gV_s, ↓pI_c, ↓pII_c, ↓pL_c, ↓pLL_c, ↓pR_c, ↓pRI_c, ↓pRII_c, ↓pRIL_c, ↓pRR_c, ↓pV_c, ↓pVV_c, ↓gI_c, ↓gL_c, ↓gR_c, f2_0, f2_1, nk_n, nk_i, nk_r, ↓reduceIte, r32, r64, Nat.reduceAdd, Nat.reduceSub, Nat.reduceEqDiff, Nat.reduceLT, Nat.reduceLeDiff, Nat.reduceBEq, Int.reduceAdd, Int.reduceSub, Int.reduceMul, Int.reduceNeg, Int.reduceToNat, Int.reduceLE, Int.reduceLT, Int.reduceEq, Int.reduceNatCast', Int.reduceNatCast, Int.natCast_zero, Int.toNat_natCast, Int.toNat_zero, Int.toNat_one, List.length_cons, List.length_nil, true_and, and_true, and_self, true_or, or_true, false_or, or_false, Bool.not_true, Bool.not_false, Nat.lt_add_one, Nat.zero_lt_succ, N0, swL_n, swL_c, List.toList_toArray, false_implies, true_implies, implies_true, forall_const, not_false_eq_true, not_true_eq_false, and_false, false_and]
      simp only [hK9]
      clear hK9 K9v
      refine J_zret dX8_isColour_35 rfl (by first | exact Or.inl rfl | exact Or.inr rfl | omega) (by omega) (by omega) (⟨by rw [areI, if_neg (by omega)], rfl⟩)
  · rw [inI, if_neg q]
    refine J_rnG GM_fa (by omega) (by omega) (by omega) 2 _ _ _ _ (fun K9v hK9 => ?_)
    simp (maxSteps := 4000000) only [↓(X_iload_n (k := 0) (pc' := 1) dX8_isColour_0 rfl rfl), ↓gI_0, ↓(X_iconst (pc' := 2) dX8_isColour_1 rfl), ↓(X_bipush (pc' := 4) dX8_isColour_2 rfl), ↓(X_invokestatic (rfl : jd 8 88 = none) dX8_isColour_4), ↓(X_if_eq (tgt := 34) (pc' := 10) dX8_isColour_7 (by decide) rfl), ↓(X_iload_n (k := 1) (pc' := 11) dX8_isColour_10 rfl rfl), ↓gI_1, ↓(X_iconst (pc' := 12) dX8_isColour_11 rfl), ↓(X_bipush (pc' := 14) dX8_isColour_12 rfl), ↓(X_invokestatic (rfl : jd 8 88 = none) dX8_isColour_14), ↓(X_if_eq (tgt := 34) (pc' := 20) dX8_isColour_17 (by decide) rfl), ↓(X_iload_n (k := 2) (pc' := 21) dX8_isColour_20 rfl rfl), ↓gI_2, ↓(X_iconst (pc' := 22) dX8_isColour_21 rfl), ↓(X_bipush (pc' := 24) dX8_isColour_22 rfl), ↓(X_invokestatic (rfl : jd 8 88 = none) dX8_isColour_24), ↓(X_if_eq (tgt := 34) (pc' := 30) dX8_isColour_27 (by decide) rfl), ↓(X_iconst (pc' := 31) dX8_isColour_30 rfl), ↓(X_goto (pc' := 35) dX8_isColour_31 (by decide)), ↓(X_iconst (pc' := 35) dX8_isColour_34 rfl), ↓(X_ireturn dX8_isColour_35), rn_0, gV_s, ↓pI_c, ↓pII_c, ↓pL_c, ↓pLL_c, ↓pR_c, ↓pRI_c, ↓pRII_c, ↓pRIL_c, ↓pRR_c, ↓pV_c, ↓pVV_c, ↓gI_c, ↓gL_c, ↓gR_c, f2_0, f2_1, nk_n, nk_i, nk_r, ↓reduceIte, r32, r64, Nat.reduceAdd, Nat.reduceSub, Nat.reduceEqDiff, Nat.reduceLT, Nat.reduceLeDiff, Nat.reduceBEq, Int.reduceAdd, Int.reduceSub, Int.reduceMul, Int.reduceNeg, Int.reduceToNat, Int.reduceLE, Int.reduceLT, Int.reduceEq, Int.reduceNatCast', Int.reduceNatCast, Int.natCast_zero, Int.toNat_natCast, Int.toNat_zero, Int.toNat_one, List.length_cons, List.length_nil, true_and, and_true, and_self, true_or, or_true, false_or, or_false, Bool.not_true, Bool.not_false, Nat.lt_add_one, Nat.zero_lt_succ, N0, swL_n, swL_c, List.toList_toArray, false_implies, true_implies, implies_true, forall_const, not_false_eq_true, not_true_eq_false, and_false, false_and]
    simp only [hK9]
    clear hK9 K9v
    refine J_zret dX8_isColour_35 rfl (by first | exact Or.inl rfl | exact Or.inr rfl | omega) (by omega) (by omega) (⟨by rw [areI, if_neg (by omega)], rfl⟩)
set_option maxRecDepth 100000 in
set_option maxHeartbeats 4000000 in
theorem ok_isJobGrams {M : Nat → Nat → Int} (d : Nat) (a : Int) (h1 : r32 a) : Ok l D cy (d + 2) 0 0 yX8_isJobGrams cX8_isJobGrams 1 (some (.boolean)) [.inl (a)] (N0, R0, M) (det (some (.inl (jgI a))) (N0, R0, M)) := by
  refine Ok.intro (o := 8) (ini := false) [some (.inl (a))] (by decide +kernel) rfl (fun h => by cases h) rfl (Nat.le_of_ble_eq_true rfl) rfl ?_
  refine J_rnG GM_fa (by omega) (by omega) (by omega) 3 _ _ _ _ (fun K9v hK9 => ?_)
  simp (maxSteps := 4000000) only [↓(X_iload_n (k := 0) (pc' := 1) dX8_isJobGrams_0 rfl rfl), ↓gI_0, ↓(X_bipush (pc' := 3) dX8_isJobGrams_1 rfl), ↓(X_sipush (pc' := 6) dX8_isJobGrams_3 rfl), rn_0, gV_s, ↓pI_c, ↓pII_c, ↓pL_c, ↓pLL_c, ↓pR_c, ↓pRI_c, ↓pRII_c, ↓pRIL_c, ↓pRR_c, ↓pV_c, ↓pVV_c, ↓gI_c, ↓gL_c, ↓gR_c, f2_0, f2_1, nk_n, nk_i, nk_r, ↓reduceIte, r32, r64, Nat.reduceAdd, Nat.reduceSub, Nat.reduceEqDiff, Nat.reduceLT, Nat.reduceLeDiff, Nat.reduceBEq, Int.reduceAdd, Int.reduceSub, Int.reduceMul, Int.reduceNeg, Int.reduceToNat, Int.reduceLE, Int.reduceLT, Int.reduceEq, Int.reduceNatCast', Int.reduceNatCast, Int.natCast_zero, Int.toNat_natCast, Int.toNat_zero, Int.toNat_one, List.length_cons, List.length_nil, true_and, and_true, and_self, true_or, or_true, false_or, or_false, Bool.not_true, Bool.not_false, Nat.lt_add_one, Nat.zero_lt_succ, N0, swL_n, swL_c, List.toList_toArray, false_implies, true_implies, implies_true, forall_const, not_false_eq_true, not_true_eq_false, and_false, false_and]
  simp only [hK9]
  clear hK9 K9v
  refine J_callSd GM_fa (ok_isWithin (M := M) (d + 0) a 10 500 h1 (by simp only [r32]; omega) (by simp only [r32]; omega)) dX8_isJobGrams_6 k_8_88 (by omega) (Nat.le_of_ble_eq_true rfl) ⟨by omega, by omega⟩ rfl (by simp) rfl rfl ?_
  simp only [Option.toList, List.cons_append, List.nil_append]
  rcases (show (10 ≤ a ∧ a ≤ 500) ∨ ¬ (10 ≤ a ∧ a ≤ 500) by omega) with q | q
  · rw [inI, if_pos q]
    have r1 : 0 ≤ a ∧ a ≤ 2147483647 := by omega
    have r2 : -2147483648 ≤ a % 10 ∧ a % 10 ≤ 2147483647 := by omega
    refine J_rnG GM_fa (by omega) (by omega) (by omega) 5 _ _ _ _ (fun K9v hK9 => ?_)
    simp (maxSteps := 4000000) only [↓(X_if_eq (tgt := 23) (pc' := 12) dX8_isJobGrams_9 (by decide) rfl), ↓(X_iload_n (k := 0) (pc' := 13) dX8_isJobGrams_12 rfl rfl), ↓gI_0, ↓(X_bipush (pc' := 15) dX8_isJobGrams_13 rfl), ↓(X_irem (pc' := 16) dX8_isJobGrams_15 rfl), ↓(X_if_ne (tgt := 23) (pc' := 19) dX8_isJobGrams_16 (by decide) rfl), rn_0, gV_s, ↓pI_c, ↓pII_c, ↓pL_c, ↓pLL_c, ↓pR_c, ↓pRI_c, ↓pRII_c, ↓pRIL_c, ↓pRR_c, ↓pV_c, ↓pVV_c, ↓gI_c, ↓gL_c, ↓gR_c, f2_0, f2_1, nk_n, nk_i, nk_r, ↓reduceIte, r32, r64, Nat.reduceAdd, Nat.reduceSub, Nat.reduceEqDiff, Nat.reduceLT, Nat.reduceLeDiff, Nat.reduceBEq, Int.reduceAdd, Int.reduceSub, Int.reduceMul, Int.reduceNeg, Int.reduceToNat, Int.reduceLE, Int.reduceLT, Int.reduceEq, Int.reduceNatCast', Int.reduceNatCast, Int.natCast_zero, Int.toNat_natCast, Int.toNat_zero, Int.toNat_one, List.length_cons, List.length_nil, true_and, and_true, and_self, true_or, or_true, false_or, or_false, Bool.not_true, Bool.not_false, Nat.lt_add_one, Nat.zero_lt_succ, N0, swL_n, swL_c, List.toList_toArray, false_implies, true_implies, implies_true, forall_const, not_false_eq_true, not_true_eq_false, and_false, false_and, r1, r2]
    simp only [hK9]
    clear hK9 K9v
    split
    · rename_i q2
      refine J_rnG GM_fa (by omega) (by omega) (by omega) 2 _ _ _ _ (fun K9v hK9 => ?_)
      simp (maxSteps := 4000000) only [↓(X_iconst (pc' := 20) dX8_isJobGrams_19 rfl), ↓(X_goto (pc' := 24) dX8_isJobGrams_20 (by decide)), rn_0, gV_s, ↓pI_c, ↓pII_c, ↓pL_c, ↓pLL_c, ↓pR_c, ↓pRI_c, ↓pRII_c, ↓pRIL_c, ↓pRR_c, ↓pV_c, ↓pVV_c, ↓gI_c, ↓gL_c, ↓gR_c, f2_0, f2_1, nk_n, nk_i, nk_r, ↓reduceIte, r32, r64, Nat.reduceAdd, Nat.reduceSub, Nat.reduceEqDiff, Nat.reduceLT, Nat.reduceLeDiff, Nat.reduceBEq, Int.reduceAdd, Int.reduceSub, Int.reduceMul, Int.reduceNeg, Int.reduceToNat, Int.reduceLE, Int.reduceLT, Int.reduceEq, Int.reduceNatCast', Int.reduceNatCast, Int.natCast_zero, Int.toNat_natCast, Int.toNat_zero, Int.toNat_one, List.length_cons, List.length_nil, true_and, and_true, and_self, true_or, or_true, false_or, or_false, Bool.not_true, Bool.not_false, Nat.lt_add_one, Nat.zero_lt_succ, N0, swL_n, swL_c, List.toList_toArray, false_implies, true_implies, implies_true, forall_const, not_false_eq_true, not_true_eq_false, and_false, false_and]
      simp only [hK9]
      clear hK9 K9v
      refine J_zret dX8_isJobGrams_24 rfl (by first | exact Or.inl rfl | exact Or.inr rfl | omega) (by omega) (by omega) (⟨by rw [jgI, if_pos ⟨q, q2⟩], rfl⟩)
    · rename_i q2
      refine J_rnG GM_fa (by omega) (by omega) (by omega) 1 _ _ _ _ (fun K9v hK9 => ?_)
      simp (maxSteps := 4000000) only [↓(X_iconst (pc' := 24) dX8_isJobGrams_23 rfl), rn_0, gV_s, ↓pI_c, ↓pII_c, ↓pL_c, ↓pLL_c, ↓pR_c, ↓pRI_c, ↓pRII_c, ↓pRIL_c, ↓pRR_c, ↓pV_c, ↓pVV_c, ↓gI_c, ↓gL_c, ↓gR_c, f2_0, f2_1, nk_n, nk_i, nk_r, ↓reduceIte, r32, r64, Nat.reduceAdd, Nat.reduceSub, Nat.reduceEqDiff, Nat.reduceLT, Nat.reduceLeDiff, Nat.reduceBEq, Int.reduceAdd, Int.reduceSub, Int.reduceMul, Int.reduceNeg, Int.reduceToNat, Int.reduceLE, Int.reduceLT, Int.reduceEq, Int.reduceNatCast', Int.reduceNatCast, Int.natCast_zero, Int.toNat_natCast, Int.toNat_zero, Int.toNat_one, List.length_cons, List.length_nil, true_and, and_true, and_self, true_or, or_true, false_or, or_false, Bool.not_true, Bool.not_false, Nat.lt_add_one, Nat.zero_lt_succ, N0, swL_n, swL_c, List.toList_toArray, false_implies, true_implies, implies_true, forall_const, not_false_eq_true, not_true_eq_false, and_false, false_and]
      simp only [hK9]
      clear hK9 K9v
      refine J_zret dX8_isJobGrams_24 rfl (by first | exact Or.inl rfl | exact Or.inr rfl | omega) (by omega) (by omega) (⟨by rw [jgI, if_neg (by omega)], rfl⟩)
  · rw [inI, if_neg q]
    refine J_rnG GM_fa (by omega) (by omega) (by omega) 2 _ _ _ _ (fun K9v hK9 => ?_)
    simp (maxSteps := 4000000) only [↓(X_iload_n (k := 0) (pc' := 1) dX8_isJobGrams_0 rfl rfl), ↓gI_0, ↓(X_bipush (pc' := 3) dX8_isJobGrams_1 rfl), ↓(X_sipush (pc' := 6) dX8_isJobGrams_3 rfl), ↓(X_invokestatic (rfl : jd 8 88 = none) dX8_isJobGrams_6), ↓(X_if_eq (tgt := 23) (pc' := 12) dX8_isJobGrams_9 (by decide) rfl), ↓(X_iload_n (k := 0) (pc' := 13) dX8_isJobGrams_12 rfl rfl), ↓(X_bipush (pc' := 15) dX8_isJobGrams_13 rfl), ↓(X_irem (pc' := 16) dX8_isJobGrams_15 rfl), ↓(X_if_ne (tgt := 23) (pc' := 19) dX8_isJobGrams_16 (by decide) rfl), ↓(X_iconst (pc' := 20) dX8_isJobGrams_19 rfl), ↓(X_goto (pc' := 24) dX8_isJobGrams_20 (by decide)), ↓(X_iconst (pc' := 24) dX8_isJobGrams_23 rfl), ↓(X_ireturn dX8_isJobGrams_24), rn_0, gV_s, ↓pI_c, ↓pII_c, ↓pL_c, ↓pLL_c, ↓pR_c, ↓pRI_c, ↓pRII_c, ↓pRIL_c, ↓pRR_c, ↓pV_c, ↓pVV_c, ↓gI_c, ↓gL_c, ↓gR_c, f2_0, f2_1, nk_n, nk_i, nk_r, ↓reduceIte, r32, r64, Nat.reduceAdd, Nat.reduceSub, Nat.reduceEqDiff, Nat.reduceLT, Nat.reduceLeDiff, Nat.reduceBEq, Int.reduceAdd, Int.reduceSub, Int.reduceMul, Int.reduceNeg, Int.reduceToNat, Int.reduceLE, Int.reduceLT, Int.reduceEq, Int.reduceNatCast', Int.reduceNatCast, Int.natCast_zero, Int.toNat_natCast, Int.toNat_zero, Int.toNat_one, List.length_cons, List.length_nil, true_and, and_true, and_self, true_or, or_true, false_or, or_false, Bool.not_true, Bool.not_false, Nat.lt_add_one, Nat.zero_lt_succ, N0, swL_n, swL_c, List.toList_toArray, false_implies, true_implies, implies_true, forall_const, not_false_eq_true, not_true_eq_false, and_false, false_and]
    simp only [hK9]
    clear hK9 K9v
    refine J_zret dX8_isJobGrams_24 rfl (by first | exact Or.inl rfl | exact Or.inr rfl | omega) (by omega) (by omega) (⟨by rw [jgI, if_neg (by omega)], rfl⟩)
set_option maxRecDepth 100000 in
set_option maxHeartbeats 4000000 in
theorem ok_setColour {M : Nat → Nat → Int} (d g : Nat) (a b c : Int) (kg : kd g = 10) (lg9 : ln g = 3) (hg : g < 449) : Ok l D cy (d + 1) 0 0 yX8_setColour cX8_setColour 4 (none) [.inr (.inr (some (g))), .inl (a), .inl (b), .inl (c)] (N0, R0, M) (det none (N0, R0, up2 (up2 (up2 M g 0 a) g 1 b) g 2 c)) := by
  refine Ok.intro (o := 8) (ini := false) [some (.inr (.inr (some (g)))), some (.inl (a)), some (.inl (b)), some (.inl (c))] (by decide +kernel) rfl (fun h => by cases h) rfl (Nat.le_of_ble_eq_true rfl) rfl ?_
  refine J_rnG GM_fa (by omega) (by omega) (by omega) 12 _ _ _ _ (fun K9v hK9 => ?_)
  simp (maxSteps := 4000000) only [↓(X_aload_n (k := 0) (pc' := 1) dX8_setColour_0 rfl rfl), ↓gR_0, ↓(X_iconst (pc' := 2) dX8_setColour_1 rfl), ↓(X_iload_n (k := 1) (pc' := 3) dX8_setColour_2 rfl rfl), ↓gI_1, ↓(X_iastore (pc' := 4) dX8_setColour_3 rfl), ↓(X_aload_n (k := 0) (pc' := 5) dX8_setColour_4 rfl rfl), ↓(X_iconst (pc' := 6) dX8_setColour_5 rfl), ↓(X_iload_n (k := 2) (pc' := 7) dX8_setColour_6 rfl rfl), ↓gI_2, ↓(X_iastore (pc' := 8) dX8_setColour_7 rfl), ↓(X_aload_n (k := 0) (pc' := 9) dX8_setColour_8 rfl rfl), ↓(X_iconst (pc' := 10) dX8_setColour_9 rfl), ↓(X_iload_n (k := 3) (pc' := 11) dX8_setColour_10 rfl rfl), ↓gI_3, ↓(X_iastore (pc' := 12) dX8_setColour_11 rfl), rn_0, gV_s, ↓pI_c, ↓pII_c, ↓pL_c, ↓pLL_c, ↓pR_c, ↓pRI_c, ↓pRII_c, ↓pRIL_c, ↓pRR_c, ↓pV_c, ↓pVV_c, ↓gI_c, ↓gL_c, ↓gR_c, f2_0, f2_1, nk_n, nk_i, nk_r, ↓reduceIte, r32, r64, Nat.reduceAdd, Nat.reduceSub, Nat.reduceEqDiff, Nat.reduceLT, Nat.reduceLeDiff, Nat.reduceBEq, Int.reduceAdd, Int.reduceSub, Int.reduceMul, Int.reduceNeg, Int.reduceToNat, Int.reduceLE, Int.reduceLT, Int.reduceEq, Int.reduceNatCast', Int.reduceNatCast, Int.natCast_zero, Int.toNat_natCast, Int.toNat_zero, Int.toNat_one, List.length_cons, List.length_nil, true_and, and_true, and_self, true_or, or_true, false_or, or_false, Bool.not_true, Bool.not_false, Nat.lt_add_one, Nat.zero_lt_succ, N0, swL_n, swL_c, List.toList_toArray, false_implies, true_implies, implies_true, forall_const, not_false_eq_true, not_true_eq_false, and_false, false_and, kg, lg9, hg]
  simp only [hK9]
  clear hK9 K9v
  refine J_vret dX8_setColour_12 rfl (by omega) (by omega) (⟨rfl, rfl⟩)
set_option maxRecDepth 100000 in
set_option maxHeartbeats 4000000 in
theorem ok_jobNumbered {M : Nat → Nat → Int} (hl9 : l.stackTraces = false) (d n : Nat) (z : Int) (hz : r32 z) (hn : M 0 8 = (n : Int)) (hn2 : n ≤ 16) : Ok l D cy (d + 6) 1 6 yX8_jobNumbered cX8_jobNumbered 2 (some (.object "InkKitchen$Job")) [.inr (.inr (some (0))), .inl (z)] (N0, R0, M) (fun o ν => ν = (N0, R0, M) ∧ ((¬ (0 ≤ z ∧ z < (n : Int)) ∧ o = .inr IOB) ∨ ((0 ≤ z ∧ z < (n : Int)) ∧ o = .inl (some (.inr (.inr (some (367 + 5 * z.toNat)))))))) := by
  refine Ok.intro (o := 8) (ini := false) [some (.inr (.inr (some (0)))), some (.inl (z))] (by decide +kernel) rfl (fun h => by cases h) rfl (Nat.le_of_ble_eq_true rfl) rfl ?_
  simp only [r32] at hz
  have r1 : -2147483648 ≤ (n : Int) ∧ (n : Int) ≤ 2147483647 := by omega
  rcases (show z < 0 ∨ 0 ≤ z by omega) with q | q
  · refine J_rnG GM_fa (by omega) (by omega) (by omega) 2 _ _ _ _ (fun K9v hK9 => ?_)
    simp (maxSteps := 4000000) only [↓(X_iload_n (k := 1) (pc' := 1) dX8_jobNumbered_0 rfl rfl), ↓gI_1, ↓(X_if_lt (tgt := 12) (pc' := 4) dX8_jobNumbered_1 (by decide) rfl), rn_0, gV_s, ↓pI_c, ↓pII_c, ↓pL_c, ↓pLL_c, ↓pR_c, ↓pRI_c, ↓pRII_c, ↓pRIL_c, ↓pRR_c, ↓pV_c, ↓pVV_c, ↓gI_c, ↓gL_c, ↓gR_c, f2_0, f2_1, nk_n, nk_i, nk_r, ↓reduceIte, r32, r64, Nat.reduceAdd, Nat.reduceSub, Nat.reduceEqDiff, Nat.reduceLT, Nat.reduceLeDiff, Nat.reduceBEq, Int.reduceAdd, Int.reduceSub, Int.reduceMul, Int.reduceNeg, Int.reduceToNat, Int.reduceLE, Int.reduceLT, Int.reduceEq, Int.reduceNatCast', Int.reduceNatCast, Int.natCast_zero, Int.toNat_natCast, Int.toNat_zero, Int.toNat_one, List.length_cons, List.length_nil, true_and, and_true, and_self, true_or, or_true, false_or, or_false, Bool.not_true, Bool.not_false, Nat.lt_add_one, Nat.zero_lt_succ, N0, swL_n, swL_c, List.toList_toArray, false_implies, true_implies, implies_true, forall_const, not_false_eq_true, not_true_eq_false, and_false, false_and, hz, q]
    simp only [hK9]
    clear hK9 K9v
    refine J_throw hl9 tOK_215 dX8_jobNumbered_12 dX8_jobNumbered_15 dX8_jobNumbered_16 dX8_jobNumbered_19 (by omega) (by simp) (by omega) (by omega) (⟨rfl, Or.inl ⟨by omega, rfl⟩⟩)
  · have q' : ¬ z < 0 := by omega
    rcases (show z < (n : Int) ∨ ¬ z < (n : Int) by omega) with q2 | q2
    · obtain ⟨j, rfl⟩ : ∃ j : Nat, z = (j : Int) := ⟨z.toNat, by omega⟩
      obtain ⟨a1, -, -, -, -, -, -, -, -, -, -, a2, -⟩ := job_at j (by omega)
      have i1 : (j : Int) < 16 := by omega
      refine J_rnG GM_fa (by omega) (by omega) (by omega) 6 _ _ _ _ (fun K9v hK9 => ?_)
      simp (maxSteps := 4000000) only [↓(X_iload_n (k := 1) (pc' := 1) dX8_jobNumbered_0 rfl rfl), ↓gI_1, ↓(X_if_lt (tgt := 12) (pc' := 4) dX8_jobNumbered_1 (by decide) rfl), ↓(X_iload_n (k := 1) (pc' := 5) dX8_jobNumbered_4 rfl rfl), ↓(X_aload_n (k := 0) (pc' := 6) dX8_jobNumbered_5 rfl rfl), ↓gR_0, ↓(X_getI (pc' := 9) fl_8_101 (by decide) dX8_jobNumbered_6 rfl), kd_0, ↓(X_icmp_lt (tgt := 20) (pc' := 12) dX8_jobNumbered_9 (by decide) rfl), rn_0, gV_s, ↓pI_c, ↓pII_c, ↓pL_c, ↓pLL_c, ↓pR_c, ↓pRI_c, ↓pRII_c, ↓pRIL_c, ↓pRR_c, ↓pV_c, ↓pVV_c, ↓gI_c, ↓gL_c, ↓gR_c, f2_0, f2_1, nk_n, nk_i, nk_r, ↓reduceIte, r32, r64, Nat.reduceAdd, Nat.reduceSub, Nat.reduceEqDiff, Nat.reduceLT, Nat.reduceLeDiff, Nat.reduceBEq, Int.reduceAdd, Int.reduceSub, Int.reduceMul, Int.reduceNeg, Int.reduceToNat, Int.reduceLE, Int.reduceLT, Int.reduceEq, Int.reduceNatCast', Int.reduceNatCast, Int.natCast_zero, Int.toNat_natCast, Int.toNat_zero, Int.toNat_one, List.length_cons, List.length_nil, true_and, and_true, and_self, true_or, or_true, false_or, or_false, Bool.not_true, Bool.not_false, Nat.lt_add_one, Nat.zero_lt_succ, N0, swL_n, swL_c, List.toList_toArray, false_implies, true_implies, implies_true, forall_const, not_false_eq_true, not_true_eq_false, and_false, false_and, hz, q, q', q2, hn, r1]
      simp only [hK9]
      clear hK9 K9v
      refine J_rnG GM_fa (by omega) (by omega) (by omega) 4 _ _ _ _ (fun K9v hK9 => ?_)
      simp (maxSteps := 4000000) only [↓(X_aload_n (k := 0) (pc' := 21) dX8_jobNumbered_20 rfl rfl), ↓gR_0, ↓(X_getR (pc' := 24) fl_8_29 dX8_jobNumbered_21 rfl), kd_0, ↓(gV_c r0_0_3), kd_73, ln_73, ↓(X_iload_n (k := 1) (pc' := 25) dX8_jobNumbered_24 rfl rfl), ↓gI_1, ↓(X_aaload (pc' := 26) dX8_jobNumbered_25 rfl), rn_0, gV_s, ↓pI_c, ↓pII_c, ↓pL_c, ↓pLL_c, ↓pR_c, ↓pRI_c, ↓pRII_c, ↓pRIL_c, ↓pRR_c, ↓pV_c, ↓pVV_c, ↓gI_c, ↓gL_c, ↓gR_c, f2_0, f2_1, nk_n, nk_i, nk_r, ↓reduceIte, r32, r64, Nat.reduceAdd, Nat.reduceSub, Nat.reduceEqDiff, Nat.reduceLT, Nat.reduceLeDiff, Nat.reduceBEq, Int.reduceAdd, Int.reduceSub, Int.reduceMul, Int.reduceNeg, Int.reduceToNat, Int.reduceLE, Int.reduceLT, Int.reduceEq, Int.reduceNatCast', Int.reduceNatCast, Int.natCast_zero, Int.toNat_natCast, Int.toNat_zero, Int.toNat_one, List.length_cons, List.length_nil, true_and, and_true, and_self, true_or, or_true, false_or, or_false, Bool.not_true, Bool.not_false, Nat.lt_add_one, Nat.zero_lt_succ, N0, swL_n, swL_c, List.toList_toArray, false_implies, true_implies, implies_true, forall_const, not_false_eq_true, not_true_eq_false, and_false, false_and, q, i1, ↓(gV_c a2)]
      simp only [hK9]
      clear hK9 K9v
      refine J_aret dX8_jobNumbered_26 ⟨_, rfl⟩ (by simp only [N0]; omega) (by omega) (by omega) (⟨rfl, Or.inr ⟨⟨q, q2⟩, by rw [Int.toNat_natCast]⟩⟩)
    · refine J_rnG GM_fa (by omega) (by omega) (by omega) 6 _ _ _ _ (fun K9v hK9 => ?_)
      simp (maxSteps := 4000000) only [↓(X_iload_n (k := 1) (pc' := 1) dX8_jobNumbered_0 rfl rfl), ↓gI_1, ↓(X_if_lt (tgt := 12) (pc' := 4) dX8_jobNumbered_1 (by decide) rfl), ↓(X_iload_n (k := 1) (pc' := 5) dX8_jobNumbered_4 rfl rfl), ↓(X_aload_n (k := 0) (pc' := 6) dX8_jobNumbered_5 rfl rfl), ↓gR_0, ↓(X_getI (pc' := 9) fl_8_101 (by decide) dX8_jobNumbered_6 rfl), kd_0, ↓(X_icmp_lt (tgt := 20) (pc' := 12) dX8_jobNumbered_9 (by decide) rfl), rn_0, gV_s, ↓pI_c, ↓pII_c, ↓pL_c, ↓pLL_c, ↓pR_c, ↓pRI_c, ↓pRII_c, ↓pRIL_c, ↓pRR_c, ↓pV_c, ↓pVV_c, ↓gI_c, ↓gL_c, ↓gR_c, f2_0, f2_1, nk_n, nk_i, nk_r, ↓reduceIte, r32, r64, Nat.reduceAdd, Nat.reduceSub, Nat.reduceEqDiff, Nat.reduceLT, Nat.reduceLeDiff, Nat.reduceBEq, Int.reduceAdd, Int.reduceSub, Int.reduceMul, Int.reduceNeg, Int.reduceToNat, Int.reduceLE, Int.reduceLT, Int.reduceEq, Int.reduceNatCast', Int.reduceNatCast, Int.natCast_zero, Int.toNat_natCast, Int.toNat_zero, Int.toNat_one, List.length_cons, List.length_nil, true_and, and_true, and_self, true_or, or_true, false_or, or_false, Bool.not_true, Bool.not_false, Nat.lt_add_one, Nat.zero_lt_succ, N0, swL_n, swL_c, List.toList_toArray, false_implies, true_implies, implies_true, forall_const, not_false_eq_true, not_true_eq_false, and_false, false_and, hz, q, q', q2, hn, r1]
      simp only [hK9]
      clear hK9 K9v
      refine J_throw hl9 tOK_215 dX8_jobNumbered_12 dX8_jobNumbered_15 dX8_jobNumbered_16 dX8_jobNumbered_19 (by omega) (by simp) (by omega) (by omega) (⟨rfl, Or.inl ⟨by omega, rfl⟩⟩)
set_option maxRecDepth 100000 in
set_option maxHeartbeats 4000000 in
theorem ok_tinNumbered {M : Nat → Nat → Int} (hl9 : l.stackTraces = false) (d n : Nat) (z : Int) (hz : r32 z) (hn : M 1 3 = (n : Int)) (hn2 : n ≤ 30) : Ok l D cy (d + 6) 1 6 yX8_tinNumbered cX8_tinNumbered 2 (some (.object "InkKitchen$Ink")) [.inr (.inr (some (0))), .inl (z)] (N0, R0, M) (fun o ν => ν = (N0, R0, M) ∧ ((¬ (0 ≤ z ∧ z < (n : Int)) ∧ o = .inr IOB) ∨ ((0 ≤ z ∧ z < (n : Int)) ∧ o = .inl (some (.inr (.inr (some (10 + 2 * z.toNat)))))))) := by
  refine Ok.intro (o := 8) (ini := false) [some (.inr (.inr (some (0)))), some (.inl (z))] (by decide +kernel) rfl (fun h => by cases h) rfl (Nat.le_of_ble_eq_true rfl) rfl ?_
  simp only [r32] at hz
  have r1 : -2147483648 ≤ (n : Int) ∧ (n : Int) ≤ 2147483647 := by omega
  rcases (show z < 0 ∨ 0 ≤ z by omega) with q | q
  · refine J_rnG GM_fa (by omega) (by omega) (by omega) 2 _ _ _ _ (fun K9v hK9 => ?_)
    simp (maxSteps := 4000000) only [↓(X_iload_n (k := 1) (pc' := 1) dX8_tinNumbered_0 rfl rfl), ↓gI_1, ↓(X_if_lt (tgt := 15) (pc' := 4) dX8_tinNumbered_1 (by decide) rfl), rn_0, gV_s, ↓pI_c, ↓pII_c, ↓pL_c, ↓pLL_c, ↓pR_c, ↓pRI_c, ↓pRII_c, ↓pRIL_c, ↓pRR_c, ↓pV_c, ↓pVV_c, ↓gI_c, ↓gL_c, ↓gR_c, f2_0, f2_1, nk_n, nk_i, nk_r, ↓reduceIte, r32, r64, Nat.reduceAdd, Nat.reduceSub, Nat.reduceEqDiff, Nat.reduceLT, Nat.reduceLeDiff, Nat.reduceBEq, Int.reduceAdd, Int.reduceSub, Int.reduceMul, Int.reduceNeg, Int.reduceToNat, Int.reduceLE, Int.reduceLT, Int.reduceEq, Int.reduceNatCast', Int.reduceNatCast, Int.natCast_zero, Int.toNat_natCast, Int.toNat_zero, Int.toNat_one, List.length_cons, List.length_nil, true_and, and_true, and_self, true_or, or_true, false_or, or_false, Bool.not_true, Bool.not_false, Nat.lt_add_one, Nat.zero_lt_succ, N0, swL_n, swL_c, List.toList_toArray, false_implies, true_implies, implies_true, forall_const, not_false_eq_true, not_true_eq_false, and_false, false_and, hz, q]
    simp only [hK9]
    clear hK9 K9v
    refine J_throw hl9 tOK_215 dX8_tinNumbered_15 dX8_tinNumbered_18 dX8_tinNumbered_19 dX8_tinNumbered_22 (by omega) (by simp) (by omega) (by omega) (⟨rfl, Or.inl ⟨by omega, rfl⟩⟩)
  · have q' : ¬ z < 0 := by omega
    rcases (show z < (n : Int) ∨ ¬ z < (n : Int) by omega) with q2 | q2
    · obtain ⟨j, rfl⟩ : ∃ j : Nat, z = (j : Int) := ⟨z.toNat, by omega⟩
      obtain ⟨t1, t2, t3, t4, t5⟩ := tin_at j (by omega)
      have i1 : (j : Int) < 30 := by omega
      refine J_rnG GM_fa (by omega) (by omega) (by omega) 7 _ _ _ _ (fun K9v hK9 => ?_)
      simp (maxSteps := 4000000) only [↓(X_iload_n (k := 1) (pc' := 1) dX8_tinNumbered_0 rfl rfl), ↓gI_1, ↓(X_if_lt (tgt := 15) (pc' := 4) dX8_tinNumbered_1 (by decide) rfl), ↓(X_iload_n (k := 1) (pc' := 5) dX8_tinNumbered_4 rfl rfl), ↓(X_aload_n (k := 0) (pc' := 6) dX8_tinNumbered_5 rfl rfl), ↓gR_0, ↓(X_getR (pc' := 9) fl_8_10 dX8_tinNumbered_6 rfl), kd_0, ↓(gV_c r0_0_0), kd_1, ↓(X_getI (pc' := 12) fl_8_154 (by decide) dX8_tinNumbered_9 rfl), ↓(X_icmp_lt (tgt := 23) (pc' := 15) dX8_tinNumbered_12 (by decide) rfl), rn_0, gV_s, ↓pI_c, ↓pII_c, ↓pL_c, ↓pLL_c, ↓pR_c, ↓pRI_c, ↓pRII_c, ↓pRIL_c, ↓pRR_c, ↓pV_c, ↓pVV_c, ↓gI_c, ↓gL_c, ↓gR_c, f2_0, f2_1, nk_n, nk_i, nk_r, ↓reduceIte, r32, r64, Nat.reduceAdd, Nat.reduceSub, Nat.reduceEqDiff, Nat.reduceLT, Nat.reduceLeDiff, Nat.reduceBEq, Int.reduceAdd, Int.reduceSub, Int.reduceMul, Int.reduceNeg, Int.reduceToNat, Int.reduceLE, Int.reduceLT, Int.reduceEq, Int.reduceNatCast', Int.reduceNatCast, Int.natCast_zero, Int.toNat_natCast, Int.toNat_zero, Int.toNat_one, List.length_cons, List.length_nil, true_and, and_true, and_self, true_or, or_true, false_or, or_false, Bool.not_true, Bool.not_false, Nat.lt_add_one, Nat.zero_lt_succ, N0, swL_n, swL_c, List.toList_toArray, false_implies, true_implies, implies_true, forall_const, not_false_eq_true, not_true_eq_false, and_false, false_and, hz, q, q', q2, hn, r1]
      simp only [hK9]
      clear hK9 K9v
      refine J_rnG GM_fa (by omega) (by omega) (by omega) 5 _ _ _ _ (fun K9v hK9 => ?_)
      simp (maxSteps := 4000000) only [↓(X_aload_n (k := 0) (pc' := 24) dX8_tinNumbered_23 rfl rfl), ↓gR_0, ↓(X_getR (pc' := 27) fl_8_10 dX8_tinNumbered_24 rfl), kd_0, ↓(gV_c r0_0_0), kd_1, ↓(X_getR (pc' := 30) fl_8_218 dX8_tinNumbered_27 rfl), ↓(gV_c r0_1_2), kd_9, ln_9, ↓(X_iload_n (k := 1) (pc' := 31) dX8_tinNumbered_30 rfl rfl), ↓gI_1, ↓(X_aaload (pc' := 32) dX8_tinNumbered_31 rfl), rn_0, gV_s, ↓pI_c, ↓pII_c, ↓pL_c, ↓pLL_c, ↓pR_c, ↓pRI_c, ↓pRII_c, ↓pRIL_c, ↓pRR_c, ↓pV_c, ↓pVV_c, ↓gI_c, ↓gL_c, ↓gR_c, f2_0, f2_1, nk_n, nk_i, nk_r, ↓reduceIte, r32, r64, Nat.reduceAdd, Nat.reduceSub, Nat.reduceEqDiff, Nat.reduceLT, Nat.reduceLeDiff, Nat.reduceBEq, Int.reduceAdd, Int.reduceSub, Int.reduceMul, Int.reduceNeg, Int.reduceToNat, Int.reduceLE, Int.reduceLT, Int.reduceEq, Int.reduceNatCast', Int.reduceNatCast, Int.natCast_zero, Int.toNat_natCast, Int.toNat_zero, Int.toNat_one, List.length_cons, List.length_nil, true_and, and_true, and_self, true_or, or_true, false_or, or_false, Bool.not_true, Bool.not_false, Nat.lt_add_one, Nat.zero_lt_succ, N0, swL_n, swL_c, List.toList_toArray, false_implies, true_implies, implies_true, forall_const, not_false_eq_true, not_true_eq_false, and_false, false_and, q, i1, ↓(gV_c t4)]
      simp only [hK9]
      clear hK9 K9v
      refine J_aret dX8_tinNumbered_32 ⟨_, rfl⟩ (by simp only [N0]; omega) (by omega) (by omega) (⟨rfl, Or.inr ⟨⟨q, q2⟩, by rw [Int.toNat_natCast]⟩⟩)
    · refine J_rnG GM_fa (by omega) (by omega) (by omega) 7 _ _ _ _ (fun K9v hK9 => ?_)
      simp (maxSteps := 4000000) only [↓(X_iload_n (k := 1) (pc' := 1) dX8_tinNumbered_0 rfl rfl), ↓gI_1, ↓(X_if_lt (tgt := 15) (pc' := 4) dX8_tinNumbered_1 (by decide) rfl), ↓(X_iload_n (k := 1) (pc' := 5) dX8_tinNumbered_4 rfl rfl), ↓(X_aload_n (k := 0) (pc' := 6) dX8_tinNumbered_5 rfl rfl), ↓gR_0, ↓(X_getR (pc' := 9) fl_8_10 dX8_tinNumbered_6 rfl), kd_0, ↓(gV_c r0_0_0), kd_1, ↓(X_getI (pc' := 12) fl_8_154 (by decide) dX8_tinNumbered_9 rfl), ↓(X_icmp_lt (tgt := 23) (pc' := 15) dX8_tinNumbered_12 (by decide) rfl), rn_0, gV_s, ↓pI_c, ↓pII_c, ↓pL_c, ↓pLL_c, ↓pR_c, ↓pRI_c, ↓pRII_c, ↓pRIL_c, ↓pRR_c, ↓pV_c, ↓pVV_c, ↓gI_c, ↓gL_c, ↓gR_c, f2_0, f2_1, nk_n, nk_i, nk_r, ↓reduceIte, r32, r64, Nat.reduceAdd, Nat.reduceSub, Nat.reduceEqDiff, Nat.reduceLT, Nat.reduceLeDiff, Nat.reduceBEq, Int.reduceAdd, Int.reduceSub, Int.reduceMul, Int.reduceNeg, Int.reduceToNat, Int.reduceLE, Int.reduceLT, Int.reduceEq, Int.reduceNatCast', Int.reduceNatCast, Int.natCast_zero, Int.toNat_natCast, Int.toNat_zero, Int.toNat_one, List.length_cons, List.length_nil, true_and, and_true, and_self, true_or, or_true, false_or, or_false, Bool.not_true, Bool.not_false, Nat.lt_add_one, Nat.zero_lt_succ, N0, swL_n, swL_c, List.toList_toArray, false_implies, true_implies, implies_true, forall_const, not_false_eq_true, not_true_eq_false, and_false, false_and, hz, q, q', q2, hn, r1]
      simp only [hK9]
      clear hK9 K9v
      refine J_throw hl9 tOK_215 dX8_tinNumbered_15 dX8_tinNumbered_18 dX8_tinNumbered_19 dX8_tinNumbered_22 (by omega) (by simp) (by omega) (by omega) (⟨rfl, Or.inl ⟨by omega, rfl⟩⟩)
set_option maxRecDepth 100000 in
set_option maxHeartbeats 4000000 in
theorem jj_cm {M : Nat → Nat → Int} {Φ : Out → Mem → Prop} (d n : Nat) (hn : M 0 8 = (n : Int)) (hn2 : n ≤ 16) (hst : ∀ i, i < 16 → 0 ≤ M (367 + 5 * i) 5 ∧ M (367 + 5 * i) 5 ≤ 2) (hΦ : Φ (.inl (some (.inl (nMix M n : Int)))) (N0, R0, M)) : ∀ (k j : Nat), j + k = n →
    J l D cy (GM l D cy 8 cX8_countMixed 3 (d + 1) 0 0 false (some .int) Φ) 4 [some (.inr (.inr (some 0))), some (.inl (nMix M j : Int)), some (.inl (j : Int))] [] (449, R0, M) 0 0 := by
  have hle := nMix_le (M := M) n
  intro k
  induction k with
  | zero =>
    intro j hj
    have e : j = n := by omega
    subst e
    have h1 : ¬ (j : Int) < (j : Int) := by omega
    have r1 : -2147483648 ≤ (j : Int) ∧ (j : Int) ≤ 2147483647 := by omega
    have r2 : -2147483648 ≤ (nMix M j : Int) ∧ (nMix M j : Int) ≤ 2147483647 := by omega
    refine J_rnG GM_fa (by omega) (by omega) (by omega) 4 _ _ _ _ (fun K9v hK9 => ?_)
    simp (maxSteps := 4000000) only [↓(X_iload_n (k := 2) (pc' := 5) dX8_countMixed_4 rfl rfl), ↓gI_2, ↓(X_aload_n (k := 0) (pc' := 6) dX8_countMixed_5 rfl rfl), ↓gR_0, ↓(X_getI (pc' := 9) fl_8_101 (by decide) dX8_countMixed_6 rfl), kd_0, ↓(X_icmp_ge (tgt := 34) (pc' := 12) dX8_countMixed_9 (by decide) rfl), rn_0, gV_s, ↓pI_c, ↓pII_c, ↓pL_c, ↓pLL_c, ↓pR_c, ↓pRI_c, ↓pRII_c, ↓pRIL_c, ↓pRR_c, ↓pV_c, ↓pVV_c, ↓gI_c, ↓gL_c, ↓gR_c, f2_0, f2_1, nk_n, nk_i, nk_r, ↓reduceIte, r32, r64, Nat.reduceAdd, Nat.reduceSub, Nat.reduceEqDiff, Nat.reduceLT, Nat.reduceLeDiff, Nat.reduceBEq, Int.reduceAdd, Int.reduceSub, Int.reduceMul, Int.reduceNeg, Int.reduceToNat, Int.reduceLE, Int.reduceLT, Int.reduceEq, Int.reduceNatCast', Int.reduceNatCast, Int.natCast_zero, Int.toNat_natCast, Int.toNat_zero, Int.toNat_one, List.length_cons, List.length_nil, true_and, and_true, and_self, true_or, or_true, false_or, or_false, Bool.not_true, Bool.not_false, Nat.lt_add_one, Nat.zero_lt_succ, N0, swL_n, swL_c, List.toList_toArray, false_implies, true_implies, implies_true, forall_const, not_false_eq_true, not_true_eq_false, and_false, false_and, h1, r1, hn]
    simp only [hK9]
    clear hK9 K9v
    refine J_rnG GM_fa (by omega) (by omega) (by omega) 1 _ _ _ _ (fun K9v hK9 => ?_)
    simp (maxSteps := 4000000) only [↓(X_iload_n (k := 1) (pc' := 35) dX8_countMixed_34 rfl rfl), ↓gI_1, rn_0, gV_s, ↓pI_c, ↓pII_c, ↓pL_c, ↓pLL_c, ↓pR_c, ↓pRI_c, ↓pRII_c, ↓pRIL_c, ↓pRR_c, ↓pV_c, ↓pVV_c, ↓gI_c, ↓gL_c, ↓gR_c, f2_0, f2_1, nk_n, nk_i, nk_r, ↓reduceIte, r32, r64, Nat.reduceAdd, Nat.reduceSub, Nat.reduceEqDiff, Nat.reduceLT, Nat.reduceLeDiff, Nat.reduceBEq, Int.reduceAdd, Int.reduceSub, Int.reduceMul, Int.reduceNeg, Int.reduceToNat, Int.reduceLE, Int.reduceLT, Int.reduceEq, Int.reduceNatCast', Int.reduceNatCast, Int.natCast_zero, Int.toNat_natCast, Int.toNat_zero, Int.toNat_one, List.length_cons, List.length_nil, true_and, and_true, and_self, true_or, or_true, false_or, or_false, Bool.not_true, Bool.not_false, Nat.lt_add_one, Nat.zero_lt_succ, N0, swL_n, swL_c, List.toList_toArray, false_implies, true_implies, implies_true, forall_const, not_false_eq_true, not_true_eq_false, and_false, false_and]
    simp only [hK9]
    clear hK9 K9v
    refine J_iret dX8_countMixed_35 rfl (by omega) (by omega) (hΦ)
  | succ k ih =>
    intro j hj
    obtain ⟨a1, -, -, -, -, -, -, -, -, -, -, a2, -⟩ := job_at j (by omega)
    have h1 : (j : Int) < (n : Int) := by omega
    have r1 : -2147483648 ≤ (j : Int) ∧ (j : Int) ≤ 2147483647 := by omega
    have r2 : -2147483648 ≤ (n : Int) ∧ (n : Int) ≤ 2147483647 := by omega
    have i1 : (0 : Int) ≤ (j : Int) ∧ (j : Int) < 16 := by omega
    have i2 : 367 + 5 * j < 449 := by omega
    have hs := hst j (by omega)
    have r3 : -2147483648 ≤ M (367 + 5 * j) 5 ∧ M (367 + 5 * j) 5 ≤ 2147483647 := by omega
    have hlej := nMix_le (M := M) j
    rcases (show M (367 + 5 * j) 5 = 1 ∨ ¬ M (367 + 5 * j) 5 = 1 by omega) with q | q
    · refine J_rnG GM_fa (by omega) (by omega) (by omega) 14 _ _ _ _ (fun K9v hK9 => ?_)
      simp (maxSteps := 4000000) only [↓(X_iload_n (k := 2) (pc' := 5) dX8_countMixed_4 rfl rfl), ↓gI_2, ↓(X_aload_n (k := 0) (pc' := 6) dX8_countMixed_5 rfl rfl), ↓gR_0, ↓(X_getI (pc' := 9) fl_8_101 (by decide) dX8_countMixed_6 rfl), kd_0, ↓(X_icmp_ge (tgt := 34) (pc' := 12) dX8_countMixed_9 (by decide) rfl), ↓(X_aload_n (k := 0) (pc' := 13) dX8_countMixed_12 rfl rfl), ↓(X_getR (pc' := 16) fl_8_29 dX8_countMixed_13 rfl), ↓(gV_c r0_0_3), kd_73, ln_73, ↓(X_iload_n (k := 2) (pc' := 17) dX8_countMixed_16 rfl rfl), ↓(X_aaload (pc' := 18) dX8_countMixed_17 rfl), ↓(X_getI (pc' := 21) fl_8_118 (by decide) dX8_countMixed_18 rfl), ↓(X_iconst (pc' := 22) dX8_countMixed_21 rfl), ↓(X_icmp_ne (tgt := 28) (pc' := 25) dX8_countMixed_22 (by decide) rfl), ↓(X_iinc (pc' := 28) dX8_countMixed_25 rfl), ↓gI_1, ↓sto_1, ↓(X_iinc (pc' := 31) dX8_countMixed_28 rfl), ↓sto_2, ↓(X_goto (pc' := 4) dX8_countMixed_31 (by decide)), rn_0, gV_s, ↓pI_c, ↓pII_c, ↓pL_c, ↓pLL_c, ↓pR_c, ↓pRI_c, ↓pRII_c, ↓pRIL_c, ↓pRR_c, ↓pV_c, ↓pVV_c, ↓gI_c, ↓gL_c, ↓gR_c, f2_0, f2_1, nk_n, nk_i, nk_r, ↓reduceIte, r32, r64, Nat.reduceAdd, Nat.reduceSub, Nat.reduceEqDiff, Nat.reduceLT, Nat.reduceLeDiff, Nat.reduceBEq, Int.reduceAdd, Int.reduceSub, Int.reduceMul, Int.reduceNeg, Int.reduceToNat, Int.reduceLE, Int.reduceLT, Int.reduceEq, Int.reduceNatCast', Int.reduceNatCast, Int.natCast_zero, Int.toNat_natCast, Int.toNat_zero, Int.toNat_one, List.length_cons, List.length_nil, true_and, and_true, and_self, true_or, or_true, false_or, or_false, Bool.not_true, Bool.not_false, Nat.lt_add_one, Nat.zero_lt_succ, N0, swL_n, swL_c, List.toList_toArray, false_implies, true_implies, implies_true, forall_const, not_false_eq_true, not_true_eq_false, and_false, false_and, h1, r1, r2, hn, i1, i2, ↓(gV_c a2), a1, q]
      simp only [hK9]
      clear hK9 K9v
      rw [show (j : Int) + 1 = ((j + 1 : Nat) : Int) by omega, show (nMix M j : Int) + 1 = (nMix M (j + 1) : Int) by rw [nMix, if_pos q]; omega]
      exact ih (j + 1) (by omega)
    · refine J_rnG GM_fa (by omega) (by omega) (by omega) 11 _ _ _ _ (fun K9v hK9 => ?_)
      simp (maxSteps := 4000000) only [↓(X_iload_n (k := 2) (pc' := 5) dX8_countMixed_4 rfl rfl), ↓gI_2, ↓(X_aload_n (k := 0) (pc' := 6) dX8_countMixed_5 rfl rfl), ↓gR_0, ↓(X_getI (pc' := 9) fl_8_101 (by decide) dX8_countMixed_6 rfl), kd_0, ↓(X_icmp_ge (tgt := 34) (pc' := 12) dX8_countMixed_9 (by decide) rfl), ↓(X_aload_n (k := 0) (pc' := 13) dX8_countMixed_12 rfl rfl), ↓(X_getR (pc' := 16) fl_8_29 dX8_countMixed_13 rfl), ↓(gV_c r0_0_3), kd_73, ln_73, ↓(X_iload_n (k := 2) (pc' := 17) dX8_countMixed_16 rfl rfl), ↓(X_aaload (pc' := 18) dX8_countMixed_17 rfl), ↓(X_getI (pc' := 21) fl_8_118 (by decide) dX8_countMixed_18 rfl), ↓(X_iconst (pc' := 22) dX8_countMixed_21 rfl), ↓(X_icmp_ne (tgt := 28) (pc' := 25) dX8_countMixed_22 (by decide) rfl), rn_0, gV_s, ↓pI_c, ↓pII_c, ↓pL_c, ↓pLL_c, ↓pR_c, ↓pRI_c, ↓pRII_c, ↓pRIL_c, ↓pRR_c, ↓pV_c, ↓pVV_c, ↓gI_c, ↓gL_c, ↓gR_c, f2_0, f2_1, nk_n, nk_i, nk_r, ↓reduceIte, r32, r64, Nat.reduceAdd, Nat.reduceSub, Nat.reduceEqDiff, Nat.reduceLT, Nat.reduceLeDiff, Nat.reduceBEq, Int.reduceAdd, Int.reduceSub, Int.reduceMul, Int.reduceNeg, Int.reduceToNat, Int.reduceLE, Int.reduceLT, Int.reduceEq, Int.reduceNatCast', Int.reduceNatCast, Int.natCast_zero, Int.toNat_natCast, Int.toNat_zero, Int.toNat_one, List.length_cons, List.length_nil, true_and, and_true, and_self, true_or, or_true, false_or, or_false, Bool.not_true, Bool.not_false, Nat.lt_add_one, Nat.zero_lt_succ, N0, swL_n, swL_c, List.toList_toArray, false_implies, true_implies, implies_true, forall_const, not_false_eq_true, not_true_eq_false, and_false, false_and, h1, r1, r2, r3, hn, i1, i2, ↓(gV_c a2), a1, q]
      simp only [hK9]
      clear hK9 K9v
      refine J_rnG GM_fa (by omega) (by omega) (by omega) 2 _ _ _ _ (fun K9v hK9 => ?_)
      simp (maxSteps := 4000000) only [↓(X_iinc (pc' := 31) dX8_countMixed_28 rfl), ↓gI_2, ↓sto_2, ↓(X_goto (pc' := 4) dX8_countMixed_31 (by decide)), rn_0, gV_s, ↓pI_c, ↓pII_c, ↓pL_c, ↓pLL_c, ↓pR_c, ↓pRI_c, ↓pRII_c, ↓pRIL_c, ↓pRR_c, ↓pV_c, ↓pVV_c, ↓gI_c, ↓gL_c, ↓gR_c, f2_0, f2_1, nk_n, nk_i, nk_r, ↓reduceIte, r32, r64, Nat.reduceAdd, Nat.reduceSub, Nat.reduceEqDiff, Nat.reduceLT, Nat.reduceLeDiff, Nat.reduceBEq, Int.reduceAdd, Int.reduceSub, Int.reduceMul, Int.reduceNeg, Int.reduceToNat, Int.reduceLE, Int.reduceLT, Int.reduceEq, Int.reduceNatCast', Int.reduceNatCast, Int.natCast_zero, Int.toNat_natCast, Int.toNat_zero, Int.toNat_one, List.length_cons, List.length_nil, true_and, and_true, and_self, true_or, or_true, false_or, or_false, Bool.not_true, Bool.not_false, Nat.lt_add_one, Nat.zero_lt_succ, N0, swL_n, swL_c, List.toList_toArray, false_implies, true_implies, implies_true, forall_const, not_false_eq_true, not_true_eq_false, and_false, false_and]
      simp only [hK9]
      clear hK9 K9v
      rw [show (j : Int) + 1 = ((j + 1 : Nat) : Int) by omega]
      have e : nMix M (j + 1) = nMix M j := by rw [nMix, if_neg q]; omega
      rw [← e]
      exact ih (j + 1) (by omega)
set_option maxRecDepth 100000 in
set_option maxHeartbeats 4000000 in
theorem ok_countMixed {M : Nat → Nat → Int} (d n : Nat) (hn : M 0 8 = (n : Int)) (hn2 : n ≤ 16) (hst : ∀ i, i < 16 → 0 ≤ M (367 + 5 * i) 5 ∧ M (367 + 5 * i) 5 ≤ 2) : Ok l D cy (d + 1) 0 0 yX8_countMixed cX8_countMixed 3 (some (.int)) [.inr (.inr (some (0)))] (N0, R0, M) (det (some (.inl (nMix M n : Int))) (N0, R0, M)) := by
  refine Ok.intro (o := 8) (ini := false) [some (.inr (.inr (some (0)))), none, none] (by decide +kernel) rfl (fun h => by cases h) rfl (Nat.le_of_ble_eq_true rfl) rfl ?_
  refine J_rnG GM_fa (by omega) (by omega) (by omega) 4 _ _ _ _ (fun K9v hK9 => ?_)
  simp (maxSteps := 4000000) only [↓(X_iconst (pc' := 1) dX8_countMixed_0 rfl), ↓(X_istore_n (k := 1) (pc' := 2) dX8_countMixed_1 rfl rfl), ↓sto_1, ↓(X_iconst (pc' := 3) dX8_countMixed_2 rfl), ↓(X_istore_n (k := 2) (pc' := 4) dX8_countMixed_3 rfl rfl), ↓sto_2, rn_0, gV_s, ↓pI_c, ↓pII_c, ↓pL_c, ↓pLL_c, ↓pR_c, ↓pRI_c, ↓pRII_c, ↓pRIL_c, ↓pRR_c, ↓pV_c, ↓pVV_c, ↓gI_c, ↓gL_c, ↓gR_c, f2_0, f2_1, nk_n, nk_i, nk_r, ↓reduceIte, r32, r64, Nat.reduceAdd, Nat.reduceSub, Nat.reduceEqDiff, Nat.reduceLT, Nat.reduceLeDiff, Nat.reduceBEq, Int.reduceAdd, Int.reduceSub, Int.reduceMul, Int.reduceNeg, Int.reduceToNat, Int.reduceLE, Int.reduceLT, Int.reduceEq, Int.reduceNatCast', Int.reduceNatCast, Int.natCast_zero, Int.toNat_natCast, Int.toNat_zero, Int.toNat_one, List.length_cons, List.length_nil, true_and, and_true, and_self, true_or, or_true, false_or, or_false, Bool.not_true, Bool.not_false, Nat.lt_add_one, Nat.zero_lt_succ, N0, swL_n, swL_c, List.toList_toArray, false_implies, true_implies, implies_true, forall_const, not_false_eq_true, not_true_eq_false, and_false, false_and]
  simp only [hK9]
  clear hK9 K9v
  exact jj_cm d n hn hn2 hst ⟨rfl, rfl⟩ n 0 (by omega)
/-- what of a base is in the inks of mixed jobs, of the first k -/
def inMix (M : Nat → Nat → Int) (b : Nat) : Nat → Int
  | 0 => 0
  | k + 1 => inMix M b k + if M (367 + 5 * k) 5 = 1 then M (371 + 5 * k) b else 0
set_option maxRecDepth 100000 in
set_option maxHeartbeats 4000000 in
theorem jj_im {M : Nat → Nat → Int} {Φ : Out → Mem → Prop} (d n b : Nat) (hb : b < 4) (hn : M 0 8 = (n : Int)) (hn2 : n ≤ 16) (hst : ∀ i, i < 16 → 0 ≤ M (367 + 5 * i) 5 ∧ M (367 + 5 * i) 5 ≤ 2) (hΦ : Φ (.inl (some (.inl (inMix M b n)))) (N0, R0, M)) : ∀ (k j : Nat), j + k = n →
    J l D cy (GM l D cy 8 cX8_inMixedJobs 4 (d + 1) 0 0 false (some .int) Φ) 4 [some (.inr (.inr (some 0))), some (.inl (b : Int)), some (.inl (inMix M b j)), some (.inl (j : Int))] [] (449, R0, M) 0 0 := by
  intro k
  induction k with
  | zero =>
    intro j hj
    have e : j = n := by omega
    subst e
    have h1 : ¬ (j : Int) < (j : Int) := by omega
    have r1 : -2147483648 ≤ (j : Int) ∧ (j : Int) ≤ 2147483647 := by omega
    refine J_rnG GM_fa (by omega) (by omega) (by omega) 4 _ _ _ _ (fun K9v hK9 => ?_)
    simp (maxSteps := 4000000) only [↓(X_iload_n (k := 3) (pc' := 5) dX8_inMixedJobs_4 rfl rfl), ↓gI_3, ↓(X_aload_n (k := 0) (pc' := 6) dX8_inMixedJobs_5 rfl rfl), ↓gR_0, ↓(X_getI (pc' := 9) fl_8_101 (by decide) dX8_inMixedJobs_6 rfl), kd_0, ↓(X_icmp_ge (tgt := 48) (pc' := 12) dX8_inMixedJobs_9 (by decide) rfl), rn_0, gV_s, ↓pI_c, ↓pII_c, ↓pL_c, ↓pLL_c, ↓pR_c, ↓pRI_c, ↓pRII_c, ↓pRIL_c, ↓pRR_c, ↓pV_c, ↓pVV_c, ↓gI_c, ↓gL_c, ↓gR_c, f2_0, f2_1, nk_n, nk_i, nk_r, ↓reduceIte, r32, r64, Nat.reduceAdd, Nat.reduceSub, Nat.reduceEqDiff, Nat.reduceLT, Nat.reduceLeDiff, Nat.reduceBEq, Int.reduceAdd, Int.reduceSub, Int.reduceMul, Int.reduceNeg, Int.reduceToNat, Int.reduceLE, Int.reduceLT, Int.reduceEq, Int.reduceNatCast', Int.reduceNatCast, Int.natCast_zero, Int.toNat_natCast, Int.toNat_zero, Int.toNat_one, List.length_cons, List.length_nil, true_and, and_true, and_self, true_or, or_true, false_or, or_false, Bool.not_true, Bool.not_false, Nat.lt_add_one, Nat.zero_lt_succ, N0, swL_n, swL_c, List.toList_toArray, false_implies, true_implies, implies_true, forall_const, not_false_eq_true, not_true_eq_false, and_false, false_and, h1, r1, hn]
    simp only [hK9]
    clear hK9 K9v
    refine J_rnG GM_fa (by omega) (by omega) (by omega) 1 _ _ _ _ (fun K9v hK9 => ?_)
    simp (maxSteps := 4000000) only [↓(X_iload_n (k := 2) (pc' := 49) dX8_inMixedJobs_48 rfl rfl), ↓gI_2, rn_0, gV_s, ↓pI_c, ↓pII_c, ↓pL_c, ↓pLL_c, ↓pR_c, ↓pRI_c, ↓pRII_c, ↓pRIL_c, ↓pRR_c, ↓pV_c, ↓pVV_c, ↓gI_c, ↓gL_c, ↓gR_c, f2_0, f2_1, nk_n, nk_i, nk_r, ↓reduceIte, r32, r64, Nat.reduceAdd, Nat.reduceSub, Nat.reduceEqDiff, Nat.reduceLT, Nat.reduceLeDiff, Nat.reduceBEq, Int.reduceAdd, Int.reduceSub, Int.reduceMul, Int.reduceNeg, Int.reduceToNat, Int.reduceLE, Int.reduceLT, Int.reduceEq, Int.reduceNatCast', Int.reduceNatCast, Int.natCast_zero, Int.toNat_natCast, Int.toNat_zero, Int.toNat_one, List.length_cons, List.length_nil, true_and, and_true, and_self, true_or, or_true, false_or, or_false, Bool.not_true, Bool.not_false, Nat.lt_add_one, Nat.zero_lt_succ, N0, swL_n, swL_c, List.toList_toArray, false_implies, true_implies, implies_true, forall_const, not_false_eq_true, not_true_eq_false, and_false, false_and]
    simp only [hK9]
    clear hK9 K9v
    refine J_iret dX8_inMixedJobs_49 rfl (by omega) (by omega) (hΦ)
  | succ k ih =>
    intro j hj
    obtain ⟨a1, -, -, -, -, b1, b2, b3, -, -, b4, a2, b5⟩ := job_at j (by omega)
    have h1 : (j : Int) < (n : Int) := by omega
    have r1 : -2147483648 ≤ (j : Int) ∧ (j : Int) ≤ 2147483647 := by omega
    have r2 : -2147483648 ≤ (n : Int) ∧ (n : Int) ≤ 2147483647 := by omega
    have i1 : (0 : Int) ≤ (j : Int) ∧ (j : Int) < 16 := by omega
    have i2 : 367 + 5 * j < 449 := by omega
    have i3 : 370 + 5 * j < 449 := by omega
    have i4 : 371 + 5 * j < 449 := by omega
    have i5 : (0 : Int) ≤ (b : Int) ∧ (b : Int) < 4 := by omega
    have hs := hst j (by omega)
    have r3 : -2147483648 ≤ M (367 + 5 * j) 5 ∧ M (367 + 5 * j) 5 ≤ 2147483647 := by omega
    rcases (show M (367 + 5 * j) 5 = 1 ∨ ¬ M (367 + 5 * j) 5 = 1 by omega) with q | q
    · refine J_rnG GM_fa (by omega) (by omega) (by omega) 24 _ _ _ _ (fun K9v hK9 => ?_)
      simp (maxSteps := 4000000) only [↓(X_iload_n (k := 3) (pc' := 5) dX8_inMixedJobs_4 rfl rfl), ↓gI_3, ↓(X_aload_n (k := 0) (pc' := 6) dX8_inMixedJobs_5 rfl rfl), ↓gR_0, ↓(X_getI (pc' := 9) fl_8_101 (by decide) dX8_inMixedJobs_6 rfl), kd_0, ↓(X_icmp_ge (tgt := 48) (pc' := 12) dX8_inMixedJobs_9 (by decide) rfl), ↓(X_aload_n (k := 0) (pc' := 13) dX8_inMixedJobs_12 rfl rfl), ↓(X_getR (pc' := 16) fl_8_29 dX8_inMixedJobs_13 rfl), ↓(gV_c r0_0_3), kd_73, ln_73, ↓(X_iload_n (k := 3) (pc' := 17) dX8_inMixedJobs_16 rfl rfl), ↓(X_aaload (pc' := 18) dX8_inMixedJobs_17 rfl), ↓(X_getI (pc' := 21) fl_8_118 (by decide) dX8_inMixedJobs_18 rfl), ↓(X_iconst (pc' := 22) dX8_inMixedJobs_21 rfl), ↓(X_icmp_ne (tgt := 42) (pc' := 25) dX8_inMixedJobs_22 (by decide) rfl), ↓(X_iload_n (k := 2) (pc' := 26) dX8_inMixedJobs_25 rfl rfl), ↓gI_2, ↓(X_aload_n (k := 0) (pc' := 27) dX8_inMixedJobs_26 rfl rfl), ↓(X_getR (pc' := 30) fl_8_29 dX8_inMixedJobs_27 rfl), ↓(X_iload_n (k := 3) (pc' := 31) dX8_inMixedJobs_30 rfl rfl), ↓(X_aaload (pc' := 32) dX8_inMixedJobs_31 rfl), ↓(X_getR (pc' := 35) fl_8_146 dX8_inMixedJobs_32 rfl), ↓(X_getR (pc' := 38) fl_8_95 dX8_inMixedJobs_35 rfl), kd_7, ↓(gV_c r0_7_0), kd_8, ln_8, kd_71, ↓(gV_c r0_71_0), kd_72, ln_72, ↓(X_iload_n (k := 1) (pc' := 39) dX8_inMixedJobs_38 rfl rfl), ↓gI_1, ↓(X_iaload (pc' := 40) dX8_inMixedJobs_39 rfl), ↓(X_iadd (pc' := 41) dX8_inMixedJobs_40 rfl), ↓(X_istore_n (k := 2) (pc' := 42) dX8_inMixedJobs_41 rfl rfl), ↓sto_2, ↓(X_iinc (pc' := 45) dX8_inMixedJobs_42 rfl), ↓sto_3, ↓(X_goto (pc' := 4) dX8_inMixedJobs_45 (by decide)), rn_0, gV_s, ↓pI_c, ↓pII_c, ↓pL_c, ↓pLL_c, ↓pR_c, ↓pRI_c, ↓pRII_c, ↓pRIL_c, ↓pRR_c, ↓pV_c, ↓pVV_c, ↓gI_c, ↓gL_c, ↓gR_c, f2_0, f2_1, nk_n, nk_i, nk_r, ↓reduceIte, r32, r64, Nat.reduceAdd, Nat.reduceSub, Nat.reduceEqDiff, Nat.reduceLT, Nat.reduceLeDiff, Nat.reduceBEq, Int.reduceAdd, Int.reduceSub, Int.reduceMul, Int.reduceNeg, Int.reduceToNat, Int.reduceLE, Int.reduceLT, Int.reduceEq, Int.reduceNatCast', Int.reduceNatCast, Int.natCast_zero, Int.toNat_natCast, Int.toNat_zero, Int.toNat_one, List.length_cons, List.length_nil, true_and, and_true, and_self, true_or, or_true, false_or, or_false, Bool.not_true, Bool.not_false, Nat.lt_add_one, Nat.zero_lt_succ, N0, swL_n, swL_c, List.toList_toArray, false_implies, true_implies, implies_true, forall_const, not_false_eq_true, not_true_eq_false, and_false, false_and, h1, r1, r2, hn, i1, i2, i3, i4, i5, ↓(gV_c a2), ↓(gV_c b4), ↓(gV_c b5), a1, b1, b2, b3, q]
      simp only [hK9]
      clear hK9 K9v
      rw [show (j : Int) + 1 = ((j + 1 : Nat) : Int) by omega, show inMix M b j + M (371 + 5 * j) b = inMix M b (j + 1) by rw [inMix, if_pos q]]
      exact ih (j + 1) (by omega)
    · refine J_rnG GM_fa (by omega) (by omega) (by omega) 11 _ _ _ _ (fun K9v hK9 => ?_)
      simp (maxSteps := 4000000) only [↓(X_iload_n (k := 3) (pc' := 5) dX8_inMixedJobs_4 rfl rfl), ↓gI_3, ↓(X_aload_n (k := 0) (pc' := 6) dX8_inMixedJobs_5 rfl rfl), ↓gR_0, ↓(X_getI (pc' := 9) fl_8_101 (by decide) dX8_inMixedJobs_6 rfl), kd_0, ↓(X_icmp_ge (tgt := 48) (pc' := 12) dX8_inMixedJobs_9 (by decide) rfl), ↓(X_aload_n (k := 0) (pc' := 13) dX8_inMixedJobs_12 rfl rfl), ↓(X_getR (pc' := 16) fl_8_29 dX8_inMixedJobs_13 rfl), ↓(gV_c r0_0_3), kd_73, ln_73, ↓(X_iload_n (k := 3) (pc' := 17) dX8_inMixedJobs_16 rfl rfl), ↓(X_aaload (pc' := 18) dX8_inMixedJobs_17 rfl), ↓(X_getI (pc' := 21) fl_8_118 (by decide) dX8_inMixedJobs_18 rfl), ↓(X_iconst (pc' := 22) dX8_inMixedJobs_21 rfl), ↓(X_icmp_ne (tgt := 42) (pc' := 25) dX8_inMixedJobs_22 (by decide) rfl), rn_0, gV_s, ↓pI_c, ↓pII_c, ↓pL_c, ↓pLL_c, ↓pR_c, ↓pRI_c, ↓pRII_c, ↓pRIL_c, ↓pRR_c, ↓pV_c, ↓pVV_c, ↓gI_c, ↓gL_c, ↓gR_c, f2_0, f2_1, nk_n, nk_i, nk_r, ↓reduceIte, r32, r64, Nat.reduceAdd, Nat.reduceSub, Nat.reduceEqDiff, Nat.reduceLT, Nat.reduceLeDiff, Nat.reduceBEq, Int.reduceAdd, Int.reduceSub, Int.reduceMul, Int.reduceNeg, Int.reduceToNat, Int.reduceLE, Int.reduceLT, Int.reduceEq, Int.reduceNatCast', Int.reduceNatCast, Int.natCast_zero, Int.toNat_natCast, Int.toNat_zero, Int.toNat_one, List.length_cons, List.length_nil, true_and, and_true, and_self, true_or, or_true, false_or, or_false, Bool.not_true, Bool.not_false, Nat.lt_add_one, Nat.zero_lt_succ, N0, swL_n, swL_c, List.toList_toArray, false_implies, true_implies, implies_true, forall_const, not_false_eq_true, not_true_eq_false, and_false, false_and, h1, r1, r2, r3, hn, i1, i2, ↓(gV_c a2), a1, q]
      simp only [hK9]
      clear hK9 K9v
      refine J_rnG GM_fa (by omega) (by omega) (by omega) 2 _ _ _ _ (fun K9v hK9 => ?_)
      simp (maxSteps := 4000000) only [↓(X_iinc (pc' := 45) dX8_inMixedJobs_42 rfl), ↓gI_3, ↓sto_3, ↓(X_goto (pc' := 4) dX8_inMixedJobs_45 (by decide)), rn_0, gV_s, ↓pI_c, ↓pII_c, ↓pL_c, ↓pLL_c, ↓pR_c, ↓pRI_c, ↓pRII_c, ↓pRIL_c, ↓pRR_c, ↓pV_c, ↓pVV_c, ↓gI_c, ↓gL_c, ↓gR_c, f2_0, f2_1, nk_n, nk_i, nk_r, ↓reduceIte, r32, r64, Nat.reduceAdd, Nat.reduceSub, Nat.reduceEqDiff, Nat.reduceLT, Nat.reduceLeDiff, Nat.reduceBEq, Int.reduceAdd, Int.reduceSub, Int.reduceMul, Int.reduceNeg, Int.reduceToNat, Int.reduceLE, Int.reduceLT, Int.reduceEq, Int.reduceNatCast', Int.reduceNatCast, Int.natCast_zero, Int.toNat_natCast, Int.toNat_zero, Int.toNat_one, List.length_cons, List.length_nil, true_and, and_true, and_self, true_or, or_true, false_or, or_false, Bool.not_true, Bool.not_false, Nat.lt_add_one, Nat.zero_lt_succ, N0, swL_n, swL_c, List.toList_toArray, false_implies, true_implies, implies_true, forall_const, not_false_eq_true, not_true_eq_false, and_false, false_and]
      simp only [hK9]
      clear hK9 K9v
      have e : inMix M b (j + 1) = inMix M b j := by rw [inMix, if_neg q]; omega
      rw [show (j : Int) + 1 = ((j + 1 : Nat) : Int) by omega, ← e]
      exact ih (j + 1) (by omega)
set_option maxRecDepth 100000 in
set_option maxHeartbeats 4000000 in
theorem ok_inMixedJobs {M : Nat → Nat → Int} (d n b : Nat) (hb : b < 4) (hn : M 0 8 = (n : Int)) (hn2 : n ≤ 16) (hst : ∀ i, i < 16 → 0 ≤ M (367 + 5 * i) 5 ∧ M (367 + 5 * i) 5 ≤ 2) : Ok l D cy (d + 1) 0 0 yX8_inMixedJobs cX8_inMixedJobs 4 (some (.int)) [.inr (.inr (some (0))), .inl ((b : Int))] (N0, R0, M) (det (some (.inl (inMix M b n))) (N0, R0, M)) := by
  refine Ok.intro (o := 8) (ini := false) [some (.inr (.inr (some (0)))), some (.inl ((b : Int))), none, none] (by decide +kernel) rfl (fun h => by cases h) rfl (Nat.le_of_ble_eq_true rfl) rfl ?_
  refine J_rnG GM_fa (by omega) (by omega) (by omega) 4 _ _ _ _ (fun K9v hK9 => ?_)
  simp (maxSteps := 4000000) only [↓(X_iconst (pc' := 1) dX8_inMixedJobs_0 rfl), ↓(X_istore_n (k := 2) (pc' := 2) dX8_inMixedJobs_1 rfl rfl), ↓sto_2, ↓(X_iconst (pc' := 3) dX8_inMixedJobs_2 rfl), ↓(X_istore_n (k := 3) (pc' := 4) dX8_inMixedJobs_3 rfl rfl), ↓sto_3, rn_0, gV_s, ↓pI_c, ↓pII_c, ↓pL_c, ↓pLL_c, ↓pR_c, ↓pRI_c, ↓pRII_c, ↓pRIL_c, ↓pRR_c, ↓pV_c, ↓pVV_c, ↓gI_c, ↓gL_c, ↓gR_c, f2_0, f2_1, nk_n, nk_i, nk_r, ↓reduceIte, r32, r64, Nat.reduceAdd, Nat.reduceSub, Nat.reduceEqDiff, Nat.reduceLT, Nat.reduceLeDiff, Nat.reduceBEq, Int.reduceAdd, Int.reduceSub, Int.reduceMul, Int.reduceNeg, Int.reduceToNat, Int.reduceLE, Int.reduceLT, Int.reduceEq, Int.reduceNatCast', Int.reduceNatCast, Int.natCast_zero, Int.toNat_natCast, Int.toNat_zero, Int.toNat_one, List.length_cons, List.length_nil, true_and, and_true, and_self, true_or, or_true, false_or, or_false, Bool.not_true, Bool.not_false, Nat.lt_add_one, Nat.zero_lt_succ, N0, swL_n, swL_c, List.toList_toArray, false_implies, true_implies, implies_true, forall_const, not_false_eq_true, not_true_eq_false, and_false, false_and]
  simp only [hK9]
  clear hK9 K9v
  exact jj_im d n b hb hn hn2 hst ⟨rfl, rfl⟩ n 0 (by omega)
/-- the k-th mixed job -/
def mixAt (M : Nat → Nat → Int) : Nat → Nat → Nat
  | 0, _ => 0
  | j + 1, k => if M (367 + 5 * j) 5 = 1 ∧ k = nMix M j then j else mixAt M j k
theorem mixAt_lt {M : Nat → Nat → Int} : ∀ (j k : Nat), k < nMix M j → mixAt M j k < j
  | 0, k, h => by rw [nMix] at h; omega
  | j + 1, k, h => by
    rw [mixAt]
    rw [nMix] at h
    split
    · omega
    · rename_i q
      have : k < nMix M j := by
        split at h
        · rename_i q2
          have : ¬ k = nMix M j := fun e => q ⟨q2, e⟩
          omega
        · omega
      have := mixAt_lt (M := M) j k this
      omega
end C9
