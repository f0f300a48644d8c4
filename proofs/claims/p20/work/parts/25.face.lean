/-! the face of the class: what each call answers and leaves, at the cells -/
/-- a call's outcome by its code: 0 returned, k threw the k-th of these -/
def outF (es : List String) (code : Nat) (v : Option AV) : Out := if code = 0 then .inl v else .inr (es.getD (code - 1) "")
abbrev P3 (a b c : Int) : Prop := (0 ≤ a ∧ a ≤ 100) ∧ (0 ≤ b ∧ b ≤ 100) ∧ (0 ≤ c ∧ c ≤ 100)
theorem areI_pos {a b c : Int} (h : P3 a b c) : areI a b c = 1 := by rw [areI, if_pos h]
theorem areI_neg {a b c : Int} (h : ¬ P3 a b c) : areI a b c = 0 := by rw [areI, if_neg h]
theorem inI_pos {z lo hi : Int} (h : lo ≤ z ∧ z ≤ hi) : inI z lo hi = 1 := by rw [inI, if_pos h]
theorem inI_neg {z lo hi : Int} (h : ¬ (lo ≤ z ∧ z ≤ hi)) : inI z lo hi = 0 := by rw [inI, if_neg h]
theorem jgI_pos {g : Int} (h : (10 ≤ g ∧ g ≤ 500) ∧ g % 10 = 0) : jgI g = 1 := by rw [jgI, if_pos h]
theorem jgI_neg {g : Int} (h : ¬ ((10 ≤ g ∧ g ≤ 500) ∧ g % 10 = 0)) : jgI g = 0 := by rw [jgI, if_neg h]
def cSB (w z a b c : Int) : Nat := if (0 ≤ z ∧ z ≤ 3) ∧ P3 a b c then (if w = 0 then 0 else 2) else 1
def cBuy (w z g : Int) : Nat := if (0 ≤ z ∧ z ≤ 3) ∧ (1 ≤ g ∧ g ≤ 5000) then (if w + g ≤ 100000 then 0 else 2) else 1
def cJob (n a b c g gap : Int) : Nat := if P3 a b c ∧ ((10 ≤ g ∧ g ≤ 500) ∧ g % 10 = 0) ∧ (0 ≤ gap ∧ gap ≤ 300) then (if n < 16 then 0 else 2) else 1
def cPass (day z : Int) : Nat := if 1 ≤ z ∧ z ≤ 100 then (if day + z ≤ 10000 then 0 else 2) else 1
section CB
variable {l : Launch} {D : va_G} {cy : Nat → ClassId}
set_option maxRecDepth 100000 in
set_option maxHeartbeats 4000000 in
theorem ok_buy {M : Nat → Nat → Int} (hl9 : l.stackTraces = false) (d : Nat) (z g : Int) (hz : r32 z) (hg : r32 g) (hB : ∀ b, b < 4 → (0 ≤ M 70 b ∧ M 70 b ≤ 100000) ∧ 0 ≤ M 8 b ∧ M 8 b ≤ M 70 b * 1000) : Ok l D cy (d + 6) 1 6 yX8_buy cX8_buy 3 (some (.int)) [.inr (.inr (some (0))), .inl (z), .inl (g)] (N0, R0, M) (fun o ν => o = outF [IAE, ISE] (cBuy (M 70 z.toNat) z g) (some (.inl (M 8 z.toNat + g * 1000))) ∧ ν = (N0, R0, if cBuy (M 70 z.toNat) z g = 0 then up2 (up2 M 70 z.toNat (M 70 z.toNat + g)) 8 z.toNat (M 8 z.toNat + g * 1000) else M)) := by
  refine Ok.intro (o := 8) (ini := false) [some (.inr (.inr (some (0)))), some (.inl (z)), some (.inl (g))] (by decide +kernel) rfl (fun h => by cases h) rfl (Nat.le_of_ble_eq_true rfl) rfl ?_
  refine J_rnG GM_fa (by omega) (by omega) (by omega) 1 _ _ _ _ (fun K9v hK9 => ?_)
  simp (maxSteps := 4000000) only [↓(X_iload_n (k := 1) (pc' := 1) dX8_buy_0 rfl rfl), ↓gI_1, rn_0, gV_s, ↓pI_c, ↓pII_c, ↓pL_c, ↓pLL_c, ↓pR_c, ↓pRI_c, ↓pRII_c, ↓pRIL_c, ↓pRR_c, ↓pV_c, ↓pVV_c, ↓gI_c, ↓gL_c, ↓gR_c, f2_0, f2_1, nk_n, nk_i, nk_r, ↓reduceIte, r32, r64, Nat.reduceAdd, Nat.reduceSub, Nat.reduceEqDiff, Nat.reduceLT, Nat.reduceLeDiff, Nat.reduceBEq, Int.reduceAdd, Int.reduceSub, Int.reduceMul, Int.reduceNeg, Int.reduceToNat, Int.reduceLE, Int.reduceLT, Int.reduceEq, Int.reduceNatCast', Int.reduceNatCast, Int.natCast_zero, Int.toNat_natCast, Int.toNat_zero, Int.toNat_one, List.length_cons, List.length_nil, true_and, and_true, and_self, true_or, or_true, false_or, or_false, Bool.not_true, Bool.not_false, Nat.lt_add_one, Nat.zero_lt_succ, N0, swL_n, swL_c, List.toList_toArray, false_implies, true_implies, implies_true, forall_const, not_false_eq_true, not_true_eq_false, and_false, false_and]
  simp only [hK9]
  clear hK9 K9v
  refine J_callSd GM_fa (ok_isBase (M := M) (d + 3) z hz) dX8_buy_1 k_8_62 (by omega) (Nat.le_of_ble_eq_true rfl) ⟨by omega, by omega⟩ rfl (by simp) rfl rfl ?_
  simp only [Option.toList, List.cons_append, List.nil_append]
  rcases (show (0 ≤ z ∧ z ≤ 3) ∨ ¬ (0 ≤ z ∧ z ≤ 3) by omega) with q | q
  · rw [inI_pos q]
    refine J_rnG GM_fa (by omega) (by omega) (by omega) 4 _ _ _ _ (fun K9v hK9 => ?_)
    simp (maxSteps := 4000000) only [↓(X_if_eq (tgt := 18) (pc' := 7) dX8_buy_4 (by decide) rfl), ↓(X_iload_n (k := 2) (pc' := 8) dX8_buy_7 rfl rfl), ↓gI_2, ↓(X_iconst (pc' := 9) dX8_buy_8 rfl), ↓(X_sipush (pc' := 12) dX8_buy_9 rfl), rn_0, gV_s, ↓pI_c, ↓pII_c, ↓pL_c, ↓pLL_c, ↓pR_c, ↓pRI_c, ↓pRII_c, ↓pRIL_c, ↓pRR_c, ↓pV_c, ↓pVV_c, ↓gI_c, ↓gL_c, ↓gR_c, f2_0, f2_1, nk_n, nk_i, nk_r, ↓reduceIte, r32, r64, Nat.reduceAdd, Nat.reduceSub, Nat.reduceEqDiff, Nat.reduceLT, Nat.reduceLeDiff, Nat.reduceBEq, Int.reduceAdd, Int.reduceSub, Int.reduceMul, Int.reduceNeg, Int.reduceToNat, Int.reduceLE, Int.reduceLT, Int.reduceEq, Int.reduceNatCast', Int.reduceNatCast, Int.natCast_zero, Int.toNat_natCast, Int.toNat_zero, Int.toNat_one, List.length_cons, List.length_nil, true_and, and_true, and_self, true_or, or_true, false_or, or_false, Bool.not_true, Bool.not_false, Nat.lt_add_one, Nat.zero_lt_succ, N0, swL_n, swL_c, List.toList_toArray, false_implies, true_implies, implies_true, forall_const, not_false_eq_true, not_true_eq_false, and_false, false_and]
    simp only [hK9]
    clear hK9 K9v
    refine J_callSd GM_fa (ok_isWithin (M := M) (d + 4) g 1 5000 hg (by simp only [r32]; omega) (by simp only [r32]; omega)) dX8_buy_12 k_8_88 (by omega) (Nat.le_of_ble_eq_true rfl) ⟨by omega, by omega⟩ rfl (by simp) rfl rfl ?_
    simp only [Option.toList, List.cons_append, List.nil_append]
    rcases (show (1 ≤ g ∧ g ≤ 5000) ∨ ¬ (1 ≤ g ∧ g ≤ 5000) by omega) with q2 | q2
    · rw [inI_pos q2]
      obtain ⟨j, rfl⟩ : ∃ j : Nat, z = (j : Int) := ⟨z.toNat, by omega⟩
      rw [Int.toNat_natCast]
      have i1 : (j : Int) < 4 := by omega
      have hBj := hB j (by omega)
      have r1 : -2147483648 ≤ M 70 j + g ∧ M 70 j + g ≤ 2147483647 := by omega
      rcases (show M 70 j + g ≤ 100000 ∨ ¬ M 70 j + g ≤ 100000 by omega) with q3 | q3
      · have e : cBuy (M 70 j) (j : Int) g = 0 := by rw [cBuy, if_pos ⟨q, q2⟩, if_pos q3]
        have q3' : ¬ 100000 < M 70 j + g := by omega
        rw [e]
        refine J_rnG GM_fa (by omega) (by omega) (by omega) 1 _ _ _ _ (fun K9v hK9 => ?_)
        simp (maxSteps := 4000000) only [↓(X_if_ne (tgt := 26) (pc' := 18) dX8_buy_15 (by decide) rfl), rn_0, gV_s, ↓pI_c, ↓pII_c, ↓pL_c, ↓pLL_c, ↓pR_c, ↓pRI_c, ↓pRII_c, ↓pRIL_c, ↓pRR_c, ↓pV_c, ↓pVV_c, ↓gI_c, ↓gL_c, ↓gR_c, f2_0, f2_1, nk_n, nk_i, nk_r, ↓reduceIte, r32, r64, Nat.reduceAdd, Nat.reduceSub, Nat.reduceEqDiff, Nat.reduceLT, Nat.reduceLeDiff, Nat.reduceBEq, Int.reduceAdd, Int.reduceSub, Int.reduceMul, Int.reduceNeg, Int.reduceToNat, Int.reduceLE, Int.reduceLT, Int.reduceEq, Int.reduceNatCast', Int.reduceNatCast, Int.natCast_zero, Int.toNat_natCast, Int.toNat_zero, Int.toNat_one, List.length_cons, List.length_nil, true_and, and_true, and_self, true_or, or_true, false_or, or_false, Bool.not_true, Bool.not_false, Nat.lt_add_one, Nat.zero_lt_succ, N0, swL_n, swL_c, List.toList_toArray, false_implies, true_implies, implies_true, forall_const, not_false_eq_true, not_true_eq_false, and_false, false_and]
        simp only [hK9]
        clear hK9 K9v
        refine J_rnG GM_fa (by omega) (by omega) (by omega) 8 _ _ _ _ (fun K9v hK9 => ?_)
        simp (maxSteps := 4000000) only [↓(X_aload_n (k := 0) (pc' := 27) dX8_buy_26 rfl rfl), ↓gR_0, ↓(X_getR (pc' := 30) fl_8_16 dX8_buy_27 rfl), kd_0, ↓(gV_c r0_0_1), kd_70, ln_70, ↓(X_iload_n (k := 1) (pc' := 31) dX8_buy_30 rfl rfl), ↓gI_1, ↓(X_iaload (pc' := 32) dX8_buy_31 rfl), ↓(X_iload_n (k := 2) (pc' := 33) dX8_buy_32 rfl rfl), ↓gI_2, ↓(X_iadd (pc' := 34) dX8_buy_33 rfl), ↓(X_ldc (pc' := 36) cst_8_91 dX8_buy_34 rfl), ↓(X_icmp_le (tgt := 47) (pc' := 39) dX8_buy_36 (by decide) rfl), rn_0, gV_s, ↓pI_c, ↓pII_c, ↓pL_c, ↓pLL_c, ↓pR_c, ↓pRI_c, ↓pRII_c, ↓pRIL_c, ↓pRR_c, ↓pV_c, ↓pVV_c, ↓gI_c, ↓gL_c, ↓gR_c, f2_0, f2_1, nk_n, nk_i, nk_r, ↓reduceIte, r32, r64, Nat.reduceAdd, Nat.reduceSub, Nat.reduceEqDiff, Nat.reduceLT, Nat.reduceLeDiff, Nat.reduceBEq, Int.reduceAdd, Int.reduceSub, Int.reduceMul, Int.reduceNeg, Int.reduceToNat, Int.reduceLE, Int.reduceLT, Int.reduceEq, Int.reduceNatCast', Int.reduceNatCast, Int.natCast_zero, Int.toNat_natCast, Int.toNat_zero, Int.toNat_one, List.length_cons, List.length_nil, true_and, and_true, and_self, true_or, or_true, false_or, or_false, Bool.not_true, Bool.not_false, Nat.lt_add_one, Nat.zero_lt_succ, N0, swL_n, swL_c, List.toList_toArray, false_implies, true_implies, implies_true, forall_const, not_false_eq_true, not_true_eq_false, and_false, false_and, q.1, i1, q3', r1]
        simp only [hK9]
        clear hK9 K9v
        refine J_rnG GM_fa (by omega) (by omega) (by omega) 26 _ _ _ _ (fun K9v hK9 => ?_)
        simp (maxSteps := 4000000) only [↓(X_aload_n (k := 0) (pc' := 48) dX8_buy_47 rfl rfl), ↓gR_0, ↓(X_getR (pc' := 51) fl_8_16 dX8_buy_48 rfl), kd_0, ↓(gV_c r0_0_1), kd_70, ln_70, ↓(X_iload_n (k := 1) (pc' := 52) dX8_buy_51 rfl rfl), ↓gI_1, ↓(X_dup2 (pc' := 53) dX8_buy_52 rfl), ↓(X_iaload (pc' := 54) dX8_buy_53 rfl), ↓(X_iload_n (k := 2) (pc' := 55) dX8_buy_54 rfl rfl), ↓gI_2, ↓(X_iadd (pc' := 56) dX8_buy_55 rfl), ↓(X_iastore (pc' := 57) dX8_buy_56 rfl), ↓(X_aload_n (k := 0) (pc' := 58) dX8_buy_57 rfl rfl), ↓(X_getR (pc' := 61) fl_8_10 dX8_buy_58 rfl), ↓(gV_c r0_0_0), kd_1, ↓(X_getR (pc' := 64) fl_8_92 dX8_buy_61 rfl), ↓(gV_c r0_1_1), kd_7, ↓(X_getR (pc' := 67) fl_8_95 dX8_buy_64 rfl), ↓(gV_c r0_7_0), kd_8, ln_8, kd_71, ↓(gV_c r0_71_0), kd_72, ln_72, ↓(X_iload_n (k := 1) (pc' := 68) dX8_buy_67 rfl rfl), ↓(X_dup2 (pc' := 69) dX8_buy_68 rfl), ↓(X_iaload (pc' := 70) dX8_buy_69 rfl), ↓(X_iload_n (k := 2) (pc' := 71) dX8_buy_70 rfl rfl), ↓(X_sipush (pc' := 74) dX8_buy_71 rfl), ↓(X_imul (pc' := 75) dX8_buy_74 rfl), ↓(X_iadd (pc' := 76) dX8_buy_75 rfl), ↓(X_iastore (pc' := 77) dX8_buy_76 rfl), ↓(X_aload_n (k := 0) (pc' := 78) dX8_buy_77 rfl rfl), ↓(X_getR (pc' := 81) fl_8_10 dX8_buy_78 rfl), ↓(X_getR (pc' := 84) fl_8_92 dX8_buy_81 rfl), ↓(X_getR (pc' := 87) fl_8_95 dX8_buy_84 rfl), ↓(X_iload_n (k := 1) (pc' := 88) dX8_buy_87 rfl rfl), ↓(X_iaload (pc' := 89) dX8_buy_88 rfl), rn_0, gV_s, ↓pI_c, ↓pII_c, ↓pL_c, ↓pLL_c, ↓pR_c, ↓pRI_c, ↓pRII_c, ↓pRIL_c, ↓pRR_c, ↓pV_c, ↓pVV_c, ↓gI_c, ↓gL_c, ↓gR_c, f2_0, f2_1, nk_n, nk_i, nk_r, ↓reduceIte, r32, r64, Nat.reduceAdd, Nat.reduceSub, Nat.reduceEqDiff, Nat.reduceLT, Nat.reduceLeDiff, Nat.reduceBEq, Int.reduceAdd, Int.reduceSub, Int.reduceMul, Int.reduceNeg, Int.reduceToNat, Int.reduceLE, Int.reduceLT, Int.reduceEq, Int.reduceNatCast', Int.reduceNatCast, Int.natCast_zero, Int.toNat_natCast, Int.toNat_zero, Int.toNat_one, List.length_cons, List.length_nil, true_and, and_true, and_self, true_or, or_true, false_or, or_false, Bool.not_true, Bool.not_false, Nat.lt_add_one, Nat.zero_lt_succ, N0, swL_n, swL_c, List.toList_toArray, false_implies, true_implies, implies_true, forall_const, not_false_eq_true, not_true_eq_false, and_false, false_and, q.1, i1, up2_s, up2_c (show (8 : Nat) ≠ 70 by decide)]
        simp only [hK9]
        clear hK9 K9v
        refine J_iret dX8_buy_89 rfl (by omega) (by omega) (⟨rfl, by simp only [if_true, N0, Int.toNat_natCast]⟩)
      · have e : cBuy (M 70 j) (j : Int) g = 2 := by rw [cBuy, if_pos ⟨q, q2⟩, if_neg q3]
        have q3' : 100000 < M 70 j + g := by omega
        rw [e]
        refine J_rnG GM_fa (by omega) (by omega) (by omega) 1 _ _ _ _ (fun K9v hK9 => ?_)
        simp (maxSteps := 4000000) only [↓(X_if_ne (tgt := 26) (pc' := 18) dX8_buy_15 (by decide) rfl), rn_0, gV_s, ↓pI_c, ↓pII_c, ↓pL_c, ↓pLL_c, ↓pR_c, ↓pRI_c, ↓pRII_c, ↓pRIL_c, ↓pRR_c, ↓pV_c, ↓pVV_c, ↓gI_c, ↓gL_c, ↓gR_c, f2_0, f2_1, nk_n, nk_i, nk_r, ↓reduceIte, r32, r64, Nat.reduceAdd, Nat.reduceSub, Nat.reduceEqDiff, Nat.reduceLT, Nat.reduceLeDiff, Nat.reduceBEq, Int.reduceAdd, Int.reduceSub, Int.reduceMul, Int.reduceNeg, Int.reduceToNat, Int.reduceLE, Int.reduceLT, Int.reduceEq, Int.reduceNatCast', Int.reduceNatCast, Int.natCast_zero, Int.toNat_natCast, Int.toNat_zero, Int.toNat_one, List.length_cons, List.length_nil, true_and, and_true, and_self, true_or, or_true, false_or, or_false, Bool.not_true, Bool.not_false, Nat.lt_add_one, Nat.zero_lt_succ, N0, swL_n, swL_c, List.toList_toArray, false_implies, true_implies, implies_true, forall_const, not_false_eq_true, not_true_eq_false, and_false, false_and]
        simp only [hK9]
        clear hK9 K9v
        refine J_rnG GM_fa (by omega) (by omega) (by omega) 8 _ _ _ _ (fun K9v hK9 => ?_)
        simp (maxSteps := 4000000) only [↓(X_aload_n (k := 0) (pc' := 27) dX8_buy_26 rfl rfl), ↓gR_0, ↓(X_getR (pc' := 30) fl_8_16 dX8_buy_27 rfl), kd_0, ↓(gV_c r0_0_1), kd_70, ln_70, ↓(X_iload_n (k := 1) (pc' := 31) dX8_buy_30 rfl rfl), ↓gI_1, ↓(X_iaload (pc' := 32) dX8_buy_31 rfl), ↓(X_iload_n (k := 2) (pc' := 33) dX8_buy_32 rfl rfl), ↓gI_2, ↓(X_iadd (pc' := 34) dX8_buy_33 rfl), ↓(X_ldc (pc' := 36) cst_8_91 dX8_buy_34 rfl), ↓(X_icmp_le (tgt := 47) (pc' := 39) dX8_buy_36 (by decide) rfl), rn_0, gV_s, ↓pI_c, ↓pII_c, ↓pL_c, ↓pLL_c, ↓pR_c, ↓pRI_c, ↓pRII_c, ↓pRIL_c, ↓pRR_c, ↓pV_c, ↓pVV_c, ↓gI_c, ↓gL_c, ↓gR_c, f2_0, f2_1, nk_n, nk_i, nk_r, ↓reduceIte, r32, r64, Nat.reduceAdd, Nat.reduceSub, Nat.reduceEqDiff, Nat.reduceLT, Nat.reduceLeDiff, Nat.reduceBEq, Int.reduceAdd, Int.reduceSub, Int.reduceMul, Int.reduceNeg, Int.reduceToNat, Int.reduceLE, Int.reduceLT, Int.reduceEq, Int.reduceNatCast', Int.reduceNatCast, Int.natCast_zero, Int.toNat_natCast, Int.toNat_zero, Int.toNat_one, List.length_cons, List.length_nil, true_and, and_true, and_self, true_or, or_true, false_or, or_false, Bool.not_true, Bool.not_false, Nat.lt_add_one, Nat.zero_lt_succ, N0, swL_n, swL_c, List.toList_toArray, false_implies, true_implies, implies_true, forall_const, not_false_eq_true, not_true_eq_false, and_false, false_and, q.1, i1, q3', r1]
        simp only [hK9]
        clear hK9 K9v
        refine J_throw hl9 tOK_77 dX8_buy_39 dX8_buy_42 dX8_buy_43 dX8_buy_46 (by omega) (by simp) (by omega) (by omega) (⟨rfl, rfl⟩)
    · have e : cBuy (M 70 z.toNat) z g = 1 := by rw [cBuy, if_neg (fun h => q2 h.2)]
      rw [inI_neg q2, e]
      refine J_rnG GM_fa (by omega) (by omega) (by omega) 1 _ _ _ _ (fun K9v hK9 => ?_)
      simp (maxSteps := 4000000) only [↓(X_if_ne (tgt := 26) (pc' := 18) dX8_buy_15 (by decide) rfl), rn_0, gV_s, ↓pI_c, ↓pII_c, ↓pL_c, ↓pLL_c, ↓pR_c, ↓pRI_c, ↓pRII_c, ↓pRIL_c, ↓pRR_c, ↓pV_c, ↓pVV_c, ↓gI_c, ↓gL_c, ↓gR_c, f2_0, f2_1, nk_n, nk_i, nk_r, ↓reduceIte, r32, r64, Nat.reduceAdd, Nat.reduceSub, Nat.reduceEqDiff, Nat.reduceLT, Nat.reduceLeDiff, Nat.reduceBEq, Int.reduceAdd, Int.reduceSub, Int.reduceMul, Int.reduceNeg, Int.reduceToNat, Int.reduceLE, Int.reduceLT, Int.reduceEq, Int.reduceNatCast', Int.reduceNatCast, Int.natCast_zero, Int.toNat_natCast, Int.toNat_zero, Int.toNat_one, List.length_cons, List.length_nil, true_and, and_true, and_self, true_or, or_true, false_or, or_false, Bool.not_true, Bool.not_false, Nat.lt_add_one, Nat.zero_lt_succ, N0, swL_n, swL_c, List.toList_toArray, false_implies, true_implies, implies_true, forall_const, not_false_eq_true, not_true_eq_false, and_false, false_and]
      simp only [hK9]
      clear hK9 K9v
      refine J_throw hl9 tOK_70 dX8_buy_18 dX8_buy_21 dX8_buy_22 dX8_buy_25 (by omega) (by simp) (by omega) (by omega) (⟨rfl, rfl⟩)
  · have e : cBuy (M 70 z.toNat) z g = 1 := by rw [cBuy, if_neg (fun h => q h.1)]
    rw [inI_neg q, e]
    refine J_rnG GM_fa (by omega) (by omega) (by omega) 1 _ _ _ _ (fun K9v hK9 => ?_)
    simp (maxSteps := 4000000) only [↓(X_if_eq (tgt := 18) (pc' := 7) dX8_buy_4 (by decide) rfl), rn_0, gV_s, ↓pI_c, ↓pII_c, ↓pL_c, ↓pLL_c, ↓pR_c, ↓pRI_c, ↓pRII_c, ↓pRIL_c, ↓pRR_c, ↓pV_c, ↓pVV_c, ↓gI_c, ↓gL_c, ↓gR_c, f2_0, f2_1, nk_n, nk_i, nk_r, ↓reduceIte, r32, r64, Nat.reduceAdd, Nat.reduceSub, Nat.reduceEqDiff, Nat.reduceLT, Nat.reduceLeDiff, Nat.reduceBEq, Int.reduceAdd, Int.reduceSub, Int.reduceMul, Int.reduceNeg, Int.reduceToNat, Int.reduceLE, Int.reduceLT, Int.reduceEq, Int.reduceNatCast', Int.reduceNatCast, Int.natCast_zero, Int.toNat_natCast, Int.toNat_zero, Int.toNat_one, List.length_cons, List.length_nil, true_and, and_true, and_self, true_or, or_true, false_or, or_false, Bool.not_true, Bool.not_false, Nat.lt_add_one, Nat.zero_lt_succ, N0, swL_n, swL_c, List.toList_toArray, false_implies, true_implies, implies_true, forall_const, not_false_eq_true, not_true_eq_false, and_false, false_and]
    simp only [hK9]
    clear hK9 K9v
    refine J_throw hl9 tOK_70 dX8_buy_18 dX8_buy_21 dX8_buy_22 dX8_buy_25 (by omega) (by simp) (by omega) (by omega) (⟨rfl, rfl⟩)
set_option maxRecDepth 100000 in
set_option maxHeartbeats 4000000 in
theorem ok_pass {M : Nat → Nat → Int} (hl9 : l.stackTraces = false) (d : Nat) (z : Int) (hz : r32 z) (hB : 0 ≤ M 0 10 ∧ M 0 10 ≤ 10000) : Ok l D cy (d + 6) 1 6 yX8_pass cX8_pass 2 (some (.int)) [.inr (.inr (some (0))), .inl (z)] (N0, R0, M) (fun o ν => o = outF [IAE, ISE] (cPass (M 0 10) z) (some (.inl (M 0 10 + z))) ∧ ν = (N0, R0, if cPass (M 0 10) z = 0 then up2 M 0 10 (M 0 10 + z) else M)) := by
  refine Ok.intro (o := 8) (ini := false) [some (.inr (.inr (some (0)))), some (.inl (z))] (by decide +kernel) rfl (fun h => by cases h) rfl (Nat.le_of_ble_eq_true rfl) rfl ?_
  refine J_rnG GM_fa (by omega) (by omega) (by omega) 3 _ _ _ _ (fun K9v hK9 => ?_)
  simp (maxSteps := 4000000) only [↓(X_iload_n (k := 1) (pc' := 1) dX8_pass_0 rfl rfl), ↓gI_1, ↓(X_iconst (pc' := 2) dX8_pass_1 rfl), ↓(X_bipush (pc' := 4) dX8_pass_2 rfl), rn_0, gV_s, ↓pI_c, ↓pII_c, ↓pL_c, ↓pLL_c, ↓pR_c, ↓pRI_c, ↓pRII_c, ↓pRIL_c, ↓pRR_c, ↓pV_c, ↓pVV_c, ↓gI_c, ↓gL_c, ↓gR_c, f2_0, f2_1, nk_n, nk_i, nk_r, ↓reduceIte, r32, r64, Nat.reduceAdd, Nat.reduceSub, Nat.reduceEqDiff, Nat.reduceLT, Nat.reduceLeDiff, Nat.reduceBEq, Int.reduceAdd, Int.reduceSub, Int.reduceMul, Int.reduceNeg, Int.reduceToNat, Int.reduceLE, Int.reduceLT, Int.reduceEq, Int.reduceNatCast', Int.reduceNatCast, Int.natCast_zero, Int.toNat_natCast, Int.toNat_zero, Int.toNat_one, List.length_cons, List.length_nil, true_and, and_true, and_self, true_or, or_true, false_or, or_false, Bool.not_true, Bool.not_false, Nat.lt_add_one, Nat.zero_lt_succ, N0, swL_n, swL_c, List.toList_toArray, false_implies, true_implies, implies_true, forall_const, not_false_eq_true, not_true_eq_false, and_false, false_and]
  simp only [hK9]
  clear hK9 K9v
  refine J_callSd GM_fa (ok_isWithin (M := M) (d + 4) z 1 100 hz (by simp only [r32]; omega) (by simp only [r32]; omega)) dX8_pass_4 k_8_88 (by omega) (Nat.le_of_ble_eq_true rfl) ⟨by omega, by omega⟩ rfl (by simp) rfl rfl ?_
  simp only [Option.toList, List.cons_append, List.nil_append]
  rcases (show (1 ≤ z ∧ z ≤ 100) ∨ ¬ (1 ≤ z ∧ z ≤ 100) by omega) with q | q
  · rw [inI_pos q]
    have r1 : -2147483648 ≤ M 0 10 + z ∧ M 0 10 + z ≤ 2147483647 := by omega
    rcases (show M 0 10 + z ≤ 10000 ∨ ¬ M 0 10 + z ≤ 10000 by omega) with q3 | q3
    · have e : cPass (M 0 10) z = 0 := by rw [cPass, if_pos q, if_pos q3]
      have q3' : ¬ 10000 < M 0 10 + z := by omega
      rw [e]
      refine J_rnG GM_fa (by omega) (by omega) (by omega) 1 _ _ _ _ (fun K9v hK9 => ?_)
      simp (maxSteps := 4000000) only [↓(X_if_ne (tgt := 18) (pc' := 10) dX8_pass_7 (by decide) rfl), rn_0, gV_s, ↓pI_c, ↓pII_c, ↓pL_c, ↓pLL_c, ↓pR_c, ↓pRI_c, ↓pRII_c, ↓pRIL_c, ↓pRR_c, ↓pV_c, ↓pVV_c, ↓gI_c, ↓gL_c, ↓gR_c, f2_0, f2_1, nk_n, nk_i, nk_r, ↓reduceIte, r32, r64, Nat.reduceAdd, Nat.reduceSub, Nat.reduceEqDiff, Nat.reduceLT, Nat.reduceLeDiff, Nat.reduceBEq, Int.reduceAdd, Int.reduceSub, Int.reduceMul, Int.reduceNeg, Int.reduceToNat, Int.reduceLE, Int.reduceLT, Int.reduceEq, Int.reduceNatCast', Int.reduceNatCast, Int.natCast_zero, Int.toNat_natCast, Int.toNat_zero, Int.toNat_one, List.length_cons, List.length_nil, true_and, and_true, and_self, true_or, or_true, false_or, or_false, Bool.not_true, Bool.not_false, Nat.lt_add_one, Nat.zero_lt_succ, N0, swL_n, swL_c, List.toList_toArray, false_implies, true_implies, implies_true, forall_const, not_false_eq_true, not_true_eq_false, and_false, false_and]
      simp only [hK9]
      clear hK9 K9v
      refine J_rnG GM_fa (by omega) (by omega) (by omega) 6 _ _ _ _ (fun K9v hK9 => ?_)
      simp (maxSteps := 4000000) only [↓(X_aload_n (k := 0) (pc' := 19) dX8_pass_18 rfl rfl), ↓gR_0, ↓(X_getI (pc' := 22) fl_8_168 (by decide) dX8_pass_19 rfl), kd_0, ↓(X_iload_n (k := 1) (pc' := 23) dX8_pass_22 rfl rfl), ↓gI_1, ↓(X_iadd (pc' := 24) dX8_pass_23 rfl), ↓(X_sipush (pc' := 27) dX8_pass_24 rfl), ↓(X_icmp_le (tgt := 38) (pc' := 30) dX8_pass_27 (by decide) rfl), rn_0, gV_s, ↓pI_c, ↓pII_c, ↓pL_c, ↓pLL_c, ↓pR_c, ↓pRI_c, ↓pRII_c, ↓pRIL_c, ↓pRR_c, ↓pV_c, ↓pVV_c, ↓gI_c, ↓gL_c, ↓gR_c, f2_0, f2_1, nk_n, nk_i, nk_r, ↓reduceIte, r32, r64, Nat.reduceAdd, Nat.reduceSub, Nat.reduceEqDiff, Nat.reduceLT, Nat.reduceLeDiff, Nat.reduceBEq, Int.reduceAdd, Int.reduceSub, Int.reduceMul, Int.reduceNeg, Int.reduceToNat, Int.reduceLE, Int.reduceLT, Int.reduceEq, Int.reduceNatCast', Int.reduceNatCast, Int.natCast_zero, Int.toNat_natCast, Int.toNat_zero, Int.toNat_one, List.length_cons, List.length_nil, true_and, and_true, and_self, true_or, or_true, false_or, or_false, Bool.not_true, Bool.not_false, Nat.lt_add_one, Nat.zero_lt_succ, N0, swL_n, swL_c, List.toList_toArray, false_implies, true_implies, implies_true, forall_const, not_false_eq_true, not_true_eq_false, and_false, false_and, q3', r1]
      simp only [hK9]
      clear hK9 K9v
      refine J_rnG GM_fa (by omega) (by omega) (by omega) 8 _ _ _ _ (fun K9v hK9 => ?_)
      simp (maxSteps := 4000000) only [↓(X_aload_n (k := 0) (pc' := 39) dX8_pass_38 rfl rfl), ↓gR_0, ↓(X_dup (pc' := 40) dX8_pass_39 rfl), ↓(X_getI (pc' := 43) fl_8_168 (by decide) dX8_pass_40 rfl), kd_0, ↓(X_iload_n (k := 1) (pc' := 44) dX8_pass_43 rfl rfl), ↓gI_1, ↓(X_iadd (pc' := 45) dX8_pass_44 rfl), ↓(X_putI (pc' := 48) fl_8_168 (by decide) dX8_pass_45 rfl), Nat.one_ne_zero, Nat.reduceEqDiff, ↓(X_aload_n (k := 0) (pc' := 49) dX8_pass_48 rfl rfl), ↓(X_getI (pc' := 52) fl_8_168 (by decide) dX8_pass_49 rfl), rn_0, gV_s, ↓pI_c, ↓pII_c, ↓pL_c, ↓pLL_c, ↓pR_c, ↓pRI_c, ↓pRII_c, ↓pRIL_c, ↓pRR_c, ↓pV_c, ↓pVV_c, ↓gI_c, ↓gL_c, ↓gR_c, f2_0, f2_1, nk_n, nk_i, nk_r, ↓reduceIte, r32, r64, Nat.reduceAdd, Nat.reduceSub, Nat.reduceEqDiff, Nat.reduceLT, Nat.reduceLeDiff, Nat.reduceBEq, Int.reduceAdd, Int.reduceSub, Int.reduceMul, Int.reduceNeg, Int.reduceToNat, Int.reduceLE, Int.reduceLT, Int.reduceEq, Int.reduceNatCast', Int.reduceNatCast, Int.natCast_zero, Int.toNat_natCast, Int.toNat_zero, Int.toNat_one, List.length_cons, List.length_nil, true_and, and_true, and_self, true_or, or_true, false_or, or_false, Bool.not_true, Bool.not_false, Nat.lt_add_one, Nat.zero_lt_succ, N0, swL_n, swL_c, List.toList_toArray, false_implies, true_implies, implies_true, forall_const, not_false_eq_true, not_true_eq_false, and_false, false_and, up2_s]
      simp only [hK9]
      clear hK9 K9v
      refine J_iret dX8_pass_52 rfl (by omega) (by omega) (⟨rfl, by simp only [if_true, N0, Int.toNat_natCast]⟩)
    · have e : cPass (M 0 10) z = 2 := by rw [cPass, if_pos q, if_neg q3]
      have q3' : 10000 < M 0 10 + z := by omega
      rw [e]
      refine J_rnG GM_fa (by omega) (by omega) (by omega) 1 _ _ _ _ (fun K9v hK9 => ?_)
      simp (maxSteps := 4000000) only [↓(X_if_ne (tgt := 18) (pc' := 10) dX8_pass_7 (by decide) rfl), rn_0, gV_s, ↓pI_c, ↓pII_c, ↓pL_c, ↓pLL_c, ↓pR_c, ↓pRI_c, ↓pRII_c, ↓pRIL_c, ↓pRR_c, ↓pV_c, ↓pVV_c, ↓gI_c, ↓gL_c, ↓gR_c, f2_0, f2_1, nk_n, nk_i, nk_r, ↓reduceIte, r32, r64, Nat.reduceAdd, Nat.reduceSub, Nat.reduceEqDiff, Nat.reduceLT, Nat.reduceLeDiff, Nat.reduceBEq, Int.reduceAdd, Int.reduceSub, Int.reduceMul, Int.reduceNeg, Int.reduceToNat, Int.reduceLE, Int.reduceLT, Int.reduceEq, Int.reduceNatCast', Int.reduceNatCast, Int.natCast_zero, Int.toNat_natCast, Int.toNat_zero, Int.toNat_one, List.length_cons, List.length_nil, true_and, and_true, and_self, true_or, or_true, false_or, or_false, Bool.not_true, Bool.not_false, Nat.lt_add_one, Nat.zero_lt_succ, N0, swL_n, swL_c, List.toList_toArray, false_implies, true_implies, implies_true, forall_const, not_false_eq_true, not_true_eq_false, and_false, false_and]
      simp only [hK9]
      clear hK9 K9v
      refine J_rnG GM_fa (by omega) (by omega) (by omega) 6 _ _ _ _ (fun K9v hK9 => ?_)
      simp (maxSteps := 4000000) only [↓(X_aload_n (k := 0) (pc' := 19) dX8_pass_18 rfl rfl), ↓gR_0, ↓(X_getI (pc' := 22) fl_8_168 (by decide) dX8_pass_19 rfl), kd_0, ↓(X_iload_n (k := 1) (pc' := 23) dX8_pass_22 rfl rfl), ↓gI_1, ↓(X_iadd (pc' := 24) dX8_pass_23 rfl), ↓(X_sipush (pc' := 27) dX8_pass_24 rfl), ↓(X_icmp_le (tgt := 38) (pc' := 30) dX8_pass_27 (by decide) rfl), rn_0, gV_s, ↓pI_c, ↓pII_c, ↓pL_c, ↓pLL_c, ↓pR_c, ↓pRI_c, ↓pRII_c, ↓pRIL_c, ↓pRR_c, ↓pV_c, ↓pVV_c, ↓gI_c, ↓gL_c, ↓gR_c, f2_0, f2_1, nk_n, nk_i, nk_r, ↓reduceIte, r32, r64, Nat.reduceAdd, Nat.reduceSub, Nat.reduceEqDiff, Nat.reduceLT, Nat.reduceLeDiff, Nat.reduceBEq, Int.reduceAdd, Int.reduceSub, Int.reduceMul, Int.reduceNeg, Int.reduceToNat, Int.reduceLE, Int.reduceLT, Int.reduceEq, Int.reduceNatCast', Int.reduceNatCast, Int.natCast_zero, Int.toNat_natCast, Int.toNat_zero, Int.toNat_one, List.length_cons, List.length_nil, true_and, and_true, and_self, true_or, or_true, false_or, or_false, Bool.not_true, Bool.not_false, Nat.lt_add_one, Nat.zero_lt_succ, N0, swL_n, swL_c, List.toList_toArray, false_implies, true_implies, implies_true, forall_const, not_false_eq_true, not_true_eq_false, and_false, false_and, q3', r1]
      simp only [hK9]
      clear hK9 K9v
      refine J_throw hl9 tOK_77 dX8_pass_30 dX8_pass_33 dX8_pass_34 dX8_pass_37 (by omega) (by simp) (by omega) (by omega) (⟨rfl, rfl⟩)
  · have e : cPass (M 0 10) z = 1 := by rw [cPass, if_neg q]
    rw [inI_neg q, e]
    refine J_rnG GM_fa (by omega) (by omega) (by omega) 1 _ _ _ _ (fun K9v hK9 => ?_)
    simp (maxSteps := 4000000) only [↓(X_if_ne (tgt := 18) (pc' := 10) dX8_pass_7 (by decide) rfl), rn_0, gV_s, ↓pI_c, ↓pII_c, ↓pL_c, ↓pLL_c, ↓pR_c, ↓pRI_c, ↓pRII_c, ↓pRIL_c, ↓pRR_c, ↓pV_c, ↓pVV_c, ↓gI_c, ↓gL_c, ↓gR_c, f2_0, f2_1, nk_n, nk_i, nk_r, ↓reduceIte, r32, r64, Nat.reduceAdd, Nat.reduceSub, Nat.reduceEqDiff, Nat.reduceLT, Nat.reduceLeDiff, Nat.reduceBEq, Int.reduceAdd, Int.reduceSub, Int.reduceMul, Int.reduceNeg, Int.reduceToNat, Int.reduceLE, Int.reduceLT, Int.reduceEq, Int.reduceNatCast', Int.reduceNatCast, Int.natCast_zero, Int.toNat_natCast, Int.toNat_zero, Int.toNat_one, List.length_cons, List.length_nil, true_and, and_true, and_self, true_or, or_true, false_or, or_false, Bool.not_true, Bool.not_false, Nat.lt_add_one, Nat.zero_lt_succ, N0, swL_n, swL_c, List.toList_toArray, false_implies, true_implies, implies_true, forall_const, not_false_eq_true, not_true_eq_false, and_false, false_and]
    simp only [hK9]
    clear hK9 K9v
    refine J_throw hl9 tOK_70 dX8_pass_10 dX8_pass_13 dX8_pass_14 dX8_pass_17 (by omega) (by simp) (by omega) (by omega) (⟨rfl, rfl⟩)
set_option maxRecDepth 100000 in
set_option maxHeartbeats 4000000 in
theorem ok_tins {M : Nat → Nat → Int} (d : Nat) : Ok l D cy (d + 6) 0 0 yX8_tins cX8_tins 1 (some (.int)) [.inr (.inr (some (0)))] (N0, R0, M) (det (some (.inl (M 1 3))) (N0, R0, M)) := by
  refine Ok.intro (o := 8) (ini := false) [some (.inr (.inr (some (0))))] (by decide +kernel) rfl (fun h => by cases h) rfl (Nat.le_of_ble_eq_true rfl) rfl ?_
  refine J_rnG GM_fa (by omega) (by omega) (by omega) 3 _ _ _ _ (fun K9v hK9 => ?_)
  simp (maxSteps := 4000000) only [↓(X_aload_n (k := 0) (pc' := 1) dX8_tins_0 rfl rfl), ↓gR_0, ↓(X_getR (pc' := 4) fl_8_10 dX8_tins_1 rfl), kd_0, ↓(gV_c r0_0_0), kd_1, ↓(X_getI (pc' := 7) fl_8_154 (by decide) dX8_tins_4 rfl), rn_0, gV_s, ↓pI_c, ↓pII_c, ↓pL_c, ↓pLL_c, ↓pR_c, ↓pRI_c, ↓pRII_c, ↓pRIL_c, ↓pRR_c, ↓pV_c, ↓pVV_c, ↓gI_c, ↓gL_c, ↓gR_c, f2_0, f2_1, nk_n, nk_i, nk_r, ↓reduceIte, r32, r64, Nat.reduceAdd, Nat.reduceSub, Nat.reduceEqDiff, Nat.reduceLT, Nat.reduceLeDiff, Nat.reduceBEq, Int.reduceAdd, Int.reduceSub, Int.reduceMul, Int.reduceNeg, Int.reduceToNat, Int.reduceLE, Int.reduceLT, Int.reduceEq, Int.reduceNatCast', Int.reduceNatCast, Int.natCast_zero, Int.toNat_natCast, Int.toNat_zero, Int.toNat_one, List.length_cons, List.length_nil, true_and, and_true, and_self, true_or, or_true, false_or, or_false, Bool.not_true, Bool.not_false, Nat.lt_add_one, Nat.zero_lt_succ, N0, swL_n, swL_c, List.toList_toArray, false_implies, true_implies, implies_true, forall_const, not_false_eq_true, not_true_eq_false, and_false, false_and]
  simp only [hK9]
  clear hK9 K9v
  refine J_iret dX8_tins_7 rfl (by omega) (by omega) (⟨rfl, rfl⟩)
set_option maxRecDepth 100000 in
set_option maxHeartbeats 4000000 in
theorem ok_wear {M : Nat → Nat → Int} (d : Nat) : Ok l D cy (d + 6) 0 0 yX8_wear cX8_wear 1 (some (.int)) [.inr (.inr (some (0)))] (N0, R0, M) (det (some (.inl (M 74 2))) (N0, R0, M)) := by
  refine Ok.intro (o := 8) (ini := false) [some (.inr (.inr (some (0))))] (by decide +kernel) rfl (fun h => by cases h) rfl (Nat.le_of_ble_eq_true rfl) rfl ?_
  refine J_rnG GM_fa (by omega) (by omega) (by omega) 3 _ _ _ _ (fun K9v hK9 => ?_)
  simp (maxSteps := 4000000) only [↓(X_aload_n (k := 0) (pc' := 1) dX8_wear_0 rfl rfl), ↓gR_0, ↓(X_getR (pc' := 4) fl_8_36 dX8_wear_1 rfl), kd_0, ↓(gV_c r0_0_4), kd_74, ↓(X_getI (pc' := 7) fl_8_203 (by decide) dX8_wear_4 rfl), rn_0, gV_s, ↓pI_c, ↓pII_c, ↓pL_c, ↓pLL_c, ↓pR_c, ↓pRI_c, ↓pRII_c, ↓pRIL_c, ↓pRR_c, ↓pV_c, ↓pVV_c, ↓gI_c, ↓gL_c, ↓gR_c, f2_0, f2_1, nk_n, nk_i, nk_r, ↓reduceIte, r32, r64, Nat.reduceAdd, Nat.reduceSub, Nat.reduceEqDiff, Nat.reduceLT, Nat.reduceLeDiff, Nat.reduceBEq, Int.reduceAdd, Int.reduceSub, Int.reduceMul, Int.reduceNeg, Int.reduceToNat, Int.reduceLE, Int.reduceLT, Int.reduceEq, Int.reduceNatCast', Int.reduceNatCast, Int.natCast_zero, Int.toNat_natCast, Int.toNat_zero, Int.toNat_one, List.length_cons, List.length_nil, true_and, and_true, and_self, true_or, or_true, false_or, or_false, Bool.not_true, Bool.not_false, Nat.lt_add_one, Nat.zero_lt_succ, N0, swL_n, swL_c, List.toList_toArray, false_implies, true_implies, implies_true, forall_const, not_false_eq_true, not_true_eq_false, and_false, false_and]
  simp only [hK9]
  clear hK9 K9v
  refine J_iret dX8_wear_7 rfl (by omega) (by omega) (⟨rfl, rfl⟩)
end CB
