/-! more of the face: jobs, tins, what is where -/
def cState (n z : Int) : Nat := if 0 ≤ z ∧ z < n then 0 else 1
def cInTin (n z b : Int) : Nat := if 0 ≤ z ∧ z < n then (if 0 ≤ b ∧ b ≤ 3 then 0 else 2) else 1
def cShade (n z p w : Int) : Nat := if 0 ≤ z ∧ z < n then (if 0 ≤ p ∧ p ≤ 2 then (if w = 0 then 3 else 0) else 2) else 1
def cWhere (b p : Int) : Nat := if (0 ≤ b ∧ b ≤ 3) ∧ (0 ≤ p ∧ p ≤ 3) then 0 else 1
theorem wpart_bd {M : Nat → Nat → Int} {m : Nat → Int} {p : Nat} (hm : tin4 m) (hw : wt m ≤ 500000) (hC : ∀ b, b < 4 → col3 (M (3 + b))) (hp : p < 3) : 0 ≤ wpart M m p ∧ wpart M m p ≤ 2147483647 := by
  have k : ∀ b, b < 4 → 0 ≤ M (3 + b) p ∧ M (3 + b) p ≤ 100 := by
    intro b hb
    obtain ⟨h0, h1, h2⟩ := hC b hb
    obtain e | e | e : p = 0 ∨ p = 1 ∨ p = 2 := by omega
    all_goals subst e; assumption
  obtain ⟨m0, m1, m2, m3⟩ := hm
  have k0 : 0 ≤ M 3 p ∧ M 3 p ≤ 100 := k 0 (by omega)
  have a0 := mul_bd m0.1 m0.2 k0.1 k0.2
  have k1 : 0 ≤ M 4 p ∧ M 4 p ≤ 100 := k 1 (by omega)
  have a1 := mul_bd m1.1 m1.2 k1.1 k1.2
  have k2 : 0 ≤ M 5 p ∧ M 5 p ≤ 100 := k 2 (by omega)
  have a2 := mul_bd m2.1 m2.2 k2.1 k2.2
  have k3 : 0 ≤ M 6 p ∧ M 6 p ≤ 100 := k 3 (by omega)
  have a3 := mul_bd m3.1 m3.2 k3.1 k3.2
  simp only [wpart]
  omega
section CC
variable {l : Launch} {D : va_G} {cy : Nat → ClassId}
set_option maxRecDepth 100000 in
set_option maxHeartbeats 4000000 in
theorem ok_job {M : Nat → Nat → Int} (hl9 : l.stackTraces = false) (d n : Nat) (a b c g gap : Int) (ha : r32 a) (hb : r32 b) (hc : r32 c) (hg : r32 g) (hgap : r32 gap) (hn : M 0 8 = (n : Int)) (hn2 : n ≤ 16) : Ok l D cy (d + 6) 1 6 yX8_job cX8_job 7 (some (.int)) [.inr (.inr (some (0))), .inl (a), .inl (b), .inl (c), .inl (g), .inl (gap)] (N0, R0, M) (fun o ν => o = outF [IAE, ISE] (cJob (M 0 8) a b c g gap) (some (.inl (M 0 8))) ∧ ν = (N0, R0, if cJob (M 0 8) a b c g gap = 0 then up2 (up2 (up2 (up2 (up2 (up2 M (368 + 5 * n) 0 a) (368 + 5 * n) 1 b) (368 + 5 * n) 2 c) (367 + 5 * n) 3 g) (367 + 5 * n) 4 gap) 0 8 (M 0 8 + 1) else M)) := by
  refine Ok.intro (o := 8) (ini := false) [some (.inr (.inr (some (0)))), some (.inl (a)), some (.inl (b)), some (.inl (c)), some (.inl (g)), some (.inl (gap)), none] (by decide +kernel) rfl (fun h => by cases h) rfl (Nat.le_of_ble_eq_true rfl) rfl ?_
  refine J_rnG GM_fa (by omega) (by omega) (by omega) 3 _ _ _ _ (fun K9v hK9 => ?_)
  simp (maxSteps := 4000000) only [↓(X_iload_n (k := 1) (pc' := 1) dX8_job_0 rfl rfl), ↓gI_1, ↓(X_iload_n (k := 2) (pc' := 2) dX8_job_1 rfl rfl), ↓gI_2, ↓(X_iload_n (k := 3) (pc' := 3) dX8_job_2 rfl rfl), ↓gI_3, rn_0, gV_s, ↓pI_c, ↓pII_c, ↓pL_c, ↓pLL_c, ↓pR_c, ↓pRI_c, ↓pRII_c, ↓pRIL_c, ↓pRR_c, ↓pV_c, ↓pVV_c, ↓gI_c, ↓gL_c, ↓gR_c, f2_0, f2_1, nk_n, nk_i, nk_r, ↓reduceIte, r32, r64, Nat.reduceAdd, Nat.reduceSub, Nat.reduceEqDiff, Nat.reduceLT, Nat.reduceLeDiff, Nat.reduceBEq, Int.reduceAdd, Int.reduceSub, Int.reduceMul, Int.reduceNeg, Int.reduceToNat, Int.reduceLE, Int.reduceLT, Int.reduceEq, Int.reduceNatCast', Int.reduceNatCast, Int.natCast_zero, Int.toNat_natCast, Int.toNat_zero, Int.toNat_one, List.length_cons, List.length_nil, true_and, and_true, and_self, true_or, or_true, false_or, or_false, Bool.not_true, Bool.not_false, Nat.lt_add_one, Nat.zero_lt_succ, N0, swL_n, swL_c, List.toList_toArray, false_implies, true_implies, implies_true, forall_const, not_false_eq_true, not_true_eq_false, and_false, false_and]
  simp only [hK9]
  clear hK9 K9v
  refine J_callSd GM_fa (ok_isColour (M := M) (d + 3) a b c ha hb hc) dX8_job_3 k_8_66 (by omega) (Nat.le_of_ble_eq_true rfl) ⟨by omega, by omega⟩ rfl (by simp) rfl rfl ?_
  simp only [Option.toList, List.cons_append, List.nil_append]
  rcases Classical.em (P3 a b c) with q | q
  · rw [areI_pos q]
    refine J_rnG GM_fa (by omega) (by omega) (by omega) 2 _ _ _ _ (fun K9v hK9 => ?_)
    simp (maxSteps := 4000000) only [↓(X_if_eq (tgt := 29) (pc' := 9) dX8_job_6 (by decide) rfl), ↓(X_iload (pc' := 11) dX8_job_9 rfl), ↓gI_4, rn_0, gV_s, ↓pI_c, ↓pII_c, ↓pL_c, ↓pLL_c, ↓pR_c, ↓pRI_c, ↓pRII_c, ↓pRIL_c, ↓pRR_c, ↓pV_c, ↓pVV_c, ↓gI_c, ↓gL_c, ↓gR_c, f2_0, f2_1, nk_n, nk_i, nk_r, ↓reduceIte, r32, r64, Nat.reduceAdd, Nat.reduceSub, Nat.reduceEqDiff, Nat.reduceLT, Nat.reduceLeDiff, Nat.reduceBEq, Int.reduceAdd, Int.reduceSub, Int.reduceMul, Int.reduceNeg, Int.reduceToNat, Int.reduceLE, Int.reduceLT, Int.reduceEq, Int.reduceNatCast', Int.reduceNatCast, Int.natCast_zero, Int.toNat_natCast, Int.toNat_zero, Int.toNat_one, List.length_cons, List.length_nil, true_and, and_true, and_self, true_or, or_true, false_or, or_false, Bool.not_true, Bool.not_false, Nat.lt_add_one, Nat.zero_lt_succ, N0, swL_n, swL_c, List.toList_toArray, false_implies, true_implies, implies_true, forall_const, not_false_eq_true, not_true_eq_false, and_false, false_and]
    simp only [hK9]
    clear hK9 K9v
    refine J_callSd GM_fa (ok_isJobGrams (M := M) (d + 3) g hg) dX8_job_11 k_8_98 (by omega) (Nat.le_of_ble_eq_true rfl) ⟨by omega, by omega⟩ rfl (by simp) rfl rfl ?_
    simp only [Option.toList, List.cons_append, List.nil_append]
    rcases Classical.em ((10 ≤ g ∧ g ≤ 500) ∧ g % 10 = 0) with q2 | q2
    · rw [jgI_pos q2]
      refine J_rnG GM_fa (by omega) (by omega) (by omega) 4 _ _ _ _ (fun K9v hK9 => ?_)
      simp (maxSteps := 4000000) only [↓(X_if_eq (tgt := 29) (pc' := 17) dX8_job_14 (by decide) rfl), ↓(X_iload (pc' := 19) dX8_job_17 rfl), ↓gI_5, ↓(X_iconst (pc' := 20) dX8_job_19 rfl), ↓(X_sipush (pc' := 23) dX8_job_20 rfl), rn_0, gV_s, ↓pI_c, ↓pII_c, ↓pL_c, ↓pLL_c, ↓pR_c, ↓pRI_c, ↓pRII_c, ↓pRIL_c, ↓pRR_c, ↓pV_c, ↓pVV_c, ↓gI_c, ↓gL_c, ↓gR_c, f2_0, f2_1, nk_n, nk_i, nk_r, ↓reduceIte, r32, r64, Nat.reduceAdd, Nat.reduceSub, Nat.reduceEqDiff, Nat.reduceLT, Nat.reduceLeDiff, Nat.reduceBEq, Int.reduceAdd, Int.reduceSub, Int.reduceMul, Int.reduceNeg, Int.reduceToNat, Int.reduceLE, Int.reduceLT, Int.reduceEq, Int.reduceNatCast', Int.reduceNatCast, Int.natCast_zero, Int.toNat_natCast, Int.toNat_zero, Int.toNat_one, List.length_cons, List.length_nil, true_and, and_true, and_self, true_or, or_true, false_or, or_false, Bool.not_true, Bool.not_false, Nat.lt_add_one, Nat.zero_lt_succ, N0, swL_n, swL_c, List.toList_toArray, false_implies, true_implies, implies_true, forall_const, not_false_eq_true, not_true_eq_false, and_false, false_and]
      simp only [hK9]
      clear hK9 K9v
      refine J_callSd GM_fa (ok_isWithin (M := M) (d + 4) gap 0 300 hgap (by simp only [r32]; omega) (by simp only [r32]; omega)) dX8_job_23 k_8_88 (by omega) (Nat.le_of_ble_eq_true rfl) ⟨by omega, by omega⟩ rfl (by simp) rfl rfl ?_
      simp only [Option.toList, List.cons_append, List.nil_append]
      rcases (show (0 ≤ gap ∧ gap ≤ 300) ∨ ¬ (0 ≤ gap ∧ gap ≤ 300) by omega) with q3 | q3
      · rw [inI_pos q3]
        have r1 : -2147483648 ≤ (n : Int) ∧ (n : Int) ≤ 2147483647 := by omega
        rcases (show (n : Int) < 16 ∨ ¬ (n : Int) < 16 by omega) with q4 | q4
        · have e : cJob (M 0 8) a b c g gap = 0 := by rw [cJob, if_pos ⟨q, q2, q3⟩, hn, if_pos q4]
          rw [e, hn]
          obtain ⟨a1, a2, a3, -, -, -, -, -, a4, -, -, a5, -⟩ := job_at n (by omega)
          have i2 : 367 + 5 * n < 449 := by omega
          have i0 : (0 : Int) ≤ (n : Int) := by omega
          refine J_rnG GM_fa (by omega) (by omega) (by omega) 1 _ _ _ _ (fun K9v hK9 => ?_)
          simp (maxSteps := 4000000) only [↓(X_if_ne (tgt := 37) (pc' := 29) dX8_job_26 (by decide) rfl), rn_0, gV_s, ↓pI_c, ↓pII_c, ↓pL_c, ↓pLL_c, ↓pR_c, ↓pRI_c, ↓pRII_c, ↓pRIL_c, ↓pRR_c, ↓pV_c, ↓pVV_c, ↓gI_c, ↓gL_c, ↓gR_c, f2_0, f2_1, nk_n, nk_i, nk_r, ↓reduceIte, r32, r64, Nat.reduceAdd, Nat.reduceSub, Nat.reduceEqDiff, Nat.reduceLT, Nat.reduceLeDiff, Nat.reduceBEq, Int.reduceAdd, Int.reduceSub, Int.reduceMul, Int.reduceNeg, Int.reduceToNat, Int.reduceLE, Int.reduceLT, Int.reduceEq, Int.reduceNatCast', Int.reduceNatCast, Int.natCast_zero, Int.toNat_natCast, Int.toNat_zero, Int.toNat_one, List.length_cons, List.length_nil, true_and, and_true, and_self, true_or, or_true, false_or, or_false, Bool.not_true, Bool.not_false, Nat.lt_add_one, Nat.zero_lt_succ, N0, swL_n, swL_c, List.toList_toArray, false_implies, true_implies, implies_true, forall_const, not_false_eq_true, not_true_eq_false, and_false, false_and]
          simp only [hK9]
          clear hK9 K9v
          refine J_rnG GM_fa (by omega) (by omega) (by omega) 4 _ _ _ _ (fun K9v hK9 => ?_)
          simp (maxSteps := 4000000) only [↓(X_aload_n (k := 0) (pc' := 38) dX8_job_37 rfl rfl), ↓gR_0, ↓(X_getI (pc' := 41) fl_8_101 (by decide) dX8_job_38 rfl), kd_0, ↓(X_bipush (pc' := 43) dX8_job_41 rfl), ↓(X_icmp_lt (tgt := 54) (pc' := 46) dX8_job_43 (by decide) rfl), rn_0, gV_s, ↓pI_c, ↓pII_c, ↓pL_c, ↓pLL_c, ↓pR_c, ↓pRI_c, ↓pRII_c, ↓pRIL_c, ↓pRR_c, ↓pV_c, ↓pVV_c, ↓gI_c, ↓gL_c, ↓gR_c, f2_0, f2_1, nk_n, nk_i, nk_r, ↓reduceIte, r32, r64, Nat.reduceAdd, Nat.reduceSub, Nat.reduceEqDiff, Nat.reduceLT, Nat.reduceLeDiff, Nat.reduceBEq, Int.reduceAdd, Int.reduceSub, Int.reduceMul, Int.reduceNeg, Int.reduceToNat, Int.reduceLE, Int.reduceLT, Int.reduceEq, Int.reduceNatCast', Int.reduceNatCast, Int.natCast_zero, Int.toNat_natCast, Int.toNat_zero, Int.toNat_one, List.length_cons, List.length_nil, true_and, and_true, and_self, true_or, or_true, false_or, or_false, Bool.not_true, Bool.not_false, Nat.lt_add_one, Nat.zero_lt_succ, N0, swL_n, swL_c, List.toList_toArray, false_implies, true_implies, implies_true, forall_const, not_false_eq_true, not_true_eq_false, and_false, false_and, q4, r1, hn]
          simp only [hK9]
          clear hK9 K9v
          refine J_rnG GM_fa (by omega) (by omega) (by omega) 11 _ _ _ _ (fun K9v hK9 => ?_)
          simp (maxSteps := 4000000) only [↓(X_aload_n (k := 0) (pc' := 55) dX8_job_54 rfl rfl), ↓gR_0, ↓(X_getR (pc' := 58) fl_8_29 dX8_job_55 rfl), kd_0, ↓(gV_c r0_0_3), kd_73, ln_73, ↓(X_aload_n (k := 0) (pc' := 59) dX8_job_58 rfl rfl), ↓(X_getI (pc' := 62) fl_8_101 (by decide) dX8_job_59 rfl), ↓(X_aaload (pc' := 63) dX8_job_62 rfl), ↓(X_astore (pc' := 65) dX8_job_63 rfl), ↓sto_6, ↓(X_aload (pc' := 67) dX8_job_65 rfl), ↓gR_6, ↓(X_getR (pc' := 70) fl_8_105 dX8_job_67 rfl), ↓(X_iload_n (k := 1) (pc' := 71) dX8_job_70 rfl rfl), ↓gI_1, ↓(X_iload_n (k := 2) (pc' := 72) dX8_job_71 rfl rfl), ↓gI_2, ↓(X_iload_n (k := 3) (pc' := 73) dX8_job_72 rfl rfl), ↓gI_3, rn_0, gV_s, ↓pI_c, ↓pII_c, ↓pL_c, ↓pLL_c, ↓pR_c, ↓pRI_c, ↓pRII_c, ↓pRIL_c, ↓pRR_c, ↓pV_c, ↓pVV_c, ↓gI_c, ↓gL_c, ↓gR_c, f2_0, f2_1, nk_n, nk_i, nk_r, ↓reduceIte, r32, r64, Nat.reduceAdd, Nat.reduceSub, Nat.reduceEqDiff, Nat.reduceLT, Nat.reduceLeDiff, Nat.reduceBEq, Int.reduceAdd, Int.reduceSub, Int.reduceMul, Int.reduceNeg, Int.reduceToNat, Int.reduceLE, Int.reduceLT, Int.reduceEq, Int.reduceNatCast', Int.reduceNatCast, Int.natCast_zero, Int.toNat_natCast, Int.toNat_zero, Int.toNat_one, List.length_cons, List.length_nil, true_and, and_true, and_self, true_or, or_true, false_or, or_false, Bool.not_true, Bool.not_false, Nat.lt_add_one, Nat.zero_lt_succ, N0, swL_n, swL_c, List.toList_toArray, false_implies, true_implies, implies_true, forall_const, not_false_eq_true, not_true_eq_false, and_false, false_and, i0, q4, hn, ↓(gV_c a5), ↓(gV_c a4), a1, i2]
          simp only [hK9]
          clear hK9 K9v
          refine J_callSd GM_fa (ok_setColour (M := M) (d + 4) (368 + 5 * n) a b c a2 a3 (by omega)) dX8_job_73 k_8_84 (by omega) (Nat.le_of_ble_eq_true rfl) ⟨by omega, by omega⟩ rfl (by simp) rfl rfl ?_
          simp only [Option.toList, List.nil_append]
          refine J_rnG GM_fa (by omega) (by omega) (by omega) 16 _ _ _ _ (fun K9v hK9 => ?_)
          simp (maxSteps := 4000000) only [↓(X_aload (pc' := 78) dX8_job_76 rfl), ↓gR_6, ↓(X_iload (pc' := 80) dX8_job_78 rfl), ↓gI_4, ↓(X_putI (pc' := 83) fl_8_108 (by decide) dX8_job_80 rfl), Nat.one_ne_zero, Nat.reduceEqDiff, ↓(X_aload (pc' := 85) dX8_job_83 rfl), ↓(X_iload (pc' := 87) dX8_job_85 rfl), ↓gI_5, ↓(X_putI (pc' := 90) fl_8_111 (by decide) dX8_job_87 rfl), ↓(X_aload_n (k := 0) (pc' := 91) dX8_job_90 rfl rfl), ↓gR_0, ↓(X_dup (pc' := 92) dX8_job_91 rfl), ↓(X_getI (pc' := 95) fl_8_101 (by decide) dX8_job_92 rfl), kd_0, ↓(X_iconst (pc' := 96) dX8_job_95 rfl), ↓(X_iadd (pc' := 97) dX8_job_96 rfl), ↓(X_putI (pc' := 100) fl_8_101 (by decide) dX8_job_97 rfl), ↓(X_aload_n (k := 0) (pc' := 101) dX8_job_100 rfl rfl), ↓(X_getI (pc' := 104) fl_8_101 (by decide) dX8_job_101 rfl), ↓(X_iconst (pc' := 105) dX8_job_104 rfl), ↓(X_isub (pc' := 106) dX8_job_105 rfl), rn_0, gV_s, ↓pI_c, ↓pII_c, ↓pL_c, ↓pLL_c, ↓pR_c, ↓pRI_c, ↓pRII_c, ↓pRIL_c, ↓pRR_c, ↓pV_c, ↓pVV_c, ↓gI_c, ↓gL_c, ↓gR_c, f2_0, f2_1, nk_n, nk_i, nk_r, ↓reduceIte, r32, r64, Nat.reduceAdd, Nat.reduceSub, Nat.reduceEqDiff, Nat.reduceLT, Nat.reduceLeDiff, Nat.reduceBEq, Int.reduceAdd, Int.reduceSub, Int.reduceMul, Int.reduceNeg, Int.reduceToNat, Int.reduceLE, Int.reduceLT, Int.reduceEq, Int.reduceNatCast', Int.reduceNatCast, Int.natCast_zero, Int.toNat_natCast, Int.toNat_zero, Int.toNat_one, List.length_cons, List.length_nil, true_and, and_true, and_self, true_or, or_true, false_or, or_false, Bool.not_true, Bool.not_false, Nat.lt_add_one, Nat.zero_lt_succ, N0, swL_n, swL_c, List.toList_toArray, false_implies, true_implies, implies_true, forall_const, not_false_eq_true, not_true_eq_false, and_false, false_and, i0, q4, hn, ↓(gV_c a5), ↓(gV_c a4), a1, i2, up2_s, up2_c (show 0 ≠ 367 + 5 * n by omega), up2_c (show 0 ≠ 368 + 5 * n by omega), up2_c (show 367 + 5 * n ≠ 0 by omega)]
          simp only [hK9]
          clear hK9 K9v
          rw [show (n : Int) + 1 - 1 = (n : Int) by omega]
          refine J_iret dX8_job_106 rfl (by omega) (by omega) (⟨rfl, by simp only [if_true, N0, Int.toNat_natCast]⟩)
        · have e : cJob (M 0 8) a b c g gap = 2 := by rw [cJob, if_pos ⟨q, q2, q3⟩, hn, if_neg q4]
          rw [e]
          refine J_rnG GM_fa (by omega) (by omega) (by omega) 1 _ _ _ _ (fun K9v hK9 => ?_)
          simp (maxSteps := 4000000) only [↓(X_if_ne (tgt := 37) (pc' := 29) dX8_job_26 (by decide) rfl), rn_0, gV_s, ↓pI_c, ↓pII_c, ↓pL_c, ↓pLL_c, ↓pR_c, ↓pRI_c, ↓pRII_c, ↓pRIL_c, ↓pRR_c, ↓pV_c, ↓pVV_c, ↓gI_c, ↓gL_c, ↓gR_c, f2_0, f2_1, nk_n, nk_i, nk_r, ↓reduceIte, r32, r64, Nat.reduceAdd, Nat.reduceSub, Nat.reduceEqDiff, Nat.reduceLT, Nat.reduceLeDiff, Nat.reduceBEq, Int.reduceAdd, Int.reduceSub, Int.reduceMul, Int.reduceNeg, Int.reduceToNat, Int.reduceLE, Int.reduceLT, Int.reduceEq, Int.reduceNatCast', Int.reduceNatCast, Int.natCast_zero, Int.toNat_natCast, Int.toNat_zero, Int.toNat_one, List.length_cons, List.length_nil, true_and, and_true, and_self, true_or, or_true, false_or, or_false, Bool.not_true, Bool.not_false, Nat.lt_add_one, Nat.zero_lt_succ, N0, swL_n, swL_c, List.toList_toArray, false_implies, true_implies, implies_true, forall_const, not_false_eq_true, not_true_eq_false, and_false, false_and]
          simp only [hK9]
          clear hK9 K9v
          refine J_rnG GM_fa (by omega) (by omega) (by omega) 4 _ _ _ _ (fun K9v hK9 => ?_)
          simp (maxSteps := 4000000) only [↓(X_aload_n (k := 0) (pc' := 38) dX8_job_37 rfl rfl), ↓gR_0, ↓(X_getI (pc' := 41) fl_8_101 (by decide) dX8_job_38 rfl), kd_0, ↓(X_bipush (pc' := 43) dX8_job_41 rfl), ↓(X_icmp_lt (tgt := 54) (pc' := 46) dX8_job_43 (by decide) rfl), rn_0, gV_s, ↓pI_c, ↓pII_c, ↓pL_c, ↓pLL_c, ↓pR_c, ↓pRI_c, ↓pRII_c, ↓pRIL_c, ↓pRR_c, ↓pV_c, ↓pVV_c, ↓gI_c, ↓gL_c, ↓gR_c, f2_0, f2_1, nk_n, nk_i, nk_r, ↓reduceIte, r32, r64, Nat.reduceAdd, Nat.reduceSub, Nat.reduceEqDiff, Nat.reduceLT, Nat.reduceLeDiff, Nat.reduceBEq, Int.reduceAdd, Int.reduceSub, Int.reduceMul, Int.reduceNeg, Int.reduceToNat, Int.reduceLE, Int.reduceLT, Int.reduceEq, Int.reduceNatCast', Int.reduceNatCast, Int.natCast_zero, Int.toNat_natCast, Int.toNat_zero, Int.toNat_one, List.length_cons, List.length_nil, true_and, and_true, and_self, true_or, or_true, false_or, or_false, Bool.not_true, Bool.not_false, Nat.lt_add_one, Nat.zero_lt_succ, N0, swL_n, swL_c, List.toList_toArray, false_implies, true_implies, implies_true, forall_const, not_false_eq_true, not_true_eq_false, and_false, false_and, q4, r1, hn]
          simp only [hK9]
          clear hK9 K9v
          refine J_throw hl9 tOK_77 dX8_job_46 dX8_job_49 dX8_job_50 dX8_job_53 (by omega) (by simp) (by omega) (by omega) (⟨rfl, rfl⟩)
      · have e : cJob (M 0 8) a b c g gap = 1 := by rw [cJob, if_neg (fun h => q3 h.2.2)]
        rw [inI_neg q3, e]
        refine J_rnG GM_fa (by omega) (by omega) (by omega) 1 _ _ _ _ (fun K9v hK9 => ?_)
        simp (maxSteps := 4000000) only [↓(X_if_ne (tgt := 37) (pc' := 29) dX8_job_26 (by decide) rfl), rn_0, gV_s, ↓pI_c, ↓pII_c, ↓pL_c, ↓pLL_c, ↓pR_c, ↓pRI_c, ↓pRII_c, ↓pRIL_c, ↓pRR_c, ↓pV_c, ↓pVV_c, ↓gI_c, ↓gL_c, ↓gR_c, f2_0, f2_1, nk_n, nk_i, nk_r, ↓reduceIte, r32, r64, Nat.reduceAdd, Nat.reduceSub, Nat.reduceEqDiff, Nat.reduceLT, Nat.reduceLeDiff, Nat.reduceBEq, Int.reduceAdd, Int.reduceSub, Int.reduceMul, Int.reduceNeg, Int.reduceToNat, Int.reduceLE, Int.reduceLT, Int.reduceEq, Int.reduceNatCast', Int.reduceNatCast, Int.natCast_zero, Int.toNat_natCast, Int.toNat_zero, Int.toNat_one, List.length_cons, List.length_nil, true_and, and_true, and_self, true_or, or_true, false_or, or_false, Bool.not_true, Bool.not_false, Nat.lt_add_one, Nat.zero_lt_succ, N0, swL_n, swL_c, List.toList_toArray, false_implies, true_implies, implies_true, forall_const, not_false_eq_true, not_true_eq_false, and_false, false_and]
        simp only [hK9]
        clear hK9 K9v
        refine J_throw hl9 tOK_70 dX8_job_29 dX8_job_32 dX8_job_33 dX8_job_36 (by omega) (by simp) (by omega) (by omega) (⟨rfl, rfl⟩)
    · have e : cJob (M 0 8) a b c g gap = 1 := by rw [cJob, if_neg (fun h => q2 h.2.1)]
      rw [jgI_neg q2, e]
      refine J_rnG GM_fa (by omega) (by omega) (by omega) 1 _ _ _ _ (fun K9v hK9 => ?_)
      simp (maxSteps := 4000000) only [↓(X_if_eq (tgt := 29) (pc' := 17) dX8_job_14 (by decide) rfl), rn_0, gV_s, ↓pI_c, ↓pII_c, ↓pL_c, ↓pLL_c, ↓pR_c, ↓pRI_c, ↓pRII_c, ↓pRIL_c, ↓pRR_c, ↓pV_c, ↓pVV_c, ↓gI_c, ↓gL_c, ↓gR_c, f2_0, f2_1, nk_n, nk_i, nk_r, ↓reduceIte, r32, r64, Nat.reduceAdd, Nat.reduceSub, Nat.reduceEqDiff, Nat.reduceLT, Nat.reduceLeDiff, Nat.reduceBEq, Int.reduceAdd, Int.reduceSub, Int.reduceMul, Int.reduceNeg, Int.reduceToNat, Int.reduceLE, Int.reduceLT, Int.reduceEq, Int.reduceNatCast', Int.reduceNatCast, Int.natCast_zero, Int.toNat_natCast, Int.toNat_zero, Int.toNat_one, List.length_cons, List.length_nil, true_and, and_true, and_self, true_or, or_true, false_or, or_false, Bool.not_true, Bool.not_false, Nat.lt_add_one, Nat.zero_lt_succ, N0, swL_n, swL_c, List.toList_toArray, false_implies, true_implies, implies_true, forall_const, not_false_eq_true, not_true_eq_false, and_false, false_and]
      simp only [hK9]
      clear hK9 K9v
      refine J_throw hl9 tOK_70 dX8_job_29 dX8_job_32 dX8_job_33 dX8_job_36 (by omega) (by simp) (by omega) (by omega) (⟨rfl, rfl⟩)
  · have e : cJob (M 0 8) a b c g gap = 1 := by rw [cJob, if_neg (fun h => q h.1)]
    rw [areI_neg q, e]
    refine J_rnG GM_fa (by omega) (by omega) (by omega) 1 _ _ _ _ (fun K9v hK9 => ?_)
    simp (maxSteps := 4000000) only [↓(X_if_eq (tgt := 29) (pc' := 9) dX8_job_6 (by decide) rfl), rn_0, gV_s, ↓pI_c, ↓pII_c, ↓pL_c, ↓pLL_c, ↓pR_c, ↓pRI_c, ↓pRII_c, ↓pRIL_c, ↓pRR_c, ↓pV_c, ↓pVV_c, ↓gI_c, ↓gL_c, ↓gR_c, f2_0, f2_1, nk_n, nk_i, nk_r, ↓reduceIte, r32, r64, Nat.reduceAdd, Nat.reduceSub, Nat.reduceEqDiff, Nat.reduceLT, Nat.reduceLeDiff, Nat.reduceBEq, Int.reduceAdd, Int.reduceSub, Int.reduceMul, Int.reduceNeg, Int.reduceToNat, Int.reduceLE, Int.reduceLT, Int.reduceEq, Int.reduceNatCast', Int.reduceNatCast, Int.natCast_zero, Int.toNat_natCast, Int.toNat_zero, Int.toNat_one, List.length_cons, List.length_nil, true_and, and_true, and_self, true_or, or_true, false_or, or_false, Bool.not_true, Bool.not_false, Nat.lt_add_one, Nat.zero_lt_succ, N0, swL_n, swL_c, List.toList_toArray, false_implies, true_implies, implies_true, forall_const, not_false_eq_true, not_true_eq_false, and_false, false_and]
    simp only [hK9]
    clear hK9 K9v
    refine J_throw hl9 tOK_70 dX8_job_29 dX8_job_32 dX8_job_33 dX8_job_36 (by omega) (by simp) (by omega) (by omega) (⟨rfl, rfl⟩)
set_option maxRecDepth 100000 in
set_option maxHeartbeats 4000000 in
theorem ok_state {M : Nat → Nat → Int} (hl9 : l.stackTraces = false) (d n : Nat) (z : Int) (hz : r32 z) (hn : M 0 8 = (n : Int)) (hn2 : n ≤ 16) : Ok l D cy (d + 7) 1 6 yX8_state cX8_state 2 (some (.int)) [.inr (.inr (some (0))), .inl (z)] (N0, R0, M) (fun o ν => o = outF [IOB] (cState (n : Int) z) (some (.inl (M (367 + 5 * z.toNat) 5))) ∧ ν = (N0, R0, M)) := by
  refine Ok.intro (o := 8) (ini := false) [some (.inr (.inr (some (0)))), some (.inl (z))] (by decide +kernel) rfl (fun h => by cases h) rfl (Nat.le_of_ble_eq_true rfl) rfl ?_
  refine J_rnG GM_fa (by omega) (by omega) (by omega) 2 _ _ _ _ (fun K9v hK9 => ?_)
  simp (maxSteps := 4000000) only [↓(X_aload_n (k := 0) (pc' := 1) dX8_state_0 rfl rfl), ↓gR_0, ↓(X_iload_n (k := 1) (pc' := 2) dX8_state_1 rfl rfl), ↓gI_1, rn_0, gV_s, ↓pI_c, ↓pII_c, ↓pL_c, ↓pLL_c, ↓pR_c, ↓pRI_c, ↓pRII_c, ↓pRIL_c, ↓pRR_c, ↓pV_c, ↓pVV_c, ↓gI_c, ↓gL_c, ↓gR_c, f2_0, f2_1, nk_n, nk_i, nk_r, ↓reduceIte, r32, r64, Nat.reduceAdd, Nat.reduceSub, Nat.reduceEqDiff, Nat.reduceLT, Nat.reduceLeDiff, Nat.reduceBEq, Int.reduceAdd, Int.reduceSub, Int.reduceMul, Int.reduceNeg, Int.reduceToNat, Int.reduceLE, Int.reduceLT, Int.reduceEq, Int.reduceNatCast', Int.reduceNatCast, Int.natCast_zero, Int.toNat_natCast, Int.toNat_zero, Int.toNat_one, List.length_cons, List.length_nil, true_and, and_true, and_self, true_or, or_true, false_or, or_false, Bool.not_true, Bool.not_false, Nat.lt_add_one, Nat.zero_lt_succ, N0, swL_n, swL_c, List.toList_toArray, false_implies, true_implies, implies_true, forall_const, not_false_eq_true, not_true_eq_false, and_false, false_and]
  simp only [hK9]
  clear hK9 K9v
  refine J_callV0 GM_fa (ok_jobNumbered hl9 (d + 0) n z hz hn hn2) dX8_state_2 k_8_114 (by omega) (Nat.le_of_ble_eq_true rfl) ⟨by omega, by omega⟩ rfl (by decide +kernel) (by decide +kernel) (by simp only [N0]; omega) (by simp) rfl (fun q9 ν9 h9 => Or.inl (by simp only [h9.1, N0])) (fun E ν hE => exitsM (by omega) (by omega) ?_) (fun v ν hv _ => ?_)
  · obtain ⟨hν, ⟨h1, h2⟩ | ⟨h1, h2⟩⟩ := hE
    · cases h2
      subst hν
      exact ⟨by rw [cState, if_neg h1]; rfl, rfl⟩
    · cases h2
  · obtain ⟨hν, ⟨h1, h2⟩ | ⟨h1, h2⟩⟩ := hv
    · cases h2
    · cases h2
      subst hν
      simp only [Option.toList, List.cons_append, List.nil_append]
      obtain ⟨j, rfl⟩ : ∃ j : Nat, z = (j : Int) := ⟨z.toNat, by omega⟩
      rw [Int.toNat_natCast]
      obtain ⟨a1, -⟩ := job_at j (by omega)
      have i2 : 367 + 5 * j < 449 := by omega
      have e : cState (n : Int) (j : Int) = 0 := by rw [cState, if_pos h1]
      rw [e]
      refine J_rnG GM_fa (by omega) (by omega) (by omega) 1 _ _ _ _ (fun K9v hK9 => ?_)
      simp (maxSteps := 4000000) only [↓(X_getI (pc' := 8) fl_8_118 (by decide) dX8_state_5 rfl), rn_0, gV_s, ↓pI_c, ↓pII_c, ↓pL_c, ↓pLL_c, ↓pR_c, ↓pRI_c, ↓pRII_c, ↓pRIL_c, ↓pRR_c, ↓pV_c, ↓pVV_c, ↓gI_c, ↓gL_c, ↓gR_c, f2_0, f2_1, nk_n, nk_i, nk_r, ↓reduceIte, r32, r64, Nat.reduceAdd, Nat.reduceSub, Nat.reduceEqDiff, Nat.reduceLT, Nat.reduceLeDiff, Nat.reduceBEq, Int.reduceAdd, Int.reduceSub, Int.reduceMul, Int.reduceNeg, Int.reduceToNat, Int.reduceLE, Int.reduceLT, Int.reduceEq, Int.reduceNatCast', Int.reduceNatCast, Int.natCast_zero, Int.toNat_natCast, Int.toNat_zero, Int.toNat_one, List.length_cons, List.length_nil, true_and, and_true, and_self, true_or, or_true, false_or, or_false, Bool.not_true, Bool.not_false, Nat.lt_add_one, Nat.zero_lt_succ, N0, swL_n, swL_c, List.toList_toArray, false_implies, true_implies, implies_true, forall_const, not_false_eq_true, not_true_eq_false, and_false, false_and, a1, i2]
      simp only [hK9]
      clear hK9 K9v
      refine J_iret dX8_state_8 rfl (by omega) (by omega) (⟨rfl, rfl⟩)
set_option maxRecDepth 100000 in
set_option maxHeartbeats 4000000 in
theorem ok_inTin {M : Nat → Nat → Int} (hl9 : l.stackTraces = false) (d n : Nat) (z b : Int) (hz : r32 z) (hb : r32 b) (hn : M 1 3 = (n : Int)) (hn2 : n ≤ 30) : Ok l D cy (d + 7) 2 12 yX8_inTin cX8_inTin 4 (some (.int)) [.inr (.inr (some (0))), .inl (z), .inl (b)] (N0, R0, M) (fun o ν => o = outF [IOB, IAE] (cInTin (n : Int) z b) (some (.inl (M (11 + 2 * z.toNat) b.toNat))) ∧ ν = (N0, R0, M)) := by
  refine Ok.intro (o := 8) (ini := false) [some (.inr (.inr (some (0)))), some (.inl (z)), some (.inl (b)), none] (by decide +kernel) rfl (fun h => by cases h) rfl (Nat.le_of_ble_eq_true rfl) rfl ?_
  refine J_rnG GM_fa (by omega) (by omega) (by omega) 2 _ _ _ _ (fun K9v hK9 => ?_)
  simp (maxSteps := 4000000) only [↓(X_aload_n (k := 0) (pc' := 1) dX8_inTin_0 rfl rfl), ↓gR_0, ↓(X_iload_n (k := 1) (pc' := 2) dX8_inTin_1 rfl rfl), ↓gI_1, rn_0, gV_s, ↓pI_c, ↓pII_c, ↓pL_c, ↓pLL_c, ↓pR_c, ↓pRI_c, ↓pRII_c, ↓pRIL_c, ↓pRR_c, ↓pV_c, ↓pVV_c, ↓gI_c, ↓gL_c, ↓gR_c, f2_0, f2_1, nk_n, nk_i, nk_r, ↓reduceIte, r32, r64, Nat.reduceAdd, Nat.reduceSub, Nat.reduceEqDiff, Nat.reduceLT, Nat.reduceLeDiff, Nat.reduceBEq, Int.reduceAdd, Int.reduceSub, Int.reduceMul, Int.reduceNeg, Int.reduceToNat, Int.reduceLE, Int.reduceLT, Int.reduceEq, Int.reduceNatCast', Int.reduceNatCast, Int.natCast_zero, Int.toNat_natCast, Int.toNat_zero, Int.toNat_one, List.length_cons, List.length_nil, true_and, and_true, and_self, true_or, or_true, false_or, or_false, Bool.not_true, Bool.not_false, Nat.lt_add_one, Nat.zero_lt_succ, N0, swL_n, swL_c, List.toList_toArray, false_implies, true_implies, implies_true, forall_const, not_false_eq_true, not_true_eq_false, and_false, false_and]
  simp only [hK9]
  clear hK9 K9v
  refine J_callV0 GM_fa (ok_tinNumbered hl9 (d + 0) n z hz hn hn2) dX8_inTin_2 k_8_178 (by omega) (Nat.le_of_ble_eq_true rfl) ⟨by omega, by omega⟩ rfl (by decide +kernel) (by decide +kernel) (by simp only [N0]; omega) (by simp) rfl (fun q9 ν9 h9 => Or.inl (by simp only [h9.1, N0])) (fun E ν hE => exitsM (by omega) (by omega) ?_) (fun v ν hv _ => ?_)
  · obtain ⟨hν, ⟨h1, h2⟩ | ⟨h1, h2⟩⟩ := hE
    · cases h2
      subst hν
      exact ⟨by rw [cInTin, if_neg h1]; rfl, rfl⟩
    · cases h2
  · obtain ⟨hν, ⟨h1, h2⟩ | ⟨h1, h2⟩⟩ := hv
    · cases h2
    · cases h2
      subst hν
      simp only [Option.toList, List.cons_append, List.nil_append]
      refine J_rnG GM_fa (by omega) (by omega) (by omega) 2 _ _ _ _ (fun K9v hK9 => ?_)
      simp (maxSteps := 4000000) only [↓(X_astore_n (k := 3) (pc' := 6) dX8_inTin_5 rfl rfl), ↓sto_3, ↓(X_iload_n (k := 2) (pc' := 7) dX8_inTin_6 rfl rfl), ↓gI_2, rn_0, gV_s, ↓pI_c, ↓pII_c, ↓pL_c, ↓pLL_c, ↓pR_c, ↓pRI_c, ↓pRII_c, ↓pRIL_c, ↓pRR_c, ↓pV_c, ↓pVV_c, ↓gI_c, ↓gL_c, ↓gR_c, f2_0, f2_1, nk_n, nk_i, nk_r, ↓reduceIte, r32, r64, Nat.reduceAdd, Nat.reduceSub, Nat.reduceEqDiff, Nat.reduceLT, Nat.reduceLeDiff, Nat.reduceBEq, Int.reduceAdd, Int.reduceSub, Int.reduceMul, Int.reduceNeg, Int.reduceToNat, Int.reduceLE, Int.reduceLT, Int.reduceEq, Int.reduceNatCast', Int.reduceNatCast, Int.natCast_zero, Int.toNat_natCast, Int.toNat_zero, Int.toNat_one, List.length_cons, List.length_nil, true_and, and_true, and_self, true_or, or_true, false_or, or_false, Bool.not_true, Bool.not_false, Nat.lt_add_one, Nat.zero_lt_succ, N0, swL_n, swL_c, List.toList_toArray, false_implies, true_implies, implies_true, forall_const, not_false_eq_true, not_true_eq_false, and_false, false_and]
      simp only [hK9]
      clear hK9 K9v
      refine J_callSd GM_fa (ok_isBase (M := M) (d + 4) b hb) dX8_inTin_7 k_8_62 (by omega) (Nat.le_of_ble_eq_true rfl) ⟨by omega, by omega⟩ rfl (by simp) rfl rfl ?_
      simp only [Option.toList, List.cons_append, List.nil_append]
      obtain ⟨j, rfl⟩ : ∃ j : Nat, z = (j : Int) := ⟨z.toNat, by omega⟩
      rw [Int.toNat_natCast]
      obtain ⟨t1, t2, t3, t4, t5⟩ := tin_at j (by omega)
      have i2 : 10 + 2 * j < 449 := by omega
      have i3 : 11 + 2 * j < 449 := by omega
      rcases (show (0 ≤ b ∧ b ≤ 3) ∨ ¬ (0 ≤ b ∧ b ≤ 3) by omega) with q | q
      · have e : cInTin (n : Int) (j : Int) b = 0 := by rw [cInTin, if_pos h1, if_pos q]
        rw [inI_pos q, e]
        obtain ⟨k, rfl⟩ : ∃ k : Nat, b = (k : Int) := ⟨b.toNat, by omega⟩
        rw [Int.toNat_natCast]
        have i1 : (k : Int) < 4 := by omega
        refine J_rnG GM_fa (by omega) (by omega) (by omega) 1 _ _ _ _ (fun K9v hK9 => ?_)
        simp (maxSteps := 4000000) only [↓(X_if_ne (tgt := 21) (pc' := 13) dX8_inTin_10 (by decide) rfl), rn_0, gV_s, ↓pI_c, ↓pII_c, ↓pL_c, ↓pLL_c, ↓pR_c, ↓pRI_c, ↓pRII_c, ↓pRIL_c, ↓pRR_c, ↓pV_c, ↓pVV_c, ↓gI_c, ↓gL_c, ↓gR_c, f2_0, f2_1, nk_n, nk_i, nk_r, ↓reduceIte, r32, r64, Nat.reduceAdd, Nat.reduceSub, Nat.reduceEqDiff, Nat.reduceLT, Nat.reduceLeDiff, Nat.reduceBEq, Int.reduceAdd, Int.reduceSub, Int.reduceMul, Int.reduceNeg, Int.reduceToNat, Int.reduceLE, Int.reduceLT, Int.reduceEq, Int.reduceNatCast', Int.reduceNatCast, Int.natCast_zero, Int.toNat_natCast, Int.toNat_zero, Int.toNat_one, List.length_cons, List.length_nil, true_and, and_true, and_self, true_or, or_true, false_or, or_false, Bool.not_true, Bool.not_false, Nat.lt_add_one, Nat.zero_lt_succ, N0, swL_n, swL_c, List.toList_toArray, false_implies, true_implies, implies_true, forall_const, not_false_eq_true, not_true_eq_false, and_false, false_and]
        simp only [hK9]
        clear hK9 K9v
        refine J_rnG GM_fa (by omega) (by omega) (by omega) 4 _ _ _ _ (fun K9v hK9 => ?_)
        simp (maxSteps := 4000000) only [↓(X_aload_n (k := 3) (pc' := 22) dX8_inTin_21 rfl rfl), ↓gR_3, ↓(X_getR (pc' := 25) fl_8_95 dX8_inTin_22 rfl), kd_7, ↓(gV_c r0_7_0), kd_8, ln_8, kd_71, ↓(gV_c r0_71_0), kd_72, ln_72, ↓(X_iload_n (k := 2) (pc' := 26) dX8_inTin_25 rfl rfl), ↓gI_2, ↓(X_iaload (pc' := 27) dX8_inTin_26 rfl), rn_0, gV_s, ↓pI_c, ↓pII_c, ↓pL_c, ↓pLL_c, ↓pR_c, ↓pRI_c, ↓pRII_c, ↓pRIL_c, ↓pRR_c, ↓pV_c, ↓pVV_c, ↓gI_c, ↓gL_c, ↓gR_c, f2_0, f2_1, nk_n, nk_i, nk_r, ↓reduceIte, r32, r64, Nat.reduceAdd, Nat.reduceSub, Nat.reduceEqDiff, Nat.reduceLT, Nat.reduceLeDiff, Nat.reduceBEq, Int.reduceAdd, Int.reduceSub, Int.reduceMul, Int.reduceNeg, Int.reduceToNat, Int.reduceLE, Int.reduceLT, Int.reduceEq, Int.reduceNatCast', Int.reduceNatCast, Int.natCast_zero, Int.toNat_natCast, Int.toNat_zero, Int.toNat_one, List.length_cons, List.length_nil, true_and, and_true, and_self, true_or, or_true, false_or, or_false, Bool.not_true, Bool.not_false, Nat.lt_add_one, Nat.zero_lt_succ, N0, swL_n, swL_c, List.toList_toArray, false_implies, true_implies, implies_true, forall_const, not_false_eq_true, not_true_eq_false, and_false, false_and, t1, t2, t3, ↓(gV_c t5), i1, q.1, i2, i3]
        simp only [hK9]
        clear hK9 K9v
        refine J_iret dX8_inTin_27 rfl (by omega) (by omega) (⟨rfl, rfl⟩)
      · have e : cInTin (n : Int) (j : Int) b = 2 := by rw [cInTin, if_pos h1, if_neg q]
        rw [inI_neg q, e]
        refine J_rnG GM_fa (by omega) (by omega) (by omega) 1 _ _ _ _ (fun K9v hK9 => ?_)
        simp (maxSteps := 4000000) only [↓(X_if_ne (tgt := 21) (pc' := 13) dX8_inTin_10 (by decide) rfl), rn_0, gV_s, ↓pI_c, ↓pII_c, ↓pL_c, ↓pLL_c, ↓pR_c, ↓pRI_c, ↓pRII_c, ↓pRIL_c, ↓pRR_c, ↓pV_c, ↓pVV_c, ↓gI_c, ↓gL_c, ↓gR_c, f2_0, f2_1, nk_n, nk_i, nk_r, ↓reduceIte, r32, r64, Nat.reduceAdd, Nat.reduceSub, Nat.reduceEqDiff, Nat.reduceLT, Nat.reduceLeDiff, Nat.reduceBEq, Int.reduceAdd, Int.reduceSub, Int.reduceMul, Int.reduceNeg, Int.reduceToNat, Int.reduceLE, Int.reduceLT, Int.reduceEq, Int.reduceNatCast', Int.reduceNatCast, Int.natCast_zero, Int.toNat_natCast, Int.toNat_zero, Int.toNat_one, List.length_cons, List.length_nil, true_and, and_true, and_self, true_or, or_true, false_or, or_false, Bool.not_true, Bool.not_false, Nat.lt_add_one, Nat.zero_lt_succ, N0, swL_n, swL_c, List.toList_toArray, false_implies, true_implies, implies_true, forall_const, not_false_eq_true, not_true_eq_false, and_false, false_and]
        simp only [hK9]
        clear hK9 K9v
        refine J_throw hl9 tOK_70 dX8_inTin_13 dX8_inTin_16 dX8_inTin_17 dX8_inTin_20 (by omega) (by simp) (by omega) (by omega) (⟨rfl, rfl⟩)
set_option maxRecDepth 100000 in
set_option maxHeartbeats 4000000 in
theorem ok_where {M : Nat → Nat → Int} (hl9 : l.stackTraces = false) (d n T : Nat) (b p : Int) (hb : r32 b) (hp : r32 p) (hn : M 0 8 = (n : Int)) (hn2 : n ≤ 16) (hT : M 1 3 = (T : Int)) (hT30 : T ≤ 30) (hst : ∀ i, i < 16 → 0 ≤ M (367 + 5 * i) 5 ∧ M (367 + 5 * i) 5 ≤ 2) : Ok l D cy (d + 7) 1 6 yX8_where cX8_where 3 (some (.int)) [.inr (.inr (some (0))), .inl (b), .inl (p)] (N0, R0, M) (fun o ν => o = outF [IAE] (cWhere b p) (some (.inl (if p = 0 then M 8 b.toNat else if p = 1 then sumTo (fun t => M (11 + 2 * t) b.toNat) T else if p = 2 then inMix M b.toNat n else M 72 b.toNat))) ∧ ν = (N0, R0, M)) := by
  refine Ok.intro (o := 8) (ini := false) [some (.inr (.inr (some (0)))), some (.inl (b)), some (.inl (p))] (by decide +kernel) rfl (fun h => by cases h) rfl (Nat.le_of_ble_eq_true rfl) rfl ?_
  refine J_rnG GM_fa (by omega) (by omega) (by omega) 1 _ _ _ _ (fun K9v hK9 => ?_)
  simp (maxSteps := 4000000) only [↓(X_iload_n (k := 1) (pc' := 1) dX8_where_0 rfl rfl), ↓gI_1, rn_0, gV_s, ↓pI_c, ↓pII_c, ↓pL_c, ↓pLL_c, ↓pR_c, ↓pRI_c, ↓pRII_c, ↓pRIL_c, ↓pRR_c, ↓pV_c, ↓pVV_c, ↓gI_c, ↓gL_c, ↓gR_c, f2_0, f2_1, nk_n, nk_i, nk_r, ↓reduceIte, r32, r64, Nat.reduceAdd, Nat.reduceSub, Nat.reduceEqDiff, Nat.reduceLT, Nat.reduceLeDiff, Nat.reduceBEq, Int.reduceAdd, Int.reduceSub, Int.reduceMul, Int.reduceNeg, Int.reduceToNat, Int.reduceLE, Int.reduceLT, Int.reduceEq, Int.reduceNatCast', Int.reduceNatCast, Int.natCast_zero, Int.toNat_natCast, Int.toNat_zero, Int.toNat_one, List.length_cons, List.length_nil, true_and, and_true, and_self, true_or, or_true, false_or, or_false, Bool.not_true, Bool.not_false, Nat.lt_add_one, Nat.zero_lt_succ, N0, swL_n, swL_c, List.toList_toArray, false_implies, true_implies, implies_true, forall_const, not_false_eq_true, not_true_eq_false, and_false, false_and]
  simp only [hK9]
  clear hK9 K9v
  refine J_callSd GM_fa (ok_isBase (M := M) (d + 4) b hb) dX8_where_1 k_8_62 (by omega) (Nat.le_of_ble_eq_true rfl) ⟨by omega, by omega⟩ rfl (by simp) rfl rfl ?_
  simp only [Option.toList, List.cons_append, List.nil_append]
  rcases (show (0 ≤ b ∧ b ≤ 3) ∨ ¬ (0 ≤ b ∧ b ≤ 3) by omega) with q | q
  · rw [inI_pos q]
    refine J_rnG GM_fa (by omega) (by omega) (by omega) 4 _ _ _ _ (fun K9v hK9 => ?_)
    simp (maxSteps := 4000000) only [↓(X_if_eq (tgt := 16) (pc' := 7) dX8_where_4 (by decide) rfl), ↓(X_iload_n (k := 2) (pc' := 8) dX8_where_7 rfl rfl), ↓gI_2, ↓(X_iconst (pc' := 9) dX8_where_8 rfl), ↓(X_iconst (pc' := 10) dX8_where_9 rfl), rn_0, gV_s, ↓pI_c, ↓pII_c, ↓pL_c, ↓pLL_c, ↓pR_c, ↓pRI_c, ↓pRII_c, ↓pRIL_c, ↓pRR_c, ↓pV_c, ↓pVV_c, ↓gI_c, ↓gL_c, ↓gR_c, f2_0, f2_1, nk_n, nk_i, nk_r, ↓reduceIte, r32, r64, Nat.reduceAdd, Nat.reduceSub, Nat.reduceEqDiff, Nat.reduceLT, Nat.reduceLeDiff, Nat.reduceBEq, Int.reduceAdd, Int.reduceSub, Int.reduceMul, Int.reduceNeg, Int.reduceToNat, Int.reduceLE, Int.reduceLT, Int.reduceEq, Int.reduceNatCast', Int.reduceNatCast, Int.natCast_zero, Int.toNat_natCast, Int.toNat_zero, Int.toNat_one, List.length_cons, List.length_nil, true_and, and_true, and_self, true_or, or_true, false_or, or_false, Bool.not_true, Bool.not_false, Nat.lt_add_one, Nat.zero_lt_succ, N0, swL_n, swL_c, List.toList_toArray, false_implies, true_implies, implies_true, forall_const, not_false_eq_true, not_true_eq_false, and_false, false_and]
    simp only [hK9]
    clear hK9 K9v
    refine J_callSd GM_fa (ok_isWithin (M := M) (d + 5) p 0 3 hp (by simp only [r32]; omega) (by simp only [r32]; omega)) dX8_where_10 k_8_88 (by omega) (Nat.le_of_ble_eq_true rfl) ⟨by omega, by omega⟩ rfl (by simp) rfl rfl ?_
    simp only [Option.toList, List.cons_append, List.nil_append]
    rcases (show (0 ≤ p ∧ p ≤ 3) ∨ ¬ (0 ≤ p ∧ p ≤ 3) by omega) with q2 | q2
    · have e : cWhere b p = 0 := by rw [cWhere, if_pos ⟨q, q2⟩]
      rw [inI_pos q2, e]
      obtain ⟨j, rfl⟩ : ∃ j : Nat, b = (j : Int) := ⟨b.toNat, by omega⟩
      rw [Int.toNat_natCast]
      have i1 : (j : Int) < 4 := by omega
      refine J_rnG GM_fa (by omega) (by omega) (by omega) 1 _ _ _ _ (fun K9v hK9 => ?_)
      simp (maxSteps := 4000000) only [↓(X_if_ne (tgt := 24) (pc' := 16) dX8_where_13 (by decide) rfl), rn_0, gV_s, ↓pI_c, ↓pII_c, ↓pL_c, ↓pLL_c, ↓pR_c, ↓pRI_c, ↓pRII_c, ↓pRIL_c, ↓pRR_c, ↓pV_c, ↓pVV_c, ↓gI_c, ↓gL_c, ↓gR_c, f2_0, f2_1, nk_n, nk_i, nk_r, ↓reduceIte, r32, r64, Nat.reduceAdd, Nat.reduceSub, Nat.reduceEqDiff, Nat.reduceLT, Nat.reduceLeDiff, Nat.reduceBEq, Int.reduceAdd, Int.reduceSub, Int.reduceMul, Int.reduceNeg, Int.reduceToNat, Int.reduceLE, Int.reduceLT, Int.reduceEq, Int.reduceNatCast', Int.reduceNatCast, Int.natCast_zero, Int.toNat_natCast, Int.toNat_zero, Int.toNat_one, List.length_cons, List.length_nil, true_and, and_true, and_self, true_or, or_true, false_or, or_false, Bool.not_true, Bool.not_false, Nat.lt_add_one, Nat.zero_lt_succ, N0, swL_n, swL_c, List.toList_toArray, false_implies, true_implies, implies_true, forall_const, not_false_eq_true, not_true_eq_false, and_false, false_and]
      simp only [hK9]
      clear hK9 K9v
      refine J_rnG GM_fa (by omega) (by omega) (by omega) 1 _ _ _ _ (fun K9v hK9 => ?_)
      simp (maxSteps := 4000000) only [↓(X_iload_n (k := 2) (pc' := 25) dX8_where_24 rfl rfl), ↓gI_2, rn_0, gV_s, ↓pI_c, ↓pII_c, ↓pL_c, ↓pLL_c, ↓pR_c, ↓pRI_c, ↓pRII_c, ↓pRIL_c, ↓pRR_c, ↓pV_c, ↓pVV_c, ↓gI_c, ↓gL_c, ↓gR_c, f2_0, f2_1, nk_n, nk_i, nk_r, ↓reduceIte, r32, r64, Nat.reduceAdd, Nat.reduceSub, Nat.reduceEqDiff, Nat.reduceLT, Nat.reduceLeDiff, Nat.reduceBEq, Int.reduceAdd, Int.reduceSub, Int.reduceMul, Int.reduceNeg, Int.reduceToNat, Int.reduceLE, Int.reduceLT, Int.reduceEq, Int.reduceNatCast', Int.reduceNatCast, Int.natCast_zero, Int.toNat_natCast, Int.toNat_zero, Int.toNat_one, List.length_cons, List.length_nil, true_and, and_true, and_self, true_or, or_true, false_or, or_false, Bool.not_true, Bool.not_false, Nat.lt_add_one, Nat.zero_lt_succ, N0, swL_n, swL_c, List.toList_toArray, false_implies, true_implies, implies_true, forall_const, not_false_eq_true, not_true_eq_false, and_false, false_and]
      simp only [hK9]
      clear hK9 K9v
      obtain e | e | e | e : p = 0 ∨ p = 1 ∨ p = 2 ∨ p = 3 := by omega
      · subst e
        refine J_rnG GM_fa (by omega) (by omega) (by omega) 1 _ _ _ _ (fun K9v hK9 => ?_)
        simp (maxSteps := 4000000) only [↓(X_tableswitch dX8_where_25), rn_0, gV_s, ↓pI_c, ↓pII_c, ↓pL_c, ↓pLL_c, ↓pR_c, ↓pRI_c, ↓pRII_c, ↓pRIL_c, ↓pRR_c, ↓pV_c, ↓pVV_c, ↓gI_c, ↓gL_c, ↓gR_c, f2_0, f2_1, nk_n, nk_i, nk_r, ↓reduceIte, r32, r64, Nat.reduceAdd, Nat.reduceSub, Nat.reduceEqDiff, Nat.reduceLT, Nat.reduceLeDiff, Nat.reduceBEq, Int.reduceAdd, Int.reduceSub, Int.reduceMul, Int.reduceNeg, Int.reduceToNat, Int.reduceLE, Int.reduceLT, Int.reduceEq, Int.reduceNatCast', Int.reduceNatCast, Int.natCast_zero, Int.toNat_natCast, Int.toNat_zero, Int.toNat_one, List.length_cons, List.length_nil, true_and, and_true, and_self, true_or, or_true, false_or, or_false, Bool.not_true, Bool.not_false, Nat.lt_add_one, Nat.zero_lt_succ, N0, swL_n, swL_c, List.toList_toArray, false_implies, true_implies, implies_true, forall_const, not_false_eq_true, not_true_eq_false, and_false, false_and]
        simp only [hK9]
        clear hK9 K9v
        refine J_rnG GM_fa (by omega) (by omega) (by omega) 6 _ _ _ _ (fun K9v hK9 => ?_)
        simp (maxSteps := 4000000) only [↓(X_aload_n (k := 0) (pc' := 53) dX8_where_52 rfl rfl), ↓gR_0, ↓(X_getR (pc' := 56) fl_8_10 dX8_where_53 rfl), kd_0, ↓(gV_c r0_0_0), kd_1, ↓(X_getR (pc' := 59) fl_8_92 dX8_where_56 rfl), ↓(gV_c r0_1_1), kd_7, ↓(X_getR (pc' := 62) fl_8_95 dX8_where_59 rfl), ↓(gV_c r0_7_0), kd_8, ln_8, kd_71, ↓(gV_c r0_71_0), kd_72, ln_72, ↓(X_iload_n (k := 1) (pc' := 63) dX8_where_62 rfl rfl), ↓gI_1, ↓(X_iaload (pc' := 64) dX8_where_63 rfl), rn_0, gV_s, ↓pI_c, ↓pII_c, ↓pL_c, ↓pLL_c, ↓pR_c, ↓pRI_c, ↓pRII_c, ↓pRIL_c, ↓pRR_c, ↓pV_c, ↓pVV_c, ↓gI_c, ↓gL_c, ↓gR_c, f2_0, f2_1, nk_n, nk_i, nk_r, ↓reduceIte, r32, r64, Nat.reduceAdd, Nat.reduceSub, Nat.reduceEqDiff, Nat.reduceLT, Nat.reduceLeDiff, Nat.reduceBEq, Int.reduceAdd, Int.reduceSub, Int.reduceMul, Int.reduceNeg, Int.reduceToNat, Int.reduceLE, Int.reduceLT, Int.reduceEq, Int.reduceNatCast', Int.reduceNatCast, Int.natCast_zero, Int.toNat_natCast, Int.toNat_zero, Int.toNat_one, List.length_cons, List.length_nil, true_and, and_true, and_self, true_or, or_true, false_or, or_false, Bool.not_true, Bool.not_false, Nat.lt_add_one, Nat.zero_lt_succ, N0, swL_n, swL_c, List.toList_toArray, false_implies, true_implies, implies_true, forall_const, not_false_eq_true, not_true_eq_false, and_false, false_and, i1, q.1]
        simp only [hK9]
        clear hK9 K9v
        refine J_iret dX8_where_64 rfl (by omega) (by omega) (⟨rfl, rfl⟩)
      · subst e
        refine J_rnG GM_fa (by omega) (by omega) (by omega) 1 _ _ _ _ (fun K9v hK9 => ?_)
        simp (maxSteps := 4000000) only [↓(X_tableswitch dX8_where_25), rn_0, gV_s, ↓pI_c, ↓pII_c, ↓pL_c, ↓pLL_c, ↓pR_c, ↓pRI_c, ↓pRII_c, ↓pRIL_c, ↓pRR_c, ↓pV_c, ↓pVV_c, ↓gI_c, ↓gL_c, ↓gR_c, f2_0, f2_1, nk_n, nk_i, nk_r, ↓reduceIte, r32, r64, Nat.reduceAdd, Nat.reduceSub, Nat.reduceEqDiff, Nat.reduceLT, Nat.reduceLeDiff, Nat.reduceBEq, Int.reduceAdd, Int.reduceSub, Int.reduceMul, Int.reduceNeg, Int.reduceToNat, Int.reduceLE, Int.reduceLT, Int.reduceEq, Int.reduceNatCast', Int.reduceNatCast, Int.natCast_zero, Int.toNat_natCast, Int.toNat_zero, Int.toNat_one, List.length_cons, List.length_nil, true_and, and_true, and_self, true_or, or_true, false_or, or_false, Bool.not_true, Bool.not_false, Nat.lt_add_one, Nat.zero_lt_succ, N0, swL_n, swL_c, List.toList_toArray, false_implies, true_implies, implies_true, forall_const, not_false_eq_true, not_true_eq_false, and_false, false_and]
        simp only [hK9]
        clear hK9 K9v
        refine J_rnG GM_fa (by omega) (by omega) (by omega) 3 _ _ _ _ (fun K9v hK9 => ?_)
        simp (maxSteps := 4000000) only [↓(X_aload_n (k := 0) (pc' := 66) dX8_where_65 rfl rfl), ↓gR_0, ↓(X_getR (pc' := 69) fl_8_10 dX8_where_66 rfl), kd_0, ↓(gV_c r0_0_0), kd_1, ↓(X_iload_n (k := 1) (pc' := 70) dX8_where_69 rfl rfl), ↓gI_1, rn_0, gV_s, ↓pI_c, ↓pII_c, ↓pL_c, ↓pLL_c, ↓pR_c, ↓pRI_c, ↓pRII_c, ↓pRIL_c, ↓pRR_c, ↓pV_c, ↓pVV_c, ↓gI_c, ↓gL_c, ↓gR_c, f2_0, f2_1, nk_n, nk_i, nk_r, ↓reduceIte, r32, r64, Nat.reduceAdd, Nat.reduceSub, Nat.reduceEqDiff, Nat.reduceLT, Nat.reduceLeDiff, Nat.reduceBEq, Int.reduceAdd, Int.reduceSub, Int.reduceMul, Int.reduceNeg, Int.reduceToNat, Int.reduceLE, Int.reduceLT, Int.reduceEq, Int.reduceNatCast', Int.reduceNatCast, Int.natCast_zero, Int.toNat_natCast, Int.toNat_zero, Int.toNat_one, List.length_cons, List.length_nil, true_and, and_true, and_self, true_or, or_true, false_or, or_false, Bool.not_true, Bool.not_false, Nat.lt_add_one, Nat.zero_lt_succ, N0, swL_n, swL_c, List.toList_toArray, false_implies, true_implies, implies_true, forall_const, not_false_eq_true, not_true_eq_false, and_false, false_and, i1, q.1]
        simp only [hK9]
        clear hK9 K9v
        refine J_callVd (ci := 6) GM_fa (ok_inAllTins (M := M) (d + 5) j T (by omega) hT hT30) dX8_where_70 k_8_185 (by omega) (Nat.le_of_ble_eq_true rfl) ⟨by omega, by omega⟩ rfl (by decide +kernel) rfl (by decide) (by simp only [N0]; omega) (by simp) rfl rfl ?_
        simp only [Option.toList, List.cons_append, List.nil_append]
        refine J_iret dX8_where_73 rfl (by omega) (by omega) (⟨rfl, rfl⟩)
      · subst e
        refine J_rnG GM_fa (by omega) (by omega) (by omega) 1 _ _ _ _ (fun K9v hK9 => ?_)
        simp (maxSteps := 4000000) only [↓(X_tableswitch dX8_where_25), rn_0, gV_s, ↓pI_c, ↓pII_c, ↓pL_c, ↓pLL_c, ↓pR_c, ↓pRI_c, ↓pRII_c, ↓pRIL_c, ↓pRR_c, ↓pV_c, ↓pVV_c, ↓gI_c, ↓gL_c, ↓gR_c, f2_0, f2_1, nk_n, nk_i, nk_r, ↓reduceIte, r32, r64, Nat.reduceAdd, Nat.reduceSub, Nat.reduceEqDiff, Nat.reduceLT, Nat.reduceLeDiff, Nat.reduceBEq, Int.reduceAdd, Int.reduceSub, Int.reduceMul, Int.reduceNeg, Int.reduceToNat, Int.reduceLE, Int.reduceLT, Int.reduceEq, Int.reduceNatCast', Int.reduceNatCast, Int.natCast_zero, Int.toNat_natCast, Int.toNat_zero, Int.toNat_one, List.length_cons, List.length_nil, true_and, and_true, and_self, true_or, or_true, false_or, or_false, Bool.not_true, Bool.not_false, Nat.lt_add_one, Nat.zero_lt_succ, N0, swL_n, swL_c, List.toList_toArray, false_implies, true_implies, implies_true, forall_const, not_false_eq_true, not_true_eq_false, and_false, false_and]
        simp only [hK9]
        clear hK9 K9v
        refine J_rnG GM_fa (by omega) (by omega) (by omega) 2 _ _ _ _ (fun K9v hK9 => ?_)
        simp (maxSteps := 4000000) only [↓(X_aload_n (k := 0) (pc' := 75) dX8_where_74 rfl rfl), ↓gR_0, ↓(X_iload_n (k := 1) (pc' := 76) dX8_where_75 rfl rfl), ↓gI_1, rn_0, gV_s, ↓pI_c, ↓pII_c, ↓pL_c, ↓pLL_c, ↓pR_c, ↓pRI_c, ↓pRII_c, ↓pRIL_c, ↓pRR_c, ↓pV_c, ↓pVV_c, ↓gI_c, ↓gL_c, ↓gR_c, f2_0, f2_1, nk_n, nk_i, nk_r, ↓reduceIte, r32, r64, Nat.reduceAdd, Nat.reduceSub, Nat.reduceEqDiff, Nat.reduceLT, Nat.reduceLeDiff, Nat.reduceBEq, Int.reduceAdd, Int.reduceSub, Int.reduceMul, Int.reduceNeg, Int.reduceToNat, Int.reduceLE, Int.reduceLT, Int.reduceEq, Int.reduceNatCast', Int.reduceNatCast, Int.natCast_zero, Int.toNat_natCast, Int.toNat_zero, Int.toNat_one, List.length_cons, List.length_nil, true_and, and_true, and_self, true_or, or_true, false_or, or_false, Bool.not_true, Bool.not_false, Nat.lt_add_one, Nat.zero_lt_succ, N0, swL_n, swL_c, List.toList_toArray, false_implies, true_implies, implies_true, forall_const, not_false_eq_true, not_true_eq_false, and_false, false_and, i1, q.1]
        simp only [hK9]
        clear hK9 K9v
        refine J_callVd (ci := 8) GM_fa (ok_inMixedJobs (M := M) (d + 5) n j (by omega) hn hn2 hst) dX8_where_76 k_8_188 (by omega) (Nat.le_of_ble_eq_true rfl) ⟨by omega, by omega⟩ rfl (by decide +kernel) rfl (by decide) (by simp only [N0]; omega) (by simp) rfl rfl ?_
        simp only [Option.toList, List.cons_append, List.nil_append]
        refine J_iret dX8_where_79 rfl (by omega) (by omega) (⟨rfl, rfl⟩)
      · subst e
        refine J_rnG GM_fa (by omega) (by omega) (by omega) 1 _ _ _ _ (fun K9v hK9 => ?_)
        simp (maxSteps := 4000000) only [↓(X_tableswitch dX8_where_25), rn_0, gV_s, ↓pI_c, ↓pII_c, ↓pL_c, ↓pLL_c, ↓pR_c, ↓pRI_c, ↓pRII_c, ↓pRIL_c, ↓pRR_c, ↓pV_c, ↓pVV_c, ↓gI_c, ↓gL_c, ↓gR_c, f2_0, f2_1, nk_n, nk_i, nk_r, ↓reduceIte, r32, r64, Nat.reduceAdd, Nat.reduceSub, Nat.reduceEqDiff, Nat.reduceLT, Nat.reduceLeDiff, Nat.reduceBEq, Int.reduceAdd, Int.reduceSub, Int.reduceMul, Int.reduceNeg, Int.reduceToNat, Int.reduceLE, Int.reduceLT, Int.reduceEq, Int.reduceNatCast', Int.reduceNatCast, Int.natCast_zero, Int.toNat_natCast, Int.toNat_zero, Int.toNat_one, List.length_cons, List.length_nil, true_and, and_true, and_self, true_or, or_true, false_or, or_false, Bool.not_true, Bool.not_false, Nat.lt_add_one, Nat.zero_lt_succ, N0, swL_n, swL_c, List.toList_toArray, false_implies, true_implies, implies_true, forall_const, not_false_eq_true, not_true_eq_false, and_false, false_and]
        simp only [hK9]
        clear hK9 K9v
        refine J_rnG GM_fa (by omega) (by omega) (by omega) 5 _ _ _ _ (fun K9v hK9 => ?_)
        simp (maxSteps := 4000000) only [↓(X_aload_n (k := 0) (pc' := 81) dX8_where_80 rfl rfl), ↓gR_0, ↓(X_getR (pc' := 84) fl_8_23 dX8_where_81 rfl), kd_0, ↓(gV_c r0_0_2), kd_71, ↓(X_getR (pc' := 87) fl_8_95 dX8_where_84 rfl), kd_7, ↓(gV_c r0_7_0), kd_8, ln_8, ↓(gV_c r0_71_0), kd_72, ln_72, ↓(X_iload_n (k := 1) (pc' := 88) dX8_where_87 rfl rfl), ↓gI_1, ↓(X_iaload (pc' := 89) dX8_where_88 rfl), rn_0, gV_s, ↓pI_c, ↓pII_c, ↓pL_c, ↓pLL_c, ↓pR_c, ↓pRI_c, ↓pRII_c, ↓pRIL_c, ↓pRR_c, ↓pV_c, ↓pVV_c, ↓gI_c, ↓gL_c, ↓gR_c, f2_0, f2_1, nk_n, nk_i, nk_r, ↓reduceIte, r32, r64, Nat.reduceAdd, Nat.reduceSub, Nat.reduceEqDiff, Nat.reduceLT, Nat.reduceLeDiff, Nat.reduceBEq, Int.reduceAdd, Int.reduceSub, Int.reduceMul, Int.reduceNeg, Int.reduceToNat, Int.reduceLE, Int.reduceLT, Int.reduceEq, Int.reduceNatCast', Int.reduceNatCast, Int.natCast_zero, Int.toNat_natCast, Int.toNat_zero, Int.toNat_one, List.length_cons, List.length_nil, true_and, and_true, and_self, true_or, or_true, false_or, or_false, Bool.not_true, Bool.not_false, Nat.lt_add_one, Nat.zero_lt_succ, N0, swL_n, swL_c, List.toList_toArray, false_implies, true_implies, implies_true, forall_const, not_false_eq_true, not_true_eq_false, and_false, false_and, i1, q.1]
        simp only [hK9]
        clear hK9 K9v
        refine J_iret dX8_where_89 rfl (by omega) (by omega) (⟨rfl, rfl⟩)
    · have e : cWhere b p = 1 := by rw [cWhere, if_neg (fun h => q2 h.2)]
      rw [inI_neg q2, e]
      refine J_rnG GM_fa (by omega) (by omega) (by omega) 1 _ _ _ _ (fun K9v hK9 => ?_)
      simp (maxSteps := 4000000) only [↓(X_if_ne (tgt := 24) (pc' := 16) dX8_where_13 (by decide) rfl), rn_0, gV_s, ↓pI_c, ↓pII_c, ↓pL_c, ↓pLL_c, ↓pR_c, ↓pRI_c, ↓pRII_c, ↓pRIL_c, ↓pRR_c, ↓pV_c, ↓pVV_c, ↓gI_c, ↓gL_c, ↓gR_c, f2_0, f2_1, nk_n, nk_i, nk_r, ↓reduceIte, r32, r64, Nat.reduceAdd, Nat.reduceSub, Nat.reduceEqDiff, Nat.reduceLT, Nat.reduceLeDiff, Nat.reduceBEq, Int.reduceAdd, Int.reduceSub, Int.reduceMul, Int.reduceNeg, Int.reduceToNat, Int.reduceLE, Int.reduceLT, Int.reduceEq, Int.reduceNatCast', Int.reduceNatCast, Int.natCast_zero, Int.toNat_natCast, Int.toNat_zero, Int.toNat_one, List.length_cons, List.length_nil, true_and, and_true, and_self, true_or, or_true, false_or, or_false, Bool.not_true, Bool.not_false, Nat.lt_add_one, Nat.zero_lt_succ, N0, swL_n, swL_c, List.toList_toArray, false_implies, true_implies, implies_true, forall_const, not_false_eq_true, not_true_eq_false, and_false, false_and]
      simp only [hK9]
      clear hK9 K9v
      refine J_throw hl9 tOK_70 dX8_where_16 dX8_where_19 dX8_where_20 dX8_where_23 (by omega) (by simp) (by omega) (by omega) (⟨rfl, rfl⟩)
  · have e : cWhere b p = 1 := by rw [cWhere, if_neg (fun h => q h.1)]
    rw [inI_neg q, e]
    refine J_rnG GM_fa (by omega) (by omega) (by omega) 1 _ _ _ _ (fun K9v hK9 => ?_)
    simp (maxSteps := 4000000) only [↓(X_if_eq (tgt := 16) (pc' := 7) dX8_where_4 (by decide) rfl), rn_0, gV_s, ↓pI_c, ↓pII_c, ↓pL_c, ↓pLL_c, ↓pR_c, ↓pRI_c, ↓pRII_c, ↓pRIL_c, ↓pRR_c, ↓pV_c, ↓pVV_c, ↓gI_c, ↓gL_c, ↓gR_c, f2_0, f2_1, nk_n, nk_i, nk_r, ↓reduceIte, r32, r64, Nat.reduceAdd, Nat.reduceSub, Nat.reduceEqDiff, Nat.reduceLT, Nat.reduceLeDiff, Nat.reduceBEq, Int.reduceAdd, Int.reduceSub, Int.reduceMul, Int.reduceNeg, Int.reduceToNat, Int.reduceLE, Int.reduceLT, Int.reduceEq, Int.reduceNatCast', Int.reduceNatCast, Int.natCast_zero, Int.toNat_natCast, Int.toNat_zero, Int.toNat_one, List.length_cons, List.length_nil, true_and, and_true, and_self, true_or, or_true, false_or, or_false, Bool.not_true, Bool.not_false, Nat.lt_add_one, Nat.zero_lt_succ, N0, swL_n, swL_c, List.toList_toArray, false_implies, true_implies, implies_true, forall_const, not_false_eq_true, not_true_eq_false, and_false, false_and]
    simp only [hK9]
    clear hK9 K9v
    refine J_throw hl9 tOK_70 dX8_where_16 dX8_where_19 dX8_where_20 dX8_where_23 (by omega) (by simp) (by omega) (by omega) (⟨rfl, rfl⟩)
end CC
