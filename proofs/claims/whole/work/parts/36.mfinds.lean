/-! the model's search -/
def fI (M0 M : Nat → Nat → Int) (s : Nat → Int) : Prop := (∀ x, x ≠ 447 → x ≠ 460 → x ≠ 461 → x ≠ 462 → x ≠ 463 → x ≠ 464 → M x = M0 x) ∧ (∀ k, k ≠ 23 → M 447 k = M0 447 k) ∧ RSm M s
def fP (gmax : Int) (s : Nat → Int) : Prop := (s 0 = 0 ∧ s 1 = gmax) ∨ s 0 = 1
theorem fP_of {gmax tt tin a b c : Int} {s : Nat → Int} (h : preS gmax tt tin a b c s) : fP gmax s := by
  obtain h | h := h
  · exact Or.inl h
  · exact Or.inr h.1
def mT (M : Nat → Nat → Int) (T : Nat) (I : Nat → Nat → Int) : Prop := M 447 5 = (T : Int) ∧ T ≤ 30 ∧ ∀ t, t < T → tin4 (I t) ∧ ∀ b, b < 4 → M 452 (4 * t + b) = I t b
section MF
variable {l : Launch} {D : va_G} {cy : Nat → ClassId}
set_option maxRecDepth 100000 in
set_option maxHeartbeats 4000000 in
theorem jj_f2 {M0 : Nat → Nat → Int} {C I : Nat → Nat → Int} {W st : Nat → Int} {Φ : Out → Mem → Prop} (d i tt T : Nat) (gr gmax : Int) (hW : mW M0 i gr gmax C W st) (hT : mT M0 T I) (htt : 1 ≤ tt ∧ tt ≤ 10) : ∀ (k t : Nat) (M : Nat → Nat → Int) (s : Nat → Int), t + k = T → fI M0 M s → preS gmax tt t 0 0 0 s → (∀ (M' : Nat → Nat → Int) (s' : Nat → Int) (e3 : Option AV), nk e3 → s' = loopN (tinS C W (fun b => st b / (gr * 1000)) gr I tt) k t s → fI M0 M' s' → fP gmax s' → J l D cy (GM l D cy 9 cX9_finds 4 (d + 5) 0 0 false none Φ) 66 [some (.inr (.inr (some 447))), some (.inl (i : Int)), some (.inl (tt : Int)), e3] [] (468, R0, M') 0 0) →
    J l D cy (GM l D cy 9 cX9_finds 4 (d + 5) 0 0 false none Φ) 21 [some (.inr (.inr (some 447))), some (.inl (i : Int)), some (.inl (tt : Int)), some (.inl (t : Int))] [] (468, R0, M) 0 0 := by
  intro k
  induction k with
  | zero =>
    intro t M s ht hI hp hfin
    have e : t = T := by omega
    subst e
    have f5 : M 447 5 = (t : Int) := by rw [hI.2.1 5 (by decide)]; exact hT.1
    have hT30 := hT.2.1
    have h1 : ¬ (t : Int) < (t : Int) := by omega
    have r1 : -2147483648 ≤ (t : Int) ∧ (t : Int) ≤ 2147483647 := by omega
    refine J_rnG GM_fa (by omega) (by omega) (by omega) 4 _ _ _ _ (fun K9v hK9 => ?_)
    simp (maxSteps := 4000000) only [↓(X_iload_n (k := 3) (pc' := 22) dX9_finds_21 rfl rfl), ↓gI_3, ↓(X_aload_n (k := 0) (pc' := 23) dX9_finds_22 rfl rfl), ↓gR_0, ↓(X_getI (pc' := 26) fl_9_124 (by decide) dX9_finds_23 rfl), kd_447, ↓(X_icmp_ge (tgt := 66) (pc' := 29) dX9_finds_26 (by decide) rfl), rn_0, gV_s, ↓pI_c, ↓pII_c, ↓pL_c, ↓pLL_c, ↓pR_c, ↓pRI_c, ↓pRII_c, ↓pRIL_c, ↓pRR_c, ↓pV_c, ↓pVV_c, ↓gI_c, ↓gL_c, ↓gR_c, f2_0, f2_1, nk_n, nk_i, nk_r, ↓reduceIte, r32, r64, Nat.reduceAdd, Nat.reduceSub, Nat.reduceEqDiff, Nat.reduceLT, Nat.reduceLeDiff, Nat.reduceBEq, Int.reduceAdd, Int.reduceSub, Int.reduceMul, Int.reduceNeg, Int.reduceToNat, Int.reduceLE, Int.reduceLT, Int.reduceEq, Int.reduceNatCast', Int.reduceNatCast, Int.natCast_zero, Int.toNat_natCast, Int.toNat_zero, Int.toNat_one, List.length_cons, List.length_nil, true_and, and_true, and_self, true_or, or_true, false_or, or_false, Bool.not_true, Bool.not_false, Nat.lt_add_one, Nat.zero_lt_succ, N0, swL_n, swL_c, List.toList_toArray, false_implies, true_implies, implies_true, forall_const, not_false_eq_true, not_true_eq_false, and_false, false_and, f5, h1, r1]
    simp only [hK9]
    clear hK9 K9v
    exact hfin M s _ (nk_i.mpr trivial) rfl hI (fP_of hp)
  | succ k ih =>
    intro t M s ht hI hp hfin
    have f5 : M 447 5 = (T : Int) := by rw [hI.2.1 5 (by decide)]; exact hT.1
    obtain ⟨-, hT30, hTI⟩ := hT
    obtain ⟨hi, hgr, g1, g2, hgm, hC, hWp, hst⟩ := id hW
    obtain ⟨ht4, htI⟩ := hTI t (by omega)
    have h1 : (t : Int) < (T : Int) := by omega
    have r1 : -2147483648 ≤ (t : Int) ∧ (t : Int) ≤ 2147483647 := by omega
    have r2 : -2147483648 ≤ (T : Int) ∧ (T : Int) ≤ 2147483647 := by omega
    have i1 : (0 : Int) ≤ (i : Int) ∧ (i : Int) < 16 := by omega
    have e4t : 4 * (t : Int) = ((4 * t : Nat) : Int) := by omega
    have hgt := mul_bd (show 0 ≤ gr by omega) hgr.2 (show 0 ≤ (tt : Int) by omega) (show (tt : Int) ≤ 10 by omega)
    have eg : 100 * (10 * gr) * (tt : Int) = gr * tt * 1000 := by
      rw [show 100 * (10 * gr) = 1000 * gr by omega, Int.mul_assoc, Int.mul_comm 1000 (gr * (tt : Int))]
    have f452 : M 452 = M0 452 := hI.1 452 (by decide) (by decide) (by decide) (by decide) (by decide) (by decide)
    have f455 : M 455 = M0 455 := hI.1 455 (by decide) (by decide) (by decide) (by decide) (by decide) (by decide)
    have ewt : wt (fun b => M 452 (4 * t + b)) = wt (I t) := by
      simp only [wt, f452, htI 0 (by omega), htI 1 (by omega), htI 2 (by omega), htI 3 (by omega)]
    have rw1 : 0 ≤ wt (I t) ∧ wt (I t) ≤ 2000000 := by
      obtain ⟨q0, q1, q2, q3⟩ := ht4
      simp only [wt]
      omega
    have rw2 : -2147483648 ≤ wt (I t) ∧ wt (I t) ≤ 2147483647 := by omega
    have rg : -2147483648 ≤ gr * (tt : Int) * 1000 ∧ gr * (tt : Int) * 1000 ≤ 2147483647 := by omega
    refine J_rnG GM_fa (by omega) (by omega) (by omega) 4 _ _ _ _ (fun K9v hK9 => ?_)
    simp (maxSteps := 4000000) only [↓(X_iload_n (k := 3) (pc' := 22) dX9_finds_21 rfl rfl), ↓gI_3, ↓(X_aload_n (k := 0) (pc' := 23) dX9_finds_22 rfl rfl), ↓gR_0, ↓(X_getI (pc' := 26) fl_9_124 (by decide) dX9_finds_23 rfl), kd_447, ↓(X_icmp_ge (tgt := 66) (pc' := 29) dX9_finds_26 (by decide) rfl), rn_0, gV_s, ↓pI_c, ↓pII_c, ↓pL_c, ↓pLL_c, ↓pR_c, ↓pRI_c, ↓pRII_c, ↓pRIL_c, ↓pRR_c, ↓pV_c, ↓pVV_c, ↓gI_c, ↓gL_c, ↓gR_c, f2_0, f2_1, nk_n, nk_i, nk_r, ↓reduceIte, r32, r64, Nat.reduceAdd, Nat.reduceSub, Nat.reduceEqDiff, Nat.reduceLT, Nat.reduceLeDiff, Nat.reduceBEq, Int.reduceAdd, Int.reduceSub, Int.reduceMul, Int.reduceNeg, Int.reduceToNat, Int.reduceLE, Int.reduceLT, Int.reduceEq, Int.reduceNatCast', Int.reduceNatCast, Int.natCast_zero, Int.toNat_natCast, Int.toNat_zero, Int.toNat_one, List.length_cons, List.length_nil, true_and, and_true, and_self, true_or, or_true, false_or, or_false, Bool.not_true, Bool.not_false, Nat.lt_add_one, Nat.zero_lt_succ, N0, swL_n, swL_c, List.toList_toArray, false_implies, true_implies, implies_true, forall_const, not_false_eq_true, not_true_eq_false, and_false, false_and, f5, h1, r1, r2]
    simp only [hK9]
    clear hK9 K9v
    refine J_rnG GM_fa (by omega) (by omega) (by omega) 5 _ _ _ _ (fun K9v hK9 => ?_)
    simp (maxSteps := 4000000) only [↓(X_aload_n (k := 0) (pc' := 30) dX9_finds_29 rfl rfl), ↓gR_0, ↓(X_getR (pc' := 33) fl_9_22 dX9_finds_30 rfl), kd_447, ↓(gV_c r0_447_6), kd_452, ln_452, ↓(X_iconst (pc' := 34) dX9_finds_33 rfl), ↓(X_iload_n (k := 3) (pc' := 35) dX9_finds_34 rfl rfl), ↓gI_3, ↓(X_imul (pc' := 36) dX9_finds_35 rfl), rn_0, gV_s, ↓pI_c, ↓pII_c, ↓pL_c, ↓pLL_c, ↓pR_c, ↓pRI_c, ↓pRII_c, ↓pRIL_c, ↓pRR_c, ↓pV_c, ↓pVV_c, ↓gI_c, ↓gL_c, ↓gR_c, f2_0, f2_1, nk_n, nk_i, nk_r, ↓reduceIte, r32, r64, Nat.reduceAdd, Nat.reduceSub, Nat.reduceEqDiff, Nat.reduceLT, Nat.reduceLeDiff, Nat.reduceBEq, Int.reduceAdd, Int.reduceSub, Int.reduceMul, Int.reduceNeg, Int.reduceToNat, Int.reduceLE, Int.reduceLT, Int.reduceEq, Int.reduceNatCast', Int.reduceNatCast, Int.natCast_zero, Int.toNat_natCast, Int.toNat_zero, Int.toNat_one, List.length_cons, List.length_nil, true_and, and_true, and_self, true_or, or_true, false_or, or_false, Bool.not_true, Bool.not_false, Nat.lt_add_one, Nat.zero_lt_succ, N0, swL_n, swL_c, List.toList_toArray, false_implies, true_implies, implies_true, forall_const, not_false_eq_true, not_true_eq_false, and_false, false_and, e4t]
    simp only [hK9]
    clear hK9 K9v
    refine J_callSd GM_fa (om_all (M := M) (d + 3) 452 (4 * t) kd_452 (by decide) (by rw [ln_452]; omega) (by rw [ln_452]; decide)) dX9_finds_36 k_9_82 (by omega) (Nat.le_of_ble_eq_true rfl) ⟨by omega, by omega⟩ rfl (by simp) rfl rfl ?_
    simp only [Option.toList, List.cons_append, List.nil_append]
    rw [ewt]
    rcases (show wt (I t) < gr * (tt : Int) * 1000 ∨ ¬ wt (I t) < gr * (tt : Int) * 1000 by omega) with q | q
    · have es : tinS C W (fun b => st b / (gr * 1000)) gr I tt t s = s := by rw [tinS, if_pos q]
      refine J_rnG GM_fa (by omega) (by omega) (by omega) 9 _ _ _ _ (fun K9v hK9 => ?_)
      simp (maxSteps := 4000000) only [↓(X_bipush (pc' := 41) dX9_finds_39 rfl), ↓(X_aload_n (k := 0) (pc' := 42) dX9_finds_41 rfl rfl), ↓gR_0, ↓(X_getR (pc' := 45) fl_9_31 dX9_finds_42 rfl), kd_447, ↓(gV_c r0_447_10), kd_455, ln_455, ↓(X_iload_n (k := 1) (pc' := 46) dX9_finds_45 rfl rfl), ↓gI_1, ↓(X_iaload (pc' := 47) dX9_finds_46 rfl), ↓(X_imul (pc' := 48) dX9_finds_47 rfl), ↓(X_iload_n (k := 2) (pc' := 49) dX9_finds_48 rfl rfl), ↓gI_2, ↓(X_imul (pc' := 50) dX9_finds_49 rfl), ↓(X_icmp_lt (tgt := 60) (pc' := 53) dX9_finds_50 (by decide) rfl), rn_0, gV_s, ↓pI_c, ↓pII_c, ↓pL_c, ↓pLL_c, ↓pR_c, ↓pRI_c, ↓pRII_c, ↓pRIL_c, ↓pRR_c, ↓pV_c, ↓pVV_c, ↓gI_c, ↓gL_c, ↓gR_c, f2_0, f2_1, nk_n, nk_i, nk_r, ↓reduceIte, r32, r64, Nat.reduceAdd, Nat.reduceSub, Nat.reduceEqDiff, Nat.reduceLT, Nat.reduceLeDiff, Nat.reduceBEq, Int.reduceAdd, Int.reduceSub, Int.reduceMul, Int.reduceNeg, Int.reduceToNat, Int.reduceLE, Int.reduceLT, Int.reduceEq, Int.reduceNatCast', Int.reduceNatCast, Int.natCast_zero, Int.toNat_natCast, Int.toNat_zero, Int.toNat_one, List.length_cons, List.length_nil, true_and, and_true, and_self, true_or, or_true, false_or, or_false, Bool.not_true, Bool.not_false, Nat.lt_add_one, Nat.zero_lt_succ, N0, swL_n, swL_c, List.toList_toArray, false_implies, true_implies, implies_true, forall_const, not_false_eq_true, not_true_eq_false, and_false, false_and, f455, g1, eg, i1, q, rw2, rg]
      simp only [hK9]
      clear hK9 K9v
      refine J_rnG GM_fa (by omega) (by omega) (by omega) 2 _ _ _ _ (fun K9v hK9 => ?_)
      simp (maxSteps := 4000000) only [↓(X_iinc (pc' := 63) dX9_finds_60 rfl), ↓gI_3, ↓sto_3, ↓(X_goto (pc' := 21) dX9_finds_63 (by decide)), rn_0, gV_s, ↓pI_c, ↓pII_c, ↓pL_c, ↓pLL_c, ↓pR_c, ↓pRI_c, ↓pRII_c, ↓pRIL_c, ↓pRR_c, ↓pV_c, ↓pVV_c, ↓gI_c, ↓gL_c, ↓gR_c, f2_0, f2_1, nk_n, nk_i, nk_r, ↓reduceIte, r32, r64, Nat.reduceAdd, Nat.reduceSub, Nat.reduceEqDiff, Nat.reduceLT, Nat.reduceLeDiff, Nat.reduceBEq, Int.reduceAdd, Int.reduceSub, Int.reduceMul, Int.reduceNeg, Int.reduceToNat, Int.reduceLE, Int.reduceLT, Int.reduceEq, Int.reduceNatCast', Int.reduceNatCast, Int.natCast_zero, Int.toNat_natCast, Int.toNat_zero, Int.toNat_one, List.length_cons, List.length_nil, true_and, and_true, and_self, true_or, or_true, false_or, or_false, Bool.not_true, Bool.not_false, Nat.lt_add_one, Nat.zero_lt_succ, N0, swL_n, swL_c, List.toList_toArray, false_implies, true_implies, implies_true, forall_const, not_false_eq_true, not_true_eq_false, and_false, false_and]
      simp only [hK9]
      clear hK9 K9v
      rw [show (t : Int) + 1 = ((t + 1 : Nat) : Int) by omega]
      exact ih (t + 1) M s (by omega) hI (preS_mono hp (by omega)) (fun M' s' e3 he3 hs' => hfin M' s' e3 he3 (by rw [loopN, es]; exact hs'))
    · have hm4 : tin4 (fun b => M 452 (4 * t + b)) := by
        simp only [tin4, f452, htI 0 (by omega), htI 1 (by omega), htI 2 (by omega), htI 3 (by omega)]
        exact ht4
      have ecg : ∀ b, b < 4 → M 452 (4 * t + b) = I t b := fun b hb => by rw [f452]; exact htI b hb
      have es : tinS C W (fun b => st b / (gr * 1000)) gr I tt t s = basesS (candS (fun b => st b / (gr * 1000)) (gapC C W (gr * 1000) (wpC C (takeF (fun b => M 452 (4 * t + b)) (gr * tt * 1000)))) tt t) (10 - tt) s := by
        rw [tinS, if_neg q]
        unfold candT
        rw [show wpC C (takeF (fun b => M 452 (4 * t + b)) (gr * tt * 1000)) = wpC C (takeF (I t) (gr * tt * 1000)) from funext (fun p => wpC_congr (takeF_congr ecg) p)]
      refine J_rnG GM_fa (by omega) (by omega) (by omega) 9 _ _ _ _ (fun K9v hK9 => ?_)
      simp (maxSteps := 4000000) only [↓(X_bipush (pc' := 41) dX9_finds_39 rfl), ↓(X_aload_n (k := 0) (pc' := 42) dX9_finds_41 rfl rfl), ↓gR_0, ↓(X_getR (pc' := 45) fl_9_31 dX9_finds_42 rfl), kd_447, ↓(gV_c r0_447_10), kd_455, ln_455, ↓(X_iload_n (k := 1) (pc' := 46) dX9_finds_45 rfl rfl), ↓gI_1, ↓(X_iaload (pc' := 47) dX9_finds_46 rfl), ↓(X_imul (pc' := 48) dX9_finds_47 rfl), ↓(X_iload_n (k := 2) (pc' := 49) dX9_finds_48 rfl rfl), ↓gI_2, ↓(X_imul (pc' := 50) dX9_finds_49 rfl), ↓(X_icmp_lt (tgt := 60) (pc' := 53) dX9_finds_50 (by decide) rfl), rn_0, gV_s, ↓pI_c, ↓pII_c, ↓pL_c, ↓pLL_c, ↓pR_c, ↓pRI_c, ↓pRII_c, ↓pRIL_c, ↓pRR_c, ↓pV_c, ↓pVV_c, ↓gI_c, ↓gL_c, ↓gR_c, f2_0, f2_1, nk_n, nk_i, nk_r, ↓reduceIte, r32, r64, Nat.reduceAdd, Nat.reduceSub, Nat.reduceEqDiff, Nat.reduceLT, Nat.reduceLeDiff, Nat.reduceBEq, Int.reduceAdd, Int.reduceSub, Int.reduceMul, Int.reduceNeg, Int.reduceToNat, Int.reduceLE, Int.reduceLT, Int.reduceEq, Int.reduceNatCast', Int.reduceNatCast, Int.natCast_zero, Int.toNat_natCast, Int.toNat_zero, Int.toNat_one, List.length_cons, List.length_nil, true_and, and_true, and_self, true_or, or_true, false_or, or_false, Bool.not_true, Bool.not_false, Nat.lt_add_one, Nat.zero_lt_succ, N0, swL_n, swL_c, List.toList_toArray, false_implies, true_implies, implies_true, forall_const, not_false_eq_true, not_true_eq_false, and_false, false_and, f455, g1, eg, i1, q, rw2, rg]
      simp only [hK9]
      clear hK9 K9v
      refine J_rnG GM_fa (by omega) (by omega) (by omega) 4 _ _ _ _ (fun K9v hK9 => ?_)
      simp (maxSteps := 4000000) only [↓(X_aload_n (k := 0) (pc' := 54) dX9_finds_53 rfl rfl), ↓gR_0, ↓(X_iload_n (k := 1) (pc' := 55) dX9_finds_54 rfl rfl), ↓gI_1, ↓(X_iload_n (k := 2) (pc' := 56) dX9_finds_55 rfl rfl), ↓gI_2, ↓(X_iload_n (k := 3) (pc' := 57) dX9_finds_56 rfl rfl), ↓gI_3, rn_0, gV_s, ↓pI_c, ↓pII_c, ↓pL_c, ↓pLL_c, ↓pR_c, ↓pRI_c, ↓pRII_c, ↓pRIL_c, ↓pRR_c, ↓pV_c, ↓pVV_c, ↓gI_c, ↓gL_c, ↓gR_c, f2_0, f2_1, nk_n, nk_i, nk_r, ↓reduceIte, r32, r64, Nat.reduceAdd, Nat.reduceSub, Nat.reduceEqDiff, Nat.reduceLT, Nat.reduceLeDiff, Nat.reduceBEq, Int.reduceAdd, Int.reduceSub, Int.reduceMul, Int.reduceNeg, Int.reduceToNat, Int.reduceLE, Int.reduceLT, Int.reduceEq, Int.reduceNatCast', Int.reduceNatCast, Int.natCast_zero, Int.toNat_natCast, Int.toNat_zero, Int.toNat_one, List.length_cons, List.length_nil, true_and, and_true, and_self, true_or, or_true, false_or, or_false, Bool.not_true, Bool.not_false, Nat.lt_add_one, Nat.zero_lt_succ, N0, swL_n, swL_c, List.toList_toArray, false_implies, true_implies, implies_true, forall_const, not_false_eq_true, not_true_eq_false, and_false, false_and]
      simp only [hK9]
      clear hK9 K9v
      have hWM : mW M i gr gmax C W st := mW_congr hW (hI.1 448 (by decide) (by decide) (by decide) (by decide) (by decide) (by decide)) (hI.1 450 (by decide) (by decide) (by decide) (by decide) (by decide) (by decide)) (hI.1 453 (by decide) (by decide) (by decide) (by decide) (by decide) (by decide)) f455 (hI.1 456 (by decide) (by decide) (by decide) (by decide) (by decide) (by decide))
      refine J_callV (ci := 9) GM_fa (om_triesAll (M := M) (C := C) (W := W) (st := st) (s := s) (tk := takeF (fun b => M 452 (4 * t + b)) (gr * tt * 1000)) (d + 0) i tt gr gmax (t : Int) hWM htt.2 (Or.inr ⟨htt.1, t, by omega, rfl, hm4, by rw [ewt]; omega, rfl⟩) hI.2.2 hp) (by first | exact calm_det | assumption | (intro q9 ν9 h9; obtain ⟨h8, h6, M9, h7, -⟩ := h9; exact ⟨⟨_, h8⟩, by rw [h7]; rfl⟩) | (intro q9 ν9 h9; obtain ⟨h8, M9, h7, -⟩ := h9; first | exact ⟨⟨_, h8⟩, by rw [h7]; rfl⟩ | exact ⟨⟨_, h7⟩, by rw [h8]; rfl⟩ | exact ⟨⟨_, h7⟩, by rw [h8]⟩)) dX9_finds_57 k_9_127 (by omega) (Nat.le_of_ble_eq_true rfl) ⟨by omega, by omega⟩ rfl (by decide +kernel) rfl (by decide) (by simp only [N0]; omega) (by simp) rfl (fun v ν hv => ?_)
      obtain ⟨hv0, M2, rfl, x1, x2, x3, x4⟩ := hv
      cases hv0
      simp only [Option.toList, List.nil_append]
      rw [← es] at x3 x4
      refine J_rnG GM_fa (by omega) (by omega) (by omega) 2 _ _ _ _ (fun K9v hK9 => ?_)
      simp (maxSteps := 4000000) only [↓(X_iinc (pc' := 63) dX9_finds_60 rfl), ↓gI_3, ↓sto_3, ↓(X_goto (pc' := 21) dX9_finds_63 (by decide)), rn_0, gV_s, ↓pI_c, ↓pII_c, ↓pL_c, ↓pLL_c, ↓pR_c, ↓pRI_c, ↓pRII_c, ↓pRIL_c, ↓pRR_c, ↓pV_c, ↓pVV_c, ↓gI_c, ↓gL_c, ↓gR_c, f2_0, f2_1, nk_n, nk_i, nk_r, ↓reduceIte, r32, r64, Nat.reduceAdd, Nat.reduceSub, Nat.reduceEqDiff, Nat.reduceLT, Nat.reduceLeDiff, Nat.reduceBEq, Int.reduceAdd, Int.reduceSub, Int.reduceMul, Int.reduceNeg, Int.reduceToNat, Int.reduceLE, Int.reduceLT, Int.reduceEq, Int.reduceNatCast', Int.reduceNatCast, Int.natCast_zero, Int.toNat_natCast, Int.toNat_zero, Int.toNat_one, List.length_cons, List.length_nil, true_and, and_true, and_self, true_or, or_true, false_or, or_false, Bool.not_true, Bool.not_false, Nat.lt_add_one, Nat.zero_lt_succ, N0, swL_n, swL_c, List.toList_toArray, false_implies, true_implies, implies_true, forall_const, not_false_eq_true, not_true_eq_false, and_false, false_and]
      simp only [hK9]
      clear hK9 K9v
      rw [show (t : Int) + 1 = ((t + 1 : Nat) : Int) by omega] at x4 ⊢
      exact ih (t + 1) M2 _ (by omega) ⟨fun x h1 h2 h3 h4 h5 h6 => by rw [x1 x h1 h2 h3 h4 h5 h6, hI.1 x h1 h2 h3 h4 h5 h6], fun k hk => by rw [x2 k hk, hI.2.1 k hk], x3⟩ x4 (fun M' s' e3 he3 hs' => hfin M' s' e3 he3 (by rw [loopN]; exact hs'))
set_option maxRecDepth 100000 in
set_option maxHeartbeats 4000000 in
theorem jj_f3 {M0 : Nat → Nat → Int} {C I : Nat → Nat → Int} {W st : Nat → Int} {Φ : Out → Mem → Prop} (d i T : Nat) (gr gmax : Int) (hW : mW M0 i gr gmax C W st) (hT : mT M0 T I) : ∀ (k : Nat) (M : Nat → Nat → Int) (s : Nat → Int) (e3 : Option AV), nk e3 → k ≤ 10 → fI M0 M s → fP gmax s → (∀ (M' : Nat → Nat → Int) (s' : Nat → Int) (e2 e3 : Option AV), s' = tensS (tinS C W (fun b => st b / (gr * 1000)) gr I) T k s → fI M0 M' s' → fP gmax s' → J l D cy (GM l D cy 9 cX9_finds 4 (d + 5) 0 0 false none Φ) 72 [some (.inr (.inr (some 447))), some (.inl (i : Int)), e2, e3] [] (468, R0, M') 0 0) →
    J l D cy (GM l D cy 9 cX9_finds 4 (d + 5) 0 0 false none Φ) 8 [some (.inr (.inr (some 447))), some (.inl (i : Int)), some (.inl (k : Int)), e3] [] (468, R0, M) 0 0 := by
  intro k
  induction k with
  | zero =>
    intro M s e3 he3 hk hI hp hfin
    refine J_rnG GM_fa (by omega) (by omega) (by omega) 2 _ _ _ _ (fun K9v hK9 => ?_)
    simp (maxSteps := 4000000) only [↓(X_iload_n (k := 2) (pc' := 9) dX9_finds_8 rfl rfl), ↓gI_2, ↓(X_if_le (tgt := 72) (pc' := 12) dX9_finds_9 (by decide) rfl), rn_0, gV_s, ↓pI_c, ↓pII_c, ↓pL_c, ↓pLL_c, ↓pR_c, ↓pRI_c, ↓pRII_c, ↓pRIL_c, ↓pRR_c, ↓pV_c, ↓pVV_c, ↓gI_c, ↓gL_c, ↓gR_c, f2_0, f2_1, nk_n, nk_i, nk_r, ↓reduceIte, r32, r64, Nat.reduceAdd, Nat.reduceSub, Nat.reduceEqDiff, Nat.reduceLT, Nat.reduceLeDiff, Nat.reduceBEq, Int.reduceAdd, Int.reduceSub, Int.reduceMul, Int.reduceNeg, Int.reduceToNat, Int.reduceLE, Int.reduceLT, Int.reduceEq, Int.reduceNatCast', Int.reduceNatCast, Int.natCast_zero, Int.toNat_natCast, Int.toNat_zero, Int.toNat_one, List.length_cons, List.length_nil, true_and, and_true, and_self, true_or, or_true, false_or, or_false, Bool.not_true, Bool.not_false, Nat.lt_add_one, Nat.zero_lt_succ, N0, swL_n, swL_c, List.toList_toArray, false_implies, true_implies, implies_true, forall_const, not_false_eq_true, not_true_eq_false, and_false, false_and]
    simp only [hK9]
    clear hK9 K9v
    exact hfin M s _ _ rfl hI hp
  | succ k ih =>
    intro M s e3 he3 hk hI hp hfin
    have q : (0 : Int) < ((k + 1 : Nat) : Int) := by omega
    have r1 : -2147483648 ≤ ((k + 1 : Nat) : Int) ∧ ((k + 1 : Nat) : Int) ≤ 2147483647 := by omega
    have hf := hI.2.2.1
    rcases hp with ⟨p1, p2⟩ | p1
    · rw [p1] at hf
      refine J_rnG GM_fa (by omega) (by omega) (by omega) 2 _ _ _ _ (fun K9v hK9 => ?_)
      simp (maxSteps := 4000000) only [↓(X_iload_n (k := 2) (pc' := 9) dX9_finds_8 rfl rfl), ↓gI_2, ↓(X_if_le (tgt := 72) (pc' := 12) dX9_finds_9 (by decide) rfl), rn_0, gV_s, ↓pI_c, ↓pII_c, ↓pL_c, ↓pLL_c, ↓pR_c, ↓pRI_c, ↓pRII_c, ↓pRIL_c, ↓pRR_c, ↓pV_c, ↓pVV_c, ↓gI_c, ↓gL_c, ↓gR_c, f2_0, f2_1, nk_n, nk_i, nk_r, ↓reduceIte, r32, r64, Nat.reduceAdd, Nat.reduceSub, Nat.reduceEqDiff, Nat.reduceLT, Nat.reduceLeDiff, Nat.reduceBEq, Int.reduceAdd, Int.reduceSub, Int.reduceMul, Int.reduceNeg, Int.reduceToNat, Int.reduceLE, Int.reduceLT, Int.reduceEq, Int.reduceNatCast', Int.reduceNatCast, Int.natCast_zero, Int.toNat_natCast, Int.toNat_zero, Int.toNat_one, List.length_cons, List.length_nil, true_and, and_true, and_self, true_or, or_true, false_or, or_false, Bool.not_true, Bool.not_false, Nat.lt_add_one, Nat.zero_lt_succ, N0, swL_n, swL_c, List.toList_toArray, false_implies, true_implies, implies_true, forall_const, not_false_eq_true, not_true_eq_false, and_false, false_and, q, r1]
      simp only [hK9]
      clear hK9 K9v
      refine J_rnG GM_fa (by omega) (by omega) (by omega) 3 _ _ _ _ (fun K9v hK9 => ?_)
      simp (maxSteps := 4000000) only [↓(X_aload_n (k := 0) (pc' := 13) dX9_finds_12 rfl rfl), ↓gR_0, ↓(X_getI (pc' := 16) fl_9_109 (by decide) dX9_finds_13 rfl), kd_447, ↓(X_if_ne (tgt := 72) (pc' := 19) dX9_finds_16 (by decide) rfl), rn_0, gV_s, ↓pI_c, ↓pII_c, ↓pL_c, ↓pLL_c, ↓pR_c, ↓pRI_c, ↓pRII_c, ↓pRIL_c, ↓pRR_c, ↓pV_c, ↓pVV_c, ↓gI_c, ↓gL_c, ↓gR_c, f2_0, f2_1, nk_n, nk_i, nk_r, ↓reduceIte, r32, r64, Nat.reduceAdd, Nat.reduceSub, Nat.reduceEqDiff, Nat.reduceLT, Nat.reduceLeDiff, Nat.reduceBEq, Int.reduceAdd, Int.reduceSub, Int.reduceMul, Int.reduceNeg, Int.reduceToNat, Int.reduceLE, Int.reduceLT, Int.reduceEq, Int.reduceNatCast', Int.reduceNatCast, Int.natCast_zero, Int.toNat_natCast, Int.toNat_zero, Int.toNat_one, List.length_cons, List.length_nil, true_and, and_true, and_self, true_or, or_true, false_or, or_false, Bool.not_true, Bool.not_false, Nat.lt_add_one, Nat.zero_lt_succ, N0, swL_n, swL_c, List.toList_toArray, false_implies, true_implies, implies_true, forall_const, not_false_eq_true, not_true_eq_false, and_false, false_and, hf]
      simp only [hK9]
      clear hK9 K9v
      refine J_rnG GM_fa (by omega) (by omega) (by omega) 2 _ _ _ _ (fun K9v hK9 => ?_)
      simp (maxSteps := 4000000) only [↓(X_iconst (pc' := 20) dX9_finds_19 rfl), ↓(X_istore_n (k := 3) (pc' := 21) dX9_finds_20 rfl rfl), ↓sto_3, rn_0, gV_s, ↓pI_c, ↓pII_c, ↓pL_c, ↓pLL_c, ↓pR_c, ↓pRI_c, ↓pRII_c, ↓pRIL_c, ↓pRR_c, ↓pV_c, ↓pVV_c, ↓gI_c, ↓gL_c, ↓gR_c, f2_0, f2_1, nk_n, nk_i, nk_r, ↓reduceIte, r32, r64, Nat.reduceAdd, Nat.reduceSub, Nat.reduceEqDiff, Nat.reduceLT, Nat.reduceLeDiff, Nat.reduceBEq, Int.reduceAdd, Int.reduceSub, Int.reduceMul, Int.reduceNeg, Int.reduceToNat, Int.reduceLE, Int.reduceLT, Int.reduceEq, Int.reduceNatCast', Int.reduceNatCast, Int.natCast_zero, Int.toNat_natCast, Int.toNat_zero, Int.toNat_one, List.length_cons, List.length_nil, true_and, and_true, and_self, true_or, or_true, false_or, or_false, Bool.not_true, Bool.not_false, Nat.lt_add_one, Nat.zero_lt_succ, N0, swL_n, swL_c, List.toList_toArray, false_implies, true_implies, implies_true, forall_const, not_false_eq_true, not_true_eq_false, and_false, false_and, he3]
      simp only [hK9]
      clear hK9 K9v
      refine jj_f2 d i (k + 1) T gr gmax hW hT (by omega) T 0 M s (by omega) hI (Or.inl ⟨p1, p2⟩) (fun M' s' e3 he3 hs' hI' hp' => ?_)
      refine J_rnG GM_fa (by omega) (by omega) (by omega) 2 _ _ _ _ (fun K9v hK9 => ?_)
      simp (maxSteps := 4000000) only [↓(X_iinc (pc' := 69) dX9_finds_66 rfl), ↓gI_2, ↓sto_2, ↓(X_goto (pc' := 8) dX9_finds_69 (by decide)), rn_0, gV_s, ↓pI_c, ↓pII_c, ↓pL_c, ↓pLL_c, ↓pR_c, ↓pRI_c, ↓pRII_c, ↓pRIL_c, ↓pRR_c, ↓pV_c, ↓pVV_c, ↓gI_c, ↓gL_c, ↓gR_c, f2_0, f2_1, nk_n, nk_i, nk_r, ↓reduceIte, r32, r64, Nat.reduceAdd, Nat.reduceSub, Nat.reduceEqDiff, Nat.reduceLT, Nat.reduceLeDiff, Nat.reduceBEq, Int.reduceAdd, Int.reduceSub, Int.reduceMul, Int.reduceNeg, Int.reduceToNat, Int.reduceLE, Int.reduceLT, Int.reduceEq, Int.reduceNatCast', Int.reduceNatCast, Int.natCast_zero, Int.toNat_natCast, Int.toNat_zero, Int.toNat_one, List.length_cons, List.length_nil, true_and, and_true, and_self, true_or, or_true, false_or, or_false, Bool.not_true, Bool.not_false, Nat.lt_add_one, Nat.zero_lt_succ, N0, swL_n, swL_c, List.toList_toArray, false_implies, true_implies, implies_true, forall_const, not_false_eq_true, not_true_eq_false, and_false, false_and]
      simp only [hK9]
      clear hK9 K9v
      rw [show ((k + 1 : Nat) : Int) + -1 = (k : Int) by omega]
      refine ih M' s' e3 he3 (by omega) hI' hp' (fun M' s'' e2 e3 hs'' => hfin M' s'' e2 e3 ?_)
      rw [hs'', hs', tensS, if_pos p1]
    · rw [p1] at hf
      refine J_rnG GM_fa (by omega) (by omega) (by omega) 2 _ _ _ _ (fun K9v hK9 => ?_)
      simp (maxSteps := 4000000) only [↓(X_iload_n (k := 2) (pc' := 9) dX9_finds_8 rfl rfl), ↓gI_2, ↓(X_if_le (tgt := 72) (pc' := 12) dX9_finds_9 (by decide) rfl), rn_0, gV_s, ↓pI_c, ↓pII_c, ↓pL_c, ↓pLL_c, ↓pR_c, ↓pRI_c, ↓pRII_c, ↓pRIL_c, ↓pRR_c, ↓pV_c, ↓pVV_c, ↓gI_c, ↓gL_c, ↓gR_c, f2_0, f2_1, nk_n, nk_i, nk_r, ↓reduceIte, r32, r64, Nat.reduceAdd, Nat.reduceSub, Nat.reduceEqDiff, Nat.reduceLT, Nat.reduceLeDiff, Nat.reduceBEq, Int.reduceAdd, Int.reduceSub, Int.reduceMul, Int.reduceNeg, Int.reduceToNat, Int.reduceLE, Int.reduceLT, Int.reduceEq, Int.reduceNatCast', Int.reduceNatCast, Int.natCast_zero, Int.toNat_natCast, Int.toNat_zero, Int.toNat_one, List.length_cons, List.length_nil, true_and, and_true, and_self, true_or, or_true, false_or, or_false, Bool.not_true, Bool.not_false, Nat.lt_add_one, Nat.zero_lt_succ, N0, swL_n, swL_c, List.toList_toArray, false_implies, true_implies, implies_true, forall_const, not_false_eq_true, not_true_eq_false, and_false, false_and, q, r1]
      simp only [hK9]
      clear hK9 K9v
      refine J_rnG GM_fa (by omega) (by omega) (by omega) 3 _ _ _ _ (fun K9v hK9 => ?_)
      simp (maxSteps := 4000000) only [↓(X_aload_n (k := 0) (pc' := 13) dX9_finds_12 rfl rfl), ↓gR_0, ↓(X_getI (pc' := 16) fl_9_109 (by decide) dX9_finds_13 rfl), kd_447, ↓(X_if_ne (tgt := 72) (pc' := 19) dX9_finds_16 (by decide) rfl), rn_0, gV_s, ↓pI_c, ↓pII_c, ↓pL_c, ↓pLL_c, ↓pR_c, ↓pRI_c, ↓pRII_c, ↓pRIL_c, ↓pRR_c, ↓pV_c, ↓pVV_c, ↓gI_c, ↓gL_c, ↓gR_c, f2_0, f2_1, nk_n, nk_i, nk_r, ↓reduceIte, r32, r64, Nat.reduceAdd, Nat.reduceSub, Nat.reduceEqDiff, Nat.reduceLT, Nat.reduceLeDiff, Nat.reduceBEq, Int.reduceAdd, Int.reduceSub, Int.reduceMul, Int.reduceNeg, Int.reduceToNat, Int.reduceLE, Int.reduceLT, Int.reduceEq, Int.reduceNatCast', Int.reduceNatCast, Int.natCast_zero, Int.toNat_natCast, Int.toNat_zero, Int.toNat_one, List.length_cons, List.length_nil, true_and, and_true, and_self, true_or, or_true, false_or, or_false, Bool.not_true, Bool.not_false, Nat.lt_add_one, Nat.zero_lt_succ, N0, swL_n, swL_c, List.toList_toArray, false_implies, true_implies, implies_true, forall_const, not_false_eq_true, not_true_eq_false, and_false, false_and, hf]
      simp only [hK9]
      clear hK9 K9v
      exact hfin M s _ _ (by rw [tensS, if_neg (by omega)]) hI (Or.inr p1)
set_option maxRecDepth 100000 in
set_option maxHeartbeats 4000000 in
theorem om_finds {M : Nat → Nat → Int} {C I : Nat → Nat → Int} {W st s : Nat → Int} (d i T : Nat) (gr gmax : Int) (hW : mW M i gr gmax C W st) (hT : mT M T I) (hs0 : s 0 = 0) (hs1 : s 1 = gmax) : Ok l D cy (d + 5) 0 0 yX9_finds cX9_finds 4 (none) [.inr (.inr (some (447))), .inl ((i : Int))] (N0, R0, M) (fun o ν => o = .inl none ∧ ∃ M2 : Nat → Nat → Int, ν = (N0, R0, M2) ∧ fI M M2 (findS C W (fun b => st b / (gr * 1000)) gr I T s)) := by
  refine Ok.intro (o := 9) (ini := false) [some (.inr (.inr (some (447)))), some (.inl ((i : Int))), none, none] (by decide +kernel) rfl (fun h => by cases h) rfl (Nat.le_of_ble_eq_true rfl) rfl ?_
  refine J_rnG GM_fa (by omega) (by omega) (by omega) 5 _ _ _ _ (fun K9v hK9 => ?_)
  simp (maxSteps := 4000000) only [↓(X_aload_n (k := 0) (pc' := 1) dX9_finds_0 rfl rfl), ↓gR_0, ↓(X_iconst (pc' := 2) dX9_finds_1 rfl), ↓(X_putI (pc' := 5) fl_9_109 (by decide) dX9_finds_2 rfl), Nat.one_ne_zero, Nat.reduceEqDiff, kd_447, ↓(X_bipush (pc' := 7) dX9_finds_5 rfl), ↓(X_istore_n (k := 2) (pc' := 8) dX9_finds_7 rfl rfl), ↓sto_2, rn_0, gV_s, ↓pI_c, ↓pII_c, ↓pL_c, ↓pLL_c, ↓pR_c, ↓pRI_c, ↓pRII_c, ↓pRIL_c, ↓pRR_c, ↓pV_c, ↓pVV_c, ↓gI_c, ↓gL_c, ↓gR_c, f2_0, f2_1, nk_n, nk_i, nk_r, ↓reduceIte, r32, r64, Nat.reduceAdd, Nat.reduceSub, Nat.reduceEqDiff, Nat.reduceLT, Nat.reduceLeDiff, Nat.reduceBEq, Int.reduceAdd, Int.reduceSub, Int.reduceMul, Int.reduceNeg, Int.reduceToNat, Int.reduceLE, Int.reduceLT, Int.reduceEq, Int.reduceNatCast', Int.reduceNatCast, Int.natCast_zero, Int.toNat_natCast, Int.toNat_zero, Int.toNat_one, List.length_cons, List.length_nil, true_and, and_true, and_self, true_or, or_true, false_or, or_false, Bool.not_true, Bool.not_false, Nat.lt_add_one, Nat.zero_lt_succ, N0, swL_n, swL_c, List.toList_toArray, false_implies, true_implies, implies_true, forall_const, not_false_eq_true, not_true_eq_false, and_false, false_and]
  simp only [hK9]
  clear hK9 K9v
  refine jj_f3 (M0 := M) (C := C) (I := I) (W := W) (st := st) d i T gr gmax hW hT 10 _ s none (nk_n.mpr trivial) (by omega) ⟨fun x h1 _ _ _ _ _ => by funext k; rw [up2_c h1], fun k hk => by rw [up2_k hk], ⟨by rw [up2_s, hs0], fun h => by omega⟩⟩ (Or.inl ⟨hs0, hs1⟩) (fun M' s' e2 e3 hs' hI hp => ?_)
  have hf := hI.2.2.1
  have ewz : wpC C (fun _ => 0) = fun _ => 0 := by funext p; simp [wpC]
  rcases hp with ⟨p1, p2⟩ | p1
  · rw [p1] at hf
    refine J_rnG GM_fa (by omega) (by omega) (by omega) 3 _ _ _ _ (fun K9v hK9 => ?_)
    simp (maxSteps := 4000000) only [↓(X_aload_n (k := 0) (pc' := 73) dX9_finds_72 rfl rfl), ↓gR_0, ↓(X_getI (pc' := 76) fl_9_109 (by decide) dX9_finds_73 rfl), kd_447, ↓(X_if_ne (tgt := 86) (pc' := 79) dX9_finds_76 (by decide) rfl), rn_0, gV_s, ↓pI_c, ↓pII_c, ↓pL_c, ↓pLL_c, ↓pR_c, ↓pRI_c, ↓pRII_c, ↓pRIL_c, ↓pRR_c, ↓pV_c, ↓pVV_c, ↓gI_c, ↓gL_c, ↓gR_c, f2_0, f2_1, nk_n, nk_i, nk_r, ↓reduceIte, r32, r64, Nat.reduceAdd, Nat.reduceSub, Nat.reduceEqDiff, Nat.reduceLT, Nat.reduceLeDiff, Nat.reduceBEq, Int.reduceAdd, Int.reduceSub, Int.reduceMul, Int.reduceNeg, Int.reduceToNat, Int.reduceLE, Int.reduceLT, Int.reduceEq, Int.reduceNatCast', Int.reduceNatCast, Int.natCast_zero, Int.toNat_natCast, Int.toNat_zero, Int.toNat_one, List.length_cons, List.length_nil, true_and, and_true, and_self, true_or, or_true, false_or, or_false, Bool.not_true, Bool.not_false, Nat.lt_add_one, Nat.zero_lt_succ, N0, swL_n, swL_c, List.toList_toArray, false_implies, true_implies, implies_true, forall_const, not_false_eq_true, not_true_eq_false, and_false, false_and, hf]
    simp only [hK9]
    clear hK9 K9v
    refine J_rnG GM_fa (by omega) (by omega) (by omega) 4 _ _ _ _ (fun K9v hK9 => ?_)
    simp (maxSteps := 4000000) only [↓(X_aload_n (k := 0) (pc' := 80) dX9_finds_79 rfl rfl), ↓gR_0, ↓(X_iload_n (k := 1) (pc' := 81) dX9_finds_80 rfl rfl), ↓gI_1, ↓(X_iconst (pc' := 82) dX9_finds_81 rfl), ↓(X_iconst (pc' := 83) dX9_finds_82 rfl), rn_0, gV_s, ↓pI_c, ↓pII_c, ↓pL_c, ↓pLL_c, ↓pR_c, ↓pRI_c, ↓pRII_c, ↓pRIL_c, ↓pRR_c, ↓pV_c, ↓pVV_c, ↓gI_c, ↓gL_c, ↓gR_c, f2_0, f2_1, nk_n, nk_i, nk_r, ↓reduceIte, r32, r64, Nat.reduceAdd, Nat.reduceSub, Nat.reduceEqDiff, Nat.reduceLT, Nat.reduceLeDiff, Nat.reduceBEq, Int.reduceAdd, Int.reduceSub, Int.reduceMul, Int.reduceNeg, Int.reduceToNat, Int.reduceLE, Int.reduceLT, Int.reduceEq, Int.reduceNatCast', Int.reduceNatCast, Int.natCast_zero, Int.toNat_natCast, Int.toNat_zero, Int.toNat_one, List.length_cons, List.length_nil, true_and, and_true, and_self, true_or, or_true, false_or, or_false, Bool.not_true, Bool.not_false, Nat.lt_add_one, Nat.zero_lt_succ, N0, swL_n, swL_c, List.toList_toArray, false_implies, true_implies, implies_true, forall_const, not_false_eq_true, not_true_eq_false, and_false, false_and]
    simp only [hK9]
    clear hK9 K9v
    have g : ∀ x, x ≠ 447 → x ≠ 460 → x ≠ 461 → x ≠ 462 → x ≠ 463 → x ≠ 464 → M' x = M x := hI.1
    have hWM : mW M' i gr gmax C W st := mW_congr hW (g 448 (by decide) (by decide) (by decide) (by decide) (by decide) (by decide)) (g 450 (by decide) (by decide) (by decide) (by decide) (by decide) (by decide)) (g 453 (by decide) (by decide) (by decide) (by decide) (by decide) (by decide)) (g 455 (by decide) (by decide) (by decide) (by decide) (by decide) (by decide)) (g 456 (by decide) (by decide) (by decide) (by decide) (by decide) (by decide))
    refine J_callV (ci := 9) GM_fa (om_triesAll (M := M') (C := C) (W := W) (st := st) (s := s') (tk := fun _ => 0) (d + 0) i 0 gr gmax (-1) hWM (by omega) (Or.inl ⟨rfl, rfl, rfl⟩) hI.2.2 (Or.inl ⟨p1, p2⟩)) (by first | exact calm_det | assumption | (intro q9 ν9 h9; obtain ⟨h8, h6, M9, h7, -⟩ := h9; exact ⟨⟨_, h8⟩, by rw [h7]; rfl⟩) | (intro q9 ν9 h9; obtain ⟨h8, M9, h7, -⟩ := h9; first | exact ⟨⟨_, h8⟩, by rw [h7]; rfl⟩ | exact ⟨⟨_, h7⟩, by rw [h8]; rfl⟩ | exact ⟨⟨_, h7⟩, by rw [h8]⟩)) dX9_finds_83 k_9_127 (by omega) (Nat.le_of_ble_eq_true rfl) ⟨by omega, by omega⟩ rfl (by decide +kernel) rfl (by decide) (by simp only [N0]; omega) (by simp) rfl (fun v ν hv => ?_)
    obtain ⟨hv0, M2, rfl, x1, x2, x3, x4⟩ := hv
    cases hv0
    simp only [Option.toList, List.nil_append]
    rw [ewz] at x3
    refine J_vret dX9_finds_86 rfl (by omega) (by omega) (⟨rfl, M2, rfl, fun x h1 h2 h3 h4 h5 h6 => by rw [x1 x h1 h2 h3 h4 h5 h6, g x h1 h2 h3 h4 h5 h6], fun k hk => by rw [x2 k hk, hI.2.1 k hk], by rw [findS, ← hs', if_pos p1]; exact x3⟩)
  · rw [p1] at hf
    refine J_rnG GM_fa (by omega) (by omega) (by omega) 3 _ _ _ _ (fun K9v hK9 => ?_)
    simp (maxSteps := 4000000) only [↓(X_aload_n (k := 0) (pc' := 73) dX9_finds_72 rfl rfl), ↓gR_0, ↓(X_getI (pc' := 76) fl_9_109 (by decide) dX9_finds_73 rfl), kd_447, ↓(X_if_ne (tgt := 86) (pc' := 79) dX9_finds_76 (by decide) rfl), rn_0, gV_s, ↓pI_c, ↓pII_c, ↓pL_c, ↓pLL_c, ↓pR_c, ↓pRI_c, ↓pRII_c, ↓pRIL_c, ↓pRR_c, ↓pV_c, ↓pVV_c, ↓gI_c, ↓gL_c, ↓gR_c, f2_0, f2_1, nk_n, nk_i, nk_r, ↓reduceIte, r32, r64, Nat.reduceAdd, Nat.reduceSub, Nat.reduceEqDiff, Nat.reduceLT, Nat.reduceLeDiff, Nat.reduceBEq, Int.reduceAdd, Int.reduceSub, Int.reduceMul, Int.reduceNeg, Int.reduceToNat, Int.reduceLE, Int.reduceLT, Int.reduceEq, Int.reduceNatCast', Int.reduceNatCast, Int.natCast_zero, Int.toNat_natCast, Int.toNat_zero, Int.toNat_one, List.length_cons, List.length_nil, true_and, and_true, and_self, true_or, or_true, false_or, or_false, Bool.not_true, Bool.not_false, Nat.lt_add_one, Nat.zero_lt_succ, N0, swL_n, swL_c, List.toList_toArray, false_implies, true_implies, implies_true, forall_const, not_false_eq_true, not_true_eq_false, and_false, false_and, hf]
    simp only [hK9]
    clear hK9 K9v
    refine J_vret dX9_finds_86 rfl (by omega) (by omega) (⟨rfl, M', rfl, hI.1, hI.2.1, by rw [findS, ← hs', if_neg (by omega)]; exact hI.2.2⟩)
end MF
