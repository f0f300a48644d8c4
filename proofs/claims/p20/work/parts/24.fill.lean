/-! the washes are planned; the ink of a job is filled -/
theorem nMix_mono {M : Nat → Nat → Int} {j n : Nat} (h : j ≤ n) : nMix M j ≤ nMix M n := by
  induction n with
  | zero => rw [show j = 0 by omega]; exact Nat.le_refl _
  | succ n ih =>
    rcases (show j = n + 1 ∨ j ≤ n by omega) with q | q
    · rw [q]; exact Nat.le_refl _
    · have := ih q
      rw [nMix]
      split <;> omega
section CA
variable {l : Launch} {D : va_G} {cy : Nat → ClassId}
set_option maxRecDepth 100000 in
set_option maxHeartbeats 4000000 in
theorem jj_pw {M : Nat → Nat → Int} {Φ : Out → Mem → Prop} (d n : Nat) (hn : M 0 8 = (n : Int)) (hn2 : n ≤ 16) (hst : ∀ i, i < 16 → 0 ≤ M (367 + 5 * i) 5 ∧ M (367 + 5 * i) 5 ≤ 2) (h8 : nMix M n ≤ 8) (hJ : jcOK M) (hpr : prOK M) (hΦ : ∀ M' : Nat → Nat → Int, PI M M' (nMix M n) (mixAt M n) → Φ (.inl none) (N0, R0, M')) : ∀ (k j : Nat) (M' : Nat → Nat → Int), j + k = n → PI M M' (nMix M j) (mixAt M j) →
    J l D cy (GM l D cy 8 cX8_planWashes 2 (d + 4) 0 0 false none Φ) 9 [some (.inr (.inr (some 0))), some (.inl (j : Int))] [] (449, R0, M') 0 0 := by
  intro k
  induction k with
  | zero =>
    intro j M' hj hP
    have e : j = n := by omega
    subst e
    have f1 : M' 0 8 = (j : Int) := by rw [hP.1 0 (by omega)]; exact hn
    have h1 : ¬ (j : Int) < (j : Int) := by omega
    have r1 : -2147483648 ≤ (j : Int) ∧ (j : Int) ≤ 2147483647 := by omega
    refine J_rnG GM_fa (by omega) (by omega) (by omega) 4 _ _ _ _ (fun K9v hK9 => ?_)
    simp (maxSteps := 4000000) only [↓(X_iload_n (k := 1) (pc' := 10) dX8_planWashes_9 rfl rfl), ↓gI_1, ↓(X_aload_n (k := 0) (pc' := 11) dX8_planWashes_10 rfl rfl), ↓gR_0, ↓(X_getI (pc' := 14) fl_8_101 (by decide) dX8_planWashes_11 rfl), kd_0, ↓(X_icmp_ge (tgt := 57) (pc' := 17) dX8_planWashes_14 (by decide) rfl), rn_0, gV_s, ↓pI_c, ↓pII_c, ↓pL_c, ↓pLL_c, ↓pR_c, ↓pRI_c, ↓pRII_c, ↓pRIL_c, ↓pRR_c, ↓pV_c, ↓pVV_c, ↓gI_c, ↓gL_c, ↓gR_c, f2_0, f2_1, nk_n, nk_i, nk_r, ↓reduceIte, r32, r64, Nat.reduceAdd, Nat.reduceSub, Nat.reduceEqDiff, Nat.reduceLT, Nat.reduceLeDiff, Nat.reduceBEq, Int.reduceAdd, Int.reduceSub, Int.reduceMul, Int.reduceNeg, Int.reduceToNat, Int.reduceLE, Int.reduceLT, Int.reduceEq, Int.reduceNatCast', Int.reduceNatCast, Int.natCast_zero, Int.toNat_natCast, Int.toNat_zero, Int.toNat_one, List.length_cons, List.length_nil, true_and, and_true, and_self, true_or, or_true, false_or, or_false, Bool.not_true, Bool.not_false, Nat.lt_add_one, Nat.zero_lt_succ, N0, swL_n, swL_c, List.toList_toArray, false_implies, true_implies, implies_true, forall_const, not_false_eq_true, not_true_eq_false, and_false, false_and, h1, r1, f1]
    simp only [hK9]
    clear hK9 K9v
    refine J_vret dX8_planWashes_57 rfl (by omega) (by omega) (hΦ M' hP)
  | succ k ih =>
    intro j M' hj hP
    have f1 : M' 0 8 = (n : Int) := by rw [hP.1 0 (by omega)]; exact hn
    have f2 : M' (367 + 5 * j) = M (367 + 5 * j) := hP.1 _ (by omega)
    obtain ⟨a1, -, -, a3, a4, -, -, -, -, a5, -, a2, -⟩ := job_at j (by omega)
    have h1 : (j : Int) < (n : Int) := by omega
    have r1 : -2147483648 ≤ (j : Int) ∧ (j : Int) ≤ 2147483647 := by omega
    have r2 : -2147483648 ≤ (n : Int) ∧ (n : Int) ≤ 2147483647 := by omega
    have i1 : (0 : Int) ≤ (j : Int) ∧ (j : Int) < 16 := by omega
    have i2 : 367 + 5 * j < 449 := by omega
    have hs := hst j (by omega)
    have r3 : -2147483648 ≤ M (367 + 5 * j) 5 ∧ M (367 + 5 * j) 5 ≤ 2147483647 := by omega
    rcases (show M (367 + 5 * j) 5 = 1 ∨ ¬ M (367 + 5 * j) 5 = 1 by omega) with q | q
    · refine J_rnG GM_fa (by omega) (by omega) (by omega) 21 _ _ _ _ (fun K9v hK9 => ?_)
      simp (maxSteps := 4000000) only [↓(X_iload_n (k := 1) (pc' := 10) dX8_planWashes_9 rfl rfl), ↓gI_1, ↓(X_aload_n (k := 0) (pc' := 11) dX8_planWashes_10 rfl rfl), ↓gR_0, ↓(X_getI (pc' := 14) fl_8_101 (by decide) dX8_planWashes_11 rfl), kd_0, ↓(X_icmp_ge (tgt := 57) (pc' := 17) dX8_planWashes_14 (by decide) rfl), ↓(X_aload_n (k := 0) (pc' := 18) dX8_planWashes_17 rfl rfl), ↓(X_getR (pc' := 21) fl_8_29 dX8_planWashes_18 rfl), ↓(gV_c r0_0_3), kd_73, ln_73, ↓(X_iload_n (k := 1) (pc' := 22) dX8_planWashes_21 rfl rfl), ↓(X_aaload (pc' := 23) dX8_planWashes_22 rfl), ↓(X_getI (pc' := 26) fl_8_118 (by decide) dX8_planWashes_23 rfl), ↓(X_iconst (pc' := 27) dX8_planWashes_26 rfl), ↓(X_icmp_ne (tgt := 51) (pc' := 30) dX8_planWashes_27 (by decide) rfl), ↓(X_aload_n (k := 0) (pc' := 31) dX8_planWashes_30 rfl rfl), ↓(X_getR (pc' := 34) fl_8_57 dX8_planWashes_31 rfl), ↓(gV_c r0_0_7), kd_89, ↓(X_iload_n (k := 1) (pc' := 35) dX8_planWashes_34 rfl rfl), ↓(X_aload_n (k := 0) (pc' := 36) dX8_planWashes_35 rfl rfl), ↓(X_getR (pc' := 39) fl_8_29 dX8_planWashes_36 rfl), ↓(X_iload_n (k := 1) (pc' := 40) dX8_planWashes_39 rfl rfl), ↓(X_aaload (pc' := 41) dX8_planWashes_40 rfl), ↓(X_getR (pc' := 44) fl_8_143 dX8_planWashes_41 rfl), ↓(X_aload_n (k := 0) (pc' := 45) dX8_planWashes_44 rfl rfl), ↓(X_getR (pc' := 48) fl_8_36 dX8_planWashes_45 rfl), ↓(gV_c r0_0_4), kd_74, rn_0, gV_s, ↓pI_c, ↓pII_c, ↓pL_c, ↓pLL_c, ↓pR_c, ↓pRI_c, ↓pRII_c, ↓pRIL_c, ↓pRR_c, ↓pV_c, ↓pVV_c, ↓gI_c, ↓gL_c, ↓gR_c, f2_0, f2_1, nk_n, nk_i, nk_r, ↓reduceIte, r32, r64, Nat.reduceAdd, Nat.reduceSub, Nat.reduceEqDiff, Nat.reduceLT, Nat.reduceLeDiff, Nat.reduceBEq, Int.reduceAdd, Int.reduceSub, Int.reduceMul, Int.reduceNeg, Int.reduceToNat, Int.reduceLE, Int.reduceLT, Int.reduceEq, Int.reduceNatCast', Int.reduceNatCast, Int.natCast_zero, Int.toNat_natCast, Int.toNat_zero, Int.toNat_one, List.length_cons, List.length_nil, true_and, and_true, and_self, true_or, or_true, false_or, or_false, Bool.not_true, Bool.not_false, Nat.lt_add_one, Nat.zero_lt_succ, N0, swL_n, swL_c, List.toList_toArray, false_implies, true_implies, implies_true, forall_const, not_false_eq_true, not_true_eq_false, and_false, false_and, h1, r1, r2, f1, f2, i1, i2, ↓(gV_c a2), ↓(gV_c a5), a1, q]
      simp only [hK9]
      clear hK9 K9v
      have hlt : nMix M j + 1 ≤ nMix M n := by
        have := nMix_mono (M := M) (show j + 1 ≤ n by omega)
        rw [nMix, if_pos q] at this
        omega
      refine J_callV (ci := 7) GM_fa (ok_add (M := M') (M0 := M) (d + 0) (nMix M j) j (mixAt M j) hP (by omega) (by omega) hJ hpr) (by first | exact calm_det | assumption | (intro q9 ν9 h9; obtain ⟨h8, h6, M9, h7, -⟩ := h9; exact ⟨⟨_, h8⟩, by rw [h7]; rfl⟩) | (intro q9 ν9 h9; obtain ⟨h8, M9, h7, -⟩ := h9; first | exact ⟨⟨_, h8⟩, by rw [h7]; rfl⟩ | exact ⟨⟨_, h7⟩, by rw [h8]; rfl⟩ | exact ⟨⟨_, h7⟩, by rw [h8]⟩)) dX8_planWashes_48 k_8_240 (by omega) (Nat.le_of_ble_eq_true rfl) ⟨by omega, by omega⟩ rfl (by decide +kernel) rfl (by decide) (by simp only [N0]; omega) (by simp) rfl (fun v ν hv => ?_)
      obtain ⟨hv0, M2, rfl, hP2⟩ := hv
      cases hv0
      simp only [Option.toList, List.nil_append]
      refine J_rnG GM_fa (by omega) (by omega) (by omega) 2 _ _ _ _ (fun K9v hK9 => ?_)
      simp (maxSteps := 4000000) only [↓(X_iinc (pc' := 54) dX8_planWashes_51 rfl), ↓gI_1, ↓sto_1, ↓(X_goto (pc' := 9) dX8_planWashes_54 (by decide)), rn_0, gV_s, ↓pI_c, ↓pII_c, ↓pL_c, ↓pLL_c, ↓pR_c, ↓pRI_c, ↓pRII_c, ↓pRIL_c, ↓pRR_c, ↓pV_c, ↓pVV_c, ↓gI_c, ↓gL_c, ↓gR_c, f2_0, f2_1, nk_n, nk_i, nk_r, ↓reduceIte, r32, r64, Nat.reduceAdd, Nat.reduceSub, Nat.reduceEqDiff, Nat.reduceLT, Nat.reduceLeDiff, Nat.reduceBEq, Int.reduceAdd, Int.reduceSub, Int.reduceMul, Int.reduceNeg, Int.reduceToNat, Int.reduceLE, Int.reduceLT, Int.reduceEq, Int.reduceNatCast', Int.reduceNatCast, Int.natCast_zero, Int.toNat_natCast, Int.toNat_zero, Int.toNat_one, List.length_cons, List.length_nil, true_and, and_true, and_self, true_or, or_true, false_or, or_false, Bool.not_true, Bool.not_false, Nat.lt_add_one, Nat.zero_lt_succ, N0, swL_n, swL_c, List.toList_toArray, false_implies, true_implies, implies_true, forall_const, not_false_eq_true, not_true_eq_false, and_false, false_and]
      simp only [hK9]
      clear hK9 K9v
      rw [show (j : Int) + 1 = ((j + 1 : Nat) : Int) by omega]
      refine ih (j + 1) M2 (by omega) ?_
      have e1 : nMix M (j + 1) = nMix M j + 1 := by rw [nMix, if_pos q]
      have e2 : mixAt M (j + 1) = fun k => if k = nMix M j then j else mixAt M j k := by
        funext k
        rw [mixAt]
        simp only [q, true_and]
      rw [e1, e2]
      exact hP2
    · refine J_rnG GM_fa (by omega) (by omega) (by omega) 11 _ _ _ _ (fun K9v hK9 => ?_)
      simp (maxSteps := 4000000) only [↓(X_iload_n (k := 1) (pc' := 10) dX8_planWashes_9 rfl rfl), ↓gI_1, ↓(X_aload_n (k := 0) (pc' := 11) dX8_planWashes_10 rfl rfl), ↓gR_0, ↓(X_getI (pc' := 14) fl_8_101 (by decide) dX8_planWashes_11 rfl), kd_0, ↓(X_icmp_ge (tgt := 57) (pc' := 17) dX8_planWashes_14 (by decide) rfl), ↓(X_aload_n (k := 0) (pc' := 18) dX8_planWashes_17 rfl rfl), ↓(X_getR (pc' := 21) fl_8_29 dX8_planWashes_18 rfl), ↓(gV_c r0_0_3), kd_73, ln_73, ↓(X_iload_n (k := 1) (pc' := 22) dX8_planWashes_21 rfl rfl), ↓(X_aaload (pc' := 23) dX8_planWashes_22 rfl), ↓(X_getI (pc' := 26) fl_8_118 (by decide) dX8_planWashes_23 rfl), ↓(X_iconst (pc' := 27) dX8_planWashes_26 rfl), ↓(X_icmp_ne (tgt := 51) (pc' := 30) dX8_planWashes_27 (by decide) rfl), rn_0, gV_s, ↓pI_c, ↓pII_c, ↓pL_c, ↓pLL_c, ↓pR_c, ↓pRI_c, ↓pRII_c, ↓pRIL_c, ↓pRR_c, ↓pV_c, ↓pVV_c, ↓gI_c, ↓gL_c, ↓gR_c, f2_0, f2_1, nk_n, nk_i, nk_r, ↓reduceIte, r32, r64, Nat.reduceAdd, Nat.reduceSub, Nat.reduceEqDiff, Nat.reduceLT, Nat.reduceLeDiff, Nat.reduceBEq, Int.reduceAdd, Int.reduceSub, Int.reduceMul, Int.reduceNeg, Int.reduceToNat, Int.reduceLE, Int.reduceLT, Int.reduceEq, Int.reduceNatCast', Int.reduceNatCast, Int.natCast_zero, Int.toNat_natCast, Int.toNat_zero, Int.toNat_one, List.length_cons, List.length_nil, true_and, and_true, and_self, true_or, or_true, false_or, or_false, Bool.not_true, Bool.not_false, Nat.lt_add_one, Nat.zero_lt_succ, N0, swL_n, swL_c, List.toList_toArray, false_implies, true_implies, implies_true, forall_const, not_false_eq_true, not_true_eq_false, and_false, false_and, h1, r1, r2, r3, f1, f2, i1, i2, ↓(gV_c a2), a1, q]
      simp only [hK9]
      clear hK9 K9v
      refine J_rnG GM_fa (by omega) (by omega) (by omega) 2 _ _ _ _ (fun K9v hK9 => ?_)
      simp (maxSteps := 4000000) only [↓(X_iinc (pc' := 54) dX8_planWashes_51 rfl), ↓gI_1, ↓sto_1, ↓(X_goto (pc' := 9) dX8_planWashes_54 (by decide)), rn_0, gV_s, ↓pI_c, ↓pII_c, ↓pL_c, ↓pLL_c, ↓pR_c, ↓pRI_c, ↓pRII_c, ↓pRIL_c, ↓pRR_c, ↓pV_c, ↓pVV_c, ↓gI_c, ↓gL_c, ↓gR_c, f2_0, f2_1, nk_n, nk_i, nk_r, ↓reduceIte, r32, r64, Nat.reduceAdd, Nat.reduceSub, Nat.reduceEqDiff, Nat.reduceLT, Nat.reduceLeDiff, Nat.reduceBEq, Int.reduceAdd, Int.reduceSub, Int.reduceMul, Int.reduceNeg, Int.reduceToNat, Int.reduceLE, Int.reduceLT, Int.reduceEq, Int.reduceNatCast', Int.reduceNatCast, Int.natCast_zero, Int.toNat_natCast, Int.toNat_zero, Int.toNat_one, List.length_cons, List.length_nil, true_and, and_true, and_self, true_or, or_true, false_or, or_false, Bool.not_true, Bool.not_false, Nat.lt_add_one, Nat.zero_lt_succ, N0, swL_n, swL_c, List.toList_toArray, false_implies, true_implies, implies_true, forall_const, not_false_eq_true, not_true_eq_false, and_false, false_and]
      simp only [hK9]
      clear hK9 K9v
      rw [show (j : Int) + 1 = ((j + 1 : Nat) : Int) by omega]
      refine ih (j + 1) M' (by omega) ?_
      have e1 : nMix M (j + 1) = nMix M j := by rw [nMix, if_neg q]; omega
      have e2 : mixAt M (j + 1) = mixAt M j := by
        funext k
        rw [mixAt, if_neg (fun z => q z.1)]
      rw [e1, e2]
      exact hP
set_option maxRecDepth 100000 in
set_option maxHeartbeats 4000000 in
theorem ok_planWashes {M : Nat → Nat → Int} (d n : Nat) (hn : M 0 8 = (n : Int)) (hn2 : n ≤ 16) (hst : ∀ i, i < 16 → 0 ≤ M (367 + 5 * i) 5 ∧ M (367 + 5 * i) 5 ≤ 2) (h8 : nMix M n ≤ 8) (hJ : jcOK M) (hpr : prOK M) (hw : wOK M) : Ok l D cy (d + 4) 0 0 yX8_planWashes cX8_planWashes 2 (none) [.inr (.inr (some (0)))] (N0, R0, M) (fun o ν => o = .inl none ∧ ∃ M2 : Nat → Nat → Int, ν = (N0, R0, M2) ∧ PI M M2 (nMix M n) (mixAt M n)) := by
  refine Ok.intro (o := 8) (ini := false) [some (.inr (.inr (some (0)))), none] (by decide +kernel) rfl (fun h => by cases h) rfl (Nat.le_of_ble_eq_true rfl) rfl ?_
  refine J_rnG GM_fa (by omega) (by omega) (by omega) 2 _ _ _ _ (fun K9v hK9 => ?_)
  simp (maxSteps := 4000000) only [↓(X_aload_n (k := 0) (pc' := 1) dX8_planWashes_0 rfl rfl), ↓gR_0, ↓(X_getR (pc' := 4) fl_8_57 dX8_planWashes_1 rfl), kd_0, ↓(gV_c r0_0_7), kd_89, rn_0, gV_s, ↓pI_c, ↓pII_c, ↓pL_c, ↓pLL_c, ↓pR_c, ↓pRI_c, ↓pRII_c, ↓pRIL_c, ↓pRR_c, ↓pV_c, ↓pVV_c, ↓gI_c, ↓gL_c, ↓gR_c, f2_0, f2_1, nk_n, nk_i, nk_r, ↓reduceIte, r32, r64, Nat.reduceAdd, Nat.reduceSub, Nat.reduceEqDiff, Nat.reduceLT, Nat.reduceLeDiff, Nat.reduceBEq, Int.reduceAdd, Int.reduceSub, Int.reduceMul, Int.reduceNeg, Int.reduceToNat, Int.reduceLE, Int.reduceLT, Int.reduceEq, Int.reduceNatCast', Int.reduceNatCast, Int.natCast_zero, Int.toNat_natCast, Int.toNat_zero, Int.toNat_one, List.length_cons, List.length_nil, true_and, and_true, and_self, true_or, or_true, false_or, or_false, Bool.not_true, Bool.not_false, Nat.lt_add_one, Nat.zero_lt_succ, N0, swL_n, swL_c, List.toList_toArray, false_implies, true_implies, implies_true, forall_const, not_false_eq_true, not_true_eq_false, and_false, false_and]
  simp only [hK9]
  clear hK9 K9v
  refine J_callVd (ci := 7) GM_fa (ok_clear (M := M) (d + 2)) dX8_planWashes_4 k_8_237 (by omega) (Nat.le_of_ble_eq_true rfl) ⟨by omega, by omega⟩ rfl (by decide +kernel) rfl (by decide) (by simp only [N0]; omega) (by simp) rfl rfl ?_
  simp only [Option.toList, List.nil_append]
  refine J_rnG GM_fa (by omega) (by omega) (by omega) 2 _ _ _ _ (fun K9v hK9 => ?_)
  simp (maxSteps := 4000000) only [↓(X_iconst (pc' := 8) dX8_planWashes_7 rfl), ↓(X_istore_n (k := 1) (pc' := 9) dX8_planWashes_8 rfl rfl), ↓sto_1, rn_0, gV_s, ↓pI_c, ↓pII_c, ↓pL_c, ↓pLL_c, ↓pR_c, ↓pRI_c, ↓pRII_c, ↓pRIL_c, ↓pRR_c, ↓pV_c, ↓pVV_c, ↓gI_c, ↓gL_c, ↓gR_c, f2_0, f2_1, nk_n, nk_i, nk_r, ↓reduceIte, r32, r64, Nat.reduceAdd, Nat.reduceSub, Nat.reduceEqDiff, Nat.reduceLT, Nat.reduceLeDiff, Nat.reduceBEq, Int.reduceAdd, Int.reduceSub, Int.reduceMul, Int.reduceNeg, Int.reduceToNat, Int.reduceLE, Int.reduceLT, Int.reduceEq, Int.reduceNatCast', Int.reduceNatCast, Int.natCast_zero, Int.toNat_natCast, Int.toNat_zero, Int.toNat_one, List.length_cons, List.length_nil, true_and, and_true, and_self, true_or, or_true, false_or, or_false, Bool.not_true, Bool.not_false, Nat.lt_add_one, Nat.zero_lt_succ, N0, swL_n, swL_c, List.toList_toArray, false_implies, true_implies, implies_true, forall_const, not_false_eq_true, not_true_eq_false, and_false, false_and]
  simp only [hK9]
  clear hK9 K9v
  refine jj_pw d n hn hn2 hst h8 hJ hpr (fun M' hP => ⟨rfl, M', rfl, hP⟩) n 0 _ (by omega) ⟨fun x hx => ?_, ⟨fun r hr j hj => ?_, fun s hs r hr => ?_⟩, ?_, fun k hk => ?_, fun j k hj hk hne => ?_⟩
  · funext j
    rw [up2_c (by omega)]
  · rw [up2_c (by omega)]
    exact hw.1 r hr j hj
  · rw [up2_c (by omega)]
    exact hw.2 s hs r hr
  · rw [up2_s]
    rfl
  · rw [nMix] at hk
    omega
  · rw [nMix] at hk
    omega
/-- the recipe's tenths go from the stock to the ink, of the first b bases -/
def fiM (M M' : Nat → Nat → Int) (i b : Nat) : Prop := (∀ x, x ≠ 8 → x ≠ 371 + 5 * i → M' x = M x) ∧ ∀ p, M' 8 p = M 8 p - (if p < b then M 81 p * (M (367 + 5 * i) 3 / 10 * 1000) else 0) ∧ M' (371 + 5 * i) p = M (371 + 5 * i) p + (if p < b then M 81 p * (M (367 + 5 * i) 3 / 10 * 1000) else 0)
set_option maxRecDepth 100000 in
set_option maxHeartbeats 4000000 in
theorem jj_fi {M : Nat → Nat → Int} {Φ : Out → Mem → Prop} (d i : Nat) (hi : i < 16) (hg : 0 ≤ M (367 + 5 * i) 3 ∧ M (367 + 5 * i) 3 ≤ 500) (hfin : ∀ (M' : Nat → Nat → Int) (w4 : Option AV), fiM M M' i 4 → J l D cy (GM l D cy 8 cX8_fillInk 5 (d + 4) 0 0 false none Φ) 57 [some (.inr (.inr (some 0))), some (.inr (.inr (some (367 + 5 * i)))), some (.inr (.inr (some 80))), some (.inl 4), w4] [] (449, R0, M') 0 0) : ∀ (k b : Nat) (M' : Nat → Nat → Int) (w4 : Option AV), nk w4 → b + k = 4 → fiM M M' i b →
    J l D cy (GM l D cy 8 cX8_fillInk 5 (d + 4) 0 0 false none Φ) 2 [some (.inr (.inr (some 0))), some (.inr (.inr (some (367 + 5 * i)))), some (.inr (.inr (some 80))), some (.inl (b : Int)), w4] [] (449, R0, M') 0 0 := by
  intro k
  induction k with
  | zero =>
    intro b M' w4 hw4 hb hM
    have e : b = 4 := by omega
    subst e
    refine J_rnG GM_fa (by omega) (by omega) (by omega) 3 _ _ _ _ (fun K9v hK9 => ?_)
    simp (maxSteps := 4000000) only [↓(X_iload_n (k := 3) (pc' := 3) dX8_fillInk_2 rfl rfl), ↓gI_3, ↓(X_iconst (pc' := 4) dX8_fillInk_3 rfl), ↓(X_icmp_ge (tgt := 57) (pc' := 7) dX8_fillInk_4 (by decide) rfl), rn_0, gV_s, ↓pI_c, ↓pII_c, ↓pL_c, ↓pLL_c, ↓pR_c, ↓pRI_c, ↓pRII_c, ↓pRIL_c, ↓pRR_c, ↓pV_c, ↓pVV_c, ↓gI_c, ↓gL_c, ↓gR_c, f2_0, f2_1, nk_n, nk_i, nk_r, ↓reduceIte, r32, r64, Nat.reduceAdd, Nat.reduceSub, Nat.reduceEqDiff, Nat.reduceLT, Nat.reduceLeDiff, Nat.reduceBEq, Int.reduceAdd, Int.reduceSub, Int.reduceMul, Int.reduceNeg, Int.reduceToNat, Int.reduceLE, Int.reduceLT, Int.reduceEq, Int.reduceNatCast', Int.reduceNatCast, Int.natCast_zero, Int.toNat_natCast, Int.toNat_zero, Int.toNat_one, List.length_cons, List.length_nil, true_and, and_true, and_self, true_or, or_true, false_or, or_false, Bool.not_true, Bool.not_false, Nat.lt_add_one, Nat.zero_lt_succ, N0, swL_n, swL_c, List.toList_toArray, false_implies, true_implies, implies_true, forall_const, not_false_eq_true, not_true_eq_false, and_false, false_and]
    simp only [hK9]
    clear hK9 K9v
    exact hfin M' _ hM
  | succ k ih =>
    intro b M' w4 hw4 hb hM
    obtain ⟨m1, m2⟩ := id hM
    obtain ⟨a1, -, -, -, -, b1, b2, b3, -, -, b4, a2, b5⟩ := job_at i (by omega)
    have h1 : (b : Int) < 4 := by omega
    have r1 : -2147483648 ≤ (b : Int) ∧ (b : Int) ≤ 2147483647 := by omega
    have h0 : (0 : Int) ≤ (b : Int) := by omega
    have i2 : 367 + 5 * i < 449 := by omega
    have i3 : 370 + 5 * i < 449 := by omega
    have i4 : 371 + 5 * i < 449 := by omega
    have fJ : M' (367 + 5 * i) = M (367 + 5 * i) := m1 _ (by omega) (by omega)
    have f81 : M' 81 = M 81 := m1 _ (by omega) (by omega)
    refine J_rnG GM_fa (by omega) (by omega) (by omega) 8 _ _ _ _ (fun K9v hK9 => ?_)
    simp (maxSteps := 4000000) only [↓(X_iload_n (k := 3) (pc' := 3) dX8_fillInk_2 rfl rfl), ↓gI_3, ↓(X_iconst (pc' := 4) dX8_fillInk_3 rfl), ↓(X_icmp_ge (tgt := 57) (pc' := 7) dX8_fillInk_4 (by decide) rfl), ↓(X_aload_n (k := 2) (pc' := 8) dX8_fillInk_7 rfl rfl), ↓gR_2, ↓(X_getR (pc' := 11) fl_8_222 dX8_fillInk_8 rfl), kd_80, ↓(gV_c r0_80_0), kd_81, ln_81, ↓(X_iload_n (k := 3) (pc' := 12) dX8_fillInk_11 rfl rfl), ↓(X_iaload (pc' := 13) dX8_fillInk_12 rfl), ↓(X_aload_n (k := 1) (pc' := 14) dX8_fillInk_13 rfl rfl), ↓gR_1, rn_0, gV_s, ↓pI_c, ↓pII_c, ↓pL_c, ↓pLL_c, ↓pR_c, ↓pRI_c, ↓pRII_c, ↓pRIL_c, ↓pRR_c, ↓pV_c, ↓pVV_c, ↓gI_c, ↓gL_c, ↓gR_c, f2_0, f2_1, nk_n, nk_i, nk_r, ↓reduceIte, r32, r64, Nat.reduceAdd, Nat.reduceSub, Nat.reduceEqDiff, Nat.reduceLT, Nat.reduceLeDiff, Nat.reduceBEq, Int.reduceAdd, Int.reduceSub, Int.reduceMul, Int.reduceNeg, Int.reduceToNat, Int.reduceLE, Int.reduceLT, Int.reduceEq, Int.reduceNatCast', Int.reduceNatCast, Int.natCast_zero, Int.toNat_natCast, Int.toNat_zero, Int.toNat_one, List.length_cons, List.length_nil, true_and, and_true, and_self, true_or, or_true, false_or, or_false, Bool.not_true, Bool.not_false, Nat.lt_add_one, Nat.zero_lt_succ, N0, swL_n, swL_c, List.toList_toArray, false_implies, true_implies, implies_true, forall_const, not_false_eq_true, not_true_eq_false, and_false, false_and, h1, h0, r1]
    simp only [hK9]
    clear hK9 K9v
    refine J_callVd (ci := 1) GM_fa (ok_milligramsOfTenth (M := M') (d + 1) i hi (by rw [fJ]; exact hg)) dX8_fillInk_14 k_8_225 (by omega) (Nat.le_of_ble_eq_true rfl) ⟨by omega, by omega⟩ rfl (by exact a1) rfl (by decide) (by simp only [N0]; omega) (by simp) rfl rfl ?_
    simp only [Option.toList, List.cons_append, List.nil_append]
    rw [fJ, f81]
    refine J_rnG GM_fa (by omega) (by omega) (by omega) 23 _ _ _ _ (fun K9v hK9 => ?_)
    simp (maxSteps := 4000000) only [↓(X_imul (pc' := 18) dX8_fillInk_17 rfl), ↓(X_istore (pc' := 20) dX8_fillInk_18 rfl), ↓sto_4, ↓(X_aload_n (k := 0) (pc' := 21) dX8_fillInk_20 rfl rfl), ↓gR_0, ↓(X_getR (pc' := 24) fl_8_10 dX8_fillInk_21 rfl), kd_0, ↓(gV_c r0_0_0), kd_1, ↓(X_getR (pc' := 27) fl_8_92 dX8_fillInk_24 rfl), ↓(gV_c r0_1_1), kd_7, ↓(X_getR (pc' := 30) fl_8_95 dX8_fillInk_27 rfl), ↓(gV_c r0_7_0), kd_8, ln_8, kd_71, ↓(gV_c r0_71_0), kd_72, ln_72, ↓(X_iload_n (k := 3) (pc' := 31) dX8_fillInk_30 rfl rfl), ↓gI_3, ↓(X_dup2 (pc' := 32) dX8_fillInk_31 rfl), ↓(X_iaload (pc' := 33) dX8_fillInk_32 rfl), ↓(X_iload (pc' := 35) dX8_fillInk_33 rfl), ↓gI_4, ↓(X_isub (pc' := 36) dX8_fillInk_35 rfl), ↓(X_iastore (pc' := 37) dX8_fillInk_36 rfl), ↓(X_aload_n (k := 1) (pc' := 38) dX8_fillInk_37 rfl rfl), ↓gR_1, ↓(X_getR (pc' := 41) fl_8_146 dX8_fillInk_38 rfl), ↓(X_getR (pc' := 44) fl_8_95 dX8_fillInk_41 rfl), ↓(X_iload_n (k := 3) (pc' := 45) dX8_fillInk_44 rfl rfl), ↓(X_dup2 (pc' := 46) dX8_fillInk_45 rfl), ↓(X_iaload (pc' := 47) dX8_fillInk_46 rfl), ↓(X_iload (pc' := 49) dX8_fillInk_47 rfl), ↓(X_iadd (pc' := 50) dX8_fillInk_49 rfl), ↓(X_iastore (pc' := 51) dX8_fillInk_50 rfl), ↓(X_iinc (pc' := 54) dX8_fillInk_51 rfl), ↓sto_3, ↓(X_goto (pc' := 2) dX8_fillInk_54 (by decide)), rn_0, gV_s, ↓pI_c, ↓pII_c, ↓pL_c, ↓pLL_c, ↓pR_c, ↓pRI_c, ↓pRII_c, ↓pRIL_c, ↓pRR_c, ↓pV_c, ↓pVV_c, ↓gI_c, ↓gL_c, ↓gR_c, f2_0, f2_1, nk_n, nk_i, nk_r, ↓reduceIte, r32, r64, Nat.reduceAdd, Nat.reduceSub, Nat.reduceEqDiff, Nat.reduceLT, Nat.reduceLeDiff, Nat.reduceBEq, Int.reduceAdd, Int.reduceSub, Int.reduceMul, Int.reduceNeg, Int.reduceToNat, Int.reduceLE, Int.reduceLT, Int.reduceEq, Int.reduceNatCast', Int.reduceNatCast, Int.natCast_zero, Int.toNat_natCast, Int.toNat_zero, Int.toNat_one, List.length_cons, List.length_nil, true_and, and_true, and_self, true_or, or_true, false_or, or_false, Bool.not_true, Bool.not_false, Nat.lt_add_one, Nat.zero_lt_succ, N0, swL_n, swL_c, List.toList_toArray, false_implies, true_implies, implies_true, forall_const, not_false_eq_true, not_true_eq_false, and_false, false_and, h1, h0, r1, hw4, ↓(gV_c b4), ↓(gV_c b5), a1, b1, b2, b3, i2, i3, i4, up2_s, up2_k, ne_eq, up2_c (show 371 + 5 * i ≠ 8 by omega)]
    simp only [hK9]
    clear hK9 K9v
    rw [show (b : Int) + 1 = ((b + 1 : Nat) : Int) by omega]
    refine ih (b + 1) _ _ (nk_i.mpr trivial) (by omega) ⟨fun x h1 h2 => ?_, fun p => ?_⟩
    · funext j
      rw [up2_c h2, up2_c h1, m1 x h1 h2]
    · obtain ⟨n1, n2⟩ := m2 p
      constructor
      · rw [up2_c (by omega)]
        rcases (show p = b ∨ p ≠ b by omega) with q | q
        · subst q
          rw [up2_s, n1, if_neg (by omega), if_pos (by omega)]
          omega
        · rw [up2_k q, n1]
          simp only [show (p < b + 1) = (p < b) from propext ⟨fun h => by omega, fun h => by omega⟩]
      · rcases (show p = b ∨ p ≠ b by omega) with q | q
        · subst q
          rw [up2_s, n2, if_neg (by omega), if_pos (by omega)]
          omega
        · rw [up2_k q, up2_c (by omega), n2]
          simp only [show (p < b + 1) = (p < b) from propext ⟨fun h => by omega, fun h => by omega⟩]
/-- what the filling takes of a tin -/
def takeV (M : Nat → Nat → Int) (i b : Nat) : Int := if 0 ≤ M 80 2 then takeF (M (11 + 2 * (M 80 2).toNat)) (M (367 + 5 * i) 3 / 10 * M 80 1 * 1000) b else 0
set_option maxRecDepth 100000 in
set_option maxHeartbeats 4000000 in
theorem ok_fillInk {M : Nat → Nat → Int} (d i T : Nat) (hi : i < 16) (hg : 10 ≤ M (367 + 5 * i) 3 ∧ M (367 + 5 * i) 3 ≤ 500) (hT : M 1 3 = (T : Int)) (hT30 : T ≤ 30) (ht : M 80 2 = -1 ∨ (0 ≤ M 80 2 ∧ M 80 2 < (T : Int) ∧ ink4 (M (11 + 2 * (M 80 2).toNat)) ∧ 0 ≤ M 80 1 ∧ M 80 1 ≤ 10)) : Ok l D cy (d + 4) 0 0 yX8_fillInk cX8_fillInk 5 (none) [.inr (.inr (some (0))), .inr (.inr (some (367 + 5 * i))), .inr (.inr (some (80)))] (N0, R0, M) (fun o ν => o = .inl none ∧ ∃ M2 : Nat → Nat → Int, ν = (N0, R0, M2) ∧ (∀ x, x ≠ 8 → x ≠ 371 + 5 * i → x ≠ 77 → x ≠ 78 → (0 ≤ M 80 2 → x ≠ 11 + 2 * (M 80 2).toNat) → M2 x = M x) ∧ ∀ b, b < 4 → M2 8 b = M 8 b - M 81 b * (M (367 + 5 * i) 3 / 10 * 1000) ∧ M2 (371 + 5 * i) b = M (371 + 5 * i) b + M 81 b * (M (367 + 5 * i) 3 / 10 * 1000) + takeV M i b ∧ (0 ≤ M 80 2 → M2 (11 + 2 * (M 80 2).toNat) b = M (11 + 2 * (M 80 2).toNat) b - takeV M i b)) := by
  refine Ok.intro (o := 8) (ini := false) [some (.inr (.inr (some (0)))), some (.inr (.inr (some (367 + 5 * i)))), some (.inr (.inr (some (80)))), none, none] (by decide +kernel) rfl (fun h => by cases h) rfl (Nat.le_of_ble_eq_true rfl) rfl ?_
  refine J_rnG GM_fa (by omega) (by omega) (by omega) 2 _ _ _ _ (fun K9v hK9 => ?_)
  simp (maxSteps := 4000000) only [↓(X_iconst (pc' := 1) dX8_fillInk_0 rfl), ↓(X_istore_n (k := 3) (pc' := 2) dX8_fillInk_1 rfl rfl), ↓sto_3, rn_0, gV_s, ↓pI_c, ↓pII_c, ↓pL_c, ↓pLL_c, ↓pR_c, ↓pRI_c, ↓pRII_c, ↓pRIL_c, ↓pRR_c, ↓pV_c, ↓pVV_c, ↓gI_c, ↓gL_c, ↓gR_c, f2_0, f2_1, nk_n, nk_i, nk_r, ↓reduceIte, r32, r64, Nat.reduceAdd, Nat.reduceSub, Nat.reduceEqDiff, Nat.reduceLT, Nat.reduceLeDiff, Nat.reduceBEq, Int.reduceAdd, Int.reduceSub, Int.reduceMul, Int.reduceNeg, Int.reduceToNat, Int.reduceLE, Int.reduceLT, Int.reduceEq, Int.reduceNatCast', Int.reduceNatCast, Int.natCast_zero, Int.toNat_natCast, Int.toNat_zero, Int.toNat_one, List.length_cons, List.length_nil, true_and, and_true, and_self, true_or, or_true, false_or, or_false, Bool.not_true, Bool.not_false, Nat.lt_add_one, Nat.zero_lt_succ, N0, swL_n, swL_c, List.toList_toArray, false_implies, true_implies, implies_true, forall_const, not_false_eq_true, not_true_eq_false, and_false, false_and]
  simp only [hK9]
  clear hK9 K9v
  refine jj_fi d i hi (by omega) (fun M' w4 hM => ?_) 4 0 M none (nk_n.mpr trivial) (by omega) ⟨fun _ _ _ => rfl, fun p => ⟨by rw [if_neg (by omega)]; omega, by rw [if_neg (by omega)]; omega⟩⟩
  obtain ⟨m1, m2⟩ := hM
  have f80 : M' 80 = M 80 := m1 80 (by omega) (by omega)
  have f1 : M' 1 = M 1 := m1 1 (by omega) (by omega)
  have fJ : M' (367 + 5 * i) = M (367 + 5 * i) := m1 _ (by omega) (by omega)
  rcases ht with q | ⟨q1, q2, q3, q4, q5⟩
  · have q' : ¬ (0 ≤ M 80 2) := by omega
    refine J_rnG GM_fa (by omega) (by omega) (by omega) 3 _ _ _ _ (fun K9v hK9 => ?_)
    simp (maxSteps := 4000000) only [↓(X_aload_n (k := 2) (pc' := 58) dX8_fillInk_57 rfl rfl), ↓gR_2, ↓(X_getI (pc' := 61) fl_8_228 (by decide) dX8_fillInk_58 rfl), kd_80, ↓(X_if_lt (tgt := 109) (pc' := 64) dX8_fillInk_61 (by decide) rfl), rn_0, gV_s, ↓pI_c, ↓pII_c, ↓pL_c, ↓pLL_c, ↓pR_c, ↓pRI_c, ↓pRII_c, ↓pRIL_c, ↓pRR_c, ↓pV_c, ↓pVV_c, ↓gI_c, ↓gL_c, ↓gR_c, f2_0, f2_1, nk_n, nk_i, nk_r, ↓reduceIte, r32, r64, Nat.reduceAdd, Nat.reduceSub, Nat.reduceEqDiff, Nat.reduceLT, Nat.reduceLeDiff, Nat.reduceBEq, Int.reduceAdd, Int.reduceSub, Int.reduceMul, Int.reduceNeg, Int.reduceToNat, Int.reduceLE, Int.reduceLT, Int.reduceEq, Int.reduceNatCast', Int.reduceNatCast, Int.natCast_zero, Int.toNat_natCast, Int.toNat_zero, Int.toNat_one, List.length_cons, List.length_nil, true_and, and_true, and_self, true_or, or_true, false_or, or_false, Bool.not_true, Bool.not_false, Nat.lt_add_one, Nat.zero_lt_succ, N0, swL_n, swL_c, List.toList_toArray, false_implies, true_implies, implies_true, forall_const, not_false_eq_true, not_true_eq_false, and_false, false_and, f80, q]
    simp only [hK9]
    clear hK9 K9v
    refine J_vret dX8_fillInk_109 rfl (by omega) (by omega) (⟨rfl, M', rfl, fun x h1 h2 _ _ _ => m1 x h1 h2, fun b hb => ⟨?_, ?_, fun z => absurd z q'⟩⟩)
    · rw [(m2 b).1, if_pos hb]
    · rw [(m2 b).2, if_pos hb, takeV, if_neg q']
      omega
  · obtain ⟨t, hte⟩ : ∃ t : Nat, M 80 2 = (t : Int) := ⟨(M 80 2).toNat, by omega⟩
    have hfin : ∀ M2 : Nat → Nat → Int, (∀ x, x ≠ 77 → x ≠ 78 → x ≠ 11 + 2 * t → x ≠ 371 + 5 * i → M2 x = M' x) → (∀ b, b < 4 → M2 (11 + 2 * t) b = M' (11 + 2 * t) b - takeV M i b ∧ M2 (371 + 5 * i) b = M' (371 + 5 * i) b + takeV M i b) → (∀ x, x ≠ 8 → x ≠ 371 + 5 * i → x ≠ 77 → x ≠ 78 → (0 ≤ M 80 2 → x ≠ 11 + 2 * (M 80 2).toNat) → M2 x = M x) ∧ ∀ b, b < 4 → M2 8 b = M 8 b - M 81 b * (M (367 + 5 * i) 3 / 10 * 1000) ∧ M2 (371 + 5 * i) b = M (371 + 5 * i) b + M 81 b * (M (367 + 5 * i) 3 / 10 * 1000) + takeV M i b ∧ (0 ≤ M 80 2 → M2 (11 + 2 * (M 80 2).toNat) b = M (11 + 2 * (M 80 2).toNat) b - takeV M i b) := by
      intro M2 x1 x2
      rw [hte, Int.toNat_natCast]
      refine ⟨fun x h1 h2 h3 h4 h5 => by rw [x1 x h3 h4 (h5 (by omega)) h2, m1 x h1 h2], fun b hb => ⟨?_, ?_, fun _ => ?_⟩⟩
      · rw [x1 8 (by omega) (by omega) (by omega) (by omega), (m2 b).1, if_pos hb]
      · rw [(x2 b hb).2, (m2 b).2, if_pos hb]
      · rw [(x2 b hb).1, m1 (11 + 2 * t) (by omega) (by omega)]
    rw [hte, Int.toNat_natCast] at q3
    rw [hte] at q1 q2
    obtain ⟨t1, t2, t3, t4, t5⟩ := tin_at t (by omega)
    obtain ⟨a1, -, -, -, -, b1, b2, b3, -, -, b4, a2, b5⟩ := job_at i (by omega)
    have h0 : ¬ (t : Int) < 0 := by omega
    have i1 : (0 : Int) ≤ (t : Int) ∧ (t : Int) < 30 := by omega
    have r1 : -2147483648 ≤ (t : Int) ∧ (t : Int) ≤ 2147483647 := by omega
    have r2 : -2147483648 ≤ (T : Int) ∧ (T : Int) ≤ 2147483647 := by omega
    have i2 : 367 + 5 * i < 449 := by omega
    refine J_rnG GM_fa (by omega) (by omega) (by omega) 20 _ _ _ _ (fun K9v hK9 => ?_)
    simp (maxSteps := 4000000) only [↓(X_aload_n (k := 2) (pc' := 58) dX8_fillInk_57 rfl rfl), ↓gR_2, ↓(X_getI (pc' := 61) fl_8_228 (by decide) dX8_fillInk_58 rfl), kd_80, ↓(X_if_lt (tgt := 109) (pc' := 64) dX8_fillInk_61 (by decide) rfl), ↓(X_aload_n (k := 2) (pc' := 65) dX8_fillInk_64 rfl rfl), ↓(X_getI (pc' := 68) fl_8_228 (by decide) dX8_fillInk_65 rfl), ↓(X_aload_n (k := 0) (pc' := 69) dX8_fillInk_68 rfl rfl), ↓gR_0, ↓(X_getR (pc' := 72) fl_8_10 dX8_fillInk_69 rfl), kd_0, ↓(gV_c r0_0_0), kd_1, ↓(X_getI (pc' := 75) fl_8_154 (by decide) dX8_fillInk_72 rfl), ↓(X_icmp_ge (tgt := 109) (pc' := 78) dX8_fillInk_75 (by decide) rfl), ↓(X_aload_n (k := 0) (pc' := 79) dX8_fillInk_78 rfl rfl), ↓(X_getR (pc' := 82) fl_8_43 dX8_fillInk_79 rfl), ↓(gV_c r0_0_5), kd_76, ↓(X_aload_n (k := 0) (pc' := 83) dX8_fillInk_82 rfl rfl), ↓(X_getR (pc' := 86) fl_8_10 dX8_fillInk_83 rfl), ↓(X_getR (pc' := 89) fl_8_218 dX8_fillInk_86 rfl), ↓(gV_c r0_1_2), kd_9, ln_9, ↓(X_aload_n (k := 2) (pc' := 90) dX8_fillInk_89 rfl rfl), ↓(X_getI (pc' := 93) fl_8_228 (by decide) dX8_fillInk_90 rfl), ↓(X_aaload (pc' := 94) dX8_fillInk_93 rfl), ↓(X_aload_n (k := 1) (pc' := 95) dX8_fillInk_94 rfl rfl), ↓gR_1, ↓(X_aload_n (k := 2) (pc' := 96) dX8_fillInk_95 rfl rfl), ↓(X_getI (pc' := 99) fl_8_231 (by decide) dX8_fillInk_96 rfl), rn_0, gV_s, ↓pI_c, ↓pII_c, ↓pL_c, ↓pLL_c, ↓pR_c, ↓pRI_c, ↓pRII_c, ↓pRIL_c, ↓pRR_c, ↓pV_c, ↓pVV_c, ↓gI_c, ↓gL_c, ↓gR_c, f2_0, f2_1, nk_n, nk_i, nk_r, ↓reduceIte, r32, r64, Nat.reduceAdd, Nat.reduceSub, Nat.reduceEqDiff, Nat.reduceLT, Nat.reduceLeDiff, Nat.reduceBEq, Int.reduceAdd, Int.reduceSub, Int.reduceMul, Int.reduceNeg, Int.reduceToNat, Int.reduceLE, Int.reduceLT, Int.reduceEq, Int.reduceNatCast', Int.reduceNatCast, Int.natCast_zero, Int.toNat_natCast, Int.toNat_zero, Int.toNat_one, List.length_cons, List.length_nil, true_and, and_true, and_self, true_or, or_true, false_or, or_false, Bool.not_true, Bool.not_false, Nat.lt_add_one, Nat.zero_lt_succ, N0, swL_n, swL_c, List.toList_toArray, false_implies, true_implies, implies_true, forall_const, not_false_eq_true, not_true_eq_false, and_false, false_and, f80, hte, h0, r1, r2, f1, hT, q2, i1, ↓(gV_c t4)]
    simp only [hK9]
    clear hK9 K9v
    refine J_callVd (ci := 1) GM_fa (ok_gramsOfTenths (M := M') (d + 2) i (M 80 1) hi (by rw [fJ]; omega)) dX8_fillInk_99 k_8_234 (by omega) (Nat.le_of_ble_eq_true rfl) ⟨by omega, by omega⟩ rfl (by exact a1) rfl (by decide) (by simp only [N0]; omega) (by simp) rfl rfl ?_
    simp only [Option.toList, List.cons_append, List.nil_append]
    rw [fJ]
    refine J_rnG GM_fa (by omega) (by omega) (by omega) 2 _ _ _ _ (fun K9v hK9 => ?_)
    simp (maxSteps := 4000000) only [↓(X_aload_n (k := 1) (pc' := 103) dX8_fillInk_102 rfl rfl), ↓gR_1, ↓(X_getR (pc' := 106) fl_8_146 dX8_fillInk_103 rfl), rn_0, gV_s, ↓pI_c, ↓pII_c, ↓pL_c, ↓pLL_c, ↓pR_c, ↓pRI_c, ↓pRII_c, ↓pRIL_c, ↓pRR_c, ↓pV_c, ↓pVV_c, ↓gI_c, ↓gL_c, ↓gR_c, f2_0, f2_1, nk_n, nk_i, nk_r, ↓reduceIte, r32, r64, Nat.reduceAdd, Nat.reduceSub, Nat.reduceEqDiff, Nat.reduceLT, Nat.reduceLeDiff, Nat.reduceBEq, Int.reduceAdd, Int.reduceSub, Int.reduceMul, Int.reduceNeg, Int.reduceToNat, Int.reduceLE, Int.reduceLT, Int.reduceEq, Int.reduceNatCast', Int.reduceNatCast, Int.natCast_zero, Int.toNat_natCast, Int.toNat_zero, Int.toNat_one, List.length_cons, List.length_nil, true_and, and_true, and_self, true_or, or_true, false_or, or_false, Bool.not_true, Bool.not_false, Nat.lt_add_one, Nat.zero_lt_succ, N0, swL_n, swL_c, List.toList_toArray, false_implies, true_implies, implies_true, forall_const, not_false_eq_true, not_true_eq_false, and_false, false_and, ↓(gV_c b4), a1, i2]
    simp only [hK9]
    clear hK9 K9v
    have hgr : 1 ≤ M (367 + 5 * i) 3 / 10 ∧ M (367 + 5 * i) 3 / 10 ≤ 50 := by omega
    have hgt := mul_bd (show 0 ≤ M (367 + 5 * i) 3 / 10 by omega) hgr.2 q4 q5
    have e11 : M' (10 + 2 * t + 1) = M (11 + 2 * t) := by rw [show 10 + 2 * t + 1 = 11 + 2 * t by omega]; exact m1 _ (by omega) (by omega)
    refine J_callV (ci := 2) GM_fa (ok_move (M := M') (d + 0) (10 + 2 * t) (370 + 5 * i) (M (367 + 5 * i) 3 / 10 * M 80 1) t1 (by omega) b1 (by omega) (by omega) (by rw [e11]; exact q3) ⟨hgt.1, by omega⟩) (by first | exact calm_det | assumption | (intro q9 ν9 h9; obtain ⟨h8, h6, M9, h7, -⟩ := h9; exact ⟨⟨_, h8⟩, by rw [h7]; rfl⟩) | (intro q9 ν9 h9; obtain ⟨h8, M9, h7, -⟩ := h9; first | exact ⟨⟨_, h8⟩, by rw [h7]; rfl⟩ | exact ⟨⟨_, h7⟩, by rw [h8]; rfl⟩ | exact ⟨⟨_, h7⟩, by rw [h8]⟩)) dX8_fillInk_106 k_8_157 (by omega) (Nat.le_of_ble_eq_true rfl) ⟨by omega, by omega⟩ rfl (by decide +kernel) rfl (by decide) (by simp only [N0]; omega) (by simp) rfl (fun v ν hv => ?_)
    obtain ⟨hv0, M2, rfl, x1, x2⟩ := hv
    cases hv0
    simp only [Option.toList, List.nil_append]
    have eT : ∀ b, takeV M i b = takeF (M (11 + 2 * t)) (M (367 + 5 * i) 3 / 10 * M 80 1 * 1000) b := fun b => by rw [takeV, hte, if_pos q1, Int.toNat_natCast]
    refine J_vret dX8_fillInk_109 rfl (by omega) (by omega) (⟨rfl, M2, rfl, hfin M2 (fun x h1 h2 h3 h4 => x1 x h1 h2 (by omega) (by omega)) (fun b hb => ?_)⟩)
    have := x2 b hb
    rw [e11, show 10 + 2 * t + 1 = 11 + 2 * t by omega, show 370 + 5 * i + 1 = 371 + 5 * i by omega] at this
    rw [eT, m1 (11 + 2 * t) (by omega) (by omega)]
    exact this
end CA
