/-! the face: washes; and what a found recipe is -/
/-- the costs between the mixed jobs of M, as the plan has them: 8 is the press -/
def cMM (M : Nat → Nat → Int) (n : Nat) : Nat → Nat → Int := fun r k => if r = 8 then pw M (mixAt M n k) else washF (M (369 + 5 * mixAt M n r)) (M (369 + 5 * mixAt M n k))
theorem tb_lt {s n k : Nat} (hs : s < 2 ^ n) (hk : s.testBit k = true) : k < n := by
  rcases (show k < n ∨ n ≤ k by omega) with h | h
  · exact h
  · have : s < 2 ^ k := Nat.lt_of_lt_of_le hs (Nat.pow_le_pow_right (by decide) h)
    rw [Nat.testBit_lt_two_pow this] at hk
    cases hk
theorem PI_TT {M M' : Nat → Nat → Int} {n N s r : Nat} (hP : PI M M' N (mixAt M n)) (hN : N ≤ 8) (hs : s < 2 ^ N) (hr : r = 8 ∨ (r < N ∧ s.testBit r = false)) : TT (fun r k => M' (101 + r) k) s r = TT (cMM M n) s r := by
  have h2 : s < 256 := Nat.lt_of_lt_of_le hs (show 2 ^ N ≤ 2 ^ 8 from Nat.pow_le_pow_right (by decide) hN)
  refine TT_congr (pop s) s r rfl h2 (fun k hk hb => ?_) (fun j k hj hk hjk hb1 hb2 => ?_)
  · have hkN := tb_lt hs hb
    obtain e | ⟨e1, e2⟩ := hr
    · subst e
      show M' 109 k = _
      rw [(hP.2.2.2.1 k hkN).2.2.2, cMM, if_pos rfl]
    · have hne : r ≠ k := fun e => by rw [e, hb] at e2; cases e2
      show M' (101 + r) k = _
      rw [hP.2.2.2.2 r k e1 hkN hne, cMM, if_neg (by omega)]
  · have hjN := tb_lt hs hb1
    have hkN := tb_lt hs hb2
    show M' (101 + j) k = _
    rw [hP.2.2.2.2 j k hjN hkN hjk, cMM, if_neg (by omega)]
theorem firstF_runs {F runs runs' : Nat → Int} {cost : Int} : ∀ (k j : Nat), (∀ i, j ≤ i → i < j + k → runs i = runs' i) → firstF F cost runs k j = firstF F cost runs' k j
  | 0, _, _ => rfl
  | k + 1, j, h => by
    rw [firstF, firstF, h j (by omega) (by omega), firstF_runs k (j + 1) (fun i h1 h2 => h i (by omega) (by omega))]
theorem pw2 {N : Nat} (hN : N ≤ 8) : 2 ^ N - 1 < 2 ^ N ∧ 2 ^ N ≤ 256 := by
  have h1 : 0 < 2 ^ N := Nat.pow_pos (by decide)
  have h2 : 2 ^ N ≤ 2 ^ 8 := Nat.pow_le_pow_right (by decide) hN
  omega
/-- the scratch cells of the plan -/
def scrP (x : Nat) : Prop := 89 ≤ x ∧ x < 367
section CE
variable {l : Launch} {D : va_G} {cy : Nat → ClassId}
set_option maxRecDepth 100000 in
set_option maxHeartbeats 4000000 in
theorem ok_washes {M : Nat → Nat → Int} (d n : Nat) (hn : M 0 8 = (n : Int)) (hn2 : n ≤ 16) (hst : ∀ i, i < 16 → 0 ≤ M (367 + 5 * i) 5 ∧ M (367 + 5 * i) 5 ≤ 2) (h8 : nMix M n ≤ 8) (hJ : jcOK M) (hpr : prOK M) (hw : wOK M) : Ok l D cy (d + 6) 0 0 yX8_washes cX8_washes 1 (some (.int)) [.inr (.inr (some (0)))] (N0, R0, M) (fun o ν => o = .inl (some (.inl (TT (cMM M n) (2 ^ nMix M n - 1) 8))) ∧ ∃ M2 : Nat → Nat → Int, ν = (N0, R0, M2) ∧ (∀ x, ¬ scrP x → M2 x = M x) ∧ wOK M2) := by
  refine Ok.intro (o := 8) (ini := false) [some (.inr (.inr (some (0))))] (by decide +kernel) rfl (fun h => by cases h) rfl (Nat.le_of_ble_eq_true rfl) rfl ?_
  refine J_rnG GM_fa (by omega) (by omega) (by omega) 1 _ _ _ _ (fun K9v hK9 => ?_)
  simp (maxSteps := 4000000) only [↓(X_aload_n (k := 0) (pc' := 1) dX8_washes_0 rfl rfl), ↓gR_0, rn_0, gV_s, ↓pI_c, ↓pII_c, ↓pL_c, ↓pLL_c, ↓pR_c, ↓pRI_c, ↓pRII_c, ↓pRIL_c, ↓pRR_c, ↓pV_c, ↓pVV_c, ↓gI_c, ↓gL_c, ↓gR_c, f2_0, f2_1, nk_n, nk_i, nk_r, ↓reduceIte, r32, r64, Nat.reduceAdd, Nat.reduceSub, Nat.reduceEqDiff, Nat.reduceLT, Nat.reduceLeDiff, Nat.reduceBEq, Int.reduceAdd, Int.reduceSub, Int.reduceMul, Int.reduceNeg, Int.reduceToNat, Int.reduceLE, Int.reduceLT, Int.reduceEq, Int.reduceNatCast', Int.reduceNatCast, Int.natCast_zero, Int.toNat_natCast, Int.toNat_zero, Int.toNat_one, List.length_cons, List.length_nil, true_and, and_true, and_self, true_or, or_true, false_or, or_false, Bool.not_true, Bool.not_false, Nat.lt_add_one, Nat.zero_lt_succ, N0, swL_n, swL_c, List.toList_toArray, false_implies, true_implies, implies_true, forall_const, not_false_eq_true, not_true_eq_false, and_false, false_and]
  simp only [hK9]
  clear hK9 K9v
  refine J_callV (ci := 8) GM_fa (ok_planWashes (M := M) (d + 1) n hn hn2 hst h8 hJ hpr hw) (by first | exact calm_det | assumption | (intro q9 ν9 h9; obtain ⟨h8, h6, M9, h7, -⟩ := h9; exact ⟨⟨_, h8⟩, by rw [h7]; rfl⟩) | (intro q9 ν9 h9; obtain ⟨h8, M9, h7, -⟩ := h9; first | exact ⟨⟨_, h8⟩, by rw [h7]; rfl⟩ | exact ⟨⟨_, h7⟩, by rw [h8]; rfl⟩ | exact ⟨⟨_, h7⟩, by rw [h8]⟩)) dX8_washes_1 k_8_191 (by omega) (Nat.le_of_ble_eq_true rfl) ⟨by omega, by omega⟩ rfl (by decide +kernel) rfl (by decide) (by simp only [N0]; omega) (by simp) rfl (fun v ν hv => ?_)
  obtain ⟨hv0, M1, rfl, hP⟩ := hv
  cases hv0
  simp only [Option.toList, List.nil_append]
  refine J_rnG GM_fa (by omega) (by omega) (by omega) 2 _ _ _ _ (fun K9v hK9 => ?_)
  simp (maxSteps := 4000000) only [↓(X_aload_n (k := 0) (pc' := 5) dX8_washes_4 rfl rfl), ↓gR_0, ↓(X_getR (pc' := 8) fl_8_57 dX8_washes_5 rfl), kd_0, ↓(gV_c r0_0_7), kd_89, rn_0, gV_s, ↓pI_c, ↓pII_c, ↓pL_c, ↓pLL_c, ↓pR_c, ↓pRI_c, ↓pRII_c, ↓pRIL_c, ↓pRR_c, ↓pV_c, ↓pVV_c, ↓gI_c, ↓gL_c, ↓gR_c, f2_0, f2_1, nk_n, nk_i, nk_r, ↓reduceIte, r32, r64, Nat.reduceAdd, Nat.reduceSub, Nat.reduceEqDiff, Nat.reduceLT, Nat.reduceLeDiff, Nat.reduceBEq, Int.reduceAdd, Int.reduceSub, Int.reduceMul, Int.reduceNeg, Int.reduceToNat, Int.reduceLE, Int.reduceLT, Int.reduceEq, Int.reduceNatCast', Int.reduceNatCast, Int.natCast_zero, Int.toNat_natCast, Int.toNat_zero, Int.toNat_one, List.length_cons, List.length_nil, true_and, and_true, and_self, true_or, or_true, false_or, or_false, Bool.not_true, Bool.not_false, Nat.lt_add_one, Nat.zero_lt_succ, N0, swL_n, swL_c, List.toList_toArray, false_implies, true_implies, implies_true, forall_const, not_false_eq_true, not_true_eq_false, and_false, false_and]
  simp only [hK9]
  clear hK9 K9v
  refine J_callV (ci := 7) GM_fa (ok_leastBySets (M := M1) (d + 3) (nMix M n) hP.2.2.1 h8 hP.2.1) (by first | exact calm_det | assumption | (intro q9 ν9 h9; obtain ⟨h8, h6, M9, h7, -⟩ := h9; exact ⟨⟨_, h8⟩, by rw [h7]; rfl⟩) | (intro q9 ν9 h9; obtain ⟨h8, M9, h7, -⟩ := h9; first | exact ⟨⟨_, h8⟩, by rw [h7]; rfl⟩ | exact ⟨⟨_, h7⟩, by rw [h8]; rfl⟩ | exact ⟨⟨_, h7⟩, by rw [h8]⟩)) dX8_washes_8 k_8_194 (by omega) (Nat.le_of_ble_eq_true rfl) ⟨by omega, by omega⟩ rfl (by decide +kernel) rfl (by decide) (by simp only [N0]; omega) (by simp) rfl (fun v ν hv => ?_)
  obtain ⟨hv0, M2, rfl, hT⟩ := hv
  cases hv0
  simp only [Option.toList, List.cons_append, List.nil_append]
  rw [PI_TT hP h8 (pw2 h8).1 (Or.inl rfl)]
  refine J_iret dX8_washes_11 rfl (by omega) (by omega) (⟨rfl, M2, rfl, fun x hx => ?_, hT.2.1⟩)
  simp only [scrP] at hx
  rw [hT.1 x (by omega), hP.1 x (by omega)]
set_option maxRecDepth 100000 in
set_option maxHeartbeats 4000000 in
theorem ok_washesByAll {M : Nat → Nat → Int} (hl9 : l.stackTraces = false) (d n : Nat) (hn : M 0 8 = (n : Int)) (hn2 : n ≤ 16) (hst : ∀ i, i < 16 → 0 ≤ M (367 + 5 * i) 5 ∧ M (367 + 5 * i) 5 ≤ 2) (h8 : nMix M n ≤ 8) (hJ : jcOK M) (hpr : prOK M) (hw : wOK M) : Ok l D cy (d + 11) 1 6 yX8_washesByAll cX8_washesByAll 1 (some (.int)) [.inr (.inr (some (0)))] (N0, R0, M) (fun o ν => o = outF [ISE] (if nMix M n ≤ 7 then 0 else 1) (some (.inl (TT (cMM M n) (2 ^ nMix M n - 1) 8))) ∧ ∃ M2 : Nat → Nat → Int, ν = (N0, R0, M2) ∧ (∀ x, ¬ scrP x → M2 x = M x) ∧ wOK M2) := by
  refine Ok.intro (o := 8) (ini := false) [some (.inr (.inr (some (0))))] (by decide +kernel) rfl (fun h => by cases h) rfl (Nat.le_of_ble_eq_true rfl) rfl ?_
  refine J_rnG GM_fa (by omega) (by omega) (by omega) 1 _ _ _ _ (fun K9v hK9 => ?_)
  simp (maxSteps := 4000000) only [↓(X_aload_n (k := 0) (pc' := 1) dX8_washesByAll_0 rfl rfl), ↓gR_0, rn_0, gV_s, ↓pI_c, ↓pII_c, ↓pL_c, ↓pLL_c, ↓pR_c, ↓pRI_c, ↓pRII_c, ↓pRIL_c, ↓pRR_c, ↓pV_c, ↓pVV_c, ↓gI_c, ↓gL_c, ↓gR_c, f2_0, f2_1, nk_n, nk_i, nk_r, ↓reduceIte, r32, r64, Nat.reduceAdd, Nat.reduceSub, Nat.reduceEqDiff, Nat.reduceLT, Nat.reduceLeDiff, Nat.reduceBEq, Int.reduceAdd, Int.reduceSub, Int.reduceMul, Int.reduceNeg, Int.reduceToNat, Int.reduceLE, Int.reduceLT, Int.reduceEq, Int.reduceNatCast', Int.reduceNatCast, Int.natCast_zero, Int.toNat_natCast, Int.toNat_zero, Int.toNat_one, List.length_cons, List.length_nil, true_and, and_true, and_self, true_or, or_true, false_or, or_false, Bool.not_true, Bool.not_false, Nat.lt_add_one, Nat.zero_lt_succ, N0, swL_n, swL_c, List.toList_toArray, false_implies, true_implies, implies_true, forall_const, not_false_eq_true, not_true_eq_false, and_false, false_and]
  simp only [hK9]
  clear hK9 K9v
  refine J_callVd (ci := 8) GM_fa (ok_countMixed (M := M) (d + 9) n hn hn2 hst) dX8_washesByAll_1 k_8_135 (by omega) (Nat.le_of_ble_eq_true rfl) ⟨by omega, by omega⟩ rfl (by decide +kernel) rfl (by decide) (by simp only [N0]; omega) (by simp) rfl rfl ?_
  simp only [Option.toList, List.cons_append, List.nil_append]
  have r1 : -2147483648 ≤ (nMix M n : Int) ∧ (nMix M n : Int) ≤ 2147483647 := by omega
  rcases (show nMix M n ≤ 7 ∨ ¬ nMix M n ≤ 7 by omega) with q | q
  · have q' : ¬ (7 : Int) < (nMix M n : Int) := by omega
    rw [if_pos q]
    refine J_rnG GM_fa (by omega) (by omega) (by omega) 2 _ _ _ _ (fun K9v hK9 => ?_)
    simp (maxSteps := 4000000) only [↓(X_bipush (pc' := 6) dX8_washesByAll_4 rfl), ↓(X_icmp_le (tgt := 17) (pc' := 9) dX8_washesByAll_6 (by decide) rfl), rn_0, gV_s, ↓pI_c, ↓pII_c, ↓pL_c, ↓pLL_c, ↓pR_c, ↓pRI_c, ↓pRII_c, ↓pRIL_c, ↓pRR_c, ↓pV_c, ↓pVV_c, ↓gI_c, ↓gL_c, ↓gR_c, f2_0, f2_1, nk_n, nk_i, nk_r, ↓reduceIte, r32, r64, Nat.reduceAdd, Nat.reduceSub, Nat.reduceEqDiff, Nat.reduceLT, Nat.reduceLeDiff, Nat.reduceBEq, Int.reduceAdd, Int.reduceSub, Int.reduceMul, Int.reduceNeg, Int.reduceToNat, Int.reduceLE, Int.reduceLT, Int.reduceEq, Int.reduceNatCast', Int.reduceNatCast, Int.natCast_zero, Int.toNat_natCast, Int.toNat_zero, Int.toNat_one, List.length_cons, List.length_nil, true_and, and_true, and_self, true_or, or_true, false_or, or_false, Bool.not_true, Bool.not_false, Nat.lt_add_one, Nat.zero_lt_succ, N0, swL_n, swL_c, List.toList_toArray, false_implies, true_implies, implies_true, forall_const, not_false_eq_true, not_true_eq_false, and_false, false_and, q', r1]
    simp only [hK9]
    clear hK9 K9v
    refine J_rnG GM_fa (by omega) (by omega) (by omega) 1 _ _ _ _ (fun K9v hK9 => ?_)
    simp (maxSteps := 4000000) only [↓(X_aload_n (k := 0) (pc' := 18) dX8_washesByAll_17 rfl rfl), ↓gR_0, rn_0, gV_s, ↓pI_c, ↓pII_c, ↓pL_c, ↓pLL_c, ↓pR_c, ↓pRI_c, ↓pRII_c, ↓pRIL_c, ↓pRR_c, ↓pV_c, ↓pVV_c, ↓gI_c, ↓gL_c, ↓gR_c, f2_0, f2_1, nk_n, nk_i, nk_r, ↓reduceIte, r32, r64, Nat.reduceAdd, Nat.reduceSub, Nat.reduceEqDiff, Nat.reduceLT, Nat.reduceLeDiff, Nat.reduceBEq, Int.reduceAdd, Int.reduceSub, Int.reduceMul, Int.reduceNeg, Int.reduceToNat, Int.reduceLE, Int.reduceLT, Int.reduceEq, Int.reduceNatCast', Int.reduceNatCast, Int.natCast_zero, Int.toNat_natCast, Int.toNat_zero, Int.toNat_one, List.length_cons, List.length_nil, true_and, and_true, and_self, true_or, or_true, false_or, or_false, Bool.not_true, Bool.not_false, Nat.lt_add_one, Nat.zero_lt_succ, N0, swL_n, swL_c, List.toList_toArray, false_implies, true_implies, implies_true, forall_const, not_false_eq_true, not_true_eq_false, and_false, false_and]
    simp only [hK9]
    clear hK9 K9v
    refine J_callV (ci := 8) GM_fa (ok_planWashes (M := M) (d + 6) n hn hn2 hst h8 hJ hpr hw) (by first | exact calm_det | assumption | (intro q9 ν9 h9; obtain ⟨h8, h6, M9, h7, -⟩ := h9; exact ⟨⟨_, h8⟩, by rw [h7]; rfl⟩) | (intro q9 ν9 h9; obtain ⟨h8, M9, h7, -⟩ := h9; first | exact ⟨⟨_, h8⟩, by rw [h7]; rfl⟩ | exact ⟨⟨_, h7⟩, by rw [h8]; rfl⟩ | exact ⟨⟨_, h7⟩, by rw [h8]⟩)) dX8_washesByAll_18 k_8_191 (by omega) (Nat.le_of_ble_eq_true rfl) ⟨by omega, by omega⟩ rfl (by decide +kernel) rfl (by decide) (by simp only [N0]; omega) (by simp) rfl (fun v ν hv => ?_)
    obtain ⟨hv0, M1, rfl, hP⟩ := hv
    cases hv0
    simp only [Option.toList, List.nil_append]
    refine J_rnG GM_fa (by omega) (by omega) (by omega) 2 _ _ _ _ (fun K9v hK9 => ?_)
    simp (maxSteps := 4000000) only [↓(X_aload_n (k := 0) (pc' := 22) dX8_washesByAll_21 rfl rfl), ↓gR_0, ↓(X_getR (pc' := 25) fl_8_57 dX8_washesByAll_22 rfl), kd_0, ↓(gV_c r0_0_7), kd_89, rn_0, gV_s, ↓pI_c, ↓pII_c, ↓pL_c, ↓pLL_c, ↓pR_c, ↓pRI_c, ↓pRII_c, ↓pRIL_c, ↓pRR_c, ↓pV_c, ↓pVV_c, ↓gI_c, ↓gL_c, ↓gR_c, f2_0, f2_1, nk_n, nk_i, nk_r, ↓reduceIte, r32, r64, Nat.reduceAdd, Nat.reduceSub, Nat.reduceEqDiff, Nat.reduceLT, Nat.reduceLeDiff, Nat.reduceBEq, Int.reduceAdd, Int.reduceSub, Int.reduceMul, Int.reduceNeg, Int.reduceToNat, Int.reduceLE, Int.reduceLT, Int.reduceEq, Int.reduceNatCast', Int.reduceNatCast, Int.natCast_zero, Int.toNat_natCast, Int.toNat_zero, Int.toNat_one, List.length_cons, List.length_nil, true_and, and_true, and_self, true_or, or_true, false_or, or_false, Bool.not_true, Bool.not_false, Nat.lt_add_one, Nat.zero_lt_succ, N0, swL_n, swL_c, List.toList_toArray, false_implies, true_implies, implies_true, forall_const, not_false_eq_true, not_true_eq_false, and_false, false_and]
    simp only [hK9]
    clear hK9 K9v
    refine J_callVd (ci := 7) GM_fa (ok_leastByAllOrders (M := M1) (d + 0) (nMix M n) hP.2.2.1 h8 hP.2.1) dX8_washesByAll_25 k_8_197 (by omega) (Nat.le_of_ble_eq_true rfl) ⟨by omega, by omega⟩ rfl (by decide +kernel) rfl (by decide) (by simp only [N0]; omega) (by simp) rfl rfl ?_
    simp only [Option.toList, List.cons_append, List.nil_append]
    rw [PI_TT hP h8 (pw2 h8).1 (Or.inl rfl)]
    refine J_iret dX8_washesByAll_28 rfl (by omega) (by omega) (⟨rfl, M1, rfl, fun x hx => ?_, hP.2.1⟩)
    simp only [scrP] at hx
    rw [hP.1 x (by omega)]
  · have q' : (7 : Int) < (nMix M n : Int) := by omega
    rw [if_neg q]
    refine J_rnG GM_fa (by omega) (by omega) (by omega) 2 _ _ _ _ (fun K9v hK9 => ?_)
    simp (maxSteps := 4000000) only [↓(X_bipush (pc' := 6) dX8_washesByAll_4 rfl), ↓(X_icmp_le (tgt := 17) (pc' := 9) dX8_washesByAll_6 (by decide) rfl), rn_0, gV_s, ↓pI_c, ↓pII_c, ↓pL_c, ↓pLL_c, ↓pR_c, ↓pRI_c, ↓pRII_c, ↓pRIL_c, ↓pRR_c, ↓pV_c, ↓pVV_c, ↓gI_c, ↓gL_c, ↓gR_c, f2_0, f2_1, nk_n, nk_i, nk_r, ↓reduceIte, r32, r64, Nat.reduceAdd, Nat.reduceSub, Nat.reduceEqDiff, Nat.reduceLT, Nat.reduceLeDiff, Nat.reduceBEq, Int.reduceAdd, Int.reduceSub, Int.reduceMul, Int.reduceNeg, Int.reduceToNat, Int.reduceLE, Int.reduceLT, Int.reduceEq, Int.reduceNatCast', Int.reduceNatCast, Int.natCast_zero, Int.toNat_natCast, Int.toNat_zero, Int.toNat_one, List.length_cons, List.length_nil, true_and, and_true, and_self, true_or, or_true, false_or, or_false, Bool.not_true, Bool.not_false, Nat.lt_add_one, Nat.zero_lt_succ, N0, swL_n, swL_c, List.toList_toArray, false_implies, true_implies, implies_true, forall_const, not_false_eq_true, not_true_eq_false, and_false, false_and, q', r1]
    simp only [hK9]
    clear hK9 K9v
    refine J_throw hl9 tOK_77 dX8_washesByAll_9 dX8_washesByAll_12 dX8_washesByAll_13 dX8_washesByAll_16 (by omega) (by simp) (by omega) (by omega) (⟨rfl, M, rfl, fun _ _ => rfl, hw⟩)
set_option maxRecDepth 100000 in
set_option maxHeartbeats 4000000 in
theorem ok_firstRun {M : Nat → Nat → Int} (d n : Nat) (hn : M 0 8 = (n : Int)) (hn2 : n ≤ 16) (hst : ∀ i, i < 16 → 0 ≤ M (367 + 5 * i) 5 ∧ M (367 + 5 * i) 5 ≤ 2) (h8 : nMix M n ≤ 8) (hJ : jcOK M) (hpr : prOK M) (hw : wOK M) : Ok l D cy (d + 6) 0 0 yX8_firstRun cX8_firstRun 1 (some (.int)) [.inr (.inr (some (0)))] (N0, R0, M) (fun o ν => o = .inl (some (.inl (firstV (cMM M n) (nMix M n) (fun k => (mixAt M n k : Int))))) ∧ ∃ M2 : Nat → Nat → Int, ν = (N0, R0, M2) ∧ (∀ x, ¬ scrP x → M2 x = M x) ∧ wOK M2) := by
  refine Ok.intro (o := 8) (ini := false) [some (.inr (.inr (some (0))))] (by decide +kernel) rfl (fun h => by cases h) rfl (Nat.le_of_ble_eq_true rfl) rfl ?_
  refine J_rnG GM_fa (by omega) (by omega) (by omega) 1 _ _ _ _ (fun K9v hK9 => ?_)
  simp (maxSteps := 4000000) only [↓(X_aload_n (k := 0) (pc' := 1) dX8_firstRun_0 rfl rfl), ↓gR_0, rn_0, gV_s, ↓pI_c, ↓pII_c, ↓pL_c, ↓pLL_c, ↓pR_c, ↓pRI_c, ↓pRII_c, ↓pRIL_c, ↓pRR_c, ↓pV_c, ↓pVV_c, ↓gI_c, ↓gL_c, ↓gR_c, f2_0, f2_1, nk_n, nk_i, nk_r, ↓reduceIte, r32, r64, Nat.reduceAdd, Nat.reduceSub, Nat.reduceEqDiff, Nat.reduceLT, Nat.reduceLeDiff, Nat.reduceBEq, Int.reduceAdd, Int.reduceSub, Int.reduceMul, Int.reduceNeg, Int.reduceToNat, Int.reduceLE, Int.reduceLT, Int.reduceEq, Int.reduceNatCast', Int.reduceNatCast, Int.natCast_zero, Int.toNat_natCast, Int.toNat_zero, Int.toNat_one, List.length_cons, List.length_nil, true_and, and_true, and_self, true_or, or_true, false_or, or_false, Bool.not_true, Bool.not_false, Nat.lt_add_one, Nat.zero_lt_succ, N0, swL_n, swL_c, List.toList_toArray, false_implies, true_implies, implies_true, forall_const, not_false_eq_true, not_true_eq_false, and_false, false_and]
  simp only [hK9]
  clear hK9 K9v
  refine J_callV (ci := 8) GM_fa (ok_planWashes (M := M) (d + 1) n hn hn2 hst h8 hJ hpr hw) (by first | exact calm_det | assumption | (intro q9 ν9 h9; obtain ⟨h8, h6, M9, h7, -⟩ := h9; exact ⟨⟨_, h8⟩, by rw [h7]; rfl⟩) | (intro q9 ν9 h9; obtain ⟨h8, M9, h7, -⟩ := h9; first | exact ⟨⟨_, h8⟩, by rw [h7]; rfl⟩ | exact ⟨⟨_, h7⟩, by rw [h8]; rfl⟩ | exact ⟨⟨_, h7⟩, by rw [h8]⟩)) dX8_firstRun_1 k_8_191 (by omega) (Nat.le_of_ble_eq_true rfl) ⟨by omega, by omega⟩ rfl (by decide +kernel) rfl (by decide) (by simp only [N0]; omega) (by simp) rfl (fun v ν hv => ?_)
  obtain ⟨hv0, M1, rfl, hP⟩ := hv
  cases hv0
  simp only [Option.toList, List.nil_append]
  refine J_rnG GM_fa (by omega) (by omega) (by omega) 2 _ _ _ _ (fun K9v hK9 => ?_)
  simp (maxSteps := 4000000) only [↓(X_aload_n (k := 0) (pc' := 5) dX8_firstRun_4 rfl rfl), ↓gR_0, ↓(X_getR (pc' := 8) fl_8_57 dX8_firstRun_5 rfl), kd_0, ↓(gV_c r0_0_7), kd_89, rn_0, gV_s, ↓pI_c, ↓pII_c, ↓pL_c, ↓pLL_c, ↓pR_c, ↓pRI_c, ↓pRII_c, ↓pRIL_c, ↓pRR_c, ↓pV_c, ↓pVV_c, ↓gI_c, ↓gL_c, ↓gR_c, f2_0, f2_1, nk_n, nk_i, nk_r, ↓reduceIte, r32, r64, Nat.reduceAdd, Nat.reduceSub, Nat.reduceEqDiff, Nat.reduceLT, Nat.reduceLeDiff, Nat.reduceBEq, Int.reduceAdd, Int.reduceSub, Int.reduceMul, Int.reduceNeg, Int.reduceToNat, Int.reduceLE, Int.reduceLT, Int.reduceEq, Int.reduceNatCast', Int.reduceNatCast, Int.natCast_zero, Int.toNat_natCast, Int.toNat_zero, Int.toNat_one, List.length_cons, List.length_nil, true_and, and_true, and_self, true_or, or_true, false_or, or_false, Bool.not_true, Bool.not_false, Nat.lt_add_one, Nat.zero_lt_succ, N0, swL_n, swL_c, List.toList_toArray, false_implies, true_implies, implies_true, forall_const, not_false_eq_true, not_true_eq_false, and_false, false_and]
  simp only [hK9]
  clear hK9 K9v
  refine J_callV (ci := 7) GM_fa (ok_firstOfBest (M := M1) (d + 2) (nMix M n) hP.2.2.1 h8 hP.2.1 (fun k hk => by rw [(hP.2.2.2.1 k hk).2.1]; have := (hP.2.2.2.1 k hk).1; simp only [r32]; omega)) (by first | exact calm_det | assumption | (intro q9 ν9 h9; obtain ⟨h8, h6, M9, h7, -⟩ := h9; exact ⟨⟨_, h8⟩, by rw [h7]; rfl⟩) | (intro q9 ν9 h9; obtain ⟨h8, M9, h7, -⟩ := h9; first | exact ⟨⟨_, h8⟩, by rw [h7]; rfl⟩ | exact ⟨⟨_, h7⟩, by rw [h8]; rfl⟩ | exact ⟨⟨_, h7⟩, by rw [h8]⟩)) dX8_firstRun_8 k_8_200 (by omega) (Nat.le_of_ble_eq_true rfl) ⟨by omega, by omega⟩ rfl (by decide +kernel) rfl (by decide) (by simp only [N0]; omega) (by simp) rfl (fun v ν hv => ?_)
  obtain ⟨hv0, M2, rfl, hT⟩ := hv
  cases hv0
  simp only [Option.toList, List.cons_append, List.nil_append]
  have e : firstV (fun r k => M1 (101 + r) k) (nMix M n) (M1 90) = firstV (cMM M n) (nMix M n) (fun k => (mixAt M n k : Int)) := by
    rw [firstV, firstV, PI_TT hP h8 (pw2 h8).1 (Or.inl rfl), firstF_runs (runs' := fun k => (mixAt M n k : Int)) (nMix M n) 0 (fun i h1 h2 => (hP.2.2.2.1 i (by omega)).2.1)]
    refine firstF_congr (nMix M n) 0 (fun i h1 h2 => ?_)
    have hi : i < nMix M n := by omega
    obtain ⟨-, b2, -, -, -, b6⟩ := bt_all (nMix M n) h8
    have hb := bt_has (nMix M n) h8 i hi
    obtain ⟨c1, c2, c3⟩ := pop_step (2 ^ nMix M n - 1) b2 i (by omega) hb
    have hs' : 2 ^ nMix M n - 1 - 2 ^ i < 2 ^ nMix M n := by
      have := (pw2 h8).1
      omega
    rw [PI_TT hP h8 hs' (Or.inr ⟨hi, by rw [bt_sub _ b2 i (by omega) hb i (by omega)]; simp⟩)]
    show M1 109 i + _ = _
    rw [(hP.2.2.2.1 i hi).2.2.2, cMM, if_pos rfl]
  rw [e]
  refine J_iret dX8_firstRun_11 rfl (by omega) (by omega) (⟨rfl, M2, rfl, fun x hx => ?_, hT.2.1⟩)
  simp only [scrP] at hx
  rw [hT.1 x (by omega), hP.1 x (by omega)]
end CE
/-! an induction over the search: what holds of the start and over each step holds of the end -/
theorem loopN_ind {σ : Type} {P : σ → Prop} {f : Nat → σ → σ} : ∀ (k i : Nat) (s : σ), P s → (∀ j s, i ≤ j → j < i + k → P s → P (f j s)) → P (loopN f k i s)
  | 0, _, _, h, _ => h
  | k + 1, i, s, h, hf => by
    rw [loopN]
    exact loopN_ind k (i + 1) _ (hf i s (by omega) (by omega) h) (fun j s h1 h2 => hf j s (by omega) (by omega))
theorem basesS_ind {P : (Nat → Int) → Prop} {mo : Nat → Int} {G : (Nat → Int) → Int} {tt tin : Int} {left : Nat} {s : Nat → Int} (h0 : P s) (h : ∀ (a b c e : Int) (s : Nat → Int), 0 ≤ a → 0 ≤ b → 0 ≤ c → 0 ≤ e → a + b + c + e = left → a ≤ mo 0 → b ≤ mo 1 → c ≤ mo 2 → e ≤ mo 3 → P s → P (stepS (G (tri a b c e)) tt tin a b c e s)) : P (basesS (candS mo G tt tin) left s) := by
  unfold basesS
  refine loopN_ind _ _ _ h0 (fun a s _ ha hs => ?_)
  unfold bas1
  refine loopN_ind _ _ _ hs (fun b s _ hb hs => ?_)
  unfold bas2
  refine loopN_ind _ _ _ hs (fun c s _ hc hs => ?_)
  unfold bas3
  rw [candS]
  split
  · rename_i q
    exact h a b c _ s (by omega) (by omega) (by omega) (by omega) (by omega) q.1 q.2.1 q.2.2.1 q.2.2.2 hs
  · exact hs
/-- a found recipe: its tin has enough, its tenths are there -/
def goodS (mo : Nat → Int) (gr gap : Int) (I : Nat → Nat → Int) (T : Nat) (s : Nat → Int) : Prop := (s 0 = 0 ∨ s 0 = 1) ∧ s 1 ≤ gap ∧ (s 0 = 1 → ((s 3 = -1 ∧ s 2 = 0) ∨ ∃ t tt : Nat, t < T ∧ 1 ≤ tt ∧ tt ≤ 10 ∧ s 3 = (t : Int) ∧ s 2 = (tt : Int) ∧ gr * tt * 1000 ≤ wt (I t)) ∧ (0 ≤ s 5 ∧ s 5 ≤ mo 0) ∧ (0 ≤ s 6 ∧ s 6 ≤ mo 1) ∧ (0 ≤ s 7 ∧ s 7 ≤ mo 2) ∧ (0 ≤ s 8 ∧ s 8 ≤ mo 3) ∧ s 5 + s 6 + s 7 + s 8 = 10 - s 2 ∧ 0 ≤ s 4 ∧ s 4 ≤ gap)
theorem goodS_step {mo : Nat → Int} {gr gap : Int} {I : Nat → Nat → Int} {T : Nat} {s : Nat → Int} {G tt tin a b c e : Int} (hs : goodS mo gr gap I T s) (hG : 0 ≤ G) (ht : (tin = -1 ∧ tt = 0) ∨ ∃ t tt' : Nat, t < T ∧ 1 ≤ tt' ∧ tt' ≤ 10 ∧ tin = (t : Int) ∧ tt = (tt' : Int) ∧ gr * tt' * 1000 ≤ wt (I t)) (ha : 0 ≤ a ∧ a ≤ mo 0) (hb : 0 ≤ b ∧ b ≤ mo 1) (hc : 0 ≤ c ∧ c ≤ mo 2) (he : 0 ≤ e ∧ e ≤ mo 3) (hsum : a + b + c + e = 10 - tt) : goodS mo gr gap I T (stepS G tt tin a b c e s) := by
  unfold stepS
  split
  · rename_i q
    have h1 := hs.2.1
    refine ⟨Or.inr rfl, ?_, fun _ => ⟨ht, ha, hb, hc, he, hsum, hG, ?_⟩⟩
    · show G - 1 ≤ gap
      omega
    · show G ≤ gap
      omega
  · exact hs
theorem tensS_ind {P : (Nat → Int) → Prop} {f : Nat → Nat → (Nat → Int) → (Nat → Int)} {T : Nat} : ∀ (k : Nat) (s : Nat → Int), P s → (∀ tt t s, 1 ≤ tt → tt ≤ k → t < T → P s → P (f tt t s)) → P (tensS f T k s)
  | 0, _, h, _ => h
  | k + 1, s, h, hf => by
    rw [tensS]
    split
    · exact tensS_ind k _ (loopN_ind _ _ _ h (fun t s h1 h2 hs => hf (k + 1) t s (by omega) (by omega) (by omega) hs)) (fun tt t s h1 h2 => hf tt t s h1 (by omega))
    · exact h
theorem findS_good {C : Nat → Nat → Int} {W mo : Nat → Int} {gr gap : Int} {I : Nat → Nat → Int} {T : Nat} {s : Nat → Int} (h0 : goodS mo gr gap I T s) : goodS mo gr gap I T (findS C W mo gr I T s) := by
  have hT : goodS mo gr gap I T (tensS (tinS C W mo gr I) T 10 s) := by
    refine tensS_ind 10 s h0 (fun tt t s h1 h2 h3 hs => ?_)
    unfold tinS
    split
    · exact hs
    · rename_i q
      unfold candT
      refine basesS_ind hs (fun a b c e s ha hb hc he hsum q0 q1 q2 q3 hs => goodS_step hs gapC_nn (Or.inr ⟨t, tt, h3, h1, h2, rfl, rfl, by omega⟩) ⟨ha, q0⟩ ⟨hb, q1⟩ ⟨hc, q2⟩ ⟨he, q3⟩ (by omega))
  unfold findS
  split
  · refine basesS_ind hT (fun a b c e s ha hb hc he hsum q0 q1 q2 q3 hs => goodS_step hs gapC_nn (Or.inl ⟨rfl, rfl⟩) ⟨ha, q0⟩ ⟨hb, q1⟩ ⟨hc, q2⟩ ⟨he, q3⟩ (by omega))
  · exact hT
