/-! the model's washes, by sets and by all, and its first run -/
def bg (M : Nat → Nat → Int) : Nat := if M 447 16 = -1 then 16 else (M 447 16).toNat
theorem VM_congr {M M' : Nat → Nat → Int} (h : M' 454 = M 454) : VM M' = VM M := by
  funext js s a
  unfold VM CA cJ mcol
  rw [h]
theorem CA_congr {M M' : Nat → Nat → Int} (h : M' 454 = M 454) : CA M' = CA M := by
  funext js a
  unfold CA cJ mcol
  rw [h]
theorem mixAtm_congr {M M' : Nat → Nat → Int} (h : M' 457 = M 457) : ∀ j k, mixAtm M' j k = mixAtm M j k
  | 0, _ => rfl
  | j + 1, k => by rw [mixAtm, mixAtm, h, nMixm_congr h j, mixAtm_congr h j k]
/-- what the model's plans leave -/
def mO (M M2 : Nat → Nat → Int) (c : Nat) : Prop := (∀ x, x ≠ 447 → x ≠ 465 → x ≠ 466 → M2 x = M x) ∧ (∀ k, k ≠ 26 → M2 447 k = M 447 k) ∧ M2 447 26 = (c : Int)
section MR
variable {l : Launch} {D : va_G} {cy : Nat → ClassId}
set_option maxRecDepth 100000 in
set_option maxHeartbeats 4000000 in
theorem om_begins {M : Nat → Nat → Int} (d : Nat) (hl : M 447 16 = -1 ∨ (0 ≤ M 447 16 ∧ M 447 16 < 16)) : Ok l D cy (d + 1) 0 0 yX9_begins cX9_begins 1 (some (.int)) [.inr (.inr (some (447)))] (N0, R0, M) (det (some (.inl (bg M : Int))) (N0, R0, M)) := by
  refine Ok.intro (o := 9) (ini := false) [some (.inr (.inr (some (447))))] (by decide +kernel) rfl (fun h => by cases h) rfl (Nat.le_of_ble_eq_true rfl) rfl ?_
  have r1 : -2147483648 ≤ M 447 16 ∧ M 447 16 ≤ 2147483647 := by omega
  rcases (show M 447 16 = -1 ∨ ¬ M 447 16 = -1 by omega) with q | q
  · refine J_rnG GM_fa (by omega) (by omega) (by omega) 4 _ _ _ _ (fun K9v hK9 => ?_)
    simp (maxSteps := 4000000) only [↓(X_aload_n (k := 0) (pc' := 1) dX9_begins_0 rfl rfl), ↓gR_0, ↓(X_getI (pc' := 4) fl_9_46 (by decide) dX9_begins_1 rfl), kd_447, ↓(X_iconst (pc' := 5) dX9_begins_4 rfl), ↓(X_icmp_ne (tgt := 13) (pc' := 8) dX9_begins_5 (by decide) rfl), rn_0, gV_s, ↓pI_c, ↓pII_c, ↓pL_c, ↓pLL_c, ↓pR_c, ↓pRI_c, ↓pRII_c, ↓pRIL_c, ↓pRR_c, ↓pV_c, ↓pVV_c, ↓gI_c, ↓gL_c, ↓gR_c, f2_0, f2_1, nk_n, nk_i, nk_r, ↓reduceIte, r32, r64, Nat.reduceAdd, Nat.reduceSub, Nat.reduceEqDiff, Nat.reduceLT, Nat.reduceLeDiff, Nat.reduceBEq, Int.reduceAdd, Int.reduceSub, Int.reduceMul, Int.reduceNeg, Int.reduceToNat, Int.reduceLE, Int.reduceLT, Int.reduceEq, Int.reduceNatCast', Int.reduceNatCast, Int.natCast_zero, Int.toNat_natCast, Int.toNat_zero, Int.toNat_one, List.length_cons, List.length_nil, true_and, and_true, and_self, true_or, or_true, false_or, or_false, Bool.not_true, Bool.not_false, Nat.lt_add_one, Nat.zero_lt_succ, N0, swL_n, swL_c, List.toList_toArray, false_implies, true_implies, implies_true, forall_const, not_false_eq_true, not_true_eq_false, and_false, false_and, q]
    simp only [hK9]
    clear hK9 K9v
    refine J_rnG GM_fa (by omega) (by omega) (by omega) 2 _ _ _ _ (fun K9v hK9 => ?_)
    simp (maxSteps := 4000000) only [↓(X_bipush (pc' := 10) dX9_begins_8 rfl), ↓(X_goto (pc' := 17) dX9_begins_10 (by decide)), rn_0, gV_s, ↓pI_c, ↓pII_c, ↓pL_c, ↓pLL_c, ↓pR_c, ↓pRI_c, ↓pRII_c, ↓pRIL_c, ↓pRR_c, ↓pV_c, ↓pVV_c, ↓gI_c, ↓gL_c, ↓gR_c, f2_0, f2_1, nk_n, nk_i, nk_r, ↓reduceIte, r32, r64, Nat.reduceAdd, Nat.reduceSub, Nat.reduceEqDiff, Nat.reduceLT, Nat.reduceLeDiff, Nat.reduceBEq, Int.reduceAdd, Int.reduceSub, Int.reduceMul, Int.reduceNeg, Int.reduceToNat, Int.reduceLE, Int.reduceLT, Int.reduceEq, Int.reduceNatCast', Int.reduceNatCast, Int.natCast_zero, Int.toNat_natCast, Int.toNat_zero, Int.toNat_one, List.length_cons, List.length_nil, true_and, and_true, and_self, true_or, or_true, false_or, or_false, Bool.not_true, Bool.not_false, Nat.lt_add_one, Nat.zero_lt_succ, N0, swL_n, swL_c, List.toList_toArray, false_implies, true_implies, implies_true, forall_const, not_false_eq_true, not_true_eq_false, and_false, false_and]
    simp only [hK9]
    clear hK9 K9v
    refine J_iret dX9_begins_17 rfl (by omega) (by omega) (⟨by rw [bg, if_pos q]; rfl, rfl⟩)
  · refine J_rnG GM_fa (by omega) (by omega) (by omega) 4 _ _ _ _ (fun K9v hK9 => ?_)
    simp (maxSteps := 4000000) only [↓(X_aload_n (k := 0) (pc' := 1) dX9_begins_0 rfl rfl), ↓gR_0, ↓(X_getI (pc' := 4) fl_9_46 (by decide) dX9_begins_1 rfl), kd_447, ↓(X_iconst (pc' := 5) dX9_begins_4 rfl), ↓(X_icmp_ne (tgt := 13) (pc' := 8) dX9_begins_5 (by decide) rfl), rn_0, gV_s, ↓pI_c, ↓pII_c, ↓pL_c, ↓pLL_c, ↓pR_c, ↓pRI_c, ↓pRII_c, ↓pRIL_c, ↓pRR_c, ↓pV_c, ↓pVV_c, ↓gI_c, ↓gL_c, ↓gR_c, f2_0, f2_1, nk_n, nk_i, nk_r, ↓reduceIte, r32, r64, Nat.reduceAdd, Nat.reduceSub, Nat.reduceEqDiff, Nat.reduceLT, Nat.reduceLeDiff, Nat.reduceBEq, Int.reduceAdd, Int.reduceSub, Int.reduceMul, Int.reduceNeg, Int.reduceToNat, Int.reduceLE, Int.reduceLT, Int.reduceEq, Int.reduceNatCast', Int.reduceNatCast, Int.natCast_zero, Int.toNat_natCast, Int.toNat_zero, Int.toNat_one, List.length_cons, List.length_nil, true_and, and_true, and_self, true_or, or_true, false_or, or_false, Bool.not_true, Bool.not_false, Nat.lt_add_one, Nat.zero_lt_succ, N0, swL_n, swL_c, List.toList_toArray, false_implies, true_implies, implies_true, forall_const, not_false_eq_true, not_true_eq_false, and_false, false_and, q, r1]
    simp only [hK9]
    clear hK9 K9v
    refine J_rnG GM_fa (by omega) (by omega) (by omega) 2 _ _ _ _ (fun K9v hK9 => ?_)
    simp (maxSteps := 4000000) only [↓(X_aload_n (k := 0) (pc' := 14) dX9_begins_13 rfl rfl), ↓gR_0, ↓(X_getI (pc' := 17) fl_9_46 (by decide) dX9_begins_14 rfl), kd_447, rn_0, gV_s, ↓pI_c, ↓pII_c, ↓pL_c, ↓pLL_c, ↓pR_c, ↓pRI_c, ↓pRII_c, ↓pRIL_c, ↓pRR_c, ↓pV_c, ↓pVV_c, ↓gI_c, ↓gL_c, ↓gR_c, f2_0, f2_1, nk_n, nk_i, nk_r, ↓reduceIte, r32, r64, Nat.reduceAdd, Nat.reduceSub, Nat.reduceEqDiff, Nat.reduceLT, Nat.reduceLeDiff, Nat.reduceBEq, Int.reduceAdd, Int.reduceSub, Int.reduceMul, Int.reduceNeg, Int.reduceToNat, Int.reduceLE, Int.reduceLT, Int.reduceEq, Int.reduceNatCast', Int.reduceNatCast, Int.natCast_zero, Int.toNat_natCast, Int.toNat_zero, Int.toNat_one, List.length_cons, List.length_nil, true_and, and_true, and_self, true_or, or_true, false_or, or_false, Bool.not_true, Bool.not_false, Nat.lt_add_one, Nat.zero_lt_succ, N0, swL_n, swL_c, List.toList_toArray, false_implies, true_implies, implies_true, forall_const, not_false_eq_true, not_true_eq_false, and_false, false_and]
    simp only [hK9]
    clear hK9 K9v
    rw [show M 447 16 = (bg M : Int) by rw [bg, if_neg q]; omega]
    refine J_iret dX9_begins_17 rfl (by omega) (by omega) (⟨rfl, rfl⟩)
set_option maxRecDepth 100000 in
set_option maxHeartbeats 4000000 in
theorem om_washes {M : Nat → Nat → Int} (d n : Nat) (hn : M 447 7 = (n : Int)) (hn2 : n ≤ 16) (hst : ∀ i, i < 16 → 0 ≤ M 457 i ∧ M 457 i ≤ 2) (h8 : nMixm M n ≤ 8) (hJ : mJ M) (hl : M 447 16 = -1 ∨ (0 ≤ M 447 16 ∧ M 447 16 < 16)) : Ok l D cy (d + 4) 0 0 yX9_washes cX9_washes 2 (some (.int)) [.inr (.inr (some (447)))] (N0, R0, M) (fun o ν => o = .inl (some (.inl (VM M (mixAtm M n) (2 ^ nMixm M n - 1) (bg M)))) ∧ ∃ M2 : Nat → Nat → Int, ν = (N0, R0, M2) ∧ mO M M2 0) := by
  refine Ok.intro (o := 9) (ini := false) [some (.inr (.inr (some (447)))), none] (by decide +kernel) rfl (fun h => by cases h) rfl (Nat.le_of_ble_eq_true rfl) rfl ?_
  refine J_rnG GM_fa (by omega) (by omega) (by omega) 4 _ _ _ _ (fun K9v hK9 => ?_)
  simp (maxSteps := 4000000) only [↓(X_aload_n (k := 0) (pc' := 1) dX9_washes_0 rfl rfl), ↓gR_0, ↓(X_iconst (pc' := 2) dX9_washes_1 rfl), ↓(X_putI (pc' := 5) fl_9_72 (by decide) dX9_washes_2 rfl), Nat.one_ne_zero, Nat.reduceEqDiff, kd_447, ↓(X_aload_n (k := 0) (pc' := 6) dX9_washes_5 rfl rfl), rn_0, gV_s, ↓pI_c, ↓pII_c, ↓pL_c, ↓pLL_c, ↓pR_c, ↓pRI_c, ↓pRII_c, ↓pRIL_c, ↓pRR_c, ↓pV_c, ↓pVV_c, ↓gI_c, ↓gL_c, ↓gR_c, f2_0, f2_1, nk_n, nk_i, nk_r, ↓reduceIte, r32, r64, Nat.reduceAdd, Nat.reduceSub, Nat.reduceEqDiff, Nat.reduceLT, Nat.reduceLeDiff, Nat.reduceBEq, Int.reduceAdd, Int.reduceSub, Int.reduceMul, Int.reduceNeg, Int.reduceToNat, Int.reduceLE, Int.reduceLT, Int.reduceEq, Int.reduceNatCast', Int.reduceNatCast, Int.natCast_zero, Int.toNat_natCast, Int.toNat_zero, Int.toNat_one, List.length_cons, List.length_nil, true_and, and_true, and_self, true_or, or_true, false_or, or_false, Bool.not_true, Bool.not_false, Nat.lt_add_one, Nat.zero_lt_succ, N0, swL_n, swL_c, List.toList_toArray, false_implies, true_implies, implies_true, forall_const, not_false_eq_true, not_true_eq_false, and_false, false_and]
  simp only [hK9]
  clear hK9 K9v
  have hA : ∀ x, x ≠ 447 → up2 M 447 26 0 x = M x := fun x hx => up2_r hx
  have hB : ∀ k, k ≠ 26 → up2 M 447 26 0 447 k = M 447 k := fun k hk => up2_k hk
  have hC : up2 M 447 26 0 447 26 = 0 := up2_s
  generalize up2 M 447 26 0 = Ma at hA hB hC ⊢
  have e1 : nMixm Ma n = nMixm M n := nMixm_congr (hA 457 (by decide)) n
  have e2 : mixAtm Ma n = mixAtm M n := funext (fun k => mixAtm_congr (hA 457 (by decide)) n k)
  refine J_callV (ci := 9) GM_fa (om_orders (M := Ma) (d + 0) n (by rw [hB 7 (by decide)]; exact hn) hn2 (by rw [hA 457 (by decide)]; exact hst) (by rw [e1]; exact h8) (mJ_congr (hA 454 (by decide)) hJ)) (by first | exact calm_det | assumption | (intro q9 ν9 h9; obtain ⟨h8, h6, M9, h7, -⟩ := h9; exact ⟨⟨_, h8⟩, by rw [h7]; rfl⟩) | (intro q9 ν9 h9; obtain ⟨h8, M9, h7, -⟩ := h9; first | exact ⟨⟨_, h8⟩, by rw [h7]; rfl⟩ | exact ⟨⟨_, h7⟩, by rw [h8]; rfl⟩ | exact ⟨⟨_, h7⟩, by rw [h8]⟩)) dX9_washes_6 k_9_156 (by omega) (Nat.le_of_ble_eq_true rfl) ⟨by omega, by omega⟩ rfl (by decide +kernel) rfl (by decide) (by simp only [N0]; omega) (by simp) rfl (fun v ν hv => ?_)
  obtain ⟨hv0, M2, rfl, M1, x1, x2⟩ := hv
  cases hv0
  simp only [Option.toList, List.cons_append, List.nil_append]
  rw [e1, e2] at x2
  rw [e1]
  have g454 : M1 454 = M 454 := by rw [x1.1 454 (by decide), hA 454 (by decide)]
  have g447 : M2 447 = Ma 447 := by rw [x2.1 447 (by decide), x1.1 447 (by decide)]
  have g16 : M2 447 16 = M 447 16 := by rw [g447, hB 16 (by decide)]
  have ebg : bg M2 = bg M := by unfold bg; rw [g16]
  have hbg : bg M ≤ 16 := by
    unfold bg
    split <;> omega
  generalize hN : nMixm M n = N at *
  obtain ⟨b1, b2, b3, b4, b5, b6⟩ := bt_all N h8
  have r3 : (1 * 2 ^ N : Int) ≤ 2147483647 := by omega
  have r4 : 0 ≤ (N : Int) ∧ (N : Int) < 31 := by omega
  refine J_rnG GM_fa (by omega) (by omega) (by omega) 11 _ _ _ _ (fun K9v hK9 => ?_)
  simp (maxSteps := 4000000) only [↓(X_istore_n (k := 1) (pc' := 10) dX9_washes_9 rfl rfl), ↓sto_1, ↓(X_aload_n (k := 0) (pc' := 11) dX9_washes_10 rfl rfl), ↓gR_0, ↓(X_getR (pc' := 14) fl_9_66 dX9_washes_11 rfl), kd_447, ↓(gV_c r0_447_24), kd_465, ln_465, ↓(X_bipush (pc' := 16) dX9_washes_14 rfl), ↓(X_iconst (pc' := 17) dX9_washes_16 rfl), ↓(X_iload_n (k := 1) (pc' := 18) dX9_washes_17 rfl rfl), ↓gI_1, ↓(X_ishl (pc' := 19) dX9_washes_18 rfl), ↓(X_iconst (pc' := 20) dX9_washes_19 rfl), ↓(X_isub (pc' := 21) dX9_washes_20 rfl), ↓(X_imul (pc' := 22) dX9_washes_21 rfl), ↓(X_aload_n (k := 0) (pc' := 23) dX9_washes_22 rfl rfl), rn_0, gV_s, ↓pI_c, ↓pII_c, ↓pL_c, ↓pLL_c, ↓pR_c, ↓pRI_c, ↓pRII_c, ↓pRIL_c, ↓pRR_c, ↓pV_c, ↓pVV_c, ↓gI_c, ↓gL_c, ↓gR_c, f2_0, f2_1, nk_n, nk_i, nk_r, ↓reduceIte, r32, r64, Nat.reduceAdd, Nat.reduceSub, Nat.reduceEqDiff, Nat.reduceLT, Nat.reduceLeDiff, Nat.reduceBEq, Int.reduceAdd, Int.reduceSub, Int.reduceMul, Int.reduceNeg, Int.reduceToNat, Int.reduceLE, Int.reduceLT, Int.reduceEq, Int.reduceNatCast', Int.reduceNatCast, Int.natCast_zero, Int.toNat_natCast, Int.toNat_zero, Int.toNat_one, List.length_cons, List.length_nil, true_and, and_true, and_self, true_or, or_true, false_or, or_false, Bool.not_true, Bool.not_false, Nat.lt_add_one, Nat.zero_lt_succ, N0, swL_n, swL_c, List.toList_toArray, false_implies, true_implies, implies_true, forall_const, not_false_eq_true, not_true_eq_false, and_false, false_and, r3, r4, b5]
  simp only [hK9]
  clear hK9 K9v
  refine J_callVd (ci := 9) GM_fa (om_begins (M := M2) (d + 2) (by rw [g16]; exact hl)) dX9_washes_23 k_9_159 (by omega) (Nat.le_of_ble_eq_true rfl) ⟨by omega, by omega⟩ rfl (by decide +kernel) rfl (by decide) (by simp only [N0]; omega) (by simp) rfl rfl ?_
  simp only [Option.toList, List.cons_append, List.nil_append]
  rw [ebg]
  have e5 : 17 * ((2 ^ N - 1 : Nat) : Int) + (bg M : Int) = ((17 * (2 ^ N - 1) + bg M : Nat) : Int) := by omega
  have i3 : (0 : Int) ≤ ((17 * (2 ^ N - 1) + bg M : Nat) : Int) ∧ ((17 * (2 ^ N - 1) + bg M : Nat) : Int) < 4352 := by omega
  have hv := x2.2.1 (2 ^ N - 1) (by have := pw2 h8; omega) (bg M) hbg
  rw [VM_congr g454] at hv
  refine J_rnG GM_fa (by omega) (by omega) (by omega) 2 _ _ _ _ (fun K9v hK9 => ?_)
  simp (maxSteps := 4000000) only [↓(X_iadd (pc' := 27) dX9_washes_26 rfl), ↓(X_iaload (pc' := 28) dX9_washes_27 rfl), rn_0, gV_s, ↓pI_c, ↓pII_c, ↓pL_c, ↓pLL_c, ↓pR_c, ↓pRI_c, ↓pRII_c, ↓pRIL_c, ↓pRR_c, ↓pV_c, ↓pVV_c, ↓gI_c, ↓gL_c, ↓gR_c, f2_0, f2_1, nk_n, nk_i, nk_r, ↓reduceIte, r32, r64, Nat.reduceAdd, Nat.reduceSub, Nat.reduceEqDiff, Nat.reduceLT, Nat.reduceLeDiff, Nat.reduceBEq, Int.reduceAdd, Int.reduceSub, Int.reduceMul, Int.reduceNeg, Int.reduceToNat, Int.reduceLE, Int.reduceLT, Int.reduceEq, Int.reduceNatCast', Int.reduceNatCast, Int.natCast_zero, Int.toNat_natCast, Int.toNat_zero, Int.toNat_one, List.length_cons, List.length_nil, true_and, and_true, and_self, true_or, or_true, false_or, or_false, Bool.not_true, Bool.not_false, Nat.lt_add_one, Nat.zero_lt_succ, N0, swL_n, swL_c, List.toList_toArray, false_implies, true_implies, implies_true, forall_const, not_false_eq_true, not_true_eq_false, and_false, false_and, kd_465, ln_465, e5, i3, hv]
  simp only [hK9]
  clear hK9 K9v
  refine J_iret dX9_washes_28 rfl (by omega) (by omega) (⟨rfl, M2, rfl, fun x k1 k2 k3 => by rw [x2.1 x k2, x1.1 x k3, hA x k1], fun k hk => by rw [g447, hB k hk], by rw [g447, hC]; rfl⟩)
set_option maxRecDepth 100000 in
set_option maxHeartbeats 4000000 in
theorem om_washesByAll {M : Nat → Nat → Int} (d n : Nat) (hn : M 447 7 = (n : Int)) (hn2 : n ≤ 16) (hst : ∀ i, i < 16 → 0 ≤ M 457 i ∧ M 457 i ≤ 2) (h8 : nMixm M n ≤ 8) (hJ : mJ M) (hl : M 447 16 = -1 ∨ (0 ≤ M 447 16 ∧ M 447 16 < 16)) : Ok l D cy (d + 5) 0 0 yX9_washesByAll cX9_washesByAll 1 (some (.int)) [.inr (.inr (some (447)))] (N0, R0, M) (fun o ν => o = .inl (some (.inl (if nMixm M n ≤ 7 then VM M (mixAtm M n) (2 ^ nMixm M n - 1) (bg M) else 0))) ∧ ∃ M2 : Nat → Nat → Int, ν = (N0, R0, M2) ∧ mO M M2 (if nMixm M n ≤ 7 then 0 else 1)) := by
  refine Ok.intro (o := 9) (ini := false) [some (.inr (.inr (some (447))))] (by decide +kernel) rfl (fun h => by cases h) rfl (Nat.le_of_ble_eq_true rfl) rfl ?_
  refine J_rnG GM_fa (by omega) (by omega) (by omega) 2 _ _ _ _ (fun K9v hK9 => ?_)
  simp (maxSteps := 4000000) only [↓(X_aload_n (k := 0) (pc' := 1) dX9_washesByAll_0 rfl rfl), ↓gR_0, ↓(X_aload_n (k := 0) (pc' := 2) dX9_washesByAll_1 rfl rfl), rn_0, gV_s, ↓pI_c, ↓pII_c, ↓pL_c, ↓pLL_c, ↓pR_c, ↓pRI_c, ↓pRII_c, ↓pRIL_c, ↓pRR_c, ↓pV_c, ↓pVV_c, ↓gI_c, ↓gL_c, ↓gR_c, f2_0, f2_1, nk_n, nk_i, nk_r, ↓reduceIte, r32, r64, Nat.reduceAdd, Nat.reduceSub, Nat.reduceEqDiff, Nat.reduceLT, Nat.reduceLeDiff, Nat.reduceBEq, Int.reduceAdd, Int.reduceSub, Int.reduceMul, Int.reduceNeg, Int.reduceToNat, Int.reduceLE, Int.reduceLT, Int.reduceEq, Int.reduceNatCast', Int.reduceNatCast, Int.natCast_zero, Int.toNat_natCast, Int.toNat_zero, Int.toNat_one, List.length_cons, List.length_nil, true_and, and_true, and_self, true_or, or_true, false_or, or_false, Bool.not_true, Bool.not_false, Nat.lt_add_one, Nat.zero_lt_succ, N0, swL_n, swL_c, List.toList_toArray, false_implies, true_implies, implies_true, forall_const, not_false_eq_true, not_true_eq_false, and_false, false_and]
  simp only [hK9]
  clear hK9 K9v
  refine J_callVd (ci := 9) GM_fa (om_mixes (M := M) (d + 3) n hn hn2 hst) dX9_washesByAll_2 k_9_142 (by omega) (Nat.le_of_ble_eq_true rfl) ⟨by omega, by omega⟩ rfl (by decide +kernel) rfl (by decide) (by simp only [N0]; omega) (by simp) rfl rfl ?_
  simp only [Option.toList, List.cons_append, List.nil_append]
  have r1 : -2147483648 ≤ (nMixm M n : Int) ∧ (nMixm M n : Int) ≤ 2147483647 := by omega
  rcases (show nMixm M n ≤ 7 ∨ ¬ nMixm M n ≤ 7 by omega) with q | q
  · have q' : ¬ (7 : Int) < (nMixm M n : Int) := by omega
    rw [if_pos q, if_pos q]
    refine J_rnG GM_fa (by omega) (by omega) (by omega) 2 _ _ _ _ (fun K9v hK9 => ?_)
    simp (maxSteps := 4000000) only [↓(X_bipush (pc' := 7) dX9_washesByAll_5 rfl), ↓(X_icmp_le (tgt := 14) (pc' := 10) dX9_washesByAll_7 (by decide) rfl), rn_0, gV_s, ↓pI_c, ↓pII_c, ↓pL_c, ↓pLL_c, ↓pR_c, ↓pRI_c, ↓pRII_c, ↓pRIL_c, ↓pRR_c, ↓pV_c, ↓pVV_c, ↓gI_c, ↓gL_c, ↓gR_c, f2_0, f2_1, nk_n, nk_i, nk_r, ↓reduceIte, r32, r64, Nat.reduceAdd, Nat.reduceSub, Nat.reduceEqDiff, Nat.reduceLT, Nat.reduceLeDiff, Nat.reduceBEq, Int.reduceAdd, Int.reduceSub, Int.reduceMul, Int.reduceNeg, Int.reduceToNat, Int.reduceLE, Int.reduceLT, Int.reduceEq, Int.reduceNatCast', Int.reduceNatCast, Int.natCast_zero, Int.toNat_natCast, Int.toNat_zero, Int.toNat_one, List.length_cons, List.length_nil, true_and, and_true, and_self, true_or, or_true, false_or, or_false, Bool.not_true, Bool.not_false, Nat.lt_add_one, Nat.zero_lt_succ, N0, swL_n, swL_c, List.toList_toArray, false_implies, true_implies, implies_true, forall_const, not_false_eq_true, not_true_eq_false, and_false, false_and, q', r1]
    simp only [hK9]
    clear hK9 K9v
    refine J_rnG GM_fa (by omega) (by omega) (by omega) 6 _ _ _ _ (fun K9v hK9 => ?_)
    simp (maxSteps := 4000000) only [↓(X_iconst (pc' := 15) dX9_washesByAll_14 rfl), ↓(X_putI (pc' := 18) fl_9_72 (by decide) dX9_washesByAll_15 rfl), Nat.one_ne_zero, Nat.reduceEqDiff, kd_447, ↓(X_aload_n (k := 0) (pc' := 19) dX9_washesByAll_18 rfl rfl), ↓gR_0, ↓(X_getI (pc' := 22) fl_9_72 (by decide) dX9_washesByAll_19 rfl), ↓(X_if_ne (tgt := 32) (pc' := 25) dX9_washesByAll_22 (by decide) rfl), ↓(X_aload_n (k := 0) (pc' := 26) dX9_washesByAll_25 rfl rfl), rn_0, gV_s, ↓pI_c, ↓pII_c, ↓pL_c, ↓pLL_c, ↓pR_c, ↓pRI_c, ↓pRII_c, ↓pRIL_c, ↓pRR_c, ↓pV_c, ↓pVV_c, ↓gI_c, ↓gL_c, ↓gR_c, f2_0, f2_1, nk_n, nk_i, nk_r, ↓reduceIte, r32, r64, Nat.reduceAdd, Nat.reduceSub, Nat.reduceEqDiff, Nat.reduceLT, Nat.reduceLeDiff, Nat.reduceBEq, Int.reduceAdd, Int.reduceSub, Int.reduceMul, Int.reduceNeg, Int.reduceToNat, Int.reduceLE, Int.reduceLT, Int.reduceEq, Int.reduceNatCast', Int.reduceNatCast, Int.natCast_zero, Int.toNat_natCast, Int.toNat_zero, Int.toNat_one, List.length_cons, List.length_nil, true_and, and_true, and_self, true_or, or_true, false_or, or_false, Bool.not_true, Bool.not_false, Nat.lt_add_one, Nat.zero_lt_succ, N0, swL_n, swL_c, List.toList_toArray, false_implies, true_implies, implies_true, forall_const, not_false_eq_true, not_true_eq_false, and_false, false_and, up2_s]
    simp only [hK9]
    clear hK9 K9v
    have e1 : nMixm (up2 M 447 26 0) n = nMixm M n := nMixm_congr (up2_r (by decide)) n
    have e2 : mixAtm (up2 M 447 26 0) n = mixAtm M n := funext (fun k => mixAtm_congr (up2_r (by decide)) n k)
    have g16 : up2 M 447 26 0 447 16 = M 447 16 := up2_k (by decide)
    have ebg : bg (up2 M 447 26 0) = bg M := by unfold bg; rw [g16]
    refine J_callV (ci := 9) GM_fa (om_washes (M := up2 M 447 26 0) (d + 0) n (by rw [up2_k (by decide)]; exact hn) hn2 (by rw [up2_r (show (457 : Nat) ≠ 447 by decide)]; exact hst) (by rw [e1]; exact h8) (mJ_congr (up2_r (by decide)) hJ) (by rw [g16]; exact hl)) (by first | exact calm_det | assumption | (intro q9 ν9 h9; obtain ⟨h8, h6, M9, h7, -⟩ := h9; exact ⟨⟨_, h8⟩, by rw [h7]; rfl⟩) | (intro q9 ν9 h9; obtain ⟨h8, M9, h7, -⟩ := h9; first | exact ⟨⟨_, h8⟩, by rw [h7]; rfl⟩ | exact ⟨⟨_, h7⟩, by rw [h8]; rfl⟩ | exact ⟨⟨_, h7⟩, by rw [h8]⟩)) dX9_washesByAll_26 k_9_162 (by omega) (Nat.le_of_ble_eq_true rfl) ⟨by omega, by omega⟩ rfl (by decide +kernel) rfl (by decide) (by simp only [N0]; omega) (by simp) rfl (fun v ν hv => ?_)
    obtain ⟨hv0, M2, rfl, x1⟩ := hv
    cases hv0
    simp only [Option.toList, List.cons_append, List.nil_append]
    rw [e1, e2, ebg, VM_congr (up2_r (show (454 : Nat) ≠ 447 by decide))]
    refine J_rnG GM_fa (by omega) (by omega) (by omega) 1 _ _ _ _ (fun K9v hK9 => ?_)
    simp (maxSteps := 4000000) only [↓(X_goto (pc' := 33) dX9_washesByAll_29 (by decide)), rn_0, gV_s, ↓pI_c, ↓pII_c, ↓pL_c, ↓pLL_c, ↓pR_c, ↓pRI_c, ↓pRII_c, ↓pRIL_c, ↓pRR_c, ↓pV_c, ↓pVV_c, ↓gI_c, ↓gL_c, ↓gR_c, f2_0, f2_1, nk_n, nk_i, nk_r, ↓reduceIte, r32, r64, Nat.reduceAdd, Nat.reduceSub, Nat.reduceEqDiff, Nat.reduceLT, Nat.reduceLeDiff, Nat.reduceBEq, Int.reduceAdd, Int.reduceSub, Int.reduceMul, Int.reduceNeg, Int.reduceToNat, Int.reduceLE, Int.reduceLT, Int.reduceEq, Int.reduceNatCast', Int.reduceNatCast, Int.natCast_zero, Int.toNat_natCast, Int.toNat_zero, Int.toNat_one, List.length_cons, List.length_nil, true_and, and_true, and_self, true_or, or_true, false_or, or_false, Bool.not_true, Bool.not_false, Nat.lt_add_one, Nat.zero_lt_succ, N0, swL_n, swL_c, List.toList_toArray, false_implies, true_implies, implies_true, forall_const, not_false_eq_true, not_true_eq_false, and_false, false_and]
    simp only [hK9]
    clear hK9 K9v
    refine J_iret dX9_washesByAll_33 rfl (by omega) (by omega) (⟨rfl, M2, rfl, fun x k1 k2 k3 => by rw [x1.1 x k1 k2 k3, up2_r k1], fun k hk => by rw [x1.2.1 k hk, up2_k hk], x1.2.2⟩)
  · have q' : (7 : Int) < (nMixm M n : Int) := by omega
    rw [if_neg q, if_neg q]
    refine J_rnG GM_fa (by omega) (by omega) (by omega) 2 _ _ _ _ (fun K9v hK9 => ?_)
    simp (maxSteps := 4000000) only [↓(X_bipush (pc' := 7) dX9_washesByAll_5 rfl), ↓(X_icmp_le (tgt := 14) (pc' := 10) dX9_washesByAll_7 (by decide) rfl), rn_0, gV_s, ↓pI_c, ↓pII_c, ↓pL_c, ↓pLL_c, ↓pR_c, ↓pRI_c, ↓pRII_c, ↓pRIL_c, ↓pRR_c, ↓pV_c, ↓pVV_c, ↓gI_c, ↓gL_c, ↓gR_c, f2_0, f2_1, nk_n, nk_i, nk_r, ↓reduceIte, r32, r64, Nat.reduceAdd, Nat.reduceSub, Nat.reduceEqDiff, Nat.reduceLT, Nat.reduceLeDiff, Nat.reduceBEq, Int.reduceAdd, Int.reduceSub, Int.reduceMul, Int.reduceNeg, Int.reduceToNat, Int.reduceLE, Int.reduceLT, Int.reduceEq, Int.reduceNatCast', Int.reduceNatCast, Int.natCast_zero, Int.toNat_natCast, Int.toNat_zero, Int.toNat_one, List.length_cons, List.length_nil, true_and, and_true, and_self, true_or, or_true, false_or, or_false, Bool.not_true, Bool.not_false, Nat.lt_add_one, Nat.zero_lt_succ, N0, swL_n, swL_c, List.toList_toArray, false_implies, true_implies, implies_true, forall_const, not_false_eq_true, not_true_eq_false, and_false, false_and, q', r1]
    simp only [hK9]
    clear hK9 K9v
    refine J_rnG GM_fa (by omega) (by omega) (by omega) 6 _ _ _ _ (fun K9v hK9 => ?_)
    simp (maxSteps := 4000000) only [↓(X_iconst (pc' := 11) dX9_washesByAll_10 rfl), ↓(X_goto (pc' := 15) dX9_washesByAll_11 (by decide)), ↓(X_putI (pc' := 18) fl_9_72 (by decide) dX9_washesByAll_15 rfl), Nat.one_ne_zero, Nat.reduceEqDiff, kd_447, ↓(X_aload_n (k := 0) (pc' := 19) dX9_washesByAll_18 rfl rfl), ↓gR_0, ↓(X_getI (pc' := 22) fl_9_72 (by decide) dX9_washesByAll_19 rfl), ↓(X_if_ne (tgt := 32) (pc' := 25) dX9_washesByAll_22 (by decide) rfl), rn_0, gV_s, ↓pI_c, ↓pII_c, ↓pL_c, ↓pLL_c, ↓pR_c, ↓pRI_c, ↓pRII_c, ↓pRIL_c, ↓pRR_c, ↓pV_c, ↓pVV_c, ↓gI_c, ↓gL_c, ↓gR_c, f2_0, f2_1, nk_n, nk_i, nk_r, ↓reduceIte, r32, r64, Nat.reduceAdd, Nat.reduceSub, Nat.reduceEqDiff, Nat.reduceLT, Nat.reduceLeDiff, Nat.reduceBEq, Int.reduceAdd, Int.reduceSub, Int.reduceMul, Int.reduceNeg, Int.reduceToNat, Int.reduceLE, Int.reduceLT, Int.reduceEq, Int.reduceNatCast', Int.reduceNatCast, Int.natCast_zero, Int.toNat_natCast, Int.toNat_zero, Int.toNat_one, List.length_cons, List.length_nil, true_and, and_true, and_self, true_or, or_true, false_or, or_false, Bool.not_true, Bool.not_false, Nat.lt_add_one, Nat.zero_lt_succ, N0, swL_n, swL_c, List.toList_toArray, false_implies, true_implies, implies_true, forall_const, not_false_eq_true, not_true_eq_false, and_false, false_and, up2_s]
    simp only [hK9]
    clear hK9 K9v
    refine J_rnG GM_fa (by omega) (by omega) (by omega) 1 _ _ _ _ (fun K9v hK9 => ?_)
    simp (maxSteps := 4000000) only [↓(X_iconst (pc' := 33) dX9_washesByAll_32 rfl), rn_0, gV_s, ↓pI_c, ↓pII_c, ↓pL_c, ↓pLL_c, ↓pR_c, ↓pRI_c, ↓pRII_c, ↓pRIL_c, ↓pRR_c, ↓pV_c, ↓pVV_c, ↓gI_c, ↓gL_c, ↓gR_c, f2_0, f2_1, nk_n, nk_i, nk_r, ↓reduceIte, r32, r64, Nat.reduceAdd, Nat.reduceSub, Nat.reduceEqDiff, Nat.reduceLT, Nat.reduceLeDiff, Nat.reduceBEq, Int.reduceAdd, Int.reduceSub, Int.reduceMul, Int.reduceNeg, Int.reduceToNat, Int.reduceLE, Int.reduceLT, Int.reduceEq, Int.reduceNatCast', Int.reduceNatCast, Int.natCast_zero, Int.toNat_natCast, Int.toNat_zero, Int.toNat_one, List.length_cons, List.length_nil, true_and, and_true, and_self, true_or, or_true, false_or, or_false, Bool.not_true, Bool.not_false, Nat.lt_add_one, Nat.zero_lt_succ, N0, swL_n, swL_c, List.toList_toArray, false_implies, true_implies, implies_true, forall_const, not_false_eq_true, not_true_eq_false, and_false, false_and]
    simp only [hK9]
    clear hK9 K9v
    refine J_iret dX9_washesByAll_33 rfl (by omega) (by omega) (⟨rfl, _, rfl, fun x k1 _ _ => up2_r k1, fun k hk => up2_k hk, up2_s⟩)
set_option maxRecDepth 100000 in
set_option maxHeartbeats 4000000 in
theorem jj_fr {M1 M : Nat → Nat → Int} {Φ : Out → Mem → Prop} {js : Nat → Nat} (d N a : Nat) (hN8 : N ≤ 8) (ha : a ≤ 16) (hjs : jsOK M1 js N) (hJ : mJ M1) (M' : Nat → Nat → Int) (hM : mtb M1 M' js (2 ^ N) 0) : ∀ (k j : Nat) (w5 : Option AV), nk w5 → j + k = N → Φ (.inl (some (.inl (firstF (fun k => CA M1 js a 8 k + TT (CA M1 js a) (2 ^ N - 1 - 2 ^ k) k) (TT (CA M1 js a) (2 ^ N - 1) 8) (fun k => (js k : Int)) k j)))) (N0, R0, M') →
    J l D cy (GM l D cy 9 cX9_firstRun 6 (d + 4) 0 0 false (some .int) Φ) 24 [some (.inr (.inr (some 447))), some (.inl (N : Int)), some (.inl ((2 ^ N - 1 : Nat) : Int)), some (.inl (a : Int)), some (.inl (j : Int)), w5] [] (468, R0, M') 0 0 := by
  obtain ⟨b1, b2, b3, b4, b5, b6⟩ := bt_all N hN8
  have hp := pw2 hN8
  intro k
  induction k with
  | zero =>
    intro j w5 hw5 hj hΦ
    have e : j = N := by omega
    subst e
    have h1 : ¬ (j : Int) < (j : Int) := by omega
    have r1 : -2147483648 ≤ (j : Int) ∧ (j : Int) ≤ 2147483647 := by omega
    refine J_rnG GM_fa (by omega) (by omega) (by omega) 3 _ _ _ _ (fun K9v hK9 => ?_)
    simp (maxSteps := 4000000) only [↓(X_iload (pc' := 26) dX9_firstRun_24 rfl), ↓gI_4, ↓(X_iload_n (k := 1) (pc' := 27) dX9_firstRun_26 rfl rfl), ↓gI_1, ↓(X_icmp_ge (tgt := 109) (pc' := 30) dX9_firstRun_27 (by decide) rfl), rn_0, gV_s, ↓pI_c, ↓pII_c, ↓pL_c, ↓pLL_c, ↓pR_c, ↓pRI_c, ↓pRII_c, ↓pRIL_c, ↓pRR_c, ↓pV_c, ↓pVV_c, ↓gI_c, ↓gL_c, ↓gR_c, f2_0, f2_1, nk_n, nk_i, nk_r, ↓reduceIte, r32, r64, Nat.reduceAdd, Nat.reduceSub, Nat.reduceEqDiff, Nat.reduceLT, Nat.reduceLeDiff, Nat.reduceBEq, Int.reduceAdd, Int.reduceSub, Int.reduceMul, Int.reduceNeg, Int.reduceToNat, Int.reduceLE, Int.reduceLT, Int.reduceEq, Int.reduceNatCast', Int.reduceNatCast, Int.natCast_zero, Int.toNat_natCast, Int.toNat_zero, Int.toNat_one, List.length_cons, List.length_nil, true_and, and_true, and_self, true_or, or_true, false_or, or_false, Bool.not_true, Bool.not_false, Nat.lt_add_one, Nat.zero_lt_succ, N0, swL_n, swL_c, List.toList_toArray, false_implies, true_implies, implies_true, forall_const, not_false_eq_true, not_true_eq_false, and_false, false_and, h1, r1]
    simp only [hK9]
    clear hK9 K9v
    refine J_rnG GM_fa (by omega) (by omega) (by omega) 1 _ _ _ _ (fun K9v hK9 => ?_)
    simp (maxSteps := 4000000) only [↓(X_iconst (pc' := 110) dX9_firstRun_109 rfl), rn_0, gV_s, ↓pI_c, ↓pII_c, ↓pL_c, ↓pLL_c, ↓pR_c, ↓pRI_c, ↓pRII_c, ↓pRIL_c, ↓pRR_c, ↓pV_c, ↓pVV_c, ↓gI_c, ↓gL_c, ↓gR_c, f2_0, f2_1, nk_n, nk_i, nk_r, ↓reduceIte, r32, r64, Nat.reduceAdd, Nat.reduceSub, Nat.reduceEqDiff, Nat.reduceLT, Nat.reduceLeDiff, Nat.reduceBEq, Int.reduceAdd, Int.reduceSub, Int.reduceMul, Int.reduceNeg, Int.reduceToNat, Int.reduceLE, Int.reduceLT, Int.reduceEq, Int.reduceNatCast', Int.reduceNatCast, Int.natCast_zero, Int.toNat_natCast, Int.toNat_zero, Int.toNat_one, List.length_cons, List.length_nil, true_and, and_true, and_self, true_or, or_true, false_or, or_false, Bool.not_true, Bool.not_false, Nat.lt_add_one, Nat.zero_lt_succ, N0, swL_n, swL_c, List.toList_toArray, false_implies, true_implies, implies_true, forall_const, not_false_eq_true, not_true_eq_false, and_false, false_and]
    simp only [hK9]
    clear hK9 K9v
    refine J_iret dX9_firstRun_110 rfl (by omega) (by omega) (hΦ)
  | succ k ih =>
    intro j w5 hw5 hj hΦ
    have h1 : (j : Int) < (N : Int) := by omega
    have r1 : -2147483648 ≤ (j : Int) ∧ (j : Int) ≤ 2147483647 := by omega
    have r2 : -2147483648 ≤ (N : Int) ∧ (N : Int) ≤ 2147483647 := by omega
    have r3 := p2_bd j (by omega)
    have r4 : 0 ≤ (j : Int) ∧ (j : Int) < 31 := by omega
    have rA : -2147483648 ≤ (a : Int) ∧ (a : Int) ≤ 2147483647 := by omega
    have hb := bt_has N hN8 j (by omega)
    have e2 := (bt_rm (2 ^ N - 1) b2 j (by omega) hb).2
    obtain ⟨-, e3, e4⟩ := pop_step (2 ^ N - 1) b2 j (by omega) hb
    obtain ⟨hm1, hm2⟩ := hjs j (by omega)
    have f466 : M' 466 = M1 466 := hM.1 466 (by decide)
    have i1 : (j : Int) < 8 := by omega
    have i2 : (0 : Int) ≤ (j : Int) := by omega
    have e5 : 17 * ((2 ^ N - 1 - 2 ^ j : Nat) : Int) + (js j : Int) = ((17 * (2 ^ N - 1 - 2 ^ j) + js j : Nat) : Int) := by omega
    have i3 : (0 : Int) ≤ ((17 * (2 ^ N - 1 - 2 ^ j) + js j : Nat) : Int) ∧ ((17 * (2 ^ N - 1 - 2 ^ j) + js j : Nat) : Int) < 4352 := by omega
    have e6 : 17 * ((2 ^ N - 1 : Nat) : Int) + (a : Int) = ((17 * (2 ^ N - 1) + a : Nat) : Int) := by omega
    have i4 : (0 : Int) ≤ ((17 * (2 ^ N - 1) + a : Nat) : Int) ∧ ((17 * (2 ^ N - 1) + a : Nat) : Int) < 4352 := by omega
    have hv : M' 465 (17 * (2 ^ N - 1 - 2 ^ j) + js j) = TT (CA M1 js a) (2 ^ N - 1 - 2 ^ j) j := by
      rw [hM.2.1 (2 ^ N - 1 - 2 ^ j) (by omega) (js j) (by omega)]
      exact vm_row e3 (by omega)
    have hv2 : M' 465 (17 * (2 ^ N - 1) + a) = TT (CA M1 js a) (2 ^ N - 1) 8 := hM.2.1 (2 ^ N - 1) (by omega) a ha
    have hb1 := cJ_bd hJ ha hm2
    have hb2 := TT_bd (CA_nn (M := M1) (js := js) (a := a)) _ (2 ^ N - 1 - 2 ^ j) j rfl e3 (by omega)
    have hb3 := TT_bd (CA_nn (M := M1) (js := js) (a := a)) _ (2 ^ N - 1) 8 rfl b2 (by omega)
    have hmid : J l D cy (GM l D cy 9 cX9_firstRun 6 (d + 4) 0 0 false (some .int) Φ) 52 [some (.inr (.inr (some 447))), some (.inl (N : Int)), some (.inl ((2 ^ N - 1 : Nat) : Int)), some (.inl (a : Int)), some (.inl (j : Int)), w5] [.inl (cJ M1 a (js j))] (468, R0, M') 0 0 := by
      obtain ⟨its, hits⟩ : ∃ its, its = cJ M1 a (js j) + TT (CA M1 js a) (2 ^ N - 1 - 2 ^ j) j := ⟨_, rfl⟩
      obtain ⟨cst, hcst⟩ : ∃ cst, cst = TT (CA M1 js a) (2 ^ N - 1) 8 := ⟨_, rfl⟩
      have ri : -2147483648 ≤ its ∧ its ≤ 2147483647 := by omega
      have rc : -2147483648 ≤ cst ∧ cst ≤ 2147483647 := by omega
      have eF : CA M1 js a 8 j + TT (CA M1 js a) (2 ^ N - 1 - 2 ^ j) j = its := by
        rw [hits]
        simp only [CA]
        rw [if_pos trivial]
      rw [firstF] at hΦ
      simp only [eF] at hΦ
      rw [← hcst] at hΦ hv2
      rcases (show its = cst ∨ ¬ its = cst by omega) with q | q
      · rw [if_pos q] at hΦ
        refine J_rnG GM_fa (by omega) (by omega) (by omega) 29 _ _ _ _ (fun K9v hK9 => ?_)
        simp (maxSteps := 4000000) only [↓(X_aload_n (k := 0) (pc' := 53) dX9_firstRun_52 rfl rfl), ↓gR_0, ↓(X_getR (pc' := 56) fl_9_66 dX9_firstRun_53 rfl), kd_447, ↓(gV_c r0_447_24), kd_465, ln_465, ↓(X_bipush (pc' := 58) dX9_firstRun_56 rfl), ↓(X_iload_n (k := 2) (pc' := 59) dX9_firstRun_58 rfl rfl), ↓gI_2, ↓(X_iconst (pc' := 60) dX9_firstRun_59 rfl), ↓(X_iload (pc' := 62) dX9_firstRun_60 rfl), ↓gI_4, ↓(X_ishl (pc' := 63) dX9_firstRun_62 rfl), ↓(X_iconst (pc' := 64) dX9_firstRun_63 rfl), ↓(X_ixor (pc' := 65) dX9_firstRun_64 rfl), ↓(X_iand (pc' := 66) dX9_firstRun_65 rfl), ↓(X_imul (pc' := 67) dX9_firstRun_66 rfl), ↓(X_aload_n (k := 0) (pc' := 68) dX9_firstRun_67 rfl rfl), ↓(X_getR (pc' := 71) fl_9_69 dX9_firstRun_68 rfl), ↓(gV_c r0_447_25), kd_466, ln_466, ↓(X_iload (pc' := 73) dX9_firstRun_71 rfl), ↓(X_iaload (pc' := 74) dX9_firstRun_73 rfl), ↓(X_iadd (pc' := 75) dX9_firstRun_74 rfl), ↓(X_iaload (pc' := 76) dX9_firstRun_75 rfl), ↓(X_iadd (pc' := 77) dX9_firstRun_76 rfl), ↓(X_istore (pc' := 79) dX9_firstRun_77 rfl), ↓sto_5, ↓(X_iload (pc' := 81) dX9_firstRun_79 rfl), ↓gI_5, ↓(X_aload_n (k := 0) (pc' := 82) dX9_firstRun_81 rfl rfl), ↓(X_getR (pc' := 85) fl_9_66 dX9_firstRun_82 rfl), ↓(X_bipush (pc' := 87) dX9_firstRun_85 rfl), ↓(X_iload_n (k := 2) (pc' := 88) dX9_firstRun_87 rfl rfl), ↓(X_imul (pc' := 89) dX9_firstRun_88 rfl), ↓(X_iload_n (k := 3) (pc' := 90) dX9_firstRun_89 rfl rfl), ↓gI_3, ↓(X_iadd (pc' := 91) dX9_firstRun_90 rfl), ↓(X_iaload (pc' := 92) dX9_firstRun_91 rfl), ↓(X_icmp_ne (tgt := 103) (pc' := 95) dX9_firstRun_92 (by decide) rfl), rn_0, gV_s, ↓pI_c, ↓pII_c, ↓pL_c, ↓pLL_c, ↓pR_c, ↓pRI_c, ↓pRII_c, ↓pRIL_c, ↓pRR_c, ↓pV_c, ↓pVV_c, ↓gI_c, ↓gL_c, ↓gR_c, f2_0, f2_1, nk_n, nk_i, nk_r, ↓reduceIte, r32, r64, Nat.reduceAdd, Nat.reduceSub, Nat.reduceEqDiff, Nat.reduceLT, Nat.reduceLeDiff, Nat.reduceBEq, Int.reduceAdd, Int.reduceSub, Int.reduceMul, Int.reduceNeg, Int.reduceToNat, Int.reduceLE, Int.reduceLT, Int.reduceEq, Int.reduceNatCast', Int.reduceNatCast, Int.natCast_zero, Int.toNat_natCast, Int.toNat_zero, Int.toNat_one, List.length_cons, List.length_nil, true_and, and_true, and_self, true_or, or_true, false_or, or_false, Bool.not_true, Bool.not_false, Nat.lt_add_one, Nat.zero_lt_succ, N0, swL_n, swL_c, List.toList_toArray, false_implies, true_implies, implies_true, forall_const, not_false_eq_true, not_true_eq_false, and_false, false_and, r3, r4, e2, e5, i1, i2, i3, e6, i4, f466, hm1, hv, hv2, ← hits, q, rc]
        simp only [hK9]
        clear hK9 K9v
        refine J_rnG GM_fa (by omega) (by omega) (by omega) 4 _ _ _ _ (fun K9v hK9 => ?_)
        simp (maxSteps := 4000000) only [↓(X_aload_n (k := 0) (pc' := 96) dX9_firstRun_95 rfl rfl), ↓gR_0, ↓(X_getR (pc' := 99) fl_9_69 dX9_firstRun_96 rfl), kd_447, ↓(gV_c r0_447_25), kd_466, ln_466, ↓(X_iload (pc' := 101) dX9_firstRun_99 rfl), ↓gI_4, ↓(X_iaload (pc' := 102) dX9_firstRun_101 rfl), rn_0, gV_s, ↓pI_c, ↓pII_c, ↓pL_c, ↓pLL_c, ↓pR_c, ↓pRI_c, ↓pRII_c, ↓pRIL_c, ↓pRR_c, ↓pV_c, ↓pVV_c, ↓gI_c, ↓gL_c, ↓gR_c, f2_0, f2_1, nk_n, nk_i, nk_r, ↓reduceIte, r32, r64, Nat.reduceAdd, Nat.reduceSub, Nat.reduceEqDiff, Nat.reduceLT, Nat.reduceLeDiff, Nat.reduceBEq, Int.reduceAdd, Int.reduceSub, Int.reduceMul, Int.reduceNeg, Int.reduceToNat, Int.reduceLE, Int.reduceLT, Int.reduceEq, Int.reduceNatCast', Int.reduceNatCast, Int.natCast_zero, Int.toNat_natCast, Int.toNat_zero, Int.toNat_one, List.length_cons, List.length_nil, true_and, and_true, and_self, true_or, or_true, false_or, or_false, Bool.not_true, Bool.not_false, Nat.lt_add_one, Nat.zero_lt_succ, N0, swL_n, swL_c, List.toList_toArray, false_implies, true_implies, implies_true, forall_const, not_false_eq_true, not_true_eq_false, and_false, false_and, i1, i2, f466, hm1]
        simp only [hK9]
        clear hK9 K9v
        refine J_iret dX9_firstRun_102 rfl (by omega) (by omega) (hΦ)
      · rw [if_neg q] at hΦ
        refine J_rnG GM_fa (by omega) (by omega) (by omega) 29 _ _ _ _ (fun K9v hK9 => ?_)
        simp (maxSteps := 4000000) only [↓(X_aload_n (k := 0) (pc' := 53) dX9_firstRun_52 rfl rfl), ↓gR_0, ↓(X_getR (pc' := 56) fl_9_66 dX9_firstRun_53 rfl), kd_447, ↓(gV_c r0_447_24), kd_465, ln_465, ↓(X_bipush (pc' := 58) dX9_firstRun_56 rfl), ↓(X_iload_n (k := 2) (pc' := 59) dX9_firstRun_58 rfl rfl), ↓gI_2, ↓(X_iconst (pc' := 60) dX9_firstRun_59 rfl), ↓(X_iload (pc' := 62) dX9_firstRun_60 rfl), ↓gI_4, ↓(X_ishl (pc' := 63) dX9_firstRun_62 rfl), ↓(X_iconst (pc' := 64) dX9_firstRun_63 rfl), ↓(X_ixor (pc' := 65) dX9_firstRun_64 rfl), ↓(X_iand (pc' := 66) dX9_firstRun_65 rfl), ↓(X_imul (pc' := 67) dX9_firstRun_66 rfl), ↓(X_aload_n (k := 0) (pc' := 68) dX9_firstRun_67 rfl rfl), ↓(X_getR (pc' := 71) fl_9_69 dX9_firstRun_68 rfl), ↓(gV_c r0_447_25), kd_466, ln_466, ↓(X_iload (pc' := 73) dX9_firstRun_71 rfl), ↓(X_iaload (pc' := 74) dX9_firstRun_73 rfl), ↓(X_iadd (pc' := 75) dX9_firstRun_74 rfl), ↓(X_iaload (pc' := 76) dX9_firstRun_75 rfl), ↓(X_iadd (pc' := 77) dX9_firstRun_76 rfl), ↓(X_istore (pc' := 79) dX9_firstRun_77 rfl), ↓sto_5, ↓(X_iload (pc' := 81) dX9_firstRun_79 rfl), ↓gI_5, ↓(X_aload_n (k := 0) (pc' := 82) dX9_firstRun_81 rfl rfl), ↓(X_getR (pc' := 85) fl_9_66 dX9_firstRun_82 rfl), ↓(X_bipush (pc' := 87) dX9_firstRun_85 rfl), ↓(X_iload_n (k := 2) (pc' := 88) dX9_firstRun_87 rfl rfl), ↓(X_imul (pc' := 89) dX9_firstRun_88 rfl), ↓(X_iload_n (k := 3) (pc' := 90) dX9_firstRun_89 rfl rfl), ↓gI_3, ↓(X_iadd (pc' := 91) dX9_firstRun_90 rfl), ↓(X_iaload (pc' := 92) dX9_firstRun_91 rfl), ↓(X_icmp_ne (tgt := 103) (pc' := 95) dX9_firstRun_92 (by decide) rfl), rn_0, gV_s, ↓pI_c, ↓pII_c, ↓pL_c, ↓pLL_c, ↓pR_c, ↓pRI_c, ↓pRII_c, ↓pRIL_c, ↓pRR_c, ↓pV_c, ↓pVV_c, ↓gI_c, ↓gL_c, ↓gR_c, f2_0, f2_1, nk_n, nk_i, nk_r, ↓reduceIte, r32, r64, Nat.reduceAdd, Nat.reduceSub, Nat.reduceEqDiff, Nat.reduceLT, Nat.reduceLeDiff, Nat.reduceBEq, Int.reduceAdd, Int.reduceSub, Int.reduceMul, Int.reduceNeg, Int.reduceToNat, Int.reduceLE, Int.reduceLT, Int.reduceEq, Int.reduceNatCast', Int.reduceNatCast, Int.natCast_zero, Int.toNat_natCast, Int.toNat_zero, Int.toNat_one, List.length_cons, List.length_nil, true_and, and_true, and_self, true_or, or_true, false_or, or_false, Bool.not_true, Bool.not_false, Nat.lt_add_one, Nat.zero_lt_succ, N0, swL_n, swL_c, List.toList_toArray, false_implies, true_implies, implies_true, forall_const, not_false_eq_true, not_true_eq_false, and_false, false_and, r3, r4, e2, e5, i1, i2, i3, e6, i4, f466, hm1, hv, hv2, ← hits, q, ri, rc]
        simp only [hK9]
        clear hK9 K9v
        refine J_rnG GM_fa (by omega) (by omega) (by omega) 2 _ _ _ _ (fun K9v hK9 => ?_)
        simp (maxSteps := 4000000) only [↓(X_iinc (pc' := 106) dX9_firstRun_103 rfl), ↓gI_4, ↓sto_4, ↓(X_goto (pc' := 24) dX9_firstRun_106 (by decide)), rn_0, gV_s, ↓pI_c, ↓pII_c, ↓pL_c, ↓pLL_c, ↓pR_c, ↓pRI_c, ↓pRII_c, ↓pRIL_c, ↓pRR_c, ↓pV_c, ↓pVV_c, ↓gI_c, ↓gL_c, ↓gR_c, f2_0, f2_1, nk_n, nk_i, nk_r, ↓reduceIte, r32, r64, Nat.reduceAdd, Nat.reduceSub, Nat.reduceEqDiff, Nat.reduceLT, Nat.reduceLeDiff, Nat.reduceBEq, Int.reduceAdd, Int.reduceSub, Int.reduceMul, Int.reduceNeg, Int.reduceToNat, Int.reduceLE, Int.reduceLT, Int.reduceEq, Int.reduceNatCast', Int.reduceNatCast, Int.natCast_zero, Int.toNat_natCast, Int.toNat_zero, Int.toNat_one, List.length_cons, List.length_nil, true_and, and_true, and_self, true_or, or_true, false_or, or_false, Bool.not_true, Bool.not_false, Nat.lt_add_one, Nat.zero_lt_succ, N0, swL_n, swL_c, List.toList_toArray, false_implies, true_implies, implies_true, forall_const, not_false_eq_true, not_true_eq_false, and_false, false_and]
        simp only [hK9]
        clear hK9 K9v
        rw [show (j : Int) + 1 = ((j + 1 : Nat) : Int) by omega]
        exact ih (j + 1) _ (nk_i.mpr trivial) (by omega) (by rw [← hcst] ; exact hΦ)
    rcases (show a = 16 ∨ ¬ a = 16 by omega) with q | q
    · subst q
      rw [cJ, if_pos rfl] at hmid
      refine J_rnG GM_fa (by omega) (by omega) (by omega) 6 _ _ _ _ (fun K9v hK9 => ?_)
      simp (maxSteps := 4000000) only [↓(X_iload (pc' := 26) dX9_firstRun_24 rfl), ↓gI_4, ↓(X_iload_n (k := 1) (pc' := 27) dX9_firstRun_26 rfl rfl), ↓gI_1, ↓(X_icmp_ge (tgt := 109) (pc' := 30) dX9_firstRun_27 (by decide) rfl), ↓(X_iload_n (k := 3) (pc' := 31) dX9_firstRun_30 rfl rfl), ↓gI_3, ↓(X_bipush (pc' := 33) dX9_firstRun_31 rfl), ↓(X_icmp_ne (tgt := 40) (pc' := 36) dX9_firstRun_33 (by decide) rfl), rn_0, gV_s, ↓pI_c, ↓pII_c, ↓pL_c, ↓pLL_c, ↓pR_c, ↓pRI_c, ↓pRII_c, ↓pRIL_c, ↓pRR_c, ↓pV_c, ↓pVV_c, ↓gI_c, ↓gL_c, ↓gR_c, f2_0, f2_1, nk_n, nk_i, nk_r, ↓reduceIte, r32, r64, Nat.reduceAdd, Nat.reduceSub, Nat.reduceEqDiff, Nat.reduceLT, Nat.reduceLeDiff, Nat.reduceBEq, Int.reduceAdd, Int.reduceSub, Int.reduceMul, Int.reduceNeg, Int.reduceToNat, Int.reduceLE, Int.reduceLT, Int.reduceEq, Int.reduceNatCast', Int.reduceNatCast, Int.natCast_zero, Int.toNat_natCast, Int.toNat_zero, Int.toNat_one, List.length_cons, List.length_nil, true_and, and_true, and_self, true_or, or_true, false_or, or_false, Bool.not_true, Bool.not_false, Nat.lt_add_one, Nat.zero_lt_succ, N0, swL_n, swL_c, List.toList_toArray, false_implies, true_implies, implies_true, forall_const, not_false_eq_true, not_true_eq_false, and_false, false_and, h1, r1, r2]
      simp only [hK9]
      clear hK9 K9v
      refine J_rnG GM_fa (by omega) (by omega) (by omega) 2 _ _ _ _ (fun K9v hK9 => ?_)
      simp (maxSteps := 4000000) only [↓(X_iconst (pc' := 37) dX9_firstRun_36 rfl), ↓(X_goto (pc' := 52) dX9_firstRun_37 (by decide)), rn_0, gV_s, ↓pI_c, ↓pII_c, ↓pL_c, ↓pLL_c, ↓pR_c, ↓pRI_c, ↓pRII_c, ↓pRIL_c, ↓pRR_c, ↓pV_c, ↓pVV_c, ↓gI_c, ↓gL_c, ↓gR_c, f2_0, f2_1, nk_n, nk_i, nk_r, ↓reduceIte, r32, r64, Nat.reduceAdd, Nat.reduceSub, Nat.reduceEqDiff, Nat.reduceLT, Nat.reduceLeDiff, Nat.reduceBEq, Int.reduceAdd, Int.reduceSub, Int.reduceMul, Int.reduceNeg, Int.reduceToNat, Int.reduceLE, Int.reduceLT, Int.reduceEq, Int.reduceNatCast', Int.reduceNatCast, Int.natCast_zero, Int.toNat_natCast, Int.toNat_zero, Int.toNat_one, List.length_cons, List.length_nil, true_and, and_true, and_self, true_or, or_true, false_or, or_false, Bool.not_true, Bool.not_false, Nat.lt_add_one, Nat.zero_lt_succ, N0, swL_n, swL_c, List.toList_toArray, false_implies, true_implies, implies_true, forall_const, not_false_eq_true, not_true_eq_false, and_false, false_and]
      simp only [hK9]
      clear hK9 K9v
      exact hmid
    · have q' : ¬ (a : Int) = 16 := by omega
      rw [cJ, if_neg q] at hmid
      refine J_rnG GM_fa (by omega) (by omega) (by omega) 6 _ _ _ _ (fun K9v hK9 => ?_)
      simp (maxSteps := 4000000) only [↓(X_iload (pc' := 26) dX9_firstRun_24 rfl), ↓gI_4, ↓(X_iload_n (k := 1) (pc' := 27) dX9_firstRun_26 rfl rfl), ↓gI_1, ↓(X_icmp_ge (tgt := 109) (pc' := 30) dX9_firstRun_27 (by decide) rfl), ↓(X_iload_n (k := 3) (pc' := 31) dX9_firstRun_30 rfl rfl), ↓gI_3, ↓(X_bipush (pc' := 33) dX9_firstRun_31 rfl), ↓(X_icmp_ne (tgt := 40) (pc' := 36) dX9_firstRun_33 (by decide) rfl), rn_0, gV_s, ↓pI_c, ↓pII_c, ↓pL_c, ↓pLL_c, ↓pR_c, ↓pRI_c, ↓pRII_c, ↓pRIL_c, ↓pRR_c, ↓pV_c, ↓pVV_c, ↓gI_c, ↓gL_c, ↓gR_c, f2_0, f2_1, nk_n, nk_i, nk_r, ↓reduceIte, r32, r64, Nat.reduceAdd, Nat.reduceSub, Nat.reduceEqDiff, Nat.reduceLT, Nat.reduceLeDiff, Nat.reduceBEq, Int.reduceAdd, Int.reduceSub, Int.reduceMul, Int.reduceNeg, Int.reduceToNat, Int.reduceLE, Int.reduceLT, Int.reduceEq, Int.reduceNatCast', Int.reduceNatCast, Int.natCast_zero, Int.toNat_natCast, Int.toNat_zero, Int.toNat_one, List.length_cons, List.length_nil, true_and, and_true, and_self, true_or, or_true, false_or, or_false, Bool.not_true, Bool.not_false, Nat.lt_add_one, Nat.zero_lt_succ, N0, swL_n, swL_c, List.toList_toArray, false_implies, true_implies, implies_true, forall_const, not_false_eq_true, not_true_eq_false, and_false, false_and, h1, r1, r2, q', rA]
      simp only [hK9]
      clear hK9 K9v
      refine J_rnG GM_fa (by omega) (by omega) (by omega) 6 _ _ _ _ (fun K9v hK9 => ?_)
      simp (maxSteps := 4000000) only [↓(X_aload_n (k := 0) (pc' := 41) dX9_firstRun_40 rfl rfl), ↓gR_0, ↓(X_iload_n (k := 3) (pc' := 42) dX9_firstRun_41 rfl rfl), ↓gI_3, ↓(X_aload_n (k := 0) (pc' := 43) dX9_firstRun_42 rfl rfl), ↓(X_getR (pc' := 46) fl_9_69 dX9_firstRun_43 rfl), kd_447, ↓(gV_c r0_447_25), kd_466, ln_466, ↓(X_iload (pc' := 48) dX9_firstRun_46 rfl), ↓gI_4, ↓(X_iaload (pc' := 49) dX9_firstRun_48 rfl), rn_0, gV_s, ↓pI_c, ↓pII_c, ↓pL_c, ↓pLL_c, ↓pR_c, ↓pRI_c, ↓pRII_c, ↓pRIL_c, ↓pRR_c, ↓pV_c, ↓pVV_c, ↓gI_c, ↓gL_c, ↓gR_c, f2_0, f2_1, nk_n, nk_i, nk_r, ↓reduceIte, r32, r64, Nat.reduceAdd, Nat.reduceSub, Nat.reduceEqDiff, Nat.reduceLT, Nat.reduceLeDiff, Nat.reduceBEq, Int.reduceAdd, Int.reduceSub, Int.reduceMul, Int.reduceNeg, Int.reduceToNat, Int.reduceLE, Int.reduceLT, Int.reduceEq, Int.reduceNatCast', Int.reduceNatCast, Int.natCast_zero, Int.toNat_natCast, Int.toNat_zero, Int.toNat_one, List.length_cons, List.length_nil, true_and, and_true, and_self, true_or, or_true, false_or, or_false, Bool.not_true, Bool.not_false, Nat.lt_add_one, Nat.zero_lt_succ, N0, swL_n, swL_c, List.toList_toArray, false_implies, true_implies, implies_true, forall_const, not_false_eq_true, not_true_eq_false, and_false, false_and, i1, i2, f466, hm1]
      simp only [hK9]
      clear hK9 K9v
      refine J_callVd (ci := 9) GM_fa (om_wash (M := M') (d + 1) a (js j) (by omega) hm2 (mJ_congr (hM.1 454 (by decide)) hJ)) dX9_firstRun_49 k_9_153 (by omega) (Nat.le_of_ble_eq_true rfl) ⟨by omega, by omega⟩ rfl (by decide +kernel) rfl (by decide) (by simp only [N0]; omega) (by simp) rfl rfl ?_
      simp only [Option.toList, List.cons_append, List.nil_append]
      rw [show washF (mcol M' a) (mcol M' (js j)) = washF (mcol M1 a) (mcol M1 (js j)) by unfold mcol; rw [hM.1 454 (by decide)]]
      exact hmid
set_option maxRecDepth 100000 in
set_option maxHeartbeats 4000000 in
theorem om_firstRun {M : Nat → Nat → Int} (d n : Nat) (hn : M 447 7 = (n : Int)) (hn2 : n ≤ 16) (hst : ∀ i, i < 16 → 0 ≤ M 457 i ∧ M 457 i ≤ 2) (h8 : nMixm M n ≤ 8) (hJ : mJ M) (hl : M 447 16 = -1 ∨ (0 ≤ M 447 16 ∧ M 447 16 < 16)) : Ok l D cy (d + 4) 0 0 yX9_firstRun cX9_firstRun 6 (some (.int)) [.inr (.inr (some (447)))] (N0, R0, M) (fun o ν => o = .inl (some (.inl (firstV (CA M (mixAtm M n) (bg M)) (nMixm M n) (fun k => (mixAtm M n k : Int))))) ∧ ∃ M2 : Nat → Nat → Int, ν = (N0, R0, M2) ∧ mO M M2 0) := by
  refine Ok.intro (o := 9) (ini := false) [some (.inr (.inr (some (447)))), none, none, none, none, none] (by decide +kernel) rfl (fun h => by cases h) rfl (Nat.le_of_ble_eq_true rfl) rfl ?_
  refine J_rnG GM_fa (by omega) (by omega) (by omega) 4 _ _ _ _ (fun K9v hK9 => ?_)
  simp (maxSteps := 4000000) only [↓(X_aload_n (k := 0) (pc' := 1) dX9_firstRun_0 rfl rfl), ↓gR_0, ↓(X_iconst (pc' := 2) dX9_firstRun_1 rfl), ↓(X_putI (pc' := 5) fl_9_72 (by decide) dX9_firstRun_2 rfl), Nat.one_ne_zero, Nat.reduceEqDiff, kd_447, ↓(X_aload_n (k := 0) (pc' := 6) dX9_firstRun_5 rfl rfl), rn_0, gV_s, ↓pI_c, ↓pII_c, ↓pL_c, ↓pLL_c, ↓pR_c, ↓pRI_c, ↓pRII_c, ↓pRIL_c, ↓pRR_c, ↓pV_c, ↓pVV_c, ↓gI_c, ↓gL_c, ↓gR_c, f2_0, f2_1, nk_n, nk_i, nk_r, ↓reduceIte, r32, r64, Nat.reduceAdd, Nat.reduceSub, Nat.reduceEqDiff, Nat.reduceLT, Nat.reduceLeDiff, Nat.reduceBEq, Int.reduceAdd, Int.reduceSub, Int.reduceMul, Int.reduceNeg, Int.reduceToNat, Int.reduceLE, Int.reduceLT, Int.reduceEq, Int.reduceNatCast', Int.reduceNatCast, Int.natCast_zero, Int.toNat_natCast, Int.toNat_zero, Int.toNat_one, List.length_cons, List.length_nil, true_and, and_true, and_self, true_or, or_true, false_or, or_false, Bool.not_true, Bool.not_false, Nat.lt_add_one, Nat.zero_lt_succ, N0, swL_n, swL_c, List.toList_toArray, false_implies, true_implies, implies_true, forall_const, not_false_eq_true, not_true_eq_false, and_false, false_and]
  simp only [hK9]
  clear hK9 K9v
  have hA : ∀ x, x ≠ 447 → up2 M 447 26 0 x = M x := fun x hx => up2_r hx
  have hB : ∀ k, k ≠ 26 → up2 M 447 26 0 447 k = M 447 k := fun k hk => up2_k hk
  have hC : up2 M 447 26 0 447 26 = 0 := up2_s
  generalize up2 M 447 26 0 = Ma at hA hB hC ⊢
  have e1 : nMixm Ma n = nMixm M n := nMixm_congr (hA 457 (by decide)) n
  have e2 : mixAtm Ma n = mixAtm M n := funext (fun k => mixAtm_congr (hA 457 (by decide)) n k)
  refine J_callV (ci := 9) GM_fa (om_orders (M := Ma) (d + 0) n (by rw [hB 7 (by decide)]; exact hn) hn2 (by rw [hA 457 (by decide)]; exact hst) (by rw [e1]; exact h8) (mJ_congr (hA 454 (by decide)) hJ)) (by first | exact calm_det | assumption | (intro q9 ν9 h9; obtain ⟨h8, h6, M9, h7, -⟩ := h9; exact ⟨⟨_, h8⟩, by rw [h7]; rfl⟩) | (intro q9 ν9 h9; obtain ⟨h8, M9, h7, -⟩ := h9; first | exact ⟨⟨_, h8⟩, by rw [h7]; rfl⟩ | exact ⟨⟨_, h7⟩, by rw [h8]; rfl⟩ | exact ⟨⟨_, h7⟩, by rw [h8]⟩)) dX9_firstRun_6 k_9_156 (by omega) (Nat.le_of_ble_eq_true rfl) ⟨by omega, by omega⟩ rfl (by decide +kernel) rfl (by decide) (by simp only [N0]; omega) (by simp) rfl (fun v ν hv => ?_)
  obtain ⟨hv0, M2, rfl, M1, x1, x2⟩ := hv
  cases hv0
  simp only [Option.toList, List.cons_append, List.nil_append]
  rw [e1, e2] at x2
  rw [e1]
  have x3 : ∀ k, k < nMixm M n → M1 466 k = (mixAtm M n k : Int) := by
    have := x1.2
    rw [e1, e2] at this
    exact this
  have g454 : M1 454 = M 454 := by rw [x1.1 454 (by decide), hA 454 (by decide)]
  have g447 : M2 447 = Ma 447 := by rw [x2.1 447 (by decide), x1.1 447 (by decide)]
  have g16 : M2 447 16 = M 447 16 := by rw [g447, hB 16 (by decide)]
  have ebg : bg M2 = bg M := by unfold bg; rw [g16]
  have hbg : bg M ≤ 16 := by
    unfold bg
    split <;> omega
  have hjs : jsOK M1 (mixAtm M n) (nMixm M n) := fun k hk => ⟨x3 k hk, by have := mixAtm_lt n k hk; omega⟩
  generalize hN : nMixm M n = N at *
  obtain ⟨b1, b2, b3, b4, b5, b6⟩ := bt_all N h8
  have r3 : (1 * 2 ^ N : Int) ≤ 2147483647 := by omega
  have r4 : 0 ≤ (N : Int) ∧ (N : Int) < 31 := by omega
  refine J_rnG GM_fa (by omega) (by omega) (by omega) 8 _ _ _ _ (fun K9v hK9 => ?_)
  simp (maxSteps := 4000000) only [↓(X_istore_n (k := 1) (pc' := 10) dX9_firstRun_9 rfl rfl), ↓sto_1, ↓(X_iconst (pc' := 11) dX9_firstRun_10 rfl), ↓(X_iload_n (k := 1) (pc' := 12) dX9_firstRun_11 rfl rfl), ↓gI_1, ↓(X_ishl (pc' := 13) dX9_firstRun_12 rfl), ↓(X_iconst (pc' := 14) dX9_firstRun_13 rfl), ↓(X_isub (pc' := 15) dX9_firstRun_14 rfl), ↓(X_istore_n (k := 2) (pc' := 16) dX9_firstRun_15 rfl rfl), ↓sto_2, ↓(X_aload_n (k := 0) (pc' := 17) dX9_firstRun_16 rfl rfl), ↓gR_0, rn_0, gV_s, ↓pI_c, ↓pII_c, ↓pL_c, ↓pLL_c, ↓pR_c, ↓pRI_c, ↓pRII_c, ↓pRIL_c, ↓pRR_c, ↓pV_c, ↓pVV_c, ↓gI_c, ↓gL_c, ↓gR_c, f2_0, f2_1, nk_n, nk_i, nk_r, ↓reduceIte, r32, r64, Nat.reduceAdd, Nat.reduceSub, Nat.reduceEqDiff, Nat.reduceLT, Nat.reduceLeDiff, Nat.reduceBEq, Int.reduceAdd, Int.reduceSub, Int.reduceMul, Int.reduceNeg, Int.reduceToNat, Int.reduceLE, Int.reduceLT, Int.reduceEq, Int.reduceNatCast', Int.reduceNatCast, Int.natCast_zero, Int.toNat_natCast, Int.toNat_zero, Int.toNat_one, List.length_cons, List.length_nil, true_and, and_true, and_self, true_or, or_true, false_or, or_false, Bool.not_true, Bool.not_false, Nat.lt_add_one, Nat.zero_lt_succ, N0, swL_n, swL_c, List.toList_toArray, false_implies, true_implies, implies_true, forall_const, not_false_eq_true, not_true_eq_false, and_false, false_and, r3, r4, b5]
  simp only [hK9]
  clear hK9 K9v
  refine J_callVd (ci := 9) GM_fa (om_begins (M := M2) (d + 2) (by rw [g16]; exact hl)) dX9_firstRun_17 k_9_159 (by omega) (Nat.le_of_ble_eq_true rfl) ⟨by omega, by omega⟩ rfl (by decide +kernel) rfl (by decide) (by simp only [N0]; omega) (by simp) rfl rfl ?_
  simp only [Option.toList, List.cons_append, List.nil_append]
  rw [ebg]
  refine J_rnG GM_fa (by omega) (by omega) (by omega) 3 _ _ _ _ (fun K9v hK9 => ?_)
  simp (maxSteps := 4000000) only [↓(X_istore_n (k := 3) (pc' := 21) dX9_firstRun_20 rfl rfl), ↓sto_3, ↓(X_iconst (pc' := 22) dX9_firstRun_21 rfl), ↓(X_istore (pc' := 24) dX9_firstRun_22 rfl), ↓sto_4, rn_0, gV_s, ↓pI_c, ↓pII_c, ↓pL_c, ↓pLL_c, ↓pR_c, ↓pRI_c, ↓pRII_c, ↓pRIL_c, ↓pRR_c, ↓pV_c, ↓pVV_c, ↓gI_c, ↓gL_c, ↓gR_c, f2_0, f2_1, nk_n, nk_i, nk_r, ↓reduceIte, r32, r64, Nat.reduceAdd, Nat.reduceSub, Nat.reduceEqDiff, Nat.reduceLT, Nat.reduceLeDiff, Nat.reduceBEq, Int.reduceAdd, Int.reduceSub, Int.reduceMul, Int.reduceNeg, Int.reduceToNat, Int.reduceLE, Int.reduceLT, Int.reduceEq, Int.reduceNatCast', Int.reduceNatCast, Int.natCast_zero, Int.toNat_natCast, Int.toNat_zero, Int.toNat_one, List.length_cons, List.length_nil, true_and, and_true, and_self, true_or, or_true, false_or, or_false, Bool.not_true, Bool.not_false, Nat.lt_add_one, Nat.zero_lt_succ, N0, swL_n, swL_c, List.toList_toArray, false_implies, true_implies, implies_true, forall_const, not_false_eq_true, not_true_eq_false, and_false, false_and]
  simp only [hK9]
  clear hK9 K9v
  refine jj_fr (M1 := M1) (M := M) (js := mixAtm M n) d N (bg M) h8 hbg hjs (mJ_congr g454 hJ) M2 x2 N 0 none (nk_n.mpr trivial) (by omega) ⟨?_, M2, rfl, fun x k1 k2 k3 => by rw [x2.1 x k2, x1.1 x k3, hA x k1], fun k hk => by rw [g447, hB k hk], by rw [g447, hC]; rfl⟩
  rw [CA_congr g454]
  rfl
end MR
