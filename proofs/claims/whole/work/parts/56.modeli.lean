/-! the constructor of the model -/
theorem R0_447 {k : Nat} : R0 447 k = [none, some 448, some 449, some 450, some 451, none, some 452, none, some 453, some 454, some 455, some 456, some 457, some 458, some 459, none, none, none, some 460, some 461, some 462, some 463, some 464, none, some 465, some 466, none].getD k none := by
  unfold R0
  simp [kd_447]
theorem M0_448 {k : Nat} : M0 448 k = [0, 0, 0, 100, 10, 20, 20, 100, 10, 90, 90, 90].getD k 0 := by
  simp [M0]
theorem kma : ∀ x, x < 467 → 448 ≤ x → kd x = 10 ∨ kd x = 11 := by decide +kernel
section MK5
variable {l : Launch} {D : va_G} {cy : Nat → ClassId}
set_option maxRecDepth 100000 in
set_option maxHeartbeats 4000000 in
theorem on_Model {Rf : Nat → Nat → Option Nat} {M : Nat → Nat → Int} (d : Nat) (hW9 : W0 447 Rf M) : Ok l D cy (d + 2) 20 4800 yX9_init cX9_init 1 (none) [.inr (.inr (some (447)))] ((448, Rf, M)) (det none (467, rng 447 467 R0 Rf, rng 447 467 M0 M)) := by
  refine Ok.intro (o := 9) (ini := true) [some (.inr (.inr (some (447))))] (by decide +kernel) rfl (fun _ => rfl) rfl (Nat.le_of_ble_eq_true rfl) rfl ?_
  have hW := W0.new hW9
  refine J_rnG GM_fa (by omega) (by omega) (by omega) 4 _ _ _ _ (fun K9v hK9 => ?_)
  simp (maxSteps := 4000000) only [↓(X_aload_n (k := 0) (pc' := 1) dX9_init_0 rfl rfl), ↓gR_0, ↓(X_obj (pc' := 4) jd_9_1 dX9_init_1 rfl), ↓(X_aload_n (k := 0) (pc' := 5) dX9_init_4 rfl rfl), ↓(X_bipush (pc' := 7) dX9_init_5 rfl), rn_0, gV_s, ↓pI_c, ↓pII_c, ↓pL_c, ↓pLL_c, ↓pR_c, ↓pRI_c, ↓pRII_c, ↓pRIL_c, ↓pRR_c, ↓pV_c, ↓pVV_c, ↓gI_c, ↓gL_c, ↓gR_c, f2_0, f2_1, nk_n, nk_i, nk_r, ↓reduceIte, r32, r64, Nat.reduceAdd, Nat.reduceSub, Nat.reduceEqDiff, Nat.reduceLT, Nat.reduceLeDiff, Nat.reduceBEq, Int.reduceAdd, Int.reduceSub, Int.reduceMul, Int.reduceNeg, Int.reduceToNat, Int.reduceLE, Int.reduceLT, Int.reduceEq, Int.reduceNatCast', Int.reduceNatCast, Int.natCast_zero, Int.toNat_natCast, Int.toNat_zero, Int.toNat_one, List.length_cons, List.length_nil, true_and, and_true, and_self, true_or, or_true, false_or, or_false, Bool.not_true, Bool.not_false, Nat.lt_add_one, Nat.zero_lt_succ, N0, swL_n, swL_c, List.toList_toArray, false_implies, true_implies, implies_true, forall_const, not_false_eq_true, not_true_eq_false, and_false, false_and]
  simp only [hK9]
  clear hK9 K9v
  refine J_newI (N := 12) GM_fa dX9_init_7 (by decide +kernel) (by decide +kernel) (by decide) ?_ ?_ ?_ ?_ ?_
  · repeat (first | exact hW | with_reducible refine W0.up ?_ (by omega) | with_reducible refine W0.ur ?_ (by omega) (by omega) | with_reducible refine W0.mn ?_ (by omega) | with_reducible refine W0.new ?_)
  · omega
  · exact (inW_of (by simp [refs] <;> omega) (by simp [refs] <;> omega))
  · exact ⟨by omega, by omega⟩
  refine J_rnG GM_fa (by omega) (by omega) (by omega) 3 _ _ _ _ (fun K9v hK9 => ?_)
  simp (maxSteps := 4000000) only [↓(X_putR (pc' := 12) fl_9_7 dX9_init_9 rfl), kd_447, ↓(gV_c r0_447_1), kd_448, ln_448, ↓(X_aload_n (k := 0) (pc' := 13) dX9_init_12 rfl rfl), ↓gR_0, ↓(X_iconst (pc' := 14) dX9_init_13 rfl), rn_0, gV_s, ↓pI_c, ↓pII_c, ↓pL_c, ↓pLL_c, ↓pR_c, ↓pRI_c, ↓pRII_c, ↓pRIL_c, ↓pRR_c, ↓pV_c, ↓pVV_c, ↓gI_c, ↓gL_c, ↓gR_c, f2_0, f2_1, nk_n, nk_i, nk_r, ↓reduceIte, r32, r64, Nat.reduceAdd, Nat.reduceSub, Nat.reduceEqDiff, Nat.reduceLT, Nat.reduceLeDiff, Nat.reduceBEq, Int.reduceAdd, Int.reduceSub, Int.reduceMul, Int.reduceNeg, Int.reduceToNat, Int.reduceLE, Int.reduceLT, Int.reduceEq, Int.reduceNatCast', Int.reduceNatCast, Int.natCast_zero, Int.toNat_natCast, Int.toNat_zero, Int.toNat_one, List.length_cons, List.length_nil, true_and, and_true, and_self, true_or, or_true, false_or, or_false, Bool.not_true, Bool.not_false, Nat.lt_add_one, Nat.zero_lt_succ, N0, swL_n, swL_c, List.toList_toArray, false_implies, true_implies, implies_true, forall_const, not_false_eq_true, not_true_eq_false, and_false, false_and, kd_447]
  simp only [hK9]
  clear hK9 K9v
  refine J_newI (N := 4) GM_fa dX9_init_14 (by decide +kernel) (by decide +kernel) (by decide) ?_ ?_ ?_ ?_ ?_
  · repeat (first | exact hW | with_reducible refine W0.up ?_ (by omega) | with_reducible refine W0.ur ?_ (by omega) (by omega) | with_reducible refine W0.mn ?_ (by omega) | with_reducible refine W0.new ?_)
  · omega
  · exact (inW_of (by simp [refs] <;> omega) (by simp [refs] <;> omega))
  · exact ⟨by omega, by omega⟩
  refine J_rnG GM_fa (by omega) (by omega) (by omega) 3 _ _ _ _ (fun K9v hK9 => ?_)
  simp (maxSteps := 4000000) only [↓(X_putR (pc' := 19) fl_9_13 dX9_init_16 rfl), kd_447, ↓(gV_c r0_447_2), kd_449, ln_449, ↓(X_aload_n (k := 0) (pc' := 20) dX9_init_19 rfl rfl), ↓gR_0, ↓(X_iconst (pc' := 21) dX9_init_20 rfl), rn_0, gV_s, ↓pI_c, ↓pII_c, ↓pL_c, ↓pLL_c, ↓pR_c, ↓pRI_c, ↓pRII_c, ↓pRIL_c, ↓pRR_c, ↓pV_c, ↓pVV_c, ↓gI_c, ↓gL_c, ↓gR_c, f2_0, f2_1, nk_n, nk_i, nk_r, ↓reduceIte, r32, r64, Nat.reduceAdd, Nat.reduceSub, Nat.reduceEqDiff, Nat.reduceLT, Nat.reduceLeDiff, Nat.reduceBEq, Int.reduceAdd, Int.reduceSub, Int.reduceMul, Int.reduceNeg, Int.reduceToNat, Int.reduceLE, Int.reduceLT, Int.reduceEq, Int.reduceNatCast', Int.reduceNatCast, Int.natCast_zero, Int.toNat_natCast, Int.toNat_zero, Int.toNat_one, List.length_cons, List.length_nil, true_and, and_true, and_self, true_or, or_true, false_or, or_false, Bool.not_true, Bool.not_false, Nat.lt_add_one, Nat.zero_lt_succ, N0, swL_n, swL_c, List.toList_toArray, false_implies, true_implies, implies_true, forall_const, not_false_eq_true, not_true_eq_false, and_false, false_and, kd_447]
  simp only [hK9]
  clear hK9 K9v
  refine J_newI (N := 4) GM_fa dX9_init_21 (by decide +kernel) (by decide +kernel) (by decide) ?_ ?_ ?_ ?_ ?_
  · repeat (first | exact hW | with_reducible refine W0.up ?_ (by omega) | with_reducible refine W0.ur ?_ (by omega) (by omega) | with_reducible refine W0.mn ?_ (by omega) | with_reducible refine W0.new ?_)
  · omega
  · exact (inW_of (by simp [refs] <;> omega) (by simp [refs] <;> omega))
  · exact ⟨by omega, by omega⟩
  refine J_rnG GM_fa (by omega) (by omega) (by omega) 3 _ _ _ _ (fun K9v hK9 => ?_)
  simp (maxSteps := 4000000) only [↓(X_putR (pc' := 26) fl_9_16 dX9_init_23 rfl), kd_447, ↓(gV_c r0_447_3), kd_450, ln_450, ↓(X_aload_n (k := 0) (pc' := 27) dX9_init_26 rfl rfl), ↓gR_0, ↓(X_iconst (pc' := 28) dX9_init_27 rfl), rn_0, gV_s, ↓pI_c, ↓pII_c, ↓pL_c, ↓pLL_c, ↓pR_c, ↓pRI_c, ↓pRII_c, ↓pRIL_c, ↓pRR_c, ↓pV_c, ↓pVV_c, ↓gI_c, ↓gL_c, ↓gR_c, f2_0, f2_1, nk_n, nk_i, nk_r, ↓reduceIte, r32, r64, Nat.reduceAdd, Nat.reduceSub, Nat.reduceEqDiff, Nat.reduceLT, Nat.reduceLeDiff, Nat.reduceBEq, Int.reduceAdd, Int.reduceSub, Int.reduceMul, Int.reduceNeg, Int.reduceToNat, Int.reduceLE, Int.reduceLT, Int.reduceEq, Int.reduceNatCast', Int.reduceNatCast, Int.natCast_zero, Int.toNat_natCast, Int.toNat_zero, Int.toNat_one, List.length_cons, List.length_nil, true_and, and_true, and_self, true_or, or_true, false_or, or_false, Bool.not_true, Bool.not_false, Nat.lt_add_one, Nat.zero_lt_succ, N0, swL_n, swL_c, List.toList_toArray, false_implies, true_implies, implies_true, forall_const, not_false_eq_true, not_true_eq_false, and_false, false_and, kd_447]
  simp only [hK9]
  clear hK9 K9v
  refine J_newI (N := 4) GM_fa dX9_init_28 (by decide +kernel) (by decide +kernel) (by decide) ?_ ?_ ?_ ?_ ?_
  · repeat (first | exact hW | with_reducible refine W0.up ?_ (by omega) | with_reducible refine W0.ur ?_ (by omega) (by omega) | with_reducible refine W0.mn ?_ (by omega) | with_reducible refine W0.new ?_)
  · omega
  · exact (inW_of (by simp [refs] <;> omega) (by simp [refs] <;> omega))
  · exact ⟨by omega, by omega⟩
  refine J_rnG GM_fa (by omega) (by omega) (by omega) 3 _ _ _ _ (fun K9v hK9 => ?_)
  simp (maxSteps := 4000000) only [↓(X_putR (pc' := 33) fl_9_19 dX9_init_30 rfl), kd_447, ↓(gV_c r0_447_4), kd_451, ln_451, ↓(X_aload_n (k := 0) (pc' := 34) dX9_init_33 rfl rfl), ↓gR_0, ↓(X_bipush (pc' := 36) dX9_init_34 rfl), rn_0, gV_s, ↓pI_c, ↓pII_c, ↓pL_c, ↓pLL_c, ↓pR_c, ↓pRI_c, ↓pRII_c, ↓pRIL_c, ↓pRR_c, ↓pV_c, ↓pVV_c, ↓gI_c, ↓gL_c, ↓gR_c, f2_0, f2_1, nk_n, nk_i, nk_r, ↓reduceIte, r32, r64, Nat.reduceAdd, Nat.reduceSub, Nat.reduceEqDiff, Nat.reduceLT, Nat.reduceLeDiff, Nat.reduceBEq, Int.reduceAdd, Int.reduceSub, Int.reduceMul, Int.reduceNeg, Int.reduceToNat, Int.reduceLE, Int.reduceLT, Int.reduceEq, Int.reduceNatCast', Int.reduceNatCast, Int.natCast_zero, Int.toNat_natCast, Int.toNat_zero, Int.toNat_one, List.length_cons, List.length_nil, true_and, and_true, and_self, true_or, or_true, false_or, or_false, Bool.not_true, Bool.not_false, Nat.lt_add_one, Nat.zero_lt_succ, N0, swL_n, swL_c, List.toList_toArray, false_implies, true_implies, implies_true, forall_const, not_false_eq_true, not_true_eq_false, and_false, false_and, kd_447]
  simp only [hK9]
  clear hK9 K9v
  refine J_newI (N := 120) GM_fa dX9_init_36 (by decide +kernel) (by decide +kernel) (by decide) ?_ ?_ ?_ ?_ ?_
  · repeat (first | exact hW | with_reducible refine W0.up ?_ (by omega) | with_reducible refine W0.ur ?_ (by omega) (by omega) | with_reducible refine W0.mn ?_ (by omega) | with_reducible refine W0.new ?_)
  · omega
  · exact (inW_of (by simp [refs] <;> omega) (by simp [refs] <;> omega))
  · exact ⟨by omega, by omega⟩
  refine J_rnG GM_fa (by omega) (by omega) (by omega) 3 _ _ _ _ (fun K9v hK9 => ?_)
  simp (maxSteps := 4000000) only [↓(X_putR (pc' := 41) fl_9_22 dX9_init_38 rfl), kd_447, ↓(gV_c r0_447_6), kd_452, ln_452, ↓(X_aload_n (k := 0) (pc' := 42) dX9_init_41 rfl rfl), ↓gR_0, ↓(X_bipush (pc' := 44) dX9_init_42 rfl), rn_0, gV_s, ↓pI_c, ↓pII_c, ↓pL_c, ↓pLL_c, ↓pR_c, ↓pRI_c, ↓pRII_c, ↓pRIL_c, ↓pRR_c, ↓pV_c, ↓pVV_c, ↓gI_c, ↓gL_c, ↓gR_c, f2_0, f2_1, nk_n, nk_i, nk_r, ↓reduceIte, r32, r64, Nat.reduceAdd, Nat.reduceSub, Nat.reduceEqDiff, Nat.reduceLT, Nat.reduceLeDiff, Nat.reduceBEq, Int.reduceAdd, Int.reduceSub, Int.reduceMul, Int.reduceNeg, Int.reduceToNat, Int.reduceLE, Int.reduceLT, Int.reduceEq, Int.reduceNatCast', Int.reduceNatCast, Int.natCast_zero, Int.toNat_natCast, Int.toNat_zero, Int.toNat_one, List.length_cons, List.length_nil, true_and, and_true, and_self, true_or, or_true, false_or, or_false, Bool.not_true, Bool.not_false, Nat.lt_add_one, Nat.zero_lt_succ, N0, swL_n, swL_c, List.toList_toArray, false_implies, true_implies, implies_true, forall_const, not_false_eq_true, not_true_eq_false, and_false, false_and, kd_447]
  simp only [hK9]
  clear hK9 K9v
  refine J_newI (N := 48) GM_fa dX9_init_44 (by decide +kernel) (by decide +kernel) (by decide) ?_ ?_ ?_ ?_ ?_
  · repeat (first | exact hW | with_reducible refine W0.up ?_ (by omega) | with_reducible refine W0.ur ?_ (by omega) (by omega) | with_reducible refine W0.mn ?_ (by omega) | with_reducible refine W0.new ?_)
  · omega
  · exact (inW_of (by simp [refs] <;> omega) (by simp [refs] <;> omega))
  · exact ⟨by omega, by omega⟩
  refine J_rnG GM_fa (by omega) (by omega) (by omega) 3 _ _ _ _ (fun K9v hK9 => ?_)
  simp (maxSteps := 4000000) only [↓(X_putR (pc' := 49) fl_9_25 dX9_init_46 rfl), kd_447, ↓(gV_c r0_447_8), kd_453, ln_453, ↓(X_aload_n (k := 0) (pc' := 50) dX9_init_49 rfl rfl), ↓gR_0, ↓(X_bipush (pc' := 52) dX9_init_50 rfl), rn_0, gV_s, ↓pI_c, ↓pII_c, ↓pL_c, ↓pLL_c, ↓pR_c, ↓pRI_c, ↓pRII_c, ↓pRIL_c, ↓pRR_c, ↓pV_c, ↓pVV_c, ↓gI_c, ↓gL_c, ↓gR_c, f2_0, f2_1, nk_n, nk_i, nk_r, ↓reduceIte, r32, r64, Nat.reduceAdd, Nat.reduceSub, Nat.reduceEqDiff, Nat.reduceLT, Nat.reduceLeDiff, Nat.reduceBEq, Int.reduceAdd, Int.reduceSub, Int.reduceMul, Int.reduceNeg, Int.reduceToNat, Int.reduceLE, Int.reduceLT, Int.reduceEq, Int.reduceNatCast', Int.reduceNatCast, Int.natCast_zero, Int.toNat_natCast, Int.toNat_zero, Int.toNat_one, List.length_cons, List.length_nil, true_and, and_true, and_self, true_or, or_true, false_or, or_false, Bool.not_true, Bool.not_false, Nat.lt_add_one, Nat.zero_lt_succ, N0, swL_n, swL_c, List.toList_toArray, false_implies, true_implies, implies_true, forall_const, not_false_eq_true, not_true_eq_false, and_false, false_and, kd_447]
  simp only [hK9]
  clear hK9 K9v
  refine J_newI (N := 48) GM_fa dX9_init_52 (by decide +kernel) (by decide +kernel) (by decide) ?_ ?_ ?_ ?_ ?_
  · repeat (first | exact hW | with_reducible refine W0.up ?_ (by omega) | with_reducible refine W0.ur ?_ (by omega) (by omega) | with_reducible refine W0.mn ?_ (by omega) | with_reducible refine W0.new ?_)
  · omega
  · exact (inW_of (by simp [refs] <;> omega) (by simp [refs] <;> omega))
  · exact ⟨by omega, by omega⟩
  refine J_rnG GM_fa (by omega) (by omega) (by omega) 3 _ _ _ _ (fun K9v hK9 => ?_)
  simp (maxSteps := 4000000) only [↓(X_putR (pc' := 57) fl_9_28 dX9_init_54 rfl), kd_447, ↓(gV_c r0_447_9), kd_454, ln_454, ↓(X_aload_n (k := 0) (pc' := 58) dX9_init_57 rfl rfl), ↓gR_0, ↓(X_bipush (pc' := 60) dX9_init_58 rfl), rn_0, gV_s, ↓pI_c, ↓pII_c, ↓pL_c, ↓pLL_c, ↓pR_c, ↓pRI_c, ↓pRII_c, ↓pRIL_c, ↓pRR_c, ↓pV_c, ↓pVV_c, ↓gI_c, ↓gL_c, ↓gR_c, f2_0, f2_1, nk_n, nk_i, nk_r, ↓reduceIte, r32, r64, Nat.reduceAdd, Nat.reduceSub, Nat.reduceEqDiff, Nat.reduceLT, Nat.reduceLeDiff, Nat.reduceBEq, Int.reduceAdd, Int.reduceSub, Int.reduceMul, Int.reduceNeg, Int.reduceToNat, Int.reduceLE, Int.reduceLT, Int.reduceEq, Int.reduceNatCast', Int.reduceNatCast, Int.natCast_zero, Int.toNat_natCast, Int.toNat_zero, Int.toNat_one, List.length_cons, List.length_nil, true_and, and_true, and_self, true_or, or_true, false_or, or_false, Bool.not_true, Bool.not_false, Nat.lt_add_one, Nat.zero_lt_succ, N0, swL_n, swL_c, List.toList_toArray, false_implies, true_implies, implies_true, forall_const, not_false_eq_true, not_true_eq_false, and_false, false_and, kd_447]
  simp only [hK9]
  clear hK9 K9v
  refine J_newI (N := 16) GM_fa dX9_init_60 (by decide +kernel) (by decide +kernel) (by decide) ?_ ?_ ?_ ?_ ?_
  · repeat (first | exact hW | with_reducible refine W0.up ?_ (by omega) | with_reducible refine W0.ur ?_ (by omega) (by omega) | with_reducible refine W0.mn ?_ (by omega) | with_reducible refine W0.new ?_)
  · omega
  · exact (inW_of (by simp [refs] <;> omega) (by simp [refs] <;> omega))
  · exact ⟨by omega, by omega⟩
  refine J_rnG GM_fa (by omega) (by omega) (by omega) 3 _ _ _ _ (fun K9v hK9 => ?_)
  simp (maxSteps := 4000000) only [↓(X_putR (pc' := 65) fl_9_31 dX9_init_62 rfl), kd_447, ↓(gV_c r0_447_10), kd_455, ln_455, ↓(X_aload_n (k := 0) (pc' := 66) dX9_init_65 rfl rfl), ↓gR_0, ↓(X_bipush (pc' := 68) dX9_init_66 rfl), rn_0, gV_s, ↓pI_c, ↓pII_c, ↓pL_c, ↓pLL_c, ↓pR_c, ↓pRI_c, ↓pRII_c, ↓pRIL_c, ↓pRR_c, ↓pV_c, ↓pVV_c, ↓gI_c, ↓gL_c, ↓gR_c, f2_0, f2_1, nk_n, nk_i, nk_r, ↓reduceIte, r32, r64, Nat.reduceAdd, Nat.reduceSub, Nat.reduceEqDiff, Nat.reduceLT, Nat.reduceLeDiff, Nat.reduceBEq, Int.reduceAdd, Int.reduceSub, Int.reduceMul, Int.reduceNeg, Int.reduceToNat, Int.reduceLE, Int.reduceLT, Int.reduceEq, Int.reduceNatCast', Int.reduceNatCast, Int.natCast_zero, Int.toNat_natCast, Int.toNat_zero, Int.toNat_one, List.length_cons, List.length_nil, true_and, and_true, and_self, true_or, or_true, false_or, or_false, Bool.not_true, Bool.not_false, Nat.lt_add_one, Nat.zero_lt_succ, N0, swL_n, swL_c, List.toList_toArray, false_implies, true_implies, implies_true, forall_const, not_false_eq_true, not_true_eq_false, and_false, false_and, kd_447]
  simp only [hK9]
  clear hK9 K9v
  refine J_newI (N := 16) GM_fa dX9_init_68 (by decide +kernel) (by decide +kernel) (by decide) ?_ ?_ ?_ ?_ ?_
  · repeat (first | exact hW | with_reducible refine W0.up ?_ (by omega) | with_reducible refine W0.ur ?_ (by omega) (by omega) | with_reducible refine W0.mn ?_ (by omega) | with_reducible refine W0.new ?_)
  · omega
  · exact (inW_of (by simp [refs] <;> omega) (by simp [refs] <;> omega))
  · exact ⟨by omega, by omega⟩
  refine J_rnG GM_fa (by omega) (by omega) (by omega) 3 _ _ _ _ (fun K9v hK9 => ?_)
  simp (maxSteps := 4000000) only [↓(X_putR (pc' := 73) fl_9_34 dX9_init_70 rfl), kd_447, ↓(gV_c r0_447_11), kd_456, ln_456, ↓(X_aload_n (k := 0) (pc' := 74) dX9_init_73 rfl rfl), ↓gR_0, ↓(X_bipush (pc' := 76) dX9_init_74 rfl), rn_0, gV_s, ↓pI_c, ↓pII_c, ↓pL_c, ↓pLL_c, ↓pR_c, ↓pRI_c, ↓pRII_c, ↓pRIL_c, ↓pRR_c, ↓pV_c, ↓pVV_c, ↓gI_c, ↓gL_c, ↓gR_c, f2_0, f2_1, nk_n, nk_i, nk_r, ↓reduceIte, r32, r64, Nat.reduceAdd, Nat.reduceSub, Nat.reduceEqDiff, Nat.reduceLT, Nat.reduceLeDiff, Nat.reduceBEq, Int.reduceAdd, Int.reduceSub, Int.reduceMul, Int.reduceNeg, Int.reduceToNat, Int.reduceLE, Int.reduceLT, Int.reduceEq, Int.reduceNatCast', Int.reduceNatCast, Int.natCast_zero, Int.toNat_natCast, Int.toNat_zero, Int.toNat_one, List.length_cons, List.length_nil, true_and, and_true, and_self, true_or, or_true, false_or, or_false, Bool.not_true, Bool.not_false, Nat.lt_add_one, Nat.zero_lt_succ, N0, swL_n, swL_c, List.toList_toArray, false_implies, true_implies, implies_true, forall_const, not_false_eq_true, not_true_eq_false, and_false, false_and, kd_447]
  simp only [hK9]
  clear hK9 K9v
  refine J_newI (N := 16) GM_fa dX9_init_76 (by decide +kernel) (by decide +kernel) (by decide) ?_ ?_ ?_ ?_ ?_
  · repeat (first | exact hW | with_reducible refine W0.up ?_ (by omega) | with_reducible refine W0.ur ?_ (by omega) (by omega) | with_reducible refine W0.mn ?_ (by omega) | with_reducible refine W0.new ?_)
  · omega
  · exact (inW_of (by simp [refs] <;> omega) (by simp [refs] <;> omega))
  · exact ⟨by omega, by omega⟩
  refine J_rnG GM_fa (by omega) (by omega) (by omega) 3 _ _ _ _ (fun K9v hK9 => ?_)
  simp (maxSteps := 4000000) only [↓(X_putR (pc' := 81) fl_9_37 dX9_init_78 rfl), kd_447, ↓(gV_c r0_447_12), kd_457, ln_457, ↓(X_aload_n (k := 0) (pc' := 82) dX9_init_81 rfl rfl), ↓gR_0, ↓(X_bipush (pc' := 84) dX9_init_82 rfl), rn_0, gV_s, ↓pI_c, ↓pII_c, ↓pL_c, ↓pLL_c, ↓pR_c, ↓pRI_c, ↓pRII_c, ↓pRIL_c, ↓pRR_c, ↓pV_c, ↓pVV_c, ↓gI_c, ↓gL_c, ↓gR_c, f2_0, f2_1, nk_n, nk_i, nk_r, ↓reduceIte, r32, r64, Nat.reduceAdd, Nat.reduceSub, Nat.reduceEqDiff, Nat.reduceLT, Nat.reduceLeDiff, Nat.reduceBEq, Int.reduceAdd, Int.reduceSub, Int.reduceMul, Int.reduceNeg, Int.reduceToNat, Int.reduceLE, Int.reduceLT, Int.reduceEq, Int.reduceNatCast', Int.reduceNatCast, Int.natCast_zero, Int.toNat_natCast, Int.toNat_zero, Int.toNat_one, List.length_cons, List.length_nil, true_and, and_true, and_self, true_or, or_true, false_or, or_false, Bool.not_true, Bool.not_false, Nat.lt_add_one, Nat.zero_lt_succ, N0, swL_n, swL_c, List.toList_toArray, false_implies, true_implies, implies_true, forall_const, not_false_eq_true, not_true_eq_false, and_false, false_and, kd_447]
  simp only [hK9]
  clear hK9 K9v
  refine J_newI (N := 16) GM_fa dX9_init_84 (by decide +kernel) (by decide +kernel) (by decide) ?_ ?_ ?_ ?_ ?_
  · repeat (first | exact hW | with_reducible refine W0.up ?_ (by omega) | with_reducible refine W0.ur ?_ (by omega) (by omega) | with_reducible refine W0.mn ?_ (by omega) | with_reducible refine W0.new ?_)
  · omega
  · exact (inW_of (by simp [refs] <;> omega) (by simp [refs] <;> omega))
  · exact ⟨by omega, by omega⟩
  refine J_rnG GM_fa (by omega) (by omega) (by omega) 3 _ _ _ _ (fun K9v hK9 => ?_)
  simp (maxSteps := 4000000) only [↓(X_putR (pc' := 89) fl_9_40 dX9_init_86 rfl), kd_447, ↓(gV_c r0_447_13), kd_458, ln_458, ↓(X_aload_n (k := 0) (pc' := 90) dX9_init_89 rfl rfl), ↓gR_0, ↓(X_bipush (pc' := 92) dX9_init_90 rfl), rn_0, gV_s, ↓pI_c, ↓pII_c, ↓pL_c, ↓pLL_c, ↓pR_c, ↓pRI_c, ↓pRII_c, ↓pRIL_c, ↓pRR_c, ↓pV_c, ↓pVV_c, ↓gI_c, ↓gL_c, ↓gR_c, f2_0, f2_1, nk_n, nk_i, nk_r, ↓reduceIte, r32, r64, Nat.reduceAdd, Nat.reduceSub, Nat.reduceEqDiff, Nat.reduceLT, Nat.reduceLeDiff, Nat.reduceBEq, Int.reduceAdd, Int.reduceSub, Int.reduceMul, Int.reduceNeg, Int.reduceToNat, Int.reduceLE, Int.reduceLT, Int.reduceEq, Int.reduceNatCast', Int.reduceNatCast, Int.natCast_zero, Int.toNat_natCast, Int.toNat_zero, Int.toNat_one, List.length_cons, List.length_nil, true_and, and_true, and_self, true_or, or_true, false_or, or_false, Bool.not_true, Bool.not_false, Nat.lt_add_one, Nat.zero_lt_succ, N0, swL_n, swL_c, List.toList_toArray, false_implies, true_implies, implies_true, forall_const, not_false_eq_true, not_true_eq_false, and_false, false_and, kd_447]
  simp only [hK9]
  clear hK9 K9v
  refine J_newI (N := 64) GM_fa dX9_init_92 (by decide +kernel) (by decide +kernel) (by decide) ?_ ?_ ?_ ?_ ?_
  · repeat (first | exact hW | with_reducible refine W0.up ?_ (by omega) | with_reducible refine W0.ur ?_ (by omega) (by omega) | with_reducible refine W0.mn ?_ (by omega) | with_reducible refine W0.new ?_)
  · omega
  · exact (inW_of (by simp [refs] <;> omega) (by simp [refs] <;> omega))
  · exact ⟨by omega, by omega⟩
  refine J_rnG GM_fa (by omega) (by omega) (by omega) 6 _ _ _ _ (fun K9v hK9 => ?_)
  simp (maxSteps := 4000000) only [↓(X_putR (pc' := 97) fl_9_43 dX9_init_94 rfl), kd_447, ↓(gV_c r0_447_14), kd_459, ln_459, ↓(X_aload_n (k := 0) (pc' := 98) dX9_init_97 rfl rfl), ↓gR_0, ↓(X_iconst (pc' := 99) dX9_init_98 rfl), ↓(X_putI (pc' := 102) fl_9_46 (by decide) dX9_init_99 rfl), Nat.one_ne_zero, Nat.reduceEqDiff, ↓(X_aload_n (k := 0) (pc' := 103) dX9_init_102 rfl rfl), ↓(X_iconst (pc' := 104) dX9_init_103 rfl), rn_0, gV_s, ↓pI_c, ↓pII_c, ↓pL_c, ↓pLL_c, ↓pR_c, ↓pRI_c, ↓pRII_c, ↓pRIL_c, ↓pRR_c, ↓pV_c, ↓pVV_c, ↓gI_c, ↓gL_c, ↓gR_c, f2_0, f2_1, nk_n, nk_i, nk_r, ↓reduceIte, r32, r64, Nat.reduceAdd, Nat.reduceSub, Nat.reduceEqDiff, Nat.reduceLT, Nat.reduceLeDiff, Nat.reduceBEq, Int.reduceAdd, Int.reduceSub, Int.reduceMul, Int.reduceNeg, Int.reduceToNat, Int.reduceLE, Int.reduceLT, Int.reduceEq, Int.reduceNatCast', Int.reduceNatCast, Int.natCast_zero, Int.toNat_natCast, Int.toNat_zero, Int.toNat_one, List.length_cons, List.length_nil, true_and, and_true, and_self, true_or, or_true, false_or, or_false, Bool.not_true, Bool.not_false, Nat.lt_add_one, Nat.zero_lt_succ, N0, swL_n, swL_c, List.toList_toArray, false_implies, true_implies, implies_true, forall_const, not_false_eq_true, not_true_eq_false, and_false, false_and, kd_447]
  simp only [hK9]
  clear hK9 K9v
  refine J_newI (N := 4) GM_fa dX9_init_104 (by decide +kernel) (by decide +kernel) (by decide) ?_ ?_ ?_ ?_ ?_
  · repeat (first | exact hW | with_reducible refine W0.up ?_ (by omega) | with_reducible refine W0.ur ?_ (by omega) (by omega) | with_reducible refine W0.mn ?_ (by omega) | with_reducible refine W0.new ?_)
  · omega
  · exact (inW_of (by simp [refs] <;> omega) (by simp [refs] <;> omega))
  · exact ⟨by omega, by omega⟩
  refine J_rnG GM_fa (by omega) (by omega) (by omega) 3 _ _ _ _ (fun K9v hK9 => ?_)
  simp (maxSteps := 4000000) only [↓(X_putR (pc' := 109) fl_9_50 dX9_init_106 rfl), kd_447, ↓(gV_c r0_447_18), kd_460, ln_460, ↓(X_aload_n (k := 0) (pc' := 110) dX9_init_109 rfl rfl), ↓gR_0, ↓(X_iconst (pc' := 111) dX9_init_110 rfl), rn_0, gV_s, ↓pI_c, ↓pII_c, ↓pL_c, ↓pLL_c, ↓pR_c, ↓pRI_c, ↓pRII_c, ↓pRIL_c, ↓pRR_c, ↓pV_c, ↓pVV_c, ↓gI_c, ↓gL_c, ↓gR_c, f2_0, f2_1, nk_n, nk_i, nk_r, ↓reduceIte, r32, r64, Nat.reduceAdd, Nat.reduceSub, Nat.reduceEqDiff, Nat.reduceLT, Nat.reduceLeDiff, Nat.reduceBEq, Int.reduceAdd, Int.reduceSub, Int.reduceMul, Int.reduceNeg, Int.reduceToNat, Int.reduceLE, Int.reduceLT, Int.reduceEq, Int.reduceNatCast', Int.reduceNatCast, Int.natCast_zero, Int.toNat_natCast, Int.toNat_zero, Int.toNat_one, List.length_cons, List.length_nil, true_and, and_true, and_self, true_or, or_true, false_or, or_false, Bool.not_true, Bool.not_false, Nat.lt_add_one, Nat.zero_lt_succ, N0, swL_n, swL_c, List.toList_toArray, false_implies, true_implies, implies_true, forall_const, not_false_eq_true, not_true_eq_false, and_false, false_and, kd_447]
  simp only [hK9]
  clear hK9 K9v
  refine J_newI (N := 4) GM_fa dX9_init_111 (by decide +kernel) (by decide +kernel) (by decide) ?_ ?_ ?_ ?_ ?_
  · repeat (first | exact hW | with_reducible refine W0.up ?_ (by omega) | with_reducible refine W0.ur ?_ (by omega) (by omega) | with_reducible refine W0.mn ?_ (by omega) | with_reducible refine W0.new ?_)
  · omega
  · exact (inW_of (by simp [refs] <;> omega) (by simp [refs] <;> omega))
  · exact ⟨by omega, by omega⟩
  refine J_rnG GM_fa (by omega) (by omega) (by omega) 3 _ _ _ _ (fun K9v hK9 => ?_)
  simp (maxSteps := 4000000) only [↓(X_putR (pc' := 116) fl_9_53 dX9_init_113 rfl), kd_447, ↓(gV_c r0_447_19), kd_461, ln_461, ↓(X_aload_n (k := 0) (pc' := 117) dX9_init_116 rfl rfl), ↓gR_0, ↓(X_iconst (pc' := 118) dX9_init_117 rfl), rn_0, gV_s, ↓pI_c, ↓pII_c, ↓pL_c, ↓pLL_c, ↓pR_c, ↓pRI_c, ↓pRII_c, ↓pRIL_c, ↓pRR_c, ↓pV_c, ↓pVV_c, ↓gI_c, ↓gL_c, ↓gR_c, f2_0, f2_1, nk_n, nk_i, nk_r, ↓reduceIte, r32, r64, Nat.reduceAdd, Nat.reduceSub, Nat.reduceEqDiff, Nat.reduceLT, Nat.reduceLeDiff, Nat.reduceBEq, Int.reduceAdd, Int.reduceSub, Int.reduceMul, Int.reduceNeg, Int.reduceToNat, Int.reduceLE, Int.reduceLT, Int.reduceEq, Int.reduceNatCast', Int.reduceNatCast, Int.natCast_zero, Int.toNat_natCast, Int.toNat_zero, Int.toNat_one, List.length_cons, List.length_nil, true_and, and_true, and_self, true_or, or_true, false_or, or_false, Bool.not_true, Bool.not_false, Nat.lt_add_one, Nat.zero_lt_succ, N0, swL_n, swL_c, List.toList_toArray, false_implies, true_implies, implies_true, forall_const, not_false_eq_true, not_true_eq_false, and_false, false_and, kd_447]
  simp only [hK9]
  clear hK9 K9v
  refine J_newL (N := 4) GM_fa dX9_init_118 (by decide +kernel) (by decide +kernel) (by decide) ?_ ?_ ?_ ?_ ?_
  · repeat (first | exact hW | with_reducible refine W0.up ?_ (by omega) | with_reducible refine W0.ur ?_ (by omega) (by omega) | with_reducible refine W0.mn ?_ (by omega) | with_reducible refine W0.new ?_)
  · omega
  · exact (inW_of (by simp [refs] <;> omega) (by simp [refs] <;> omega))
  · exact ⟨by omega, by omega⟩
  refine J_rnG GM_fa (by omega) (by omega) (by omega) 3 _ _ _ _ (fun K9v hK9 => ?_)
  simp (maxSteps := 4000000) only [↓(X_putR (pc' := 123) fl_9_56 dX9_init_120 rfl), kd_447, ↓(gV_c r0_447_20), kd_462, ln_462, ↓(X_aload_n (k := 0) (pc' := 124) dX9_init_123 rfl rfl), ↓gR_0, ↓(X_iconst (pc' := 125) dX9_init_124 rfl), rn_0, gV_s, ↓pI_c, ↓pII_c, ↓pL_c, ↓pLL_c, ↓pR_c, ↓pRI_c, ↓pRII_c, ↓pRIL_c, ↓pRR_c, ↓pV_c, ↓pVV_c, ↓gI_c, ↓gL_c, ↓gR_c, f2_0, f2_1, nk_n, nk_i, nk_r, ↓reduceIte, r32, r64, Nat.reduceAdd, Nat.reduceSub, Nat.reduceEqDiff, Nat.reduceLT, Nat.reduceLeDiff, Nat.reduceBEq, Int.reduceAdd, Int.reduceSub, Int.reduceMul, Int.reduceNeg, Int.reduceToNat, Int.reduceLE, Int.reduceLT, Int.reduceEq, Int.reduceNatCast', Int.reduceNatCast, Int.natCast_zero, Int.toNat_natCast, Int.toNat_zero, Int.toNat_one, List.length_cons, List.length_nil, true_and, and_true, and_self, true_or, or_true, false_or, or_false, Bool.not_true, Bool.not_false, Nat.lt_add_one, Nat.zero_lt_succ, N0, swL_n, swL_c, List.toList_toArray, false_implies, true_implies, implies_true, forall_const, not_false_eq_true, not_true_eq_false, and_false, false_and, kd_447]
  simp only [hK9]
  clear hK9 K9v
  refine J_newI (N := 3) GM_fa dX9_init_125 (by decide +kernel) (by decide +kernel) (by decide) ?_ ?_ ?_ ?_ ?_
  · repeat (first | exact hW | with_reducible refine W0.up ?_ (by omega) | with_reducible refine W0.ur ?_ (by omega) (by omega) | with_reducible refine W0.mn ?_ (by omega) | with_reducible refine W0.new ?_)
  · omega
  · exact (inW_of (by simp [refs] <;> omega) (by simp [refs] <;> omega))
  · exact ⟨by omega, by omega⟩
  refine J_rnG GM_fa (by omega) (by omega) (by omega) 3 _ _ _ _ (fun K9v hK9 => ?_)
  simp (maxSteps := 4000000) only [↓(X_putR (pc' := 130) fl_9_60 dX9_init_127 rfl), kd_447, ↓(gV_c r0_447_21), kd_463, ln_463, ↓(X_aload_n (k := 0) (pc' := 131) dX9_init_130 rfl rfl), ↓gR_0, ↓(X_bipush (pc' := 133) dX9_init_131 rfl), rn_0, gV_s, ↓pI_c, ↓pII_c, ↓pL_c, ↓pLL_c, ↓pR_c, ↓pRI_c, ↓pRII_c, ↓pRIL_c, ↓pRR_c, ↓pV_c, ↓pVV_c, ↓gI_c, ↓gL_c, ↓gR_c, f2_0, f2_1, nk_n, nk_i, nk_r, ↓reduceIte, r32, r64, Nat.reduceAdd, Nat.reduceSub, Nat.reduceEqDiff, Nat.reduceLT, Nat.reduceLeDiff, Nat.reduceBEq, Int.reduceAdd, Int.reduceSub, Int.reduceMul, Int.reduceNeg, Int.reduceToNat, Int.reduceLE, Int.reduceLT, Int.reduceEq, Int.reduceNatCast', Int.reduceNatCast, Int.natCast_zero, Int.toNat_natCast, Int.toNat_zero, Int.toNat_one, List.length_cons, List.length_nil, true_and, and_true, and_self, true_or, or_true, false_or, or_false, Bool.not_true, Bool.not_false, Nat.lt_add_one, Nat.zero_lt_succ, N0, swL_n, swL_c, List.toList_toArray, false_implies, true_implies, implies_true, forall_const, not_false_eq_true, not_true_eq_false, and_false, false_and, kd_447]
  simp only [hK9]
  clear hK9 K9v
  refine J_newI (N := 7) GM_fa dX9_init_133 (by decide +kernel) (by decide +kernel) (by decide) ?_ ?_ ?_ ?_ ?_
  · repeat (first | exact hW | with_reducible refine W0.up ?_ (by omega) | with_reducible refine W0.ur ?_ (by omega) (by omega) | with_reducible refine W0.mn ?_ (by omega) | with_reducible refine W0.new ?_)
  · omega
  · exact (inW_of (by simp [refs] <;> omega) (by simp [refs] <;> omega))
  · exact ⟨by omega, by omega⟩
  refine J_rnG GM_fa (by omega) (by omega) (by omega) 3 _ _ _ _ (fun K9v hK9 => ?_)
  simp (maxSteps := 4000000) only [↓(X_putR (pc' := 138) fl_9_63 dX9_init_135 rfl), kd_447, ↓(gV_c r0_447_22), kd_464, ln_464, ↓(X_aload_n (k := 0) (pc' := 139) dX9_init_138 rfl rfl), ↓gR_0, ↓(X_sipush (pc' := 142) dX9_init_139 rfl), rn_0, gV_s, ↓pI_c, ↓pII_c, ↓pL_c, ↓pLL_c, ↓pR_c, ↓pRI_c, ↓pRII_c, ↓pRIL_c, ↓pRR_c, ↓pV_c, ↓pVV_c, ↓gI_c, ↓gL_c, ↓gR_c, f2_0, f2_1, nk_n, nk_i, nk_r, ↓reduceIte, r32, r64, Nat.reduceAdd, Nat.reduceSub, Nat.reduceEqDiff, Nat.reduceLT, Nat.reduceLeDiff, Nat.reduceBEq, Int.reduceAdd, Int.reduceSub, Int.reduceMul, Int.reduceNeg, Int.reduceToNat, Int.reduceLE, Int.reduceLT, Int.reduceEq, Int.reduceNatCast', Int.reduceNatCast, Int.natCast_zero, Int.toNat_natCast, Int.toNat_zero, Int.toNat_one, List.length_cons, List.length_nil, true_and, and_true, and_self, true_or, or_true, false_or, or_false, Bool.not_true, Bool.not_false, Nat.lt_add_one, Nat.zero_lt_succ, N0, swL_n, swL_c, List.toList_toArray, false_implies, true_implies, implies_true, forall_const, not_false_eq_true, not_true_eq_false, and_false, false_and, kd_447]
  simp only [hK9]
  clear hK9 K9v
  refine J_newI (N := 4352) GM_fa dX9_init_142 (by decide +kernel) (by decide +kernel) (by decide) ?_ ?_ ?_ ?_ ?_
  · repeat (first | exact hW | with_reducible refine W0.up ?_ (by omega) | with_reducible refine W0.ur ?_ (by omega) (by omega) | with_reducible refine W0.mn ?_ (by omega) | with_reducible refine W0.new ?_)
  · omega
  · exact (inW_of (by simp [refs] <;> omega) (by simp [refs] <;> omega))
  · exact ⟨by omega, by omega⟩
  refine J_rnG GM_fa (by omega) (by omega) (by omega) 3 _ _ _ _ (fun K9v hK9 => ?_)
  simp (maxSteps := 4000000) only [↓(X_putR (pc' := 147) fl_9_66 dX9_init_144 rfl), kd_447, ↓(gV_c r0_447_24), kd_465, ln_465, ↓(X_aload_n (k := 0) (pc' := 148) dX9_init_147 rfl rfl), ↓gR_0, ↓(X_bipush (pc' := 150) dX9_init_148 rfl), rn_0, gV_s, ↓pI_c, ↓pII_c, ↓pL_c, ↓pLL_c, ↓pR_c, ↓pRI_c, ↓pRII_c, ↓pRIL_c, ↓pRR_c, ↓pV_c, ↓pVV_c, ↓gI_c, ↓gL_c, ↓gR_c, f2_0, f2_1, nk_n, nk_i, nk_r, ↓reduceIte, r32, r64, Nat.reduceAdd, Nat.reduceSub, Nat.reduceEqDiff, Nat.reduceLT, Nat.reduceLeDiff, Nat.reduceBEq, Int.reduceAdd, Int.reduceSub, Int.reduceMul, Int.reduceNeg, Int.reduceToNat, Int.reduceLE, Int.reduceLT, Int.reduceEq, Int.reduceNatCast', Int.reduceNatCast, Int.natCast_zero, Int.toNat_natCast, Int.toNat_zero, Int.toNat_one, List.length_cons, List.length_nil, true_and, and_true, and_self, true_or, or_true, false_or, or_false, Bool.not_true, Bool.not_false, Nat.lt_add_one, Nat.zero_lt_succ, N0, swL_n, swL_c, List.toList_toArray, false_implies, true_implies, implies_true, forall_const, not_false_eq_true, not_true_eq_false, and_false, false_and, kd_447]
  simp only [hK9]
  clear hK9 K9v
  refine J_newI (N := 8) GM_fa dX9_init_150 (by decide +kernel) (by decide +kernel) (by decide) ?_ ?_ ?_ ?_ ?_
  · repeat (first | exact hW | with_reducible refine W0.up ?_ (by omega) | with_reducible refine W0.ur ?_ (by omega) (by omega) | with_reducible refine W0.mn ?_ (by omega) | with_reducible refine W0.new ?_)
  · omega
  · exact (inW_of (by simp [refs] <;> omega) (by simp [refs] <;> omega))
  · exact ⟨by omega, by omega⟩
  refine J_rnG GM_fa (by omega) (by omega) (by omega) 1 _ _ _ _ (fun K9v hK9 => ?_)
  simp (maxSteps := 4000000) only [↓(X_putR (pc' := 155) fl_9_69 dX9_init_152 rfl), kd_447, ↓(gV_c r0_447_25), kd_466, ln_466, rn_0, gV_s, ↓pI_c, ↓pII_c, ↓pL_c, ↓pLL_c, ↓pR_c, ↓pRI_c, ↓pRII_c, ↓pRIL_c, ↓pRR_c, ↓pV_c, ↓pVV_c, ↓gI_c, ↓gL_c, ↓gR_c, f2_0, f2_1, nk_n, nk_i, nk_r, ↓reduceIte, r32, r64, Nat.reduceAdd, Nat.reduceSub, Nat.reduceEqDiff, Nat.reduceLT, Nat.reduceLeDiff, Nat.reduceBEq, Int.reduceAdd, Int.reduceSub, Int.reduceMul, Int.reduceNeg, Int.reduceToNat, Int.reduceLE, Int.reduceLT, Int.reduceEq, Int.reduceNatCast', Int.reduceNatCast, Int.natCast_zero, Int.toNat_natCast, Int.toNat_zero, Int.toNat_one, List.length_cons, List.length_nil, true_and, and_true, and_self, true_or, or_true, false_or, or_false, Bool.not_true, Bool.not_false, Nat.lt_add_one, Nat.zero_lt_succ, N0, swL_n, swL_c, List.toList_toArray, false_implies, true_implies, implies_true, forall_const, not_false_eq_true, not_true_eq_false, and_false, false_and, kd_447]
  simp only [hK9]
  clear hK9 K9v
  generalize hRe : upR _ 447 25 _ = Re
  have g1 : Re 447 1 = some 448 := by
    subst hRe
    simp [upR]
  refine J_rnG GM_fa (by omega) (by omega) (by omega) 45 _ _ _ _ (fun K9v hK9 => ?_)
  simp (maxSteps := 4000000) only [↓(X_aload_n (k := 0) (pc' := 156) dX9_init_155 rfl rfl), ↓gR_0, ↓(X_getR (pc' := 159) fl_9_7 dX9_init_156 rfl), kd_447, ↓(gV_c r0_447_1), kd_448, ln_448, ↓(X_iconst (pc' := 160) dX9_init_159 rfl), ↓(X_bipush (pc' := 162) dX9_init_160 rfl), ↓(X_iastore (pc' := 163) dX9_init_162 rfl), ↓(X_aload_n (k := 0) (pc' := 164) dX9_init_163 rfl rfl), ↓(X_getR (pc' := 167) fl_9_7 dX9_init_164 rfl), ↓(X_iconst (pc' := 168) dX9_init_167 rfl), ↓(X_bipush (pc' := 170) dX9_init_168 rfl), ↓(X_iastore (pc' := 171) dX9_init_170 rfl), ↓(X_aload_n (k := 0) (pc' := 172) dX9_init_171 rfl rfl), ↓(X_getR (pc' := 175) fl_9_7 dX9_init_172 rfl), ↓(X_iconst (pc' := 176) dX9_init_175 rfl), ↓(X_bipush (pc' := 178) dX9_init_176 rfl), ↓(X_iastore (pc' := 179) dX9_init_178 rfl), ↓(X_aload_n (k := 0) (pc' := 180) dX9_init_179 rfl rfl), ↓(X_getR (pc' := 183) fl_9_7 dX9_init_180 rfl), ↓(X_bipush (pc' := 185) dX9_init_183 rfl), ↓(X_bipush (pc' := 187) dX9_init_185 rfl), ↓(X_iastore (pc' := 188) dX9_init_187 rfl), ↓(X_aload_n (k := 0) (pc' := 189) dX9_init_188 rfl rfl), ↓(X_getR (pc' := 192) fl_9_7 dX9_init_189 rfl), ↓(X_bipush (pc' := 194) dX9_init_192 rfl), ↓(X_bipush (pc' := 196) dX9_init_194 rfl), ↓(X_iastore (pc' := 197) dX9_init_196 rfl), ↓(X_aload_n (k := 0) (pc' := 198) dX9_init_197 rfl rfl), ↓(X_getR (pc' := 201) fl_9_7 dX9_init_198 rfl), ↓(X_bipush (pc' := 203) dX9_init_201 rfl), ↓(X_bipush (pc' := 205) dX9_init_203 rfl), ↓(X_iastore (pc' := 206) dX9_init_205 rfl), ↓(X_aload_n (k := 0) (pc' := 207) dX9_init_206 rfl rfl), ↓(X_getR (pc' := 210) fl_9_7 dX9_init_207 rfl), ↓(X_bipush (pc' := 212) dX9_init_210 rfl), ↓(X_bipush (pc' := 214) dX9_init_212 rfl), ↓(X_iastore (pc' := 215) dX9_init_214 rfl), ↓(X_aload_n (k := 0) (pc' := 216) dX9_init_215 rfl rfl), ↓(X_getR (pc' := 219) fl_9_7 dX9_init_216 rfl), ↓(X_bipush (pc' := 221) dX9_init_219 rfl), ↓(X_bipush (pc' := 223) dX9_init_221 rfl), ↓(X_iastore (pc' := 224) dX9_init_223 rfl), ↓(X_aload_n (k := 0) (pc' := 225) dX9_init_224 rfl rfl), ↓(X_getR (pc' := 228) fl_9_7 dX9_init_225 rfl), ↓(X_bipush (pc' := 230) dX9_init_228 rfl), ↓(X_bipush (pc' := 232) dX9_init_230 rfl), ↓(X_iastore (pc' := 233) dX9_init_232 rfl), rn_0, gV_s, ↓pI_c, ↓pII_c, ↓pL_c, ↓pLL_c, ↓pR_c, ↓pRI_c, ↓pRII_c, ↓pRIL_c, ↓pRR_c, ↓pV_c, ↓pVV_c, ↓gI_c, ↓gL_c, ↓gR_c, f2_0, f2_1, nk_n, nk_i, nk_r, ↓reduceIte, r32, r64, Nat.reduceAdd, Nat.reduceSub, Nat.reduceEqDiff, Nat.reduceLT, Nat.reduceLeDiff, Nat.reduceBEq, Int.reduceAdd, Int.reduceSub, Int.reduceMul, Int.reduceNeg, Int.reduceToNat, Int.reduceLE, Int.reduceLT, Int.reduceEq, Int.reduceNatCast', Int.reduceNatCast, Int.natCast_zero, Int.toNat_natCast, Int.toNat_zero, Int.toNat_one, List.length_cons, List.length_nil, true_and, and_true, and_self, true_or, or_true, false_or, or_false, Bool.not_true, Bool.not_false, Nat.lt_add_one, Nat.zero_lt_succ, N0, swL_n, swL_c, List.toList_toArray, false_implies, true_implies, implies_true, forall_const, not_false_eq_true, not_true_eq_false, and_false, false_and, ↓(gV_c g1), kd_447, kd_448, ln_448]
  simp only [hK9]
  clear hK9 K9v
  have hRq : Re = rng 447 467 R0 Rf := by
    subst hRe
    funext x k
    have hz := fun y (hy : 447 ≤ y) => (hW9.1 y k hy).1
    rcases (show x = 447 ∨ (448 ≤ x ∧ x < 467) ∨ ¬ (447 ≤ x ∧ x < 467) by omega) with q | q | q
    · subst q
      rw [rng_in (by omega), R0_447]
      rcases (show k = 0 ∨ k = 1 ∨ k = 2 ∨ k = 3 ∨ k = 4 ∨ k = 5 ∨ k = 6 ∨ k = 7 ∨ k = 8 ∨ k = 9 ∨ k = 10 ∨ k = 11 ∨ k = 12 ∨ k = 13 ∨ k = 14 ∨ k = 15 ∨ k = 16 ∨ k = 17 ∨ k = 18 ∨ k = 19 ∨ k = 20 ∨ k = 21 ∨ k = 22 ∨ k = 23 ∨ k = 24 ∨ k = 25 ∨ k = 26 ∨ 26 < k by omega) with h | h | h | h | h | h | h | h | h | h | h | h | h | h | h | h | h | h | h | h | h | h | h | h | h | h | h | h
      · subst h; simp [upR, hz 447 (by omega)]
      · subst h; simp [upR, hz 447 (by omega)]
      · subst h; simp [upR, hz 447 (by omega)]
      · subst h; simp [upR, hz 447 (by omega)]
      · subst h; simp [upR, hz 447 (by omega)]
      · subst h; simp [upR, hz 447 (by omega)]
      · subst h; simp [upR, hz 447 (by omega)]
      · subst h; simp [upR, hz 447 (by omega)]
      · subst h; simp [upR, hz 447 (by omega)]
      · subst h; simp [upR, hz 447 (by omega)]
      · subst h; simp [upR, hz 447 (by omega)]
      · subst h; simp [upR, hz 447 (by omega)]
      · subst h; simp [upR, hz 447 (by omega)]
      · subst h; simp [upR, hz 447 (by omega)]
      · subst h; simp [upR, hz 447 (by omega)]
      · subst h; simp [upR, hz 447 (by omega)]
      · subst h; simp [upR, hz 447 (by omega)]
      · subst h; simp [upR, hz 447 (by omega)]
      · subst h; simp [upR, hz 447 (by omega)]
      · subst h; simp [upR, hz 447 (by omega)]
      · subst h; simp [upR, hz 447 (by omega)]
      · subst h; simp [upR, hz 447 (by omega)]
      · subst h; simp [upR, hz 447 (by omega)]
      · subst h; simp [upR, hz 447 (by omega)]
      · subst h; simp [upR, hz 447 (by omega)]
      · subst h; simp [upR, hz 447 (by omega)]
      · subst h; simp [upR, hz 447 (by omega)]
      · rw [List.getD_eq_getElem?_getD, List.getElem?_eq_none (by simp only [List.length_cons, List.length_nil]; omega)]
        simp [upR, hz 447 (by omega), show k ≠ 1 by omega, show k ≠ 2 by omega, show k ≠ 3 by omega, show k ≠ 4 by omega, show k ≠ 6 by omega, show k ≠ 8 by omega, show k ≠ 9 by omega, show k ≠ 10 by omega, show k ≠ 11 by omega, show k ≠ 12 by omega, show k ≠ 13 by omega, show k ≠ 14 by omega, show k ≠ 18 by omega, show k ≠ 19 by omega, show k ≠ 20 by omega, show k ≠ 21 by omega, show k ≠ 22 by omega, show k ≠ 24 by omega, show k ≠ 25 by omega]
    · rw [rng_in (by omega), R0_arr (by omega) (kma x q.2 q.1)]
      simp [upR, show x ≠ 447 by omega, hz x (by omega)]
    · rw [rng_out q]
      simp [upR, show x ≠ 447 by omega]
  generalize hMe : up2 _ 448 11 90 = Me
  have hMq : Me = rng 447 467 M0 M := by
    subst hMe
    funext x k
    have hz := fun y (hy : 447 ≤ y) => (hW9.1 y k hy).2
    rcases (show x = 447 ∨ x = 448 ∨ (449 ≤ x ∧ x < 467) ∨ ¬ (447 ≤ x ∧ x < 467) by omega) with q | q | q | q
    · subst q
      rw [rng_in (by omega)]
      rcases (show k = 16 ∨ k ≠ 16 by omega) with h | h
      · subst h; simp [up2, M0]
      · simp [up2, M0, h, hz 447 (by omega)]
    · subst q
      rw [rng_in (by omega), M0_448]
      rcases (show k = 0 ∨ k = 1 ∨ k = 2 ∨ k = 3 ∨ k = 4 ∨ k = 5 ∨ k = 6 ∨ k = 7 ∨ k = 8 ∨ k = 9 ∨ k = 10 ∨ k = 11 ∨ 11 < k by omega) with h | h | h | h | h | h | h | h | h | h | h | h | h
      · subst h; simp [up2, hz 448 (by omega)]
      · subst h; simp [up2, hz 448 (by omega)]
      · subst h; simp [up2, hz 448 (by omega)]
      · subst h; simp [up2, hz 448 (by omega)]
      · subst h; simp [up2, hz 448 (by omega)]
      · subst h; simp [up2, hz 448 (by omega)]
      · subst h; simp [up2, hz 448 (by omega)]
      · subst h; simp [up2, hz 448 (by omega)]
      · subst h; simp [up2, hz 448 (by omega)]
      · subst h; simp [up2, hz 448 (by omega)]
      · subst h; simp [up2, hz 448 (by omega)]
      · subst h; simp [up2, hz 448 (by omega)]
      · rw [List.getD_eq_getElem?_getD, List.getElem?_eq_none (by simp only [List.length_cons, List.length_nil]; omega)]
        simp [up2, hz 448 (by omega), show k ≠ 3 by omega, show k ≠ 4 by omega, show k ≠ 5 by omega, show k ≠ 6 by omega, show k ≠ 7 by omega, show k ≠ 8 by omega, show k ≠ 9 by omega, show k ≠ 10 by omega, show k ≠ 11 by omega]
    · rw [rng_in (by omega), M0_z (by omega)]
      simp [up2, show x ≠ 447 by omega, show x ≠ 448 by omega, hz x (by omega)]
    · rw [rng_out q]
      simp [up2, show x ≠ 447 by omega, show x ≠ 448 by omega]
  rw [hRq, hMq]
  refine J_vret dX9_init_233 rfl (by omega) (by omega) (⟨rfl, rfl⟩)
end MK5
