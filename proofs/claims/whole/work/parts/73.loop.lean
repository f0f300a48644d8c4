/-! THE LAW'S LOOP -/
section LOOP
variable {l : Launch} {D : va_G} {cy : Nat → ClassId} {b L : Nat} {xs : Nat → Int32}
set_option maxRecDepth 100000 in
set_option maxHeartbeats 4000000 in
theorem lw_step (hl9 : l.stackTraces = false) (hL : L ≤ 3072) {i ca sl n T : Nat} {M : Nat → Nat → Int} {w5 w6 : Option AV} (h : Inv M n T) (hi : i + 5 < L) (hc : ca + 3 ≤ 601024) (hs : sl + 18 ≤ 7293034) (K : NX l D cy b L xs i ca sl) : J l D cy (GL l D cy b L xs) 33 [some (.inr (.inr (some 1000000))), some (.inr (.inr (some 0))), some (.inr (.inr (some 447))), some (.inr (.inr (some 467))), some (.inl (i : Int)), w5, w6] [] (N0, R0, M) ca sl := by
  refine J_rnG GL_fa (by omega) (by omega) (by omega) 2 _ _ _ _ (fun K9v hK9 => ?_)
  simp (maxSteps := 4000000) only [↓(X_aload_n (k := 0) (pc' := 34) dL_law_33 rfl rfl), ↓gR_0, ↓(X_iload (pc' := 36) dL_law_34 rfl), ↓gI_4, rn_0, gV_s, ↓pI_c, ↓pII_c, ↓pL_c, ↓pLL_c, ↓pR_c, ↓pRI_c, ↓pRII_c, ↓pRIL_c, ↓pRR_c, ↓pV_c, ↓pVV_c, ↓gI_c, ↓gL_c, ↓gR_c, f2_0, f2_1, nk_n, nk_i, nk_r, ↓reduceIte, r32, r64, Nat.reduceAdd, Nat.reduceSub, Nat.reduceEqDiff, Nat.reduceLT, Nat.reduceLeDiff, Nat.reduceBEq, Int.reduceAdd, Int.reduceSub, Int.reduceMul, Int.reduceNeg, Int.reduceToNat, Int.reduceLE, Int.reduceLT, Int.reduceEq, Int.reduceNatCast', Int.reduceNatCast, Int.natCast_zero, Int.toNat_natCast, Int.toNat_zero, Int.toNat_one, List.length_cons, List.length_nil, true_and, and_true, and_self, true_or, or_true, false_or, or_false, Bool.not_true, Bool.not_false, Nat.lt_add_one, Nat.zero_lt_succ, N0, swL_n, swL_c, List.toList_toArray, false_implies, true_implies, implies_true, forall_const, not_false_eq_true, not_true_eq_false, and_false, false_and]
  simp only [hK9]
  clear hK9 K9v
  refine J_sldE (k := i) dL_law_36 (by omega) (by omega) hL (by simp only [N0]; omega) ?_
  refine J_rnG GL_fa (by omega) (by omega) (by omega) 2 _ _ _ _ (fun K9v hK9 => ?_)
  simp (maxSteps := 4000000) only [↓(X_bipush (pc' := 39) dL_law_37 rfl), ↓(X_iand (pc' := 40) dL_law_39 rfl), rn_0, gV_s, ↓pI_c, ↓pII_c, ↓pL_c, ↓pLL_c, ↓pR_c, ↓pRI_c, ↓pRII_c, ↓pRIL_c, ↓pRR_c, ↓pV_c, ↓pVV_c, ↓gI_c, ↓gL_c, ↓gR_c, f2_0, f2_1, nk_n, nk_i, nk_r, ↓reduceIte, r32, r64, Nat.reduceAdd, Nat.reduceSub, Nat.reduceEqDiff, Nat.reduceLT, Nat.reduceLeDiff, Nat.reduceBEq, Int.reduceAdd, Int.reduceSub, Int.reduceMul, Int.reduceNeg, Int.reduceToNat, Int.reduceLE, Int.reduceLT, Int.reduceEq, Int.reduceNatCast', Int.reduceNatCast, Int.natCast_zero, Int.toNat_natCast, Int.toNat_zero, Int.toNat_one, List.length_cons, List.length_nil, true_and, and_true, and_self, true_or, or_true, false_or, or_false, Bool.not_true, Bool.not_false, Nat.lt_add_one, Nat.zero_lt_succ, N0, swL_n, swL_c, List.toList_toArray, false_implies, true_implies, implies_true, forall_const, not_false_eq_true, not_true_eq_false, and_false, false_and]
  simp only [hK9]
  clear hK9 K9v
  have hr := bAnd_rg (xs i).toInt 31
  generalize bAnd (xs i).toInt 31 = a at hr ⊢
  refine J_rnG GL_fa (by omega) (by omega) (by omega) 1 _ _ _ _ (fun K9v hK9 => ?_)
  simp (maxSteps := 4000000) only [↓(X_tableswitch dL_law_40), rn_0, gV_s, ↓pI_c, ↓pII_c, ↓pL_c, ↓pLL_c, ↓pR_c, ↓pRI_c, ↓pRII_c, ↓pRIL_c, ↓pRR_c, ↓pV_c, ↓pVV_c, ↓gI_c, ↓gL_c, ↓gR_c, f2_0, f2_1, nk_n, nk_i, nk_r, ↓reduceIte, r32, r64, Nat.reduceAdd, Nat.reduceSub, Nat.reduceEqDiff, Nat.reduceLT, Nat.reduceLeDiff, Nat.reduceBEq, Int.reduceAdd, Int.reduceSub, Int.reduceMul, Int.reduceNeg, Int.reduceToNat, Int.reduceLE, Int.reduceLT, Int.reduceEq, Int.reduceNatCast', Int.reduceNatCast, Int.natCast_zero, Int.toNat_natCast, Int.toNat_zero, Int.toNat_one, List.length_cons, List.length_nil, true_and, and_true, and_self, true_or, or_true, false_or, or_false, Bool.not_true, Bool.not_false, Nat.lt_add_one, Nat.zero_lt_succ, N0, swL_n, swL_c, List.toList_toArray, false_implies, true_implies, implies_true, forall_const, not_false_eq_true, not_true_eq_false, and_false, false_and, hr.1, hr.2]
  simp only [hK9]
  clear hK9 K9v
  repeat (refine And.intro (by first | omega | assumption | (refine ⟨?_, ?_⟩ <;> omega)) ?_)
  refine ⟨fun q => ?_, fun q => ?_, fun q => ?_, fun q => ?_, fun q => ?_, fun q => ?_, fun q => ?_, fun q => ?_, fun q => ?_, fun q => ?_, fun q => ?_, fun q => ?_, fun q => ?_, fun q => ?_, fun q => ?_, fun q => ?_, fun q => ?_, fun q => ?_⟩
  · exact J_wd (by omega) (by omega) (K M n T _ _ h)
  · exact lc_setBase hl9 h hi hL hc hs K
  · exact lc_buy hl9 h hi hL hc hs K
  · exact lc_job hl9 h hi hL hc hs K
  · exact lc_recipe hl9 h hi hL hc hs K
  · exact lc_mix hl9 h hi hL hc hs K
  · exact lc_print hl9 h hi hL hc hs K
  · exact lc_pass hl9 h hi hL hc hs K
  · exact lc_state hl9 h hi hL hc hs K
  · exact lc_tins hl9 h hi hL hc hs K
  · exact lc_inTin hl9 h hi hL hc hs K
  · exact lc_shade hl9 h hi hL hc hs K
  · exact lc_where hl9 h hi hL hc hs K
  · exact lc_washes hl9 h hi hL hc hs K
  · exact lc_washesByAll hl9 h hi hL hc hs K
  · exact lc_firstRun hl9 h hi hL hc hs K
  · exact lc_wear hl9 h hi hL hc hs K
  · exact lc_chipGap hl9 h hi hL hc hs K
set_option maxRecDepth 100000 in
set_option maxHeartbeats 4000000 in
theorem lw_exit {i ca sl : Nat} {M : Nat → Nat → Int} {w5 w6 : Option AV} (hL : L ≤ 3072) (hi4 : i ≤ L + 6) (hc : ca ≤ 601024) (hs : sl ≤ 7293034) (k1 : ¬ i + 5 < L → J l D cy (GL l D cy b L xs) 1074 [some (.inr (.inr (some 1000000))), some (.inr (.inr (some 0))), some (.inr (.inr (some 447))), some (.inr (.inr (some 467))), some (.inl (i : Int)), w5, w6] [] (N0, R0, M) ca sl) (k2 : i + 5 < L → J l D cy (GL l D cy b L xs) 33 [some (.inr (.inr (some 1000000))), some (.inr (.inr (some 0))), some (.inr (.inr (some 447))), some (.inr (.inr (some 467))), some (.inl (i : Int)), w5, w6] [] (N0, R0, M) ca sl) : J l D cy (GL l D cy b L xs) 23 [some (.inr (.inr (some 1000000))), some (.inr (.inr (some 0))), some (.inr (.inr (some 447))), some (.inr (.inr (some 467))), some (.inl (i : Int)), w5, w6] [] (N0, R0, M) ca sl := by
  refine J_rnG GL_fa (by omega) (by omega) (by omega) 2 _ _ _ _ (fun K9v hK9 => ?_)
  simp (maxSteps := 4000000) only [↓(X_iload (pc' := 25) dL_law_23 rfl), ↓gI_4, ↓(X_aload_n (k := 0) (pc' := 26) dL_law_25 rfl rfl), ↓gR_0, rn_0, gV_s, ↓pI_c, ↓pII_c, ↓pL_c, ↓pLL_c, ↓pR_c, ↓pRI_c, ↓pRII_c, ↓pRIL_c, ↓pRR_c, ↓pV_c, ↓pVV_c, ↓gI_c, ↓gL_c, ↓gR_c, f2_0, f2_1, nk_n, nk_i, nk_r, ↓reduceIte, r32, r64, Nat.reduceAdd, Nat.reduceSub, Nat.reduceEqDiff, Nat.reduceLT, Nat.reduceLeDiff, Nat.reduceBEq, Int.reduceAdd, Int.reduceSub, Int.reduceMul, Int.reduceNeg, Int.reduceToNat, Int.reduceLE, Int.reduceLT, Int.reduceEq, Int.reduceNatCast', Int.reduceNatCast, Int.natCast_zero, Int.toNat_natCast, Int.toNat_zero, Int.toNat_one, List.length_cons, List.length_nil, true_and, and_true, and_self, true_or, or_true, false_or, or_false, Bool.not_true, Bool.not_false, Nat.lt_add_one, Nat.zero_lt_succ, N0, swL_n, swL_c, List.toList_toArray, false_implies, true_implies, implies_true, forall_const, not_false_eq_true, not_true_eq_false, and_false, false_and]
  simp only [hK9]
  clear hK9 K9v
  refine J_slen dL_law_26 (by simp only [N0]; omega) ?_
  refine J_rnG GL_fa (by omega) (by omega) (by omega) 3 _ _ _ _ (fun K9v hK9 => ?_)
  simp (maxSteps := 4000000) only [↓(X_bipush (pc' := 29) dL_law_27 rfl), ↓(X_isub (pc' := 30) dL_law_29 rfl), ↓(X_icmp_gt (tgt := 1074) (pc' := 33) dL_law_30 (by decide) rfl), rn_0, gV_s, ↓pI_c, ↓pII_c, ↓pL_c, ↓pLL_c, ↓pR_c, ↓pRI_c, ↓pRII_c, ↓pRIL_c, ↓pRR_c, ↓pV_c, ↓pVV_c, ↓gI_c, ↓gL_c, ↓gR_c, f2_0, f2_1, nk_n, nk_i, nk_r, ↓reduceIte, r32, r64, Nat.reduceAdd, Nat.reduceSub, Nat.reduceEqDiff, Nat.reduceLT, Nat.reduceLeDiff, Nat.reduceBEq, Int.reduceAdd, Int.reduceSub, Int.reduceMul, Int.reduceNeg, Int.reduceToNat, Int.reduceLE, Int.reduceLT, Int.reduceEq, Int.reduceNatCast', Int.reduceNatCast, Int.natCast_zero, Int.toNat_natCast, Int.toNat_zero, Int.toNat_one, List.length_cons, List.length_nil, true_and, and_true, and_self, true_or, or_true, false_or, or_false, Bool.not_true, Bool.not_false, Nat.lt_add_one, Nat.zero_lt_succ, N0, swL_n, swL_c, List.toList_toArray, false_implies, true_implies, implies_true, forall_const, not_false_eq_true, not_true_eq_false, and_false, false_and]
  simp only [hK9]
  clear hK9 K9v
  repeat (refine And.intro (by first | omega | assumption | (refine ⟨?_, ?_⟩ <;> omega)) ?_)
  split
  · exact k1 (by omega)
  · exact k2 (by omega)
set_option maxRecDepth 100000 in
set_option maxHeartbeats 4000000 in
set_option maxRecDepth 100000 in
set_option maxHeartbeats 4000000 in
theorem lp_law (hl9 : l.stackTraces = false) (hL : L ≤ 3072) : ∀ (k i : Nat) (M : Nat → Nat → Int) (n T ca sl : Nat) (w5 w6 : Option AV), Inv M n T → L ≤ i + 6 * k + 5 → i ≤ L + 6 → ca + 3 * k ≤ 601024 → sl + 18 * k ≤ 7293034 →
    J l D cy (GL l D cy b L xs) 23 [some (.inr (.inr (some 1000000))), some (.inr (.inr (some 0))), some (.inr (.inr (some 447))), some (.inr (.inr (some 467))), some (.inl (i : Int)), w5, w6] [] (N0, R0, M) ca sl := by
  intro k
  induction k with
  | zero =>
    intro i M n T ca sl w5 w6 h hk hi hc hs
    refine lw_exit hL hi (by omega) (by omega) (fun _ => ?_) (fun q => by omega)
    refine J_rnG GL_fa (by omega) (by omega) (by omega) 1 _ _ _ _ (fun K9v hK9 => ?_)
    simp (maxSteps := 4000000) only [↓(X_iconst (pc' := 1075) dL_law_1074 rfl), rn_0, gV_s, ↓pI_c, ↓pII_c, ↓pL_c, ↓pLL_c, ↓pR_c, ↓pRI_c, ↓pRII_c, ↓pRIL_c, ↓pRR_c, ↓pV_c, ↓pVV_c, ↓gI_c, ↓gL_c, ↓gR_c, f2_0, f2_1, nk_n, nk_i, nk_r, ↓reduceIte, r32, r64, Nat.reduceAdd, Nat.reduceSub, Nat.reduceEqDiff, Nat.reduceLT, Nat.reduceLeDiff, Nat.reduceBEq, Int.reduceAdd, Int.reduceSub, Int.reduceMul, Int.reduceNeg, Int.reduceToNat, Int.reduceLE, Int.reduceLT, Int.reduceEq, Int.reduceNatCast', Int.reduceNatCast, Int.natCast_zero, Int.toNat_natCast, Int.toNat_zero, Int.toNat_one, List.length_cons, List.length_nil, true_and, and_true, and_self, true_or, or_true, false_or, or_false, Bool.not_true, Bool.not_false, Nat.lt_add_one, Nat.zero_lt_succ, N0, swL_n, swL_c, List.toList_toArray, false_implies, true_implies, implies_true, forall_const, not_false_eq_true, not_true_eq_false, and_false, false_and]
    simp only [hK9]
    clear hK9 K9v
    exact J_lret dL_law_1075 (by omega) (by omega)
  | succ k ih =>
    intro i M n T ca sl w5 w6 h hk hi hc hs
    refine lw_exit hL hi (by omega) (by omega) (fun _ => ?_) (fun q => lw_step hl9 hL h q (by omega) (by omega) (fun M' n' T' w5' w6' h' => ?_))
    · refine J_rnG GL_fa (by omega) (by omega) (by omega) 1 _ _ _ _ (fun K9v hK9 => ?_)
      simp (maxSteps := 4000000) only [↓(X_iconst (pc' := 1075) dL_law_1074 rfl), rn_0, gV_s, ↓pI_c, ↓pII_c, ↓pL_c, ↓pLL_c, ↓pR_c, ↓pRI_c, ↓pRII_c, ↓pRIL_c, ↓pRR_c, ↓pV_c, ↓pVV_c, ↓gI_c, ↓gL_c, ↓gR_c, f2_0, f2_1, nk_n, nk_i, nk_r, ↓reduceIte, r32, r64, Nat.reduceAdd, Nat.reduceSub, Nat.reduceEqDiff, Nat.reduceLT, Nat.reduceLeDiff, Nat.reduceBEq, Int.reduceAdd, Int.reduceSub, Int.reduceMul, Int.reduceNeg, Int.reduceToNat, Int.reduceLE, Int.reduceLT, Int.reduceEq, Int.reduceNatCast', Int.reduceNatCast, Int.natCast_zero, Int.toNat_natCast, Int.toNat_zero, Int.toNat_one, List.length_cons, List.length_nil, true_and, and_true, and_self, true_or, or_true, false_or, or_false, Bool.not_true, Bool.not_false, Nat.lt_add_one, Nat.zero_lt_succ, N0, swL_n, swL_c, List.toList_toArray, false_implies, true_implies, implies_true, forall_const, not_false_eq_true, not_true_eq_false, and_false, false_and]
      simp only [hK9]
      clear hK9 K9v
      exact J_lret dL_law_1075 (by omega) (by omega)
    · have e6 : ((i : Int) + 6) = ((i + 6 : Nat) : Int) := by omega
      refine J_rnG GL_fa (by omega) (by omega) (by omega) 2 _ _ _ _ (fun K9v hK9 => ?_)
      simp (maxSteps := 4000000) only [↓(X_iinc (pc' := 1071) dL_law_1068 rfl), ↓gI_4, ↓sto_4, ↓(X_goto (pc' := 23) dL_law_1071 (by decide)), rn_0, gV_s, ↓pI_c, ↓pII_c, ↓pL_c, ↓pLL_c, ↓pR_c, ↓pRI_c, ↓pRII_c, ↓pRIL_c, ↓pRR_c, ↓pV_c, ↓pVV_c, ↓gI_c, ↓gL_c, ↓gR_c, f2_0, f2_1, nk_n, nk_i, nk_r, ↓reduceIte, r32, r64, Nat.reduceAdd, Nat.reduceSub, Nat.reduceEqDiff, Nat.reduceLT, Nat.reduceLeDiff, Nat.reduceBEq, Int.reduceAdd, Int.reduceSub, Int.reduceMul, Int.reduceNeg, Int.reduceToNat, Int.reduceLE, Int.reduceLT, Int.reduceEq, Int.reduceNatCast', Int.reduceNatCast, Int.natCast_zero, Int.toNat_natCast, Int.toNat_zero, Int.toNat_one, List.length_cons, List.length_nil, true_and, and_true, and_self, true_or, or_true, false_or, or_false, Bool.not_true, Bool.not_false, Nat.lt_add_one, Nat.zero_lt_succ, N0, swL_n, swL_c, List.toList_toArray, false_implies, true_implies, implies_true, forall_const, not_false_eq_true, not_true_eq_false, and_false, false_and, e6]
      simp only [hK9]
      clear hK9 K9v
      exact ih (i + 6) M' n' T' _ _ w5' w6' h' (by omega) (by omega) (by omega) (by omega)
end LOOP
