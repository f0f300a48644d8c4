/-! leaves of the class: contracts over the laid-out world -/
/-- outside S nothing is changed -/
def Eo (S : Nat → Prop) (M M' : Nat → Nat → Int) : Prop := ∀ x k : Nat, ¬ S x → M' x k = M x k
theorem Eo.rf {S : Nat → Prop} {M : Nat → Nat → Int} : Eo S M M := fun _ _ _ => rfl
theorem Eo.tr {S T : Nat → Prop} {M M' M'' : Nat → Nat → Int} (h : Eo S M M') (h2 : Eo T M' M'') (hST : ∀ x, T x → S x) : Eo S M M'' := fun x k hx => by rw [h2 x k (fun q => hx (hST x q)), h x k hx]
theorem Eo.mono {S T : Nat → Prop} {M M' : Nat → Nat → Int} (h : Eo T M M') (hST : ∀ x, T x → S x) : Eo S M M' := fun x k hx => h x k (fun q => hx (hST x q))
theorem Eo.up {S : Nat → Prop} {M M' : Nat → Nat → Int} {c k : Nat} {z : Int} (h : Eo S M M') (hc : S c) : Eo S M (up2 M' c k z) := fun x j hx => by
  rw [up2_c (fun q => hx (by rw [q]; exact hc))]
  exact h x j hx
/-- the first of four with the greatest value -/
def gt4a (r : Nat → Int) : Nat := if r 0 < r 1 then 1 else 0
def gt4b (r : Nat → Int) : Nat := if r (gt4a r) < r 2 then 2 else gt4a r
def gt4 (r : Nat → Int) : Nat := if r (gt4b r) < r 3 then 3 else gt4b r
theorem gt4_lt (r : Nat → Int) : gt4 r < 4 := by
  unfold gt4 gt4b gt4a
  split <;> (try split) <;> (try split) <;> omega
def washF (a b : Nat → Int) : Int := if 0 < (b 0 - a 0) + (b 1 - a 1) + (b 2 - a 2) then 2 * (((b 0 - a 0).natAbs : Int) + (b 1 - a 1).natAbs + (b 2 - a 2).natAbs) else ((b 0 - a 0).natAbs : Int) + (b 1 - a 1).natAbs + (b 2 - a 2).natAbs
/-- a row of three parts -/
def col3 (f : Nat → Int) : Prop := (0 ≤ f 0 ∧ f 0 ≤ 100) ∧ (0 ≤ f 1 ∧ f 1 ≤ 100) ∧ (0 ≤ f 2 ∧ f 2 ≤ 100)
theorem lad_at {q : Nat} (hq : q = 76 ∨ q = 82) : kd q = 2 ∧ R0 q 0 = some (q + 1) ∧ R0 q 1 = some (q + 2) ∧ kd (q + 1) = 10 ∧ kd (q + 2) = 10 ∧ ln (q + 1) = 4 ∧ ln (q + 2) = 4 ∧ q < 449 ∧ q + 1 < 449 ∧ q + 2 < 449 := by
  rcases hq with rfl | rfl <;> decide +kernel
section C1
variable {l : Launch} {D : va_G} {cy : Nat → ClassId}
set_option maxRecDepth 100000 in
set_option maxHeartbeats 4000000 in
theorem ok_weight {M : Nat → Nat → Int} (d c : Nat) (hk : kd c = 0) (hc : c < 449) : Ok l D cy (d + 1) 0 0 yX0_weight cX0_weight 3 (some (.int)) [.inr (.inr (some (c)))] (N0, R0, M) (det (some (.inl (M (c + 1) 0 + M (c + 1) 1 + M (c + 1) 2 + M (c + 1) 3))) (N0, R0, M)) := by
  refine Ok.intro (o := 0) (ini := false) [some (.inr (.inr (some (c)))), none, none] (by decide +kernel) rfl (fun h => by cases h) rfl (Nat.le_of_ble_eq_true rfl) rfl ?_
  obtain ⟨a1, a2, a3, a4⟩ := ink_at c hc hk
  refine J_rnG GM_fa (by omega) (by omega) (by omega) 56 _ _ _ _ (fun K9v hK9 => ?_)
  simp (maxSteps := 4000000) only [↓(X_iconst (pc' := 1) dX0_weight_0 rfl), ↓(X_istore_n (k := 1) (pc' := 2) dX0_weight_1 rfl rfl), ↓sto_1, ↓(X_iconst (pc' := 3) dX0_weight_2 rfl), ↓(X_istore_n (k := 2) (pc' := 4) dX0_weight_3 rfl rfl), ↓sto_2, ↓(X_iload_n (k := 2) (pc' := 5) dX0_weight_4 rfl rfl), ↓gI_2, ↓(X_iconst (pc' := 6) dX0_weight_5 rfl), ↓(X_icmp_ge (tgt := 24) (pc' := 9) dX0_weight_6 (by decide) rfl), ↓(X_iload_n (k := 1) (pc' := 10) dX0_weight_9 rfl rfl), ↓gI_1, ↓(X_aload_n (k := 0) (pc' := 11) dX0_weight_10 rfl rfl), ↓gR_0, ↓(X_getR (pc' := 14) fl_0_9 dX0_weight_11 rfl), kd_7, ↓(gV_c r0_7_0), kd_8, ln_8, kd_71, ↓(gV_c r0_71_0), kd_72, ln_72, ↓(X_iload_n (k := 2) (pc' := 15) dX0_weight_14 rfl rfl), ↓(X_iaload (pc' := 16) dX0_weight_15 rfl), ↓(X_iadd (pc' := 17) dX0_weight_16 rfl), ↓(X_istore_n (k := 1) (pc' := 18) dX0_weight_17 rfl rfl), ↓(X_iinc (pc' := 21) dX0_weight_18 rfl), ↓(X_goto (pc' := 4) dX0_weight_21 (by decide)), ↓(X_iload_n (k := 1) (pc' := 25) dX0_weight_24 rfl rfl), ↓(X_ireturn dX0_weight_25), rn_0, gV_s, ↓pI_c, ↓pII_c, ↓pL_c, ↓pLL_c, ↓pR_c, ↓pRI_c, ↓pRII_c, ↓pRIL_c, ↓pRR_c, ↓pV_c, ↓pVV_c, ↓gI_c, ↓gL_c, ↓gR_c, f2_0, f2_1, nk_n, nk_i, nk_r, ↓reduceIte, r32, r64, Nat.reduceAdd, Nat.reduceSub, Nat.reduceEqDiff, Nat.reduceLT, Nat.reduceLeDiff, Nat.reduceBEq, Int.reduceAdd, Int.reduceSub, Int.reduceMul, Int.reduceNeg, Int.reduceToNat, Int.reduceLE, Int.reduceLT, Int.reduceEq, Int.reduceNatCast', Int.reduceNatCast, Int.natCast_zero, Int.toNat_natCast, Int.toNat_zero, Int.toNat_one, List.length_cons, List.length_nil, true_and, and_true, and_self, true_or, or_true, false_or, or_false, Bool.not_true, Bool.not_false, Nat.lt_add_one, Nat.zero_lt_succ, N0, swL_n, swL_c, List.toList_toArray, false_implies, true_implies, implies_true, forall_const, not_false_eq_true, not_true_eq_false, and_false, false_and, hk, hc, ↓(gV_c a1), a2, a3, a4, Int.zero_add]
  simp only [hK9]
  clear hK9 K9v
  refine J_iret dX0_weight_25 rfl (by omega) (by omega) (⟨rfl, rfl⟩)
set_option maxRecDepth 100000 in
set_option maxHeartbeats 4000000 in
theorem ok_gramsOfTenths {M : Nat → Nat → Int} (d i : Nat) (t : Int) (hi : i < 16) (hg : 0 ≤ M (367 + 5 * i) 3 ∧ M (367 + 5 * i) 3 ≤ 500) : Ok l D cy (d + 1) 0 0 yX1_gramsOfTenths cX1_gramsOfTenths 2 (some (.int)) [.inr (.inr (some (367 + 5 * i))), .inl (t)] (N0, R0, M) (det (some (.inl (M (367 + 5 * i) 3 / 10 * t))) (N0, R0, M)) := by
  refine Ok.intro (o := 1) (ini := false) [some (.inr (.inr (some (367 + 5 * i)))), some (.inl (t))] (by decide +kernel) rfl (fun h => by cases h) rfl (Nat.le_of_ble_eq_true rfl) rfl ?_
  obtain ⟨a1, -⟩ := job_at i hi
  have hc : 367 + 5 * i < 449 := by omega
  refine J_rnG GM_fa (by omega) (by omega) (by omega) 6 _ _ _ _ (fun K9v hK9 => ?_)
  simp (maxSteps := 4000000) only [↓(X_aload_n (k := 0) (pc' := 1) dX1_gramsOfTenths_0 rfl rfl), ↓gR_0, ↓(X_getI (pc' := 4) fl_1_29 (by decide) dX1_gramsOfTenths_1 rfl), ↓(X_bipush (pc' := 6) dX1_gramsOfTenths_4 rfl), ↓(X_idiv (pc' := 7) dX1_gramsOfTenths_6 rfl), ↓(X_iload_n (k := 1) (pc' := 8) dX1_gramsOfTenths_7 rfl rfl), ↓gI_1, ↓(X_imul (pc' := 9) dX1_gramsOfTenths_8 rfl), ↓(X_ireturn dX1_gramsOfTenths_9), rn_0, gV_s, ↓pI_c, ↓pII_c, ↓pL_c, ↓pLL_c, ↓pR_c, ↓pRI_c, ↓pRII_c, ↓pRIL_c, ↓pRR_c, ↓pV_c, ↓pVV_c, ↓gI_c, ↓gL_c, ↓gR_c, f2_0, f2_1, nk_n, nk_i, nk_r, ↓reduceIte, r32, r64, Nat.reduceAdd, Nat.reduceSub, Nat.reduceEqDiff, Nat.reduceLT, Nat.reduceLeDiff, Nat.reduceBEq, Int.reduceAdd, Int.reduceSub, Int.reduceMul, Int.reduceNeg, Int.reduceToNat, Int.reduceLE, Int.reduceLT, Int.reduceEq, Int.reduceNatCast', Int.reduceNatCast, Int.natCast_zero, Int.toNat_natCast, Int.toNat_zero, Int.toNat_one, List.length_cons, List.length_nil, true_and, and_true, and_self, true_or, or_true, false_or, or_false, Bool.not_true, Bool.not_false, Nat.lt_add_one, Nat.zero_lt_succ, N0, swL_n, swL_c, List.toList_toArray, false_implies, true_implies, implies_true, forall_const, not_false_eq_true, not_true_eq_false, and_false, false_and, a1, hc]
  simp only [hK9]
  clear hK9 K9v
  refine ⟨⟨hg.1, by omega⟩, ?_⟩
  refine J_iret dX1_gramsOfTenths_9 rfl (by omega) (by omega) (⟨rfl, rfl⟩)
set_option maxRecDepth 100000 in
set_option maxHeartbeats 4000000 in
theorem ok_milligramsOfTenth {M : Nat → Nat → Int} (d i : Nat) (hi : i < 16) (hg : 0 ≤ M (367 + 5 * i) 3 ∧ M (367 + 5 * i) 3 ≤ 500) : Ok l D cy (d + 2) 0 0 yX1_milligramsOfTenth cX1_milligramsOfTenth 1 (some (.int)) [.inr (.inr (some (367 + 5 * i)))] (N0, R0, M) (det (some (.inl (M (367 + 5 * i) 3 / 10 * 1000))) (N0, R0, M)) := by
  refine Ok.intro (o := 1) (ini := false) [some (.inr (.inr (some (367 + 5 * i))))] (by decide +kernel) rfl (fun h => by cases h) rfl (Nat.le_of_ble_eq_true rfl) rfl ?_
  obtain ⟨a1, -⟩ := job_at i hi
  refine J_rnG GM_fa (by omega) (by omega) (by omega) 2 _ _ _ _ (fun K9v hK9 => ?_)
  simp (maxSteps := 4000000) only [↓(X_aload_n (k := 0) (pc' := 1) dX1_milligramsOfTenth_0 rfl rfl), ↓gR_0, ↓(X_iconst (pc' := 2) dX1_milligramsOfTenth_1 rfl), rn_0, gV_s, ↓pI_c, ↓pII_c, ↓pL_c, ↓pLL_c, ↓pR_c, ↓pRI_c, ↓pRII_c, ↓pRIL_c, ↓pRR_c, ↓pV_c, ↓pVV_c, ↓gI_c, ↓gL_c, ↓gR_c, f2_0, f2_1, nk_n, nk_i, nk_r, ↓reduceIte, r32, r64, Nat.reduceAdd, Nat.reduceSub, Nat.reduceEqDiff, Nat.reduceLT, Nat.reduceLeDiff, Nat.reduceBEq, Int.reduceAdd, Int.reduceSub, Int.reduceMul, Int.reduceNeg, Int.reduceToNat, Int.reduceLE, Int.reduceLT, Int.reduceEq, Int.reduceNatCast', Int.reduceNatCast, Int.natCast_zero, Int.toNat_natCast, Int.toNat_zero, Int.toNat_one, List.length_cons, List.length_nil, true_and, and_true, and_self, true_or, or_true, false_or, or_false, Bool.not_true, Bool.not_false, Nat.lt_add_one, Nat.zero_lt_succ, N0, swL_n, swL_c, List.toList_toArray, false_implies, true_implies, implies_true, forall_const, not_false_eq_true, not_true_eq_false, and_false, false_and]
  simp only [hK9]
  clear hK9 K9v
  refine J_callVd (ci := 1) GM_fa (ok_gramsOfTenths d i 1 hi hg) dX1_milligramsOfTenth_2 k_1_32 (by omega) (Nat.le_of_ble_eq_true rfl) ⟨by omega, by omega⟩ rfl (by exact a1) rfl (by decide) (by simp only [N0]; omega) (by simp) rfl rfl ?_
  simp only [Option.toList, List.cons_append, List.nil_append, Int.mul_one]
  refine J_rnG GM_fa (by omega) (by omega) (by omega) 2 _ _ _ _ (fun K9v hK9 => ?_)
  simp (maxSteps := 4000000) only [↓(X_sipush (pc' := 8) dX1_milligramsOfTenth_5 rfl), ↓(X_imul (pc' := 9) dX1_milligramsOfTenth_8 rfl), rn_0, gV_s, ↓pI_c, ↓pII_c, ↓pL_c, ↓pLL_c, ↓pR_c, ↓pRI_c, ↓pRII_c, ↓pRIL_c, ↓pRR_c, ↓pV_c, ↓pVV_c, ↓gI_c, ↓gL_c, ↓gR_c, f2_0, f2_1, nk_n, nk_i, nk_r, ↓reduceIte, r32, r64, Nat.reduceAdd, Nat.reduceSub, Nat.reduceEqDiff, Nat.reduceLT, Nat.reduceLeDiff, Nat.reduceBEq, Int.reduceAdd, Int.reduceSub, Int.reduceMul, Int.reduceNeg, Int.reduceToNat, Int.reduceLE, Int.reduceLT, Int.reduceEq, Int.reduceNatCast', Int.reduceNatCast, Int.natCast_zero, Int.toNat_natCast, Int.toNat_zero, Int.toNat_one, List.length_cons, List.length_nil, true_and, and_true, and_self, true_or, or_true, false_or, or_false, Bool.not_true, Bool.not_false, Nat.lt_add_one, Nat.zero_lt_succ, N0, swL_n, swL_c, List.toList_toArray, false_implies, true_implies, implies_true, forall_const, not_false_eq_true, not_true_eq_false, and_false, false_and]
  simp only [hK9]
  clear hK9 K9v
  refine J_iret dX1_milligramsOfTenth_9 rfl (by omega) (by omega) (⟨rfl, rfl⟩)
set_option maxRecDepth 100000 in
set_option maxHeartbeats 4000000 in
theorem ok_chipPart {M : Nat → Nat → Int} (d i p : Nat) (t : Int) (hi : i < 16) (hp : p < 3) (hd : 0 ≤ t - M (367 + 5 * i) 7 ∧ t - M (367 + 5 * i) 7 ≤ 10000) (hcl : 0 ≤ M (369 + 5 * i) p ∧ M (369 + 5 * i) p ≤ 100) : Ok l D cy (d + 1) 0 0 yX1_chipPart cX1_chipPart 3 (some (.int)) [.inr (.inr (some (367 + 5 * i))), .inl ((p : Int)), .inl (t)] (N0, R0, M) (det (some (.inl (if M (369 + 5 * i) p + (t - M (367 + 5 * i) 7) / 10 < 100 then M (369 + 5 * i) p + (t - M (367 + 5 * i) 7) / 10 else 100))) (N0, R0, M)) := by
  refine Ok.intro (o := 1) (ini := false) [some (.inr (.inr (some (367 + 5 * i)))), some (.inl ((p : Int))), some (.inl (t))] (by decide +kernel) rfl (fun h => by cases h) rfl (Nat.le_of_ble_eq_true rfl) rfl ?_
  obtain ⟨a1, -, -, a2, a3, -, -, -, -, a4, -⟩ := job_at i hi
  have hc : 367 + 5 * i < 449 := by omega
  have hc2 : 369 + 5 * i < 449 := by omega
  have h0 : (0 : Int) ≤ (p : Int) := by omega
  have h3 : (p : Int) < 3 := by omega
  refine J_rnG GM_fa (by omega) (by omega) (by omega) 10 _ _ _ _ (fun K9v hK9 => ?_)
  simp (maxSteps := 4000000) only [↓(X_bipush (pc' := 2) dX1_chipPart_0 rfl), ↓(X_aload_n (k := 0) (pc' := 3) dX1_chipPart_2 rfl rfl), ↓gR_0, ↓(X_getR (pc' := 6) fl_1_15 dX1_chipPart_3 rfl), ↓(X_iload_n (k := 1) (pc' := 7) dX1_chipPart_6 rfl rfl), ↓gI_1, ↓(X_iaload (pc' := 8) dX1_chipPart_7 rfl), ↓(X_iload_n (k := 2) (pc' := 9) dX1_chipPart_8 rfl rfl), ↓gI_2, ↓(X_aload_n (k := 0) (pc' := 10) dX1_chipPart_9 rfl rfl), ↓(X_getI (pc' := 13) fl_1_36 (by decide) dX1_chipPart_10 rfl), ↓(X_isub (pc' := 14) dX1_chipPart_13 rfl), ↓(X_bipush (pc' := 16) dX1_chipPart_14 rfl), rn_0, gV_s, ↓pI_c, ↓pII_c, ↓pL_c, ↓pLL_c, ↓pR_c, ↓pRI_c, ↓pRII_c, ↓pRIL_c, ↓pRR_c, ↓pV_c, ↓pVV_c, ↓gI_c, ↓gL_c, ↓gR_c, f2_0, f2_1, nk_n, nk_i, nk_r, ↓reduceIte, r32, r64, Nat.reduceAdd, Nat.reduceSub, Nat.reduceEqDiff, Nat.reduceLT, Nat.reduceLeDiff, Nat.reduceBEq, Int.reduceAdd, Int.reduceSub, Int.reduceMul, Int.reduceNeg, Int.reduceToNat, Int.reduceLE, Int.reduceLT, Int.reduceEq, Int.reduceNatCast', Int.reduceNatCast, Int.natCast_zero, Int.toNat_natCast, Int.toNat_zero, Int.toNat_one, List.length_cons, List.length_nil, true_and, and_true, and_self, true_or, or_true, false_or, or_false, Bool.not_true, Bool.not_false, Nat.lt_add_one, Nat.zero_lt_succ, N0, swL_n, swL_c, List.toList_toArray, false_implies, true_implies, implies_true, forall_const, not_false_eq_true, not_true_eq_false, and_false, false_and, a1, a2, a3, ↓(gV_c a4), hc, hc2, h0, h3]
  simp only [hK9]
  clear hK9 K9v
  refine J_rnG GM_fa (by omega) (by omega) (by omega) 2 _ _ _ _ (fun K9v hK9 => ?_)
  simp (maxSteps := 4000000) only [↓(X_idiv (pc' := 17) dX1_chipPart_16 rfl), ↓(X_iadd (pc' := 18) dX1_chipPart_17 rfl), rn_0, gV_s, ↓pI_c, ↓pII_c, ↓pL_c, ↓pLL_c, ↓pR_c, ↓pRI_c, ↓pRII_c, ↓pRIL_c, ↓pRR_c, ↓pV_c, ↓pVV_c, ↓gI_c, ↓gL_c, ↓gR_c, f2_0, f2_1, nk_n, nk_i, nk_r, ↓reduceIte, r32, r64, Nat.reduceAdd, Nat.reduceSub, Nat.reduceEqDiff, Nat.reduceLT, Nat.reduceLeDiff, Nat.reduceBEq, Int.reduceAdd, Int.reduceSub, Int.reduceMul, Int.reduceNeg, Int.reduceToNat, Int.reduceLE, Int.reduceLT, Int.reduceEq, Int.reduceNatCast', Int.reduceNatCast, Int.natCast_zero, Int.toNat_natCast, Int.toNat_zero, Int.toNat_one, List.length_cons, List.length_nil, true_and, and_true, and_self, true_or, or_true, false_or, or_false, Bool.not_true, Bool.not_false, Nat.lt_add_one, Nat.zero_lt_succ, N0, swL_n, swL_c, List.toList_toArray, false_implies, true_implies, implies_true, forall_const, not_false_eq_true, not_true_eq_false, and_false, false_and, a1, hc]
  simp only [hK9]
  clear hK9 K9v
  repeat (refine And.intro (by first | omega | assumption | (refine ⟨?_, ?_⟩ <;> omega)) ?_)
  refine J_rnG GM_fa (by omega) (by omega) (by omega) 1 _ _ _ _ (fun K9v hK9 => ?_)
  simp (maxSteps := 4000000) only [↓(X_min (pc' := 21) jd_1_39 dX1_chipPart_18 rfl), rn_0, gV_s, ↓pI_c, ↓pII_c, ↓pL_c, ↓pLL_c, ↓pR_c, ↓pRI_c, ↓pRII_c, ↓pRIL_c, ↓pRR_c, ↓pV_c, ↓pVV_c, ↓gI_c, ↓gL_c, ↓gR_c, f2_0, f2_1, nk_n, nk_i, nk_r, ↓reduceIte, r32, r64, Nat.reduceAdd, Nat.reduceSub, Nat.reduceEqDiff, Nat.reduceLT, Nat.reduceLeDiff, Nat.reduceBEq, Int.reduceAdd, Int.reduceSub, Int.reduceMul, Int.reduceNeg, Int.reduceToNat, Int.reduceLE, Int.reduceLT, Int.reduceEq, Int.reduceNatCast', Int.reduceNatCast, Int.natCast_zero, Int.toNat_natCast, Int.toNat_zero, Int.toNat_one, List.length_cons, List.length_nil, true_and, and_true, and_self, true_or, or_true, false_or, or_false, Bool.not_true, Bool.not_false, Nat.lt_add_one, Nat.zero_lt_succ, N0, swL_n, swL_c, List.toList_toArray, false_implies, true_implies, implies_true, forall_const, not_false_eq_true, not_true_eq_false, and_false, false_and, a1, hc]
  simp only [hK9]
  clear hK9 K9v
  repeat (refine And.intro (by first | omega | assumption | (refine ⟨?_, ?_⟩ <;> omega)) ?_)
  refine J_iret dX1_chipPart_21 rfl (by omega) (by omega) (⟨rfl, rfl⟩)
set_option maxRecDepth 100000 in
set_option maxHeartbeats 4000000 in
theorem ok_atgr {M : Nat → Nat → Int} (d q : Nat) (hq : q = 76 ∨ q = 82) (hr : ∀ b, b < 4 → r32 (M (q + 2) b)) : Ok l D cy (d + 1) 0 0 yX2_addToGreatestRest cX2_addToGreatestRest 3 (none) [.inr (.inr (some (q)))] (N0, R0, M) (det none (N0, R0, up2 (up2 M (q + 1) (gt4 (M (q + 2))) (M (q + 1) (gt4 (M (q + 2))) + 1)) (q + 2) (gt4 (M (q + 2))) (-1))) := by
  refine Ok.intro (o := 2) (ini := false) [some (.inr (.inr (some (q)))), none, none] (by decide +kernel) rfl (fun h => by cases h) rfl (Nat.le_of_ble_eq_true rfl) rfl ?_
  obtain ⟨a1, a2, a3, a4, a5, a6, a7, a8, a9, a10⟩ := lad_at hq
  have r0 := hr 0 (by omega)
  have r1 := hr 1 (by omega)
  have r2 := hr 2 (by omega)
  have r3 := hr 3 (by omega)
  simp only [r32] at r0 r1 r2 r3
  refine J_rnG GM_fa (by omega) (by omega) (by omega) 70 _ _ _ _ (fun K9v hK9 => ?_)
  simp (maxSteps := 4000000) only [↓(X_iconst (pc' := 1) dX2_addToGreatestRest_0 rfl), ↓(X_istore_n (k := 1) (pc' := 2) dX2_addToGreatestRest_1 rfl rfl), ↓sto_1, ↓(X_iconst (pc' := 3) dX2_addToGreatestRest_2 rfl), ↓(X_istore_n (k := 2) (pc' := 4) dX2_addToGreatestRest_3 rfl rfl), ↓sto_2, ↓(X_iload_n (k := 2) (pc' := 5) dX2_addToGreatestRest_4 rfl rfl), ↓gI_2, ↓(X_iconst (pc' := 6) dX2_addToGreatestRest_5 rfl), ↓(X_icmp_ge (tgt := 32) (pc' := 9) dX2_addToGreatestRest_6 (by decide) rfl), ↓(X_aload_n (k := 0) (pc' := 10) dX2_addToGreatestRest_9 rfl rfl), ↓gR_0, ↓(X_getR (pc' := 13) fl_2_15 dX2_addToGreatestRest_10 rfl), kd_76, ↓(gV_c r0_76_1), kd_78, ln_78, kd_82, ↓(gV_c r0_82_1), kd_84, ln_84, ↓(X_iload_n (k := 2) (pc' := 14) dX2_addToGreatestRest_13 rfl rfl), ↓(X_iaload (pc' := 15) dX2_addToGreatestRest_14 rfl), ↓(X_aload_n (k := 0) (pc' := 16) dX2_addToGreatestRest_15 rfl rfl), ↓(X_getR (pc' := 19) fl_2_15 dX2_addToGreatestRest_16 rfl), ↓(X_iload_n (k := 1) (pc' := 20) dX2_addToGreatestRest_19 rfl rfl), ↓gI_1, ↓(X_iaload (pc' := 21) dX2_addToGreatestRest_20 rfl), ↓(X_icmp_le (tgt := 26) (pc' := 24) dX2_addToGreatestRest_21 (by decide) rfl), ↓(X_iload_n (k := 2) (pc' := 25) dX2_addToGreatestRest_24 rfl rfl), ↓(X_istore_n (k := 1) (pc' := 26) dX2_addToGreatestRest_25 rfl rfl), ↓(X_iinc (pc' := 29) dX2_addToGreatestRest_26 rfl), ↓(X_goto (pc' := 4) dX2_addToGreatestRest_29 (by decide)), ↓(X_aload_n (k := 0) (pc' := 33) dX2_addToGreatestRest_32 rfl rfl), ↓(X_getR (pc' := 36) fl_2_9 dX2_addToGreatestRest_33 rfl), ↓(gV_c r0_76_0), kd_77, ln_77, ↓(gV_c r0_82_0), kd_83, ln_83, ↓(X_iload_n (k := 1) (pc' := 37) dX2_addToGreatestRest_36 rfl rfl), ↓(X_dup2 (pc' := 38) dX2_addToGreatestRest_37 rfl), ↓(X_iaload (pc' := 39) dX2_addToGreatestRest_38 rfl), ↓(X_iconst (pc' := 40) dX2_addToGreatestRest_39 rfl), ↓(X_iadd (pc' := 41) dX2_addToGreatestRest_40 rfl), ↓(X_iastore (pc' := 42) dX2_addToGreatestRest_41 rfl), ↓(X_aload_n (k := 0) (pc' := 43) dX2_addToGreatestRest_42 rfl rfl), ↓(X_getR (pc' := 46) fl_2_15 dX2_addToGreatestRest_43 rfl), ↓(X_iload_n (k := 1) (pc' := 47) dX2_addToGreatestRest_46 rfl rfl), ↓(X_iconst (pc' := 48) dX2_addToGreatestRest_47 rfl), ↓(X_iastore (pc' := 49) dX2_addToGreatestRest_48 rfl), ↓(X_return_ dX2_addToGreatestRest_49), rn_0, gV_s, ↓pI_c, ↓pII_c, ↓pL_c, ↓pLL_c, ↓pR_c, ↓pRI_c, ↓pRII_c, ↓pRIL_c, ↓pRR_c, ↓pV_c, ↓pVV_c, ↓gI_c, ↓gL_c, ↓gR_c, f2_0, f2_1, nk_n, nk_i, nk_r, ↓reduceIte, r32, r64, Nat.reduceAdd, Nat.reduceSub, Nat.reduceEqDiff, Nat.reduceLT, Nat.reduceLeDiff, Nat.reduceBEq, Int.reduceAdd, Int.reduceSub, Int.reduceMul, Int.reduceNeg, Int.reduceToNat, Int.reduceLE, Int.reduceLT, Int.reduceEq, Int.reduceNatCast', Int.reduceNatCast, Int.natCast_zero, Int.toNat_natCast, Int.toNat_zero, Int.toNat_one, List.length_cons, List.length_nil, true_and, and_true, and_self, true_or, or_true, false_or, or_false, Bool.not_true, Bool.not_false, Nat.lt_add_one, Nat.zero_lt_succ, N0, swL_n, swL_c, List.toList_toArray, false_implies, true_implies, implies_true, forall_const, not_false_eq_true, not_true_eq_false, and_false, false_and, a1, ↓(gV_c a2), ↓(gV_c a3), a4, a5, a6, a7, a8, a9, a10, r0, r1, r2, r3]
  simp only [hK9]
  clear hK9 K9v
  have key : ∀ g, gt4 (M (q + 2)) = g → J l D cy (GM l D cy 2 cX2_addToGreatestRest 3 (d + 1) 0 0 false none (det none (N0, R0, up2 (up2 M (q + 1) (gt4 (M (q + 2))) (M (q + 1) (gt4 (M (q + 2))) + 1)) (q + 2) (gt4 (M (q + 2))) (-1)))) 49 [some (Sum.inr (Sum.inr (some q))), some (Sum.inl (g : Int)), some (Sum.inl 4)] [] (449, R0, up2 (up2 M (q + 1) g (M (q + 1) g + 1)) (q + 2) g (-1)) 0 0 := by
    intro g hg
    subst hg
    refine J_vret dX2_addToGreatestRest_49 rfl (by omega) (by omega) (⟨rfl, rfl⟩)
  repeat' split
  all_goals (first | exact key 0 (by simp only [gt4, gt4b, gt4a, *, if_true, if_false]) | exact key 1 (by simp only [gt4, gt4b, gt4a, *, if_true, if_false]) | exact key 2 (by simp only [gt4, gt4b, gt4a, *, if_true, if_false]) | exact key 3 (by simp only [gt4, gt4b, gt4a, *, if_true, if_false]))
set_option maxRecDepth 100000 in
set_option maxHeartbeats 4000000 in
theorem ok_washBetween {M : Nat → Nat → Int} (d a b : Nat) (ka : kd a = 10) (la : ln a = 3) (ha : a < 449) (kb : kd b = 10) (lb : ln b = 3) (hb : b < 449) (c1 : col3 (M a)) (c2 : col3 (M b)) : Ok l D cy (d + 1) 0 0 yX3_washBetween cX3_washBetween 5 (some (.int)) [.inr (.inr (some (a))), .inr (.inr (some (b)))] (N0, R0, M) (det (some (.inl (washF (M a) (M b)))) (N0, R0, M)) := by
  refine Ok.intro (o := 3) (ini := false) [some (.inr (.inr (some (a)))), some (.inr (.inr (some (b)))), none, none, none] (by decide +kernel) rfl (fun h => by cases h) rfl (Nat.le_of_ble_eq_true rfl) rfl ?_
  obtain ⟨⟨x1, x2⟩, ⟨x3, x4⟩, ⟨x5, x6⟩⟩ := c1
  obtain ⟨⟨y1, y2⟩, ⟨y3, y4⟩, ⟨y5, y6⟩⟩ := c2
  have e0 : -2147483647 ≤ M b 0 - M a 0 ∧ M b 0 - M a 0 ≤ 2147483647 := by omega
  have e1 : -2147483647 ≤ M b 1 - M a 1 ∧ M b 1 - M a 1 ≤ 2147483647 := by omega
  have e2 : -2147483647 ≤ M b 2 - M a 2 ∧ M b 2 - M a 2 ≤ 2147483647 := by omega
  refine J_rnG GM_fa (by omega) (by omega) (by omega) 89 _ _ _ _ (fun K9v hK9 => ?_)
  simp (maxSteps := 4000000) only [↓(X_iconst (pc' := 1) dX3_washBetween_0 rfl), ↓(X_istore_n (k := 2) (pc' := 2) dX3_washBetween_1 rfl rfl), ↓sto_2, ↓(X_iconst (pc' := 3) dX3_washBetween_2 rfl), ↓(X_istore_n (k := 3) (pc' := 4) dX3_washBetween_3 rfl rfl), ↓sto_3, ↓(X_iconst (pc' := 5) dX3_washBetween_4 rfl), ↓(X_istore (pc' := 7) dX3_washBetween_5 rfl), ↓sto_4, ↓(X_iload (pc' := 9) dX3_washBetween_7 rfl), ↓gI_4, ↓(X_iconst (pc' := 10) dX3_washBetween_9 rfl), ↓(X_icmp_ge (tgt := 46) (pc' := 13) dX3_washBetween_10 (by decide) rfl), ↓(X_iload_n (k := 2) (pc' := 14) dX3_washBetween_13 rfl rfl), ↓gI_2, ↓(X_aload_n (k := 1) (pc' := 15) dX3_washBetween_14 rfl rfl), ↓gR_1, ↓(X_iload (pc' := 17) dX3_washBetween_15 rfl), ↓(X_iaload (pc' := 18) dX3_washBetween_17 rfl), ↓(X_aload_n (k := 0) (pc' := 19) dX3_washBetween_18 rfl rfl), ↓gR_0, ↓(X_iload (pc' := 21) dX3_washBetween_19 rfl), ↓(X_iaload (pc' := 22) dX3_washBetween_21 rfl), ↓(X_isub (pc' := 23) dX3_washBetween_22 rfl), ↓(X_abs (pc' := 26) jd_3_27 dX3_washBetween_23 rfl), ↓(X_iadd (pc' := 27) dX3_washBetween_26 rfl), ↓(X_istore_n (k := 2) (pc' := 28) dX3_washBetween_27 rfl rfl), ↓(X_iload_n (k := 3) (pc' := 29) dX3_washBetween_28 rfl rfl), ↓gI_3, ↓(X_aload_n (k := 1) (pc' := 30) dX3_washBetween_29 rfl rfl), ↓(X_iload (pc' := 32) dX3_washBetween_30 rfl), ↓(X_iaload (pc' := 33) dX3_washBetween_32 rfl), ↓(X_aload_n (k := 0) (pc' := 34) dX3_washBetween_33 rfl rfl), ↓(X_iload (pc' := 36) dX3_washBetween_34 rfl), ↓(X_iaload (pc' := 37) dX3_washBetween_36 rfl), ↓(X_isub (pc' := 38) dX3_washBetween_37 rfl), ↓(X_iadd (pc' := 39) dX3_washBetween_38 rfl), ↓(X_istore_n (k := 3) (pc' := 40) dX3_washBetween_39 rfl rfl), ↓(X_iinc (pc' := 43) dX3_washBetween_40 rfl), ↓(X_goto (pc' := 7) dX3_washBetween_43 (by decide)), ↓(X_iload_n (k := 3) (pc' := 47) dX3_washBetween_46 rfl rfl), ↓(X_if_le (tgt := 56) (pc' := 50) dX3_washBetween_47 (by decide) rfl), ↓(X_iconst (pc' := 51) dX3_washBetween_50 rfl), ↓(X_iload_n (k := 2) (pc' := 52) dX3_washBetween_51 rfl rfl), ↓(X_imul (pc' := 53) dX3_washBetween_52 rfl), ↓(X_goto (pc' := 57) dX3_washBetween_53 (by decide)), ↓(X_iload_n (k := 2) (pc' := 57) dX3_washBetween_56 rfl rfl), ↓(X_ireturn dX3_washBetween_57), rn_0, gV_s, ↓pI_c, ↓pII_c, ↓pL_c, ↓pLL_c, ↓pR_c, ↓pRI_c, ↓pRII_c, ↓pRIL_c, ↓pRR_c, ↓pV_c, ↓pVV_c, ↓gI_c, ↓gL_c, ↓gR_c, f2_0, f2_1, nk_n, nk_i, nk_r, ↓reduceIte, r32, r64, Nat.reduceAdd, Nat.reduceSub, Nat.reduceEqDiff, Nat.reduceLT, Nat.reduceLeDiff, Nat.reduceBEq, Int.reduceAdd, Int.reduceSub, Int.reduceMul, Int.reduceNeg, Int.reduceToNat, Int.reduceLE, Int.reduceLT, Int.reduceEq, Int.reduceNatCast', Int.reduceNatCast, Int.natCast_zero, Int.toNat_natCast, Int.toNat_zero, Int.toNat_one, List.length_cons, List.length_nil, true_and, and_true, and_self, true_or, or_true, false_or, or_false, Bool.not_true, Bool.not_false, Nat.lt_add_one, Nat.zero_lt_succ, N0, swL_n, swL_c, List.toList_toArray, false_implies, true_implies, implies_true, forall_const, not_false_eq_true, not_true_eq_false, and_false, false_and, ka, la, ha, kb, lb, hb, e0, e1, e2, Int.zero_add]
  simp only [hK9]
  clear hK9 K9v
  repeat (refine And.intro (by first | omega | assumption | (refine ⟨?_, ?_⟩ <;> omega)) ?_)
  split
  · rename_i h
    refine J_rnG GM_fa (by omega) (by omega) (by omega) 4 _ _ _ _ (fun K9v hK9 => ?_)
    simp (maxSteps := 4000000) only [↓(X_iconst (pc' := 51) dX3_washBetween_50 rfl), ↓(X_iload_n (k := 2) (pc' := 52) dX3_washBetween_51 rfl rfl), ↓gI_2, ↓(X_imul (pc' := 53) dX3_washBetween_52 rfl), ↓(X_goto (pc' := 57) dX3_washBetween_53 (by decide)), rn_0, gV_s, ↓pI_c, ↓pII_c, ↓pL_c, ↓pLL_c, ↓pR_c, ↓pRI_c, ↓pRII_c, ↓pRIL_c, ↓pRR_c, ↓pV_c, ↓pVV_c, ↓gI_c, ↓gL_c, ↓gR_c, f2_0, f2_1, nk_n, nk_i, nk_r, ↓reduceIte, r32, r64, Nat.reduceAdd, Nat.reduceSub, Nat.reduceEqDiff, Nat.reduceLT, Nat.reduceLeDiff, Nat.reduceBEq, Int.reduceAdd, Int.reduceSub, Int.reduceMul, Int.reduceNeg, Int.reduceToNat, Int.reduceLE, Int.reduceLT, Int.reduceEq, Int.reduceNatCast', Int.reduceNatCast, Int.natCast_zero, Int.toNat_natCast, Int.toNat_zero, Int.toNat_one, List.length_cons, List.length_nil, true_and, and_true, and_self, true_or, or_true, false_or, or_false, Bool.not_true, Bool.not_false, Nat.lt_add_one, Nat.zero_lt_succ, N0, swL_n, swL_c, List.toList_toArray, false_implies, true_implies, implies_true, forall_const, not_false_eq_true, not_true_eq_false, and_false, false_and]
    simp only [hK9]
    clear hK9 K9v
    refine J_iret dX3_washBetween_57 rfl (by omega) (by omega) (⟨by simp only [washF, if_pos h], rfl⟩)
  · rename_i h
    refine J_rnG GM_fa (by omega) (by omega) (by omega) 1 _ _ _ _ (fun K9v hK9 => ?_)
    simp (maxSteps := 4000000) only [↓(X_iload_n (k := 2) (pc' := 57) dX3_washBetween_56 rfl rfl), ↓gI_2, rn_0, gV_s, ↓pI_c, ↓pII_c, ↓pL_c, ↓pLL_c, ↓pR_c, ↓pRI_c, ↓pRII_c, ↓pRIL_c, ↓pRR_c, ↓pV_c, ↓pVV_c, ↓gI_c, ↓gL_c, ↓gR_c, f2_0, f2_1, nk_n, nk_i, nk_r, ↓reduceIte, r32, r64, Nat.reduceAdd, Nat.reduceSub, Nat.reduceEqDiff, Nat.reduceLT, Nat.reduceLeDiff, Nat.reduceBEq, Int.reduceAdd, Int.reduceSub, Int.reduceMul, Int.reduceNeg, Int.reduceToNat, Int.reduceLE, Int.reduceLT, Int.reduceEq, Int.reduceNatCast', Int.reduceNatCast, Int.natCast_zero, Int.toNat_natCast, Int.toNat_zero, Int.toNat_one, List.length_cons, List.length_nil, true_and, and_true, and_self, true_or, or_true, false_or, or_false, Bool.not_true, Bool.not_false, Nat.lt_add_one, Nat.zero_lt_succ, N0, swL_n, swL_c, List.toList_toArray, false_implies, true_implies, implies_true, forall_const, not_false_eq_true, not_true_eq_false, and_false, false_and]
    simp only [hK9]
    clear hK9 K9v
    refine J_iret dX3_washBetween_57 rfl (by omega) (by omega) (⟨by simp only [washF, if_neg h], rfl⟩)
end C1
