/-! the plan of the washes -/
/-- what the rows of the plan keep: costs and leasts within bounds -/
def wOK (M : Nat → Nat → Int) : Prop := (∀ f, f ≤ 8 → ∀ k, k < 8 → 0 ≤ M (101 + f) k ∧ M (101 + f) k ≤ 1000) ∧ ∀ s, s < 256 → ∀ f, f ≤ 8 → 0 ≤ M (111 + s) f ∧ M (111 + s) f ≤ 1000000
def lbV (M : Nat → Nat → Int) (n s f : Nat) : Int := if s = 0 then 0 else loopN (lbS (fun k => M (101 + f) k + M (111 + (s - 2 ^ k)) k) s) n 0 1000000
theorem p2_bd : ∀ k : Nat, k < 8 → (1 * 2 ^ k : Int) ≤ 2147483647 := by decide +kernel
section C7
variable {l : Launch} {D : va_G} {cy : Nat → ClassId}
set_option maxRecDepth 100000 in
set_option maxHeartbeats 4000000 in
theorem jj_lb {M : Nat → Nat → Int} {Φ : Out → Mem → Prop} (d n s f : Nat) (hn : M 89 4 = (n : Int)) (hn8 : n ≤ 8) (hs : s < 256) (hf : f ≤ 8) (hw : wOK M) : ∀ (k j : Nat) (acc : Int) (w5 : Option AV), nk w5 → j + k = n → 0 ≤ acc → acc ≤ 1000000 → Φ (.inl (some (.inl (loopN (lbS (fun k => M (101 + f) k + M (111 + (s - 2 ^ k)) k) s) k j acc)))) (N0, R0, M) →
    J l D cy (GM l D cy 7 cX7_leastBehind 6 (d + 1) 0 0 false (some .int) Φ) 12 [some (.inr (.inr (some 89))), some (.inl (s : Int)), some (.inl (f : Int)), some (.inl acc), some (.inl (j : Int)), w5] [] (449, R0, M) 0 0 := by
  intro k
  induction k with
  | zero =>
    intro j acc w5 hw5 hj ha1 ha2 hΦ
    have h1 : ¬ (j : Int) < (n : Int) := by omega
    have r1 : -2147483648 ≤ (j : Int) ∧ (j : Int) ≤ 2147483647 := by omega
    have r2 : -2147483648 ≤ (n : Int) ∧ (n : Int) ≤ 2147483647 := by omega
    refine J_rnG GM_fa (by omega) (by omega) (by omega) 4 _ _ _ _ (fun K9v hK9 => ?_)
    simp (maxSteps := 4000000) only [↓(X_iload (pc' := 14) dX7_leastBehind_12 rfl), ↓gI_4, ↓(X_aload_n (k := 0) (pc' := 15) dX7_leastBehind_14 rfl rfl), ↓gR_0, ↓(X_getI (pc' := 18) fl_7_26 (by decide) dX7_leastBehind_15 rfl), kd_89, ↓(X_icmp_ge (tgt := 75) (pc' := 21) dX7_leastBehind_18 (by decide) rfl), rn_0, gV_s, ↓pI_c, ↓pII_c, ↓pL_c, ↓pLL_c, ↓pR_c, ↓pRI_c, ↓pRII_c, ↓pRIL_c, ↓pRR_c, ↓pV_c, ↓pVV_c, ↓gI_c, ↓gL_c, ↓gR_c, f2_0, f2_1, nk_n, nk_i, nk_r, ↓reduceIte, r32, r64, Nat.reduceAdd, Nat.reduceSub, Nat.reduceEqDiff, Nat.reduceLT, Nat.reduceLeDiff, Nat.reduceBEq, Int.reduceAdd, Int.reduceSub, Int.reduceMul, Int.reduceNeg, Int.reduceToNat, Int.reduceLE, Int.reduceLT, Int.reduceEq, Int.reduceNatCast', Int.reduceNatCast, Int.natCast_zero, Int.toNat_natCast, Int.toNat_zero, Int.toNat_one, List.length_cons, List.length_nil, true_and, and_true, and_self, true_or, or_true, false_or, or_false, Bool.not_true, Bool.not_false, Nat.lt_add_one, Nat.zero_lt_succ, N0, swL_n, swL_c, List.toList_toArray, false_implies, true_implies, implies_true, forall_const, not_false_eq_true, not_true_eq_false, and_false, false_and, hn, h1, r1, r2]
    simp only [hK9]
    clear hK9 K9v
    refine J_rnG GM_fa (by omega) (by omega) (by omega) 1 _ _ _ _ (fun K9v hK9 => ?_)
    simp (maxSteps := 4000000) only [↓(X_iload_n (k := 3) (pc' := 76) dX7_leastBehind_75 rfl rfl), ↓gI_3, rn_0, gV_s, ↓pI_c, ↓pII_c, ↓pL_c, ↓pLL_c, ↓pR_c, ↓pRI_c, ↓pRII_c, ↓pRIL_c, ↓pRR_c, ↓pV_c, ↓pVV_c, ↓gI_c, ↓gL_c, ↓gR_c, f2_0, f2_1, nk_n, nk_i, nk_r, ↓reduceIte, r32, r64, Nat.reduceAdd, Nat.reduceSub, Nat.reduceEqDiff, Nat.reduceLT, Nat.reduceLeDiff, Nat.reduceBEq, Int.reduceAdd, Int.reduceSub, Int.reduceMul, Int.reduceNeg, Int.reduceToNat, Int.reduceLE, Int.reduceLT, Int.reduceEq, Int.reduceNatCast', Int.reduceNatCast, Int.natCast_zero, Int.toNat_natCast, Int.toNat_zero, Int.toNat_one, List.length_cons, List.length_nil, true_and, and_true, and_self, true_or, or_true, false_or, or_false, Bool.not_true, Bool.not_false, Nat.lt_add_one, Nat.zero_lt_succ, N0, swL_n, swL_c, List.toList_toArray, false_implies, true_implies, implies_true, forall_const, not_false_eq_true, not_true_eq_false, and_false, false_and]
    simp only [hK9]
    clear hK9 K9v
    have r3 : -2147483648 ≤ acc ∧ acc ≤ 2147483647 := by omega
    refine J_iret dX7_leastBehind_76 rfl (by omega) (by omega) (hΦ)
  | succ k ih =>
    intro j acc w5 hw5 hj ha1 ha2 hΦ
    have h1 : (j : Int) < (n : Int) := by omega
    have r1 : -2147483648 ≤ (j : Int) ∧ (j : Int) ≤ 2147483647 := by omega
    have r2 : -2147483648 ≤ (n : Int) ∧ (n : Int) ≤ 2147483647 := by omega
    have r3 := p2_bd j (by omega)
    have r4 : 0 ≤ (j : Int) ∧ (j : Int) < 31 := by omega
    have r5 := bAnd_rg (s : Int) (1 * 2 ^ j)
    rw [loopN] at hΦ
    rcases hb : s.testBit j with _ | _
    · have e1 := bt_out s hs j (by omega) hb
      refine J_rnG GM_fa (by omega) (by omega) (by omega) 10 _ _ _ _ (fun K9v hK9 => ?_)
      simp (maxSteps := 4000000) only [↓(X_iload (pc' := 14) dX7_leastBehind_12 rfl), ↓gI_4, ↓(X_aload_n (k := 0) (pc' := 15) dX7_leastBehind_14 rfl rfl), ↓gR_0, ↓(X_getI (pc' := 18) fl_7_26 (by decide) dX7_leastBehind_15 rfl), kd_89, ↓(X_icmp_ge (tgt := 75) (pc' := 21) dX7_leastBehind_18 (by decide) rfl), ↓(X_iload_n (k := 1) (pc' := 22) dX7_leastBehind_21 rfl rfl), ↓gI_1, ↓(X_iconst (pc' := 23) dX7_leastBehind_22 rfl), ↓(X_iload (pc' := 25) dX7_leastBehind_23 rfl), ↓(X_ishl (pc' := 26) dX7_leastBehind_25 rfl), ↓(X_iand (pc' := 27) dX7_leastBehind_26 rfl), ↓(X_if_eq (tgt := 69) (pc' := 30) dX7_leastBehind_27 (by decide) rfl), rn_0, gV_s, ↓pI_c, ↓pII_c, ↓pL_c, ↓pLL_c, ↓pR_c, ↓pRI_c, ↓pRII_c, ↓pRIL_c, ↓pRR_c, ↓pV_c, ↓pVV_c, ↓gI_c, ↓gL_c, ↓gR_c, f2_0, f2_1, nk_n, nk_i, nk_r, ↓reduceIte, r32, r64, Nat.reduceAdd, Nat.reduceSub, Nat.reduceEqDiff, Nat.reduceLT, Nat.reduceLeDiff, Nat.reduceBEq, Int.reduceAdd, Int.reduceSub, Int.reduceMul, Int.reduceNeg, Int.reduceToNat, Int.reduceLE, Int.reduceLT, Int.reduceEq, Int.reduceNatCast', Int.reduceNatCast, Int.natCast_zero, Int.toNat_natCast, Int.toNat_zero, Int.toNat_one, List.length_cons, List.length_nil, true_and, and_true, and_self, true_or, or_true, false_or, or_false, Bool.not_true, Bool.not_false, Nat.lt_add_one, Nat.zero_lt_succ, N0, swL_n, swL_c, List.toList_toArray, false_implies, true_implies, implies_true, forall_const, not_false_eq_true, not_true_eq_false, and_false, false_and, hn, h1, r1, r2, r3, r4, r5, e1]
      simp only [hK9]
      clear hK9 K9v
      refine J_rnG GM_fa (by omega) (by omega) (by omega) 2 _ _ _ _ (fun K9v hK9 => ?_)
      simp (maxSteps := 4000000) only [↓(X_iinc (pc' := 72) dX7_leastBehind_69 rfl), ↓gI_4, ↓sto_4, ↓(X_goto (pc' := 12) dX7_leastBehind_72 (by decide)), rn_0, gV_s, ↓pI_c, ↓pII_c, ↓pL_c, ↓pLL_c, ↓pR_c, ↓pRI_c, ↓pRII_c, ↓pRIL_c, ↓pRR_c, ↓pV_c, ↓pVV_c, ↓gI_c, ↓gL_c, ↓gR_c, f2_0, f2_1, nk_n, nk_i, nk_r, ↓reduceIte, r32, r64, Nat.reduceAdd, Nat.reduceSub, Nat.reduceEqDiff, Nat.reduceLT, Nat.reduceLeDiff, Nat.reduceBEq, Int.reduceAdd, Int.reduceSub, Int.reduceMul, Int.reduceNeg, Int.reduceToNat, Int.reduceLE, Int.reduceLT, Int.reduceEq, Int.reduceNatCast', Int.reduceNatCast, Int.natCast_zero, Int.toNat_natCast, Int.toNat_zero, Int.toNat_one, List.length_cons, List.length_nil, true_and, and_true, and_self, true_or, or_true, false_or, or_false, Bool.not_true, Bool.not_false, Nat.lt_add_one, Nat.zero_lt_succ, N0, swL_n, swL_c, List.toList_toArray, false_implies, true_implies, implies_true, forall_const, not_false_eq_true, not_true_eq_false, and_false, false_and]
      simp only [hK9]
      clear hK9 K9v
      rw [show (j : Int) + 1 = ((j + 1 : Nat) : Int) by omega]
      refine ih (j + 1) acc w5 hw5 (by omega) ha1 ha2 ?_
      rw [lbS, if_neg (by rw [hb]; decide)] at hΦ
      exact hΦ
    · have e1 := bt_in s hs j (by omega) hb
      have e2 := (bt_rm s hs j (by omega) hb).1
      obtain ⟨-, e3, -⟩ := pop_step s hs j (by omega) hb
      obtain ⟨c1, c2, c3⟩ := wcost_at f (by omega)
      obtain ⟨l1, l2, l3⟩ := wleast_at (s - 2 ^ j) e3
      have b1 := hw.1 f hf j (by omega)
      have b2 := hw.2 (s - 2 ^ j) e3 j (by omega)
      have i1 : (0 : Int) ≤ (f : Int) ∧ (f : Int) < 9 := by omega
      have i2 : (0 : Int) ≤ ((s - 2 ^ j : Nat) : Int) ∧ ((s - 2 ^ j : Nat) : Int) < 256 := by omega
      have i3 : 101 + f < 449 := by omega
      have i4 : 111 + (s - 2 ^ j) < 449 := by omega
      have i5 : (j : Int) < 8 := by omega
      have i6 : (j : Int) < 9 := by omega
      have r6 : -2147483648 ≤ M (101 + f) j + M (111 + (s - 2 ^ j)) j ∧ M (101 + f) j + M (111 + (s - 2 ^ j)) j ≤ 2147483647 := by omega
      have r7 : -2147483648 ≤ acc ∧ acc ≤ 2147483647 := by omega
      refine J_rnG GM_fa (by omega) (by omega) (by omega) 20 _ _ _ _ (fun K9v hK9 => ?_)
      simp (maxSteps := 4000000) only [↓(X_iload (pc' := 14) dX7_leastBehind_12 rfl), ↓gI_4, ↓(X_aload_n (k := 0) (pc' := 15) dX7_leastBehind_14 rfl rfl), ↓gR_0, ↓(X_getI (pc' := 18) fl_7_26 (by decide) dX7_leastBehind_15 rfl), kd_89, ↓(X_icmp_ge (tgt := 75) (pc' := 21) dX7_leastBehind_18 (by decide) rfl), ↓(X_iload_n (k := 1) (pc' := 22) dX7_leastBehind_21 rfl rfl), ↓gI_1, ↓(X_iconst (pc' := 23) dX7_leastBehind_22 rfl), ↓(X_iload (pc' := 25) dX7_leastBehind_23 rfl), ↓(X_ishl (pc' := 26) dX7_leastBehind_25 rfl), ↓(X_iand (pc' := 27) dX7_leastBehind_26 rfl), ↓(X_if_eq (tgt := 69) (pc' := 30) dX7_leastBehind_27 (by decide) rfl), ↓(X_iload_n (k := 1) (pc' := 31) dX7_leastBehind_30 rfl rfl), ↓(X_iconst (pc' := 32) dX7_leastBehind_31 rfl), ↓(X_iload (pc' := 34) dX7_leastBehind_32 rfl), ↓(X_ishl (pc' := 35) dX7_leastBehind_34 rfl), ↓(X_iconst (pc' := 36) dX7_leastBehind_35 rfl), ↓(X_ixor (pc' := 37) dX7_leastBehind_36 rfl), ↓(X_iand (pc' := 38) dX7_leastBehind_37 rfl), ↓(X_sipush (pc' := 41) dX7_leastBehind_38 rfl), ↓(X_iand (pc' := 42) dX7_leastBehind_41 rfl), ↓(X_istore (pc' := 44) dX7_leastBehind_42 rfl), ↓sto_5, rn_0, gV_s, ↓pI_c, ↓pII_c, ↓pL_c, ↓pLL_c, ↓pR_c, ↓pRI_c, ↓pRII_c, ↓pRIL_c, ↓pRR_c, ↓pV_c, ↓pVV_c, ↓gI_c, ↓gL_c, ↓gR_c, f2_0, f2_1, nk_n, nk_i, nk_r, ↓reduceIte, r32, r64, Nat.reduceAdd, Nat.reduceSub, Nat.reduceEqDiff, Nat.reduceLT, Nat.reduceLeDiff, Nat.reduceBEq, Int.reduceAdd, Int.reduceSub, Int.reduceMul, Int.reduceNeg, Int.reduceToNat, Int.reduceLE, Int.reduceLT, Int.reduceEq, Int.reduceNatCast', Int.reduceNatCast, Int.natCast_zero, Int.toNat_natCast, Int.toNat_zero, Int.toNat_one, List.length_cons, List.length_nil, true_and, and_true, and_self, true_or, or_true, false_or, or_false, Bool.not_true, Bool.not_false, Nat.lt_add_one, Nat.zero_lt_succ, N0, swL_n, swL_c, List.toList_toArray, false_implies, true_implies, implies_true, forall_const, not_false_eq_true, not_true_eq_false, and_false, false_and, hn, h1, r1, r2, r3, r4, r5, e1, e2]
      simp only [hK9]
      clear hK9 K9v
      refine J_rnG GM_fa (by omega) (by omega) (by omega) 18 _ _ _ _ (fun K9v hK9 => ?_)
      simp (maxSteps := 4000000) only [↓(X_iload_n (k := 3) (pc' := 45) dX7_leastBehind_44 rfl rfl), ↓gI_3, ↓(X_aload_n (k := 0) (pc' := 46) dX7_leastBehind_45 rfl rfl), ↓gR_0, ↓(X_getR (pc' := 49) fl_7_20 dX7_leastBehind_46 rfl), kd_89, ↓(gV_c r0_89_2), kd_100, ln_100, ↓(X_iload_n (k := 2) (pc' := 50) dX7_leastBehind_49 rfl rfl), ↓gI_2, ↓(X_aaload (pc' := 51) dX7_leastBehind_50 rfl), ↓(X_iload (pc' := 53) dX7_leastBehind_51 rfl), ↓gI_4, ↓(X_iaload (pc' := 54) dX7_leastBehind_53 rfl), ↓(X_aload_n (k := 0) (pc' := 55) dX7_leastBehind_54 rfl rfl), ↓(X_getR (pc' := 58) fl_7_23 dX7_leastBehind_55 rfl), ↓(gV_c r0_89_3), kd_110, ln_110, ↓(X_iload (pc' := 60) dX7_leastBehind_58 rfl), ↓gI_5, ↓(X_aaload (pc' := 61) dX7_leastBehind_60 rfl), ↓(X_iload (pc' := 63) dX7_leastBehind_61 rfl), ↓(X_iaload (pc' := 64) dX7_leastBehind_63 rfl), ↓(X_iadd (pc' := 65) dX7_leastBehind_64 rfl), ↓(X_min (pc' := 68) jd_7_45 dX7_leastBehind_65 rfl), ↓(X_istore_n (k := 3) (pc' := 69) dX7_leastBehind_68 rfl rfl), ↓sto_3, ↓(X_iinc (pc' := 72) dX7_leastBehind_69 rfl), ↓sto_4, ↓(X_goto (pc' := 12) dX7_leastBehind_72 (by decide)), rn_0, gV_s, ↓pI_c, ↓pII_c, ↓pL_c, ↓pLL_c, ↓pR_c, ↓pRI_c, ↓pRII_c, ↓pRIL_c, ↓pRR_c, ↓pV_c, ↓pVV_c, ↓gI_c, ↓gL_c, ↓gR_c, f2_0, f2_1, nk_n, nk_i, nk_r, ↓reduceIte, r32, r64, Nat.reduceAdd, Nat.reduceSub, Nat.reduceEqDiff, Nat.reduceLT, Nat.reduceLeDiff, Nat.reduceBEq, Int.reduceAdd, Int.reduceSub, Int.reduceMul, Int.reduceNeg, Int.reduceToNat, Int.reduceLE, Int.reduceLT, Int.reduceEq, Int.reduceNatCast', Int.reduceNatCast, Int.natCast_zero, Int.toNat_natCast, Int.toNat_zero, Int.toNat_one, List.length_cons, List.length_nil, true_and, and_true, and_self, true_or, or_true, false_or, or_false, Bool.not_true, Bool.not_false, Nat.lt_add_one, Nat.zero_lt_succ, N0, swL_n, swL_c, List.toList_toArray, false_implies, true_implies, implies_true, forall_const, not_false_eq_true, not_true_eq_false, and_false, false_and, ↓(gV_c c3), ↓(gV_c l3), c1, c2, l1, l2, i1, i2, i3, i4, i5, i6, r4, r6, r7]
      simp only [hK9]
      clear hK9 K9v
      rw [show (j : Int) + 1 = ((j + 1 : Nat) : Int) by omega]
      rw [lbS, if_pos hb] at hΦ
      refine ih (j + 1) _ _ (nk_i.mpr trivial) (by omega) ?_ ?_ hΦ <;> split <;> omega
set_option maxRecDepth 100000 in
set_option maxHeartbeats 4000000 in
theorem ok_leastBehind {M : Nat → Nat → Int} (d n s f : Nat) (hn : M 89 4 = (n : Int)) (hn8 : n ≤ 8) (hs : s < 256) (hf : f ≤ 8) (hw : wOK M) : Ok l D cy (d + 1) 0 0 yX7_leastBehind cX7_leastBehind 6 (some (.int)) [.inr (.inr (some (89))), .inl ((s : Int)), .inl ((f : Int))] (N0, R0, M) (det (some (.inl (lbV M n s f))) (N0, R0, M)) := by
  refine Ok.intro (o := 7) (ini := false) [some (.inr (.inr (some (89)))), some (.inl ((s : Int))), some (.inl ((f : Int))), none, none, none] (by decide +kernel) rfl (fun h => by cases h) rfl (Nat.le_of_ble_eq_true rfl) rfl ?_
  rcases (show s = 0 ∨ ¬ s = 0 by omega) with q | q
  · subst q
    refine J_rnG GM_fa (by omega) (by omega) (by omega) 3 _ _ _ _ (fun K9v hK9 => ?_)
    simp (maxSteps := 4000000) only [↓(X_iload_n (k := 1) (pc' := 1) dX7_leastBehind_0 rfl rfl), ↓gI_1, ↓(X_if_ne (tgt := 6) (pc' := 4) dX7_leastBehind_1 (by decide) rfl), ↓(X_iconst (pc' := 5) dX7_leastBehind_4 rfl), rn_0, gV_s, ↓pI_c, ↓pII_c, ↓pL_c, ↓pLL_c, ↓pR_c, ↓pRI_c, ↓pRII_c, ↓pRIL_c, ↓pRR_c, ↓pV_c, ↓pVV_c, ↓gI_c, ↓gL_c, ↓gR_c, f2_0, f2_1, nk_n, nk_i, nk_r, ↓reduceIte, r32, r64, Nat.reduceAdd, Nat.reduceSub, Nat.reduceEqDiff, Nat.reduceLT, Nat.reduceLeDiff, Nat.reduceBEq, Int.reduceAdd, Int.reduceSub, Int.reduceMul, Int.reduceNeg, Int.reduceToNat, Int.reduceLE, Int.reduceLT, Int.reduceEq, Int.reduceNatCast', Int.reduceNatCast, Int.natCast_zero, Int.toNat_natCast, Int.toNat_zero, Int.toNat_one, List.length_cons, List.length_nil, true_and, and_true, and_self, true_or, or_true, false_or, or_false, Bool.not_true, Bool.not_false, Nat.lt_add_one, Nat.zero_lt_succ, N0, swL_n, swL_c, List.toList_toArray, false_implies, true_implies, implies_true, forall_const, not_false_eq_true, not_true_eq_false, and_false, false_and]
    simp only [hK9]
    clear hK9 K9v
    refine J_iret dX7_leastBehind_5 rfl (by omega) (by omega) (⟨rfl, rfl⟩)
  · have h1 : ¬ (s : Int) = 0 := by omega
    have r1 : -2147483648 ≤ (s : Int) ∧ (s : Int) ≤ 2147483647 := by omega
    refine J_rnG GM_fa (by omega) (by omega) (by omega) 2 _ _ _ _ (fun K9v hK9 => ?_)
    simp (maxSteps := 4000000) only [↓(X_iload_n (k := 1) (pc' := 1) dX7_leastBehind_0 rfl rfl), ↓gI_1, ↓(X_if_ne (tgt := 6) (pc' := 4) dX7_leastBehind_1 (by decide) rfl), rn_0, gV_s, ↓pI_c, ↓pII_c, ↓pL_c, ↓pLL_c, ↓pR_c, ↓pRI_c, ↓pRII_c, ↓pRIL_c, ↓pRR_c, ↓pV_c, ↓pVV_c, ↓gI_c, ↓gL_c, ↓gR_c, f2_0, f2_1, nk_n, nk_i, nk_r, ↓reduceIte, r32, r64, Nat.reduceAdd, Nat.reduceSub, Nat.reduceEqDiff, Nat.reduceLT, Nat.reduceLeDiff, Nat.reduceBEq, Int.reduceAdd, Int.reduceSub, Int.reduceMul, Int.reduceNeg, Int.reduceToNat, Int.reduceLE, Int.reduceLT, Int.reduceEq, Int.reduceNatCast', Int.reduceNatCast, Int.natCast_zero, Int.toNat_natCast, Int.toNat_zero, Int.toNat_one, List.length_cons, List.length_nil, true_and, and_true, and_self, true_or, or_true, false_or, or_false, Bool.not_true, Bool.not_false, Nat.lt_add_one, Nat.zero_lt_succ, N0, swL_n, swL_c, List.toList_toArray, false_implies, true_implies, implies_true, forall_const, not_false_eq_true, not_true_eq_false, and_false, false_and, h1, r1]
    simp only [hK9]
    clear hK9 K9v
    refine J_rnG GM_fa (by omega) (by omega) (by omega) 4 _ _ _ _ (fun K9v hK9 => ?_)
    simp (maxSteps := 4000000) only [↓(X_ldc (pc' := 8) cst_7_44 dX7_leastBehind_6 rfl), ↓(X_istore_n (k := 3) (pc' := 9) dX7_leastBehind_8 rfl rfl), ↓sto_3, ↓(X_iconst (pc' := 10) dX7_leastBehind_9 rfl), ↓(X_istore (pc' := 12) dX7_leastBehind_10 rfl), ↓sto_4, rn_0, gV_s, ↓pI_c, ↓pII_c, ↓pL_c, ↓pLL_c, ↓pR_c, ↓pRI_c, ↓pRII_c, ↓pRIL_c, ↓pRR_c, ↓pV_c, ↓pVV_c, ↓gI_c, ↓gL_c, ↓gR_c, f2_0, f2_1, nk_n, nk_i, nk_r, ↓reduceIte, r32, r64, Nat.reduceAdd, Nat.reduceSub, Nat.reduceEqDiff, Nat.reduceLT, Nat.reduceLeDiff, Nat.reduceBEq, Int.reduceAdd, Int.reduceSub, Int.reduceMul, Int.reduceNeg, Int.reduceToNat, Int.reduceLE, Int.reduceLT, Int.reduceEq, Int.reduceNatCast', Int.reduceNatCast, Int.natCast_zero, Int.toNat_natCast, Int.toNat_zero, Int.toNat_one, List.length_cons, List.length_nil, true_and, and_true, and_self, true_or, or_true, false_or, or_false, Bool.not_true, Bool.not_false, Nat.lt_add_one, Nat.zero_lt_succ, N0, swL_n, swL_c, List.toList_toArray, false_implies, true_implies, implies_true, forall_const, not_false_eq_true, not_true_eq_false, and_false, false_and]
    simp only [hK9]
    clear hK9 K9v
    exact jj_lb d n s f hn hn8 hs hf hw n 0 1000000 none (nk_n.mpr trivial) (by omega) (by omega) (by omega) ⟨by rw [lbV, if_neg q], rfl⟩
/-- while the leasts are filled: all sets below s are told, and of s the rows below f -/
def tbM (M M' : Nat → Nat → Int) (s f : Nat) : Prop := (∀ x, x < 111 ∨ 367 ≤ x → M' x = M x) ∧ wOK M' ∧ (∀ s', s' < s → ∀ r, r ≤ 8 → M' (111 + s') r = TT (fun r k => M (101 + r) k) s' r) ∧ (∀ r, r < f → M' (111 + s) r = TT (fun r k => M (101 + r) k) s r)
theorem lbV_TT {M M' : Nat → Nat → Int} {n s f f' : Nat} (hn8 : n ≤ 8) (hs : s < 2 ^ n) (hf : f ≤ 8) (h : tbM M M' s f') : lbV M' n s f = TT (fun r k => M (101 + r) k) s f := by
  have hs2 : s < 256 := Nat.lt_of_lt_of_le hs (Nat.pow_le_pow_right (by omega) hn8)
  rcases (show s = 0 ∨ ¬ s = 0 by omega) with q | q
  · subst q
    rw [TT_0]
    rfl
  · rw [lbV, if_neg q, TT_eq hs2 q, lb_n hs hn8]
    refine loopN_congr (T := 8) (fun k hk acc => lbS_congr (fun z => ?_) acc) 8 0 _ (by omega)
    obtain ⟨z1, z2, z3⟩ := pop_step s hs2 k hk z
    rw [h.1 (101 + f) (by omega), h.2.2.1 (s - 2 ^ k) z3 k (by omega)]
theorem lbV_bd {M : Nat → Nat → Int} {n s f : Nat} (hn8 : n ≤ 8) (hs : s < 256) (hf : f ≤ 8) (hw : wOK M) : 0 ≤ lbV M n s f ∧ lbV M n s f ≤ 1000000 := by
  rw [lbV]
  split
  · omega
  · refine lb_bd (fun k hk q => ?_) n 0 _ (by omega) (by omega) (by omega)
    obtain ⟨-, q2, -⟩ := pop_step s hs k hk q
    have := hw.1 f hf k hk
    have := hw.2 (s - 2 ^ k) q2 k (by omega)
    omega
set_option maxRecDepth 100000 in
set_option maxHeartbeats 4000000 in
theorem jj_ls2 {M : Nat → Nat → Int} {Φ : Out → Mem → Prop} (d n N s : Nat) (hn : M 89 4 = (n : Int)) (hn8 : n ≤ 8) (hN : 2 ^ n = N) (hN2 : N ≤ 256) (hs : s < N) : ∀ (k f : Nat) (M' : Nat → Nat → Int), f + k = 9 → tbM M M' s f → (∀ M', tbM M M' (s + 1) 0 → J l D cy (GM l D cy 7 cX7_leastBySets 4 (d + 2) 0 0 false (some .int) Φ) 49 [some (.inr (.inr (some 89))), some (.inl (N : Int)), some (.inl (s : Int)), some (.inl 9)] [] (449, R0, M') 0 0) →
    J l D cy (GM l D cy 7 cX7_leastBySets 4 (d + 2) 0 0 false (some .int) Φ) 23 [some (.inr (.inr (some 89))), some (.inl (N : Int)), some (.inl (s : Int)), some (.inl (f : Int))] [] (449, R0, M') 0 0 := by
  intro k
  induction k with
  | zero =>
    intro f M' hf hM hfin
    have e : f = 9 := by omega
    subst e
    refine J_rnG GM_fa (by omega) (by omega) (by omega) 3 _ _ _ _ (fun K9v hK9 => ?_)
    simp (maxSteps := 4000000) only [↓(X_iload_n (k := 3) (pc' := 24) dX7_leastBySets_23 rfl rfl), ↓gI_3, ↓(X_bipush (pc' := 26) dX7_leastBySets_24 rfl), ↓(X_icmp_gt (tgt := 49) (pc' := 29) dX7_leastBySets_26 (by decide) rfl), rn_0, gV_s, ↓pI_c, ↓pII_c, ↓pL_c, ↓pLL_c, ↓pR_c, ↓pRI_c, ↓pRII_c, ↓pRIL_c, ↓pRR_c, ↓pV_c, ↓pVV_c, ↓gI_c, ↓gL_c, ↓gR_c, f2_0, f2_1, nk_n, nk_i, nk_r, ↓reduceIte, r32, r64, Nat.reduceAdd, Nat.reduceSub, Nat.reduceEqDiff, Nat.reduceLT, Nat.reduceLeDiff, Nat.reduceBEq, Int.reduceAdd, Int.reduceSub, Int.reduceMul, Int.reduceNeg, Int.reduceToNat, Int.reduceLE, Int.reduceLT, Int.reduceEq, Int.reduceNatCast', Int.reduceNatCast, Int.natCast_zero, Int.toNat_natCast, Int.toNat_zero, Int.toNat_one, List.length_cons, List.length_nil, true_and, and_true, and_self, true_or, or_true, false_or, or_false, Bool.not_true, Bool.not_false, Nat.lt_add_one, Nat.zero_lt_succ, N0, swL_n, swL_c, List.toList_toArray, false_implies, true_implies, implies_true, forall_const, not_false_eq_true, not_true_eq_false, and_false, false_and]
    simp only [hK9]
    clear hK9 K9v
    obtain ⟨m1, m2, m3, m4⟩ := hM
    refine hfin M' ⟨m1, m2, fun s' hs' r hr => ?_, fun r hr => by omega⟩
    rcases (show s' < s ∨ s' = s by omega) with q | q
    · exact m3 s' q r hr
    · subst q
      exact m4 r (by omega)
  | succ k ih =>
    intro f M' hf hM hfin
    obtain ⟨m1, m2, m3, m4⟩ := id hM
    have h1 : ¬ (8 : Int) < (f : Int) := by omega
    have r1 : -2147483648 ≤ (f : Int) ∧ (f : Int) ≤ 2147483647 := by omega
    obtain ⟨l1, l2, l3⟩ := wleast_at s (by omega)
    have i1 : (0 : Int) ≤ (s : Int) ∧ (s : Int) < 256 := by omega
    have i2 : (0 : Int) ≤ (f : Int) ∧ (f : Int) < 9 := by omega
    have i3 : 111 + s < 449 := by omega
    refine J_rnG GM_fa (by omega) (by omega) (by omega) 11 _ _ _ _ (fun K9v hK9 => ?_)
    simp (maxSteps := 4000000) only [↓(X_iload_n (k := 3) (pc' := 24) dX7_leastBySets_23 rfl rfl), ↓gI_3, ↓(X_bipush (pc' := 26) dX7_leastBySets_24 rfl), ↓(X_icmp_gt (tgt := 49) (pc' := 29) dX7_leastBySets_26 (by decide) rfl), ↓(X_aload_n (k := 0) (pc' := 30) dX7_leastBySets_29 rfl rfl), ↓gR_0, ↓(X_getR (pc' := 33) fl_7_23 dX7_leastBySets_30 rfl), kd_89, ↓(gV_c r0_89_3), kd_110, ln_110, ↓(X_iload_n (k := 2) (pc' := 34) dX7_leastBySets_33 rfl rfl), ↓gI_2, ↓(X_aaload (pc' := 35) dX7_leastBySets_34 rfl), ↓(X_iload_n (k := 3) (pc' := 36) dX7_leastBySets_35 rfl rfl), ↓(X_aload_n (k := 0) (pc' := 37) dX7_leastBySets_36 rfl rfl), ↓(X_iload_n (k := 2) (pc' := 38) dX7_leastBySets_37 rfl rfl), ↓(X_iload_n (k := 3) (pc' := 39) dX7_leastBySets_38 rfl rfl), rn_0, gV_s, ↓pI_c, ↓pII_c, ↓pL_c, ↓pLL_c, ↓pR_c, ↓pRI_c, ↓pRII_c, ↓pRIL_c, ↓pRR_c, ↓pV_c, ↓pVV_c, ↓gI_c, ↓gL_c, ↓gR_c, f2_0, f2_1, nk_n, nk_i, nk_r, ↓reduceIte, r32, r64, Nat.reduceAdd, Nat.reduceSub, Nat.reduceEqDiff, Nat.reduceLT, Nat.reduceLeDiff, Nat.reduceBEq, Int.reduceAdd, Int.reduceSub, Int.reduceMul, Int.reduceNeg, Int.reduceToNat, Int.reduceLE, Int.reduceLT, Int.reduceEq, Int.reduceNatCast', Int.reduceNatCast, Int.natCast_zero, Int.toNat_natCast, Int.toNat_zero, Int.toNat_one, List.length_cons, List.length_nil, true_and, and_true, and_self, true_or, or_true, false_or, or_false, Bool.not_true, Bool.not_false, Nat.lt_add_one, Nat.zero_lt_succ, N0, swL_n, swL_c, List.toList_toArray, false_implies, true_implies, implies_true, forall_const, not_false_eq_true, not_true_eq_false, and_false, false_and, h1, r1, ↓(gV_c l3), i1, i3]
    simp only [hK9]
    clear hK9 K9v
    refine J_callVd (ci := 7) GM_fa (ok_leastBehind (M := M') (d + 0) n s f (by rw [m1 89 (by omega)]; exact hn) hn8 (by omega) (by omega) m2) dX7_leastBySets_39 k_7_40 (by omega) (Nat.le_of_ble_eq_true rfl) ⟨by omega, by omega⟩ rfl (by decide +kernel) rfl (by decide) (by simp only [N0]; omega) (by simp) rfl rfl ?_
    simp only [Option.toList, List.cons_append, List.nil_append]
    have hv := lbV_TT (f := f) hn8 (by omega) (by omega) hM
    have hb := lbV_bd (n := n) (s := s) (f := f) hn8 (by omega) (by omega) m2
    refine J_rnG GM_fa (by omega) (by omega) (by omega) 3 _ _ _ _ (fun K9v hK9 => ?_)
    simp (maxSteps := 4000000) only [↓(X_iastore (pc' := 43) dX7_leastBySets_42 rfl), ↓(X_iinc (pc' := 46) dX7_leastBySets_43 rfl), ↓gI_3, ↓sto_3, ↓(X_goto (pc' := 23) dX7_leastBySets_46 (by decide)), rn_0, gV_s, ↓pI_c, ↓pII_c, ↓pL_c, ↓pLL_c, ↓pR_c, ↓pRI_c, ↓pRII_c, ↓pRIL_c, ↓pRR_c, ↓pV_c, ↓pVV_c, ↓gI_c, ↓gL_c, ↓gR_c, f2_0, f2_1, nk_n, nk_i, nk_r, ↓reduceIte, r32, r64, Nat.reduceAdd, Nat.reduceSub, Nat.reduceEqDiff, Nat.reduceLT, Nat.reduceLeDiff, Nat.reduceBEq, Int.reduceAdd, Int.reduceSub, Int.reduceMul, Int.reduceNeg, Int.reduceToNat, Int.reduceLE, Int.reduceLT, Int.reduceEq, Int.reduceNatCast', Int.reduceNatCast, Int.natCast_zero, Int.toNat_natCast, Int.toNat_zero, Int.toNat_one, List.length_cons, List.length_nil, true_and, and_true, and_self, true_or, or_true, false_or, or_false, Bool.not_true, Bool.not_false, Nat.lt_add_one, Nat.zero_lt_succ, N0, swL_n, swL_c, List.toList_toArray, false_implies, true_implies, implies_true, forall_const, not_false_eq_true, not_true_eq_false, and_false, false_and, l1, l2, i1, i2, i3]
    simp only [hK9]
    clear hK9 K9v
    rw [show (f : Int) + 1 = ((f + 1 : Nat) : Int) by omega]
    refine ih (f + 1) _ (by omega) ⟨fun x hx => ?_, ⟨fun r hr k hk => ?_, fun s' hs' r hr => ?_⟩, fun s' hs' r hr => ?_, fun r hr => ?_⟩ hfin
    · funext j
      rw [up2_c (by omega), m1 x hx]
    · rw [up2_c (by omega)]
      exact m2.1 r hr k hk
    · simp only [up2]
      split
      · exact hb
      · exact m2.2 s' hs' r hr
    · rw [up2_c (by omega)]
      exact m3 s' hs' r hr
    · rcases (show r = f ∨ r < f by omega) with q | q
      · subst q
        rw [up2_s, hv]
      · rw [show up2 M' (111 + s) f (lbV M' n s f) (111 + s) r = M' (111 + s) r from up2_k (by omega)]
        exact m4 r q
set_option maxRecDepth 100000 in
set_option maxHeartbeats 4000000 in
theorem jj_ls1 {M : Nat → Nat → Int} {Φ : Out → Mem → Prop} (d n N : Nat) (hn : M 89 4 = (n : Int)) (hn8 : n ≤ 8) (hN : 2 ^ n = N) (hN2 : N ≤ 256) : ∀ (k s : Nat) (M' : Nat → Nat → Int) (w3 : Option AV), nk w3 → s + k = N → tbM M M' s 0 → (∀ (M' : Nat → Nat → Int) (w3 : Option AV), tbM M M' N 0 → J l D cy (GM l D cy 7 cX7_leastBySets 4 (d + 2) 0 0 false (some .int) Φ) 55 [some (.inr (.inr (some 89))), some (.inl (N : Int)), some (.inl (N : Int)), w3] [] (449, R0, M') 0 0) →
    J l D cy (GM l D cy 7 cX7_leastBySets 4 (d + 2) 0 0 false (some .int) Φ) 9 [some (.inr (.inr (some 89))), some (.inl (N : Int)), some (.inl (s : Int)), w3] [] (449, R0, M') 0 0 := by
  intro k
  induction k with
  | zero =>
    intro s M' w3 hw3 hs hM hfin
    have e : s = N := by omega
    subst e
    have h1 : ¬ (s : Int) < (s : Int) := by omega
    have r1 : -2147483648 ≤ (s : Int) ∧ (s : Int) ≤ 2147483647 := by omega
    refine J_rnG GM_fa (by omega) (by omega) (by omega) 3 _ _ _ _ (fun K9v hK9 => ?_)
    simp (maxSteps := 4000000) only [↓(X_iload_n (k := 2) (pc' := 10) dX7_leastBySets_9 rfl rfl), ↓gI_2, ↓(X_iload_n (k := 1) (pc' := 11) dX7_leastBySets_10 rfl rfl), ↓gI_1, ↓(X_icmp_ge (tgt := 55) (pc' := 14) dX7_leastBySets_11 (by decide) rfl), rn_0, gV_s, ↓pI_c, ↓pII_c, ↓pL_c, ↓pLL_c, ↓pR_c, ↓pRI_c, ↓pRII_c, ↓pRIL_c, ↓pRR_c, ↓pV_c, ↓pVV_c, ↓gI_c, ↓gL_c, ↓gR_c, f2_0, f2_1, nk_n, nk_i, nk_r, ↓reduceIte, r32, r64, Nat.reduceAdd, Nat.reduceSub, Nat.reduceEqDiff, Nat.reduceLT, Nat.reduceLeDiff, Nat.reduceBEq, Int.reduceAdd, Int.reduceSub, Int.reduceMul, Int.reduceNeg, Int.reduceToNat, Int.reduceLE, Int.reduceLT, Int.reduceEq, Int.reduceNatCast', Int.reduceNatCast, Int.natCast_zero, Int.toNat_natCast, Int.toNat_zero, Int.toNat_one, List.length_cons, List.length_nil, true_and, and_true, and_self, true_or, or_true, false_or, or_false, Bool.not_true, Bool.not_false, Nat.lt_add_one, Nat.zero_lt_succ, N0, swL_n, swL_c, List.toList_toArray, false_implies, true_implies, implies_true, forall_const, not_false_eq_true, not_true_eq_false, and_false, false_and, h1, r1]
    simp only [hK9]
    clear hK9 K9v
    exact hfin M' _ hM
  | succ k ih =>
    intro s M' w3 hw3 hs hM hfin
    have h1 : (s : Int) < (N : Int) := by omega
    have h2 : (s : Int) < 256 := by omega
    have r1 : -2147483648 ≤ (s : Int) ∧ (s : Int) ≤ 2147483647 := by omega
    have r2 : -2147483648 ≤ (N : Int) ∧ (N : Int) ≤ 2147483647 := by omega
    refine J_rnG GM_fa (by omega) (by omega) (by omega) 8 _ _ _ _ (fun K9v hK9 => ?_)
    simp (maxSteps := 4000000) only [↓(X_iload_n (k := 2) (pc' := 10) dX7_leastBySets_9 rfl rfl), ↓gI_2, ↓(X_iload_n (k := 1) (pc' := 11) dX7_leastBySets_10 rfl rfl), ↓gI_1, ↓(X_icmp_ge (tgt := 55) (pc' := 14) dX7_leastBySets_11 (by decide) rfl), ↓(X_iload_n (k := 2) (pc' := 15) dX7_leastBySets_14 rfl rfl), ↓(X_sipush (pc' := 18) dX7_leastBySets_15 rfl), ↓(X_icmp_ge (tgt := 55) (pc' := 21) dX7_leastBySets_18 (by decide) rfl), ↓(X_iconst (pc' := 22) dX7_leastBySets_21 rfl), ↓(X_istore_n (k := 3) (pc' := 23) dX7_leastBySets_22 rfl rfl), ↓sto_3, rn_0, gV_s, ↓pI_c, ↓pII_c, ↓pL_c, ↓pLL_c, ↓pR_c, ↓pRI_c, ↓pRII_c, ↓pRIL_c, ↓pRR_c, ↓pV_c, ↓pVV_c, ↓gI_c, ↓gL_c, ↓gR_c, f2_0, f2_1, nk_n, nk_i, nk_r, ↓reduceIte, r32, r64, Nat.reduceAdd, Nat.reduceSub, Nat.reduceEqDiff, Nat.reduceLT, Nat.reduceLeDiff, Nat.reduceBEq, Int.reduceAdd, Int.reduceSub, Int.reduceMul, Int.reduceNeg, Int.reduceToNat, Int.reduceLE, Int.reduceLT, Int.reduceEq, Int.reduceNatCast', Int.reduceNatCast, Int.natCast_zero, Int.toNat_natCast, Int.toNat_zero, Int.toNat_one, List.length_cons, List.length_nil, true_and, and_true, and_self, true_or, or_true, false_or, or_false, Bool.not_true, Bool.not_false, Nat.lt_add_one, Nat.zero_lt_succ, N0, swL_n, swL_c, List.toList_toArray, false_implies, true_implies, implies_true, forall_const, not_false_eq_true, not_true_eq_false, and_false, false_and, h1, h2, r1, r2, hw3]
    simp only [hK9]
    clear hK9 K9v
    refine jj_ls2 d n N s hn hn8 hN hN2 (by omega) 9 0 M' (by omega) hM (fun M2 hM2 => ?_)
    refine J_rnG GM_fa (by omega) (by omega) (by omega) 2 _ _ _ _ (fun K9v hK9 => ?_)
    simp (maxSteps := 4000000) only [↓(X_iinc (pc' := 52) dX7_leastBySets_49 rfl), ↓gI_2, ↓sto_2, ↓(X_goto (pc' := 9) dX7_leastBySets_52 (by decide)), rn_0, gV_s, ↓pI_c, ↓pII_c, ↓pL_c, ↓pLL_c, ↓pR_c, ↓pRI_c, ↓pRII_c, ↓pRIL_c, ↓pRR_c, ↓pV_c, ↓pVV_c, ↓gI_c, ↓gL_c, ↓gR_c, f2_0, f2_1, nk_n, nk_i, nk_r, ↓reduceIte, r32, r64, Nat.reduceAdd, Nat.reduceSub, Nat.reduceEqDiff, Nat.reduceLT, Nat.reduceLeDiff, Nat.reduceBEq, Int.reduceAdd, Int.reduceSub, Int.reduceMul, Int.reduceNeg, Int.reduceToNat, Int.reduceLE, Int.reduceLT, Int.reduceEq, Int.reduceNatCast', Int.reduceNatCast, Int.natCast_zero, Int.toNat_natCast, Int.toNat_zero, Int.toNat_one, List.length_cons, List.length_nil, true_and, and_true, and_self, true_or, or_true, false_or, or_false, Bool.not_true, Bool.not_false, Nat.lt_add_one, Nat.zero_lt_succ, N0, swL_n, swL_c, List.toList_toArray, false_implies, true_implies, implies_true, forall_const, not_false_eq_true, not_true_eq_false, and_false, false_and]
    simp only [hK9]
    clear hK9 K9v
    rw [show (s : Int) + 1 = ((s + 1 : Nat) : Int) by omega]
    exact ih (s + 1) M2 _ (nk_i.mpr trivial) (by omega) hM2 hfin
set_option maxRecDepth 100000 in
set_option maxHeartbeats 4000000 in
theorem ok_leastBySets {M : Nat → Nat → Int} (d n : Nat) (hn : M 89 4 = (n : Int)) (hn8 : n ≤ 8) (hw : wOK M) : Ok l D cy (d + 2) 0 0 yX7_leastBySets cX7_leastBySets 4 (some (.int)) [.inr (.inr (some (89)))] (N0, R0, M) (fun o ν => o = .inl (some (.inl (TT (fun r k => M (101 + r) k) (2 ^ n - 1) 8))) ∧ ∃ M2 : Nat → Nat → Int, ν = (N0, R0, M2) ∧ tbM M M2 (2 ^ n) 0) := by
  refine Ok.intro (o := 7) (ini := false) [some (.inr (.inr (some (89)))), none, none, none] (by decide +kernel) rfl (fun h => by cases h) rfl (Nat.le_of_ble_eq_true rfl) rfl ?_
  obtain ⟨b1, b2, b3, b4, b5, b6⟩ := bt_all n hn8
  have r3 : (1 * 2 ^ n : Int) ≤ 2147483647 := by omega
  have r4 : 0 ≤ (n : Int) ∧ (n : Int) < 31 := by omega
  refine J_rnG GM_fa (by omega) (by omega) (by omega) 7 _ _ _ _ (fun K9v hK9 => ?_)
  simp (maxSteps := 4000000) only [↓(X_iconst (pc' := 1) dX7_leastBySets_0 rfl), ↓(X_aload_n (k := 0) (pc' := 2) dX7_leastBySets_1 rfl rfl), ↓gR_0, ↓(X_getI (pc' := 5) fl_7_26 (by decide) dX7_leastBySets_2 rfl), kd_89, ↓(X_ishl (pc' := 6) dX7_leastBySets_5 rfl), ↓(X_istore_n (k := 1) (pc' := 7) dX7_leastBySets_6 rfl rfl), ↓sto_1, ↓(X_iconst (pc' := 8) dX7_leastBySets_7 rfl), ↓(X_istore_n (k := 2) (pc' := 9) dX7_leastBySets_8 rfl rfl), ↓sto_2, rn_0, gV_s, ↓pI_c, ↓pII_c, ↓pL_c, ↓pLL_c, ↓pR_c, ↓pRI_c, ↓pRII_c, ↓pRIL_c, ↓pRR_c, ↓pV_c, ↓pVV_c, ↓gI_c, ↓gL_c, ↓gR_c, f2_0, f2_1, nk_n, nk_i, nk_r, ↓reduceIte, r32, r64, Nat.reduceAdd, Nat.reduceSub, Nat.reduceEqDiff, Nat.reduceLT, Nat.reduceLeDiff, Nat.reduceBEq, Int.reduceAdd, Int.reduceSub, Int.reduceMul, Int.reduceNeg, Int.reduceToNat, Int.reduceLE, Int.reduceLT, Int.reduceEq, Int.reduceNatCast', Int.reduceNatCast, Int.natCast_zero, Int.toNat_natCast, Int.toNat_zero, Int.toNat_one, List.length_cons, List.length_nil, true_and, and_true, and_self, true_or, or_true, false_or, or_false, Bool.not_true, Bool.not_false, Nat.lt_add_one, Nat.zero_lt_succ, N0, swL_n, swL_c, List.toList_toArray, false_implies, true_implies, implies_true, forall_const, not_false_eq_true, not_true_eq_false, and_false, false_and, hn, r3, r4]
  simp only [hK9]
  clear hK9 K9v
  rw [b6]
  have h1p : 1 ≤ 2 ^ n := Nat.one_le_two_pow
  refine jj_ls1 d n (2 ^ n) hn hn8 rfl (by omega) (2 ^ n) 0 M none (nk_n.mpr trivial) (by omega) ⟨fun _ _ => rfl, hw, fun _ h => by omega, fun _ h => by omega⟩ (fun M2 w3 hM2 => ?_)
  obtain ⟨l1, l2, l3⟩ := wleast_at (2 ^ n - 1) b2
  have i3 : 111 + (2 ^ n - 1) < 449 := by omega
  have i1 : (0 : Int) ≤ ((2 ^ n - 1 : Nat) : Int) ∧ ((2 ^ n - 1 : Nat) : Int) < 256 := by omega
  have e1 : bAnd (((2 ^ n : Nat) : Int) - 1) 255 = ((2 ^ n - 1 : Nat) : Int) := by rw [← b6]; exact b1
  refine J_rnG GM_fa (by omega) (by omega) (by omega) 10 _ _ _ _ (fun K9v hK9 => ?_)
  simp (maxSteps := 4000000) only [↓(X_aload_n (k := 0) (pc' := 56) dX7_leastBySets_55 rfl rfl), ↓gR_0, ↓(X_getR (pc' := 59) fl_7_23 dX7_leastBySets_56 rfl), kd_89, ↓(gV_c r0_89_3), kd_110, ln_110, ↓(X_iload_n (k := 1) (pc' := 60) dX7_leastBySets_59 rfl rfl), ↓gI_1, ↓(X_iconst (pc' := 61) dX7_leastBySets_60 rfl), ↓(X_isub (pc' := 62) dX7_leastBySets_61 rfl), ↓(X_sipush (pc' := 65) dX7_leastBySets_62 rfl), ↓(X_iand (pc' := 66) dX7_leastBySets_65 rfl), ↓(X_aaload (pc' := 67) dX7_leastBySets_66 rfl), ↓(X_bipush (pc' := 69) dX7_leastBySets_67 rfl), ↓(X_iaload (pc' := 70) dX7_leastBySets_69 rfl), rn_0, gV_s, ↓pI_c, ↓pII_c, ↓pL_c, ↓pLL_c, ↓pR_c, ↓pRI_c, ↓pRII_c, ↓pRIL_c, ↓pRR_c, ↓pV_c, ↓pVV_c, ↓gI_c, ↓gL_c, ↓gR_c, f2_0, f2_1, nk_n, nk_i, nk_r, ↓reduceIte, r32, r64, Nat.reduceAdd, Nat.reduceSub, Nat.reduceEqDiff, Nat.reduceLT, Nat.reduceLeDiff, Nat.reduceBEq, Int.reduceAdd, Int.reduceSub, Int.reduceMul, Int.reduceNeg, Int.reduceToNat, Int.reduceLE, Int.reduceLT, Int.reduceEq, Int.reduceNatCast', Int.reduceNatCast, Int.natCast_zero, Int.toNat_natCast, Int.toNat_zero, Int.toNat_one, List.length_cons, List.length_nil, true_and, and_true, and_self, true_or, or_true, false_or, or_false, Bool.not_true, Bool.not_false, Nat.lt_add_one, Nat.zero_lt_succ, N0, swL_n, swL_c, List.toList_toArray, false_implies, true_implies, implies_true, forall_const, not_false_eq_true, not_true_eq_false, and_false, false_and, e1, i1, i3, ↓(gV_c l3), l1, l2]
  simp only [hK9]
  clear hK9 K9v
  have ev := hM2.2.2.1 (2 ^ n - 1) (by omega) 8 (by omega)
  have hr := hM2.2.1.2 (2 ^ n - 1) b2 8 (by omega)
  refine J_iret dX7_leastBySets_70 rfl (by omega) (by omega) (⟨by rw [ev], M2, rfl, hM2⟩)
/-- the first run whose cost is the least -/
def firstF (F : Nat → Int) (cost : Int) (runs : Nat → Int) : Nat → Nat → Int
  | 0, _ => -1
  | k + 1, j => if F j = cost then runs j else firstF F cost runs k (j + 1)
set_option maxRecDepth 100000 in
set_option maxHeartbeats 4000000 in
theorem jj_fb {M : Nat → Nat → Int} {Φ : Out → Mem → Prop} (d n : Nat) (cost : Int) (hn : M 89 4 = (n : Int)) (hn8 : n ≤ 8) (hw : wOK M) (hc : 0 ≤ cost ∧ cost ≤ 1000000) (hru : ∀ k, k < n → r32 (M 90 k)) : ∀ (k j : Nat) (w4 : Option AV), nk w4 → j + k = n → Φ (.inl (some (.inl (firstF (fun k => M 109 k + M (111 + (2 ^ n - 1 - 2 ^ k)) k) cost (M 90) k j)))) (N0, R0, M) →
    J l D cy (GM l D cy 7 cX7_firstOfBest 5 (d + 3) 0 0 false (some .int) Φ) 16 [some (.inr (.inr (some 89))), some (.inl cost), some (.inl (1 * 2 ^ n - 1)), some (.inl (j : Int)), w4] [] (449, R0, M) 0 0 := by
  obtain ⟨b1, b2, b3, b4, b5, b6⟩ := bt_all n hn8
  intro k
  induction k with
  | zero =>
    intro j w4 hw4 hj hΦ
    have h1 : ¬ (j : Int) < (n : Int) := by omega
    have r1 : -2147483648 ≤ (j : Int) ∧ (j : Int) ≤ 2147483647 := by omega
    have r2 : -2147483648 ≤ (n : Int) ∧ (n : Int) ≤ 2147483647 := by omega
    refine J_rnG GM_fa (by omega) (by omega) (by omega) 4 _ _ _ _ (fun K9v hK9 => ?_)
    simp (maxSteps := 4000000) only [↓(X_iload_n (k := 3) (pc' := 17) dX7_firstOfBest_16 rfl rfl), ↓gI_3, ↓(X_aload_n (k := 0) (pc' := 18) dX7_firstOfBest_17 rfl rfl), ↓gR_0, ↓(X_getI (pc' := 21) fl_7_26 (by decide) dX7_firstOfBest_18 rfl), kd_89, ↓(X_icmp_ge (tgt := 73) (pc' := 24) dX7_firstOfBest_21 (by decide) rfl), rn_0, gV_s, ↓pI_c, ↓pII_c, ↓pL_c, ↓pLL_c, ↓pR_c, ↓pRI_c, ↓pRII_c, ↓pRIL_c, ↓pRR_c, ↓pV_c, ↓pVV_c, ↓gI_c, ↓gL_c, ↓gR_c, f2_0, f2_1, nk_n, nk_i, nk_r, ↓reduceIte, r32, r64, Nat.reduceAdd, Nat.reduceSub, Nat.reduceEqDiff, Nat.reduceLT, Nat.reduceLeDiff, Nat.reduceBEq, Int.reduceAdd, Int.reduceSub, Int.reduceMul, Int.reduceNeg, Int.reduceToNat, Int.reduceLE, Int.reduceLT, Int.reduceEq, Int.reduceNatCast', Int.reduceNatCast, Int.natCast_zero, Int.toNat_natCast, Int.toNat_zero, Int.toNat_one, List.length_cons, List.length_nil, true_and, and_true, and_self, true_or, or_true, false_or, or_false, Bool.not_true, Bool.not_false, Nat.lt_add_one, Nat.zero_lt_succ, N0, swL_n, swL_c, List.toList_toArray, false_implies, true_implies, implies_true, forall_const, not_false_eq_true, not_true_eq_false, and_false, false_and, hn, h1, r1, r2]
    simp only [hK9]
    clear hK9 K9v
    refine J_rnG GM_fa (by omega) (by omega) (by omega) 1 _ _ _ _ (fun K9v hK9 => ?_)
    simp (maxSteps := 4000000) only [↓(X_iconst (pc' := 74) dX7_firstOfBest_73 rfl), rn_0, gV_s, ↓pI_c, ↓pII_c, ↓pL_c, ↓pLL_c, ↓pR_c, ↓pRI_c, ↓pRII_c, ↓pRIL_c, ↓pRR_c, ↓pV_c, ↓pVV_c, ↓gI_c, ↓gL_c, ↓gR_c, f2_0, f2_1, nk_n, nk_i, nk_r, ↓reduceIte, r32, r64, Nat.reduceAdd, Nat.reduceSub, Nat.reduceEqDiff, Nat.reduceLT, Nat.reduceLeDiff, Nat.reduceBEq, Int.reduceAdd, Int.reduceSub, Int.reduceMul, Int.reduceNeg, Int.reduceToNat, Int.reduceLE, Int.reduceLT, Int.reduceEq, Int.reduceNatCast', Int.reduceNatCast, Int.natCast_zero, Int.toNat_natCast, Int.toNat_zero, Int.toNat_one, List.length_cons, List.length_nil, true_and, and_true, and_self, true_or, or_true, false_or, or_false, Bool.not_true, Bool.not_false, Nat.lt_add_one, Nat.zero_lt_succ, N0, swL_n, swL_c, List.toList_toArray, false_implies, true_implies, implies_true, forall_const, not_false_eq_true, not_true_eq_false, and_false, false_and]
    simp only [hK9]
    clear hK9 K9v
    refine J_iret dX7_firstOfBest_74 rfl (by omega) (by omega) (hΦ)
  | succ k ih =>
    intro j w4 hw4 hj hΦ
    have h1 : (j : Int) < (n : Int) := by omega
    have r1 : -2147483648 ≤ (j : Int) ∧ (j : Int) ≤ 2147483647 := by omega
    have r2 : -2147483648 ≤ (n : Int) ∧ (n : Int) ≤ 2147483647 := by omega
    have r3 := p2_bd j (by omega)
    have r4 : 0 ≤ (j : Int) ∧ (j : Int) < 31 := by omega
    have hb := bt_has n hn8 j (by omega)
    have e2 := (bt_rm (2 ^ n - 1) b2 j (by omega) hb).1
    rw [← b5] at e2
    obtain ⟨-, e3, -⟩ := pop_step (2 ^ n - 1) b2 j (by omega) hb
    obtain ⟨l1, l2, l3⟩ := wleast_at (2 ^ n - 1 - 2 ^ j) e3
    obtain ⟨c1, c2, c3⟩ := wcost_at 8 (by omega)
    have bb1 := hw.1 8 (by omega) j (by omega)
    have bb2 := hw.2 (2 ^ n - 1 - 2 ^ j) e3 j (by omega)
    have i2 : (0 : Int) ≤ ((2 ^ n - 1 - 2 ^ j : Nat) : Int) ∧ ((2 ^ n - 1 - 2 ^ j : Nat) : Int) < 256 := by omega
    have i4 : 111 + (2 ^ n - 1 - 2 ^ j) < 449 := by omega
    have i5 : (j : Int) < 8 := by omega
    have i6 : (j : Int) < 9 := by omega
    have r6 : -2147483648 ≤ M 109 j + M (111 + (2 ^ n - 1 - 2 ^ j)) j ∧ M 109 j + M (111 + (2 ^ n - 1 - 2 ^ j)) j ≤ 2147483647 := by
      simp only [show 101 + 8 = 109 from rfl] at bb1
      omega
    have r7 : -2147483648 ≤ cost ∧ cost ≤ 2147483647 := by omega
    rw [firstF] at hΦ
    refine J_rnG GM_fa (by omega) (by omega) (by omega) 29 _ _ _ _ (fun K9v hK9 => ?_)
    simp (maxSteps := 4000000) only [↓(X_iload_n (k := 3) (pc' := 17) dX7_firstOfBest_16 rfl rfl), ↓gI_3, ↓(X_aload_n (k := 0) (pc' := 18) dX7_firstOfBest_17 rfl rfl), ↓gR_0, ↓(X_getI (pc' := 21) fl_7_26 (by decide) dX7_firstOfBest_18 rfl), kd_89, ↓(X_icmp_ge (tgt := 73) (pc' := 24) dX7_firstOfBest_21 (by decide) rfl), ↓(X_iload_n (k := 2) (pc' := 25) dX7_firstOfBest_24 rfl rfl), ↓gI_2, ↓(X_iconst (pc' := 26) dX7_firstOfBest_25 rfl), ↓(X_iload_n (k := 3) (pc' := 27) dX7_firstOfBest_26 rfl rfl), ↓(X_ishl (pc' := 28) dX7_firstOfBest_27 rfl), ↓(X_iconst (pc' := 29) dX7_firstOfBest_28 rfl), ↓(X_ixor (pc' := 30) dX7_firstOfBest_29 rfl), ↓(X_iand (pc' := 31) dX7_firstOfBest_30 rfl), ↓(X_sipush (pc' := 34) dX7_firstOfBest_31 rfl), ↓(X_iand (pc' := 35) dX7_firstOfBest_34 rfl), ↓(X_istore (pc' := 37) dX7_firstOfBest_35 rfl), ↓sto_4, ↓(X_aload_n (k := 0) (pc' := 38) dX7_firstOfBest_37 rfl rfl), ↓(X_getR (pc' := 41) fl_7_20 dX7_firstOfBest_38 rfl), ↓(gV_c r0_89_2), kd_100, ln_100, ↓(X_bipush (pc' := 43) dX7_firstOfBest_41 rfl), ↓(X_aaload (pc' := 44) dX7_firstOfBest_43 rfl), ↓(X_iload_n (k := 3) (pc' := 45) dX7_firstOfBest_44 rfl rfl), ↓(X_iaload (pc' := 46) dX7_firstOfBest_45 rfl), ↓(X_aload_n (k := 0) (pc' := 47) dX7_firstOfBest_46 rfl rfl), ↓(X_getR (pc' := 50) fl_7_23 dX7_firstOfBest_47 rfl), ↓(gV_c r0_89_3), kd_110, ln_110, ↓(X_iload (pc' := 52) dX7_firstOfBest_50 rfl), ↓gI_4, ↓(X_aaload (pc' := 53) dX7_firstOfBest_52 rfl), ↓(X_iload_n (k := 3) (pc' := 54) dX7_firstOfBest_53 rfl rfl), ↓(X_iaload (pc' := 55) dX7_firstOfBest_54 rfl), ↓(X_iadd (pc' := 56) dX7_firstOfBest_55 rfl), ↓(X_iload_n (k := 1) (pc' := 57) dX7_firstOfBest_56 rfl rfl), ↓gI_1, ↓(X_icmp_ne (tgt := 67) (pc' := 60) dX7_firstOfBest_57 (by decide) rfl), rn_0, gV_s, ↓pI_c, ↓pII_c, ↓pL_c, ↓pLL_c, ↓pR_c, ↓pRI_c, ↓pRII_c, ↓pRIL_c, ↓pRR_c, ↓pV_c, ↓pVV_c, ↓gI_c, ↓gL_c, ↓gR_c, f2_0, f2_1, nk_n, nk_i, nk_r, ↓reduceIte, r32, r64, Nat.reduceAdd, Nat.reduceSub, Nat.reduceEqDiff, Nat.reduceLT, Nat.reduceLeDiff, Nat.reduceBEq, Int.reduceAdd, Int.reduceSub, Int.reduceMul, Int.reduceNeg, Int.reduceToNat, Int.reduceLE, Int.reduceLT, Int.reduceEq, Int.reduceNatCast', Int.reduceNatCast, Int.natCast_zero, Int.toNat_natCast, Int.toNat_zero, Int.toNat_one, List.length_cons, List.length_nil, true_and, and_true, and_self, true_or, or_true, false_or, or_false, Bool.not_true, Bool.not_false, Nat.lt_add_one, Nat.zero_lt_succ, N0, swL_n, swL_c, List.toList_toArray, false_implies, true_implies, implies_true, forall_const, not_false_eq_true, not_true_eq_false, and_false, false_and, hn, h1, r1, r2, r3, r4, e2, ↓(gV_c c3), ↓(gV_c l3), c1, c2, l1, l2, i2, i4, i5, i6, r6, r7, Nat.reduceAdd]
    simp only [hK9]
    clear hK9 K9v
    split
    · rename_i h
      rw [if_pos (by simpa using h)] at hΦ
      have := hru j (by omega)
      simp only [r32] at this
      refine J_rnG GM_fa (by omega) (by omega) (by omega) 4 _ _ _ _ (fun K9v hK9 => ?_)
      simp (maxSteps := 4000000) only [↓(X_aload_n (k := 0) (pc' := 61) dX7_firstOfBest_60 rfl rfl), ↓gR_0, ↓(X_getR (pc' := 64) fl_7_9 dX7_firstOfBest_61 rfl), kd_89, ↓(gV_c r0_89_0), kd_90, ln_90, ↓(X_iload_n (k := 3) (pc' := 65) dX7_firstOfBest_64 rfl rfl), ↓gI_3, ↓(X_iaload (pc' := 66) dX7_firstOfBest_65 rfl), rn_0, gV_s, ↓pI_c, ↓pII_c, ↓pL_c, ↓pLL_c, ↓pR_c, ↓pRI_c, ↓pRII_c, ↓pRIL_c, ↓pRR_c, ↓pV_c, ↓pVV_c, ↓gI_c, ↓gL_c, ↓gR_c, f2_0, f2_1, nk_n, nk_i, nk_r, ↓reduceIte, r32, r64, Nat.reduceAdd, Nat.reduceSub, Nat.reduceEqDiff, Nat.reduceLT, Nat.reduceLeDiff, Nat.reduceBEq, Int.reduceAdd, Int.reduceSub, Int.reduceMul, Int.reduceNeg, Int.reduceToNat, Int.reduceLE, Int.reduceLT, Int.reduceEq, Int.reduceNatCast', Int.reduceNatCast, Int.natCast_zero, Int.toNat_natCast, Int.toNat_zero, Int.toNat_one, List.length_cons, List.length_nil, true_and, and_true, and_self, true_or, or_true, false_or, or_false, Bool.not_true, Bool.not_false, Nat.lt_add_one, Nat.zero_lt_succ, N0, swL_n, swL_c, List.toList_toArray, false_implies, true_implies, implies_true, forall_const, not_false_eq_true, not_true_eq_false, and_false, false_and, i5, r4]
      simp only [hK9]
      clear hK9 K9v
      refine J_iret dX7_firstOfBest_66 rfl (by omega) (by omega) (hΦ)
    · rename_i h
      rw [if_neg (by simpa using h)] at hΦ
      refine J_rnG GM_fa (by omega) (by omega) (by omega) 2 _ _ _ _ (fun K9v hK9 => ?_)
      simp (maxSteps := 4000000) only [↓(X_iinc (pc' := 70) dX7_firstOfBest_67 rfl), ↓gI_3, ↓sto_3, ↓(X_goto (pc' := 16) dX7_firstOfBest_70 (by decide)), rn_0, gV_s, ↓pI_c, ↓pII_c, ↓pL_c, ↓pLL_c, ↓pR_c, ↓pRI_c, ↓pRII_c, ↓pRIL_c, ↓pRR_c, ↓pV_c, ↓pVV_c, ↓gI_c, ↓gL_c, ↓gR_c, f2_0, f2_1, nk_n, nk_i, nk_r, ↓reduceIte, r32, r64, Nat.reduceAdd, Nat.reduceSub, Nat.reduceEqDiff, Nat.reduceLT, Nat.reduceLeDiff, Nat.reduceBEq, Int.reduceAdd, Int.reduceSub, Int.reduceMul, Int.reduceNeg, Int.reduceToNat, Int.reduceLE, Int.reduceLT, Int.reduceEq, Int.reduceNatCast', Int.reduceNatCast, Int.natCast_zero, Int.toNat_natCast, Int.toNat_zero, Int.toNat_one, List.length_cons, List.length_nil, true_and, and_true, and_self, true_or, or_true, false_or, or_false, Bool.not_true, Bool.not_false, Nat.lt_add_one, Nat.zero_lt_succ, N0, swL_n, swL_c, List.toList_toArray, false_implies, true_implies, implies_true, forall_const, not_false_eq_true, not_true_eq_false, and_false, false_and]
      simp only [hK9]
      clear hK9 K9v
      rw [show (j : Int) + 1 = ((j + 1 : Nat) : Int) by omega]
      exact ih (j + 1) _ (nk_i.mpr trivial) (by omega) hΦ
theorem firstF_congr {F F' runs : Nat → Int} {cost : Int} : ∀ (k j : Nat), (∀ i, j ≤ i → i < j + k → F i = F' i) → firstF F cost runs k j = firstF F' cost runs k j
  | 0, _, _ => rfl
  | k + 1, j, h => by
    rw [firstF, firstF, h j (by omega) (by omega), firstF_congr k (j + 1) (fun i h1 h2 => h i (by omega) (by omega))]
/-- the run that a best order begins with -/
def firstV (C : Nat → Nat → Int) (n : Nat) (runs : Nat → Int) : Int := firstF (fun k => C 8 k + TT C (2 ^ n - 1 - 2 ^ k) k) (TT C (2 ^ n - 1) 8) runs n 0
set_option maxRecDepth 100000 in
set_option maxHeartbeats 4000000 in
theorem ok_firstOfBest {M : Nat → Nat → Int} (d n : Nat) (hn : M 89 4 = (n : Int)) (hn8 : n ≤ 8) (hw : wOK M) (hru : ∀ k, k < n → r32 (M 90 k)) : Ok l D cy (d + 3) 0 0 yX7_firstOfBest cX7_firstOfBest 5 (some (.int)) [.inr (.inr (some (89)))] (N0, R0, M) (fun o ν => o = .inl (some (.inl (firstV (fun r k => M (101 + r) k) n (M 90)))) ∧ ∃ M2 : Nat → Nat → Int, ν = (N0, R0, M2) ∧ tbM M M2 (2 ^ n) 0) := by
  refine Ok.intro (o := 7) (ini := false) [some (.inr (.inr (some (89)))), none, none, none, none] (by decide +kernel) rfl (fun h => by cases h) rfl (Nat.le_of_ble_eq_true rfl) rfl ?_
  obtain ⟨b1, b2, b3, b4, b5, b6⟩ := bt_all n hn8
  have r3 : (1 * 2 ^ n : Int) ≤ 2147483647 := by omega
  have r4 : 0 ≤ (n : Int) ∧ (n : Int) < 31 := by omega
  have h1p : 1 ≤ 2 ^ n := Nat.one_le_two_pow
  refine J_rnG GM_fa (by omega) (by omega) (by omega) 1 _ _ _ _ (fun K9v hK9 => ?_)
  simp (maxSteps := 4000000) only [↓(X_aload_n (k := 0) (pc' := 1) dX7_firstOfBest_0 rfl rfl), ↓gR_0, rn_0, gV_s, ↓pI_c, ↓pII_c, ↓pL_c, ↓pLL_c, ↓pR_c, ↓pRI_c, ↓pRII_c, ↓pRIL_c, ↓pRR_c, ↓pV_c, ↓pVV_c, ↓gI_c, ↓gL_c, ↓gR_c, f2_0, f2_1, nk_n, nk_i, nk_r, ↓reduceIte, r32, r64, Nat.reduceAdd, Nat.reduceSub, Nat.reduceEqDiff, Nat.reduceLT, Nat.reduceLeDiff, Nat.reduceBEq, Int.reduceAdd, Int.reduceSub, Int.reduceMul, Int.reduceNeg, Int.reduceToNat, Int.reduceLE, Int.reduceLT, Int.reduceEq, Int.reduceNatCast', Int.reduceNatCast, Int.natCast_zero, Int.toNat_natCast, Int.toNat_zero, Int.toNat_one, List.length_cons, List.length_nil, true_and, and_true, and_self, true_or, or_true, false_or, or_false, Bool.not_true, Bool.not_false, Nat.lt_add_one, Nat.zero_lt_succ, N0, swL_n, swL_c, List.toList_toArray, false_implies, true_implies, implies_true, forall_const, not_false_eq_true, not_true_eq_false, and_false, false_and]
  simp only [hK9]
  clear hK9 K9v
  refine J_callV (ci := 7) GM_fa (ok_leastBySets (M := M) (d + 0) n hn hn8 hw) (by first | exact calm_det | assumption | (intro q9 ν9 h9; obtain ⟨h8, h6, M9, h7, -⟩ := h9; exact ⟨⟨_, h8⟩, by rw [h7]; rfl⟩) | (intro q9 ν9 h9; obtain ⟨h8, M9, h7, -⟩ := h9; first | exact ⟨⟨_, h8⟩, by rw [h7]; rfl⟩ | exact ⟨⟨_, h7⟩, by rw [h8]; rfl⟩ | exact ⟨⟨_, h7⟩, by rw [h8]⟩)) dX7_firstOfBest_1 k_7_50 (by omega) (Nat.le_of_ble_eq_true rfl) ⟨by omega, by omega⟩ rfl (by decide +kernel) rfl (by decide) (by simp only [N0]; omega) (by simp) rfl (fun v ν hv => ?_)
  obtain ⟨hv0, M2, rfl, hM2⟩ := hv
  cases hv0
  simp only [Option.toList, List.cons_append, List.nil_append]
  obtain ⟨m1, m2, m3, m4⟩ := id hM2
  have hn2 : M2 89 4 = (n : Int) := by rw [m1 89 (by omega)]; exact hn
  have e109 : M2 109 = M 109 := m1 109 (by omega)
  have e90 : M2 90 = M 90 := m1 90 (by omega)
  refine J_rnG GM_fa (by omega) (by omega) (by omega) 10 _ _ _ _ (fun K9v hK9 => ?_)
  simp (maxSteps := 4000000) only [↓(X_istore_n (k := 1) (pc' := 5) dX7_firstOfBest_4 rfl rfl), ↓sto_1, ↓(X_iconst (pc' := 6) dX7_firstOfBest_5 rfl), ↓(X_aload_n (k := 0) (pc' := 7) dX7_firstOfBest_6 rfl rfl), ↓gR_0, ↓(X_getI (pc' := 10) fl_7_26 (by decide) dX7_firstOfBest_7 rfl), kd_89, ↓(X_ishl (pc' := 11) dX7_firstOfBest_10 rfl), ↓(X_iconst (pc' := 12) dX7_firstOfBest_11 rfl), ↓(X_isub (pc' := 13) dX7_firstOfBest_12 rfl), ↓(X_istore_n (k := 2) (pc' := 14) dX7_firstOfBest_13 rfl rfl), ↓sto_2, ↓(X_iconst (pc' := 15) dX7_firstOfBest_14 rfl), ↓(X_istore_n (k := 3) (pc' := 16) dX7_firstOfBest_15 rfl rfl), ↓sto_3, rn_0, gV_s, ↓pI_c, ↓pII_c, ↓pL_c, ↓pLL_c, ↓pR_c, ↓pRI_c, ↓pRII_c, ↓pRIL_c, ↓pRR_c, ↓pV_c, ↓pVV_c, ↓gI_c, ↓gL_c, ↓gR_c, f2_0, f2_1, nk_n, nk_i, nk_r, ↓reduceIte, r32, r64, Nat.reduceAdd, Nat.reduceSub, Nat.reduceEqDiff, Nat.reduceLT, Nat.reduceLeDiff, Nat.reduceBEq, Int.reduceAdd, Int.reduceSub, Int.reduceMul, Int.reduceNeg, Int.reduceToNat, Int.reduceLE, Int.reduceLT, Int.reduceEq, Int.reduceNatCast', Int.reduceNatCast, Int.natCast_zero, Int.toNat_natCast, Int.toNat_zero, Int.toNat_one, List.length_cons, List.length_nil, true_and, and_true, and_self, true_or, or_true, false_or, or_false, Bool.not_true, Bool.not_false, Nat.lt_add_one, Nat.zero_lt_succ, N0, swL_n, swL_c, List.toList_toArray, false_implies, true_implies, implies_true, forall_const, not_false_eq_true, not_true_eq_false, and_false, false_and, hn2, r3, r4]
  simp only [hK9]
  clear hK9 K9v
  have hcost := m2.2 (2 ^ n - 1) b2 8 (by omega)
  have ev := m3 (2 ^ n - 1) (by omega) 8 (by omega)
  rw [ev] at hcost
  refine jj_fb d n _ hn2 hn8 m2 hcost (by rw [e90]; exact hru) n 0 none (nk_n.mpr trivial) (by omega) ⟨?_, M2, rfl, hM2⟩
  rw [firstV, e90, firstF_congr n 0 (fun i hi1 hi2 => ?_)]
  have hb := bt_has n hn8 i (by omega)
  obtain ⟨q1, q2, q3⟩ := pop_step (2 ^ n - 1) b2 i (by omega) hb
  rw [e109, m3 (2 ^ n - 1 - 2 ^ i) (by omega) i (by omega)]
set_option maxRecDepth 100000 in
set_option maxHeartbeats 4000000 in
theorem jj_to {M : Nat → Nat → Int} {Φ : Out → Mem → Prop} (d p s f e : Nat) (hw : wOK M) (hs : s < 256) (hf : f ≤ 8) (hp : pop s = p + 1) (he : e + (p + 1) ≤ 8) (ih0 : ∀ (s' f' : Nat), s' < 256 → pop s' = p → f' ≤ 8 → Ok l D cy (d + p + 1) 0 0 yX7_tryOrders cX7_tryOrders 7 (some .int) [.inr (.inr (some 100)), .inl (s' : Int), .inl (f' : Int), .inl ((e + 1 : Nat) : Int)] (N0, R0, M) (det (some (.inl (TT (fun r k => M (101 + r) k) s' f'))) (N0, R0, M))) : ∀ (k j : Nat) (acc : Int) (w6 : Option AV), nk w6 → j + k = 8 → 0 ≤ acc → acc ≤ 1000000 → Φ (.inl (some (.inl (loopN (lbS (fun k => M (101 + f) k + TT (fun r k => M (101 + r) k) (s - 2 ^ k) k) s) k j acc)))) (N0, R0, M) →
    J l D cy (GM l D cy 7 cX7_tryOrders 7 (d + (p + 1) + 1) 0 0 false (some .int) Φ) 19 [some (.inr (.inr (some 100))), some (.inl (s : Int)), some (.inl (f : Int)), some (.inl (e : Int)), some (.inl acc), some (.inl (j : Int)), w6] [] (449, R0, M) 0 0 := by
  intro k
  induction k with
  | zero =>
    intro j acc w6 hw6 hj ha1 ha2 hΦ
    have q : j = 8 := by omega
    subst q
    refine J_rnG GM_fa (by omega) (by omega) (by omega) 3 _ _ _ _ (fun K9v hK9 => ?_)
    simp (maxSteps := 4000000) only [↓(X_iload (pc' := 21) dX7_tryOrders_19 rfl), ↓gI_5, ↓(X_bipush (pc' := 23) dX7_tryOrders_21 rfl), ↓(X_icmp_ge (tgt := 76) (pc' := 26) dX7_tryOrders_23 (by decide) rfl), rn_0, gV_s, ↓pI_c, ↓pII_c, ↓pL_c, ↓pLL_c, ↓pR_c, ↓pRI_c, ↓pRII_c, ↓pRIL_c, ↓pRR_c, ↓pV_c, ↓pVV_c, ↓gI_c, ↓gL_c, ↓gR_c, f2_0, f2_1, nk_n, nk_i, nk_r, ↓reduceIte, r32, r64, Nat.reduceAdd, Nat.reduceSub, Nat.reduceEqDiff, Nat.reduceLT, Nat.reduceLeDiff, Nat.reduceBEq, Int.reduceAdd, Int.reduceSub, Int.reduceMul, Int.reduceNeg, Int.reduceToNat, Int.reduceLE, Int.reduceLT, Int.reduceEq, Int.reduceNatCast', Int.reduceNatCast, Int.natCast_zero, Int.toNat_natCast, Int.toNat_zero, Int.toNat_one, List.length_cons, List.length_nil, true_and, and_true, and_self, true_or, or_true, false_or, or_false, Bool.not_true, Bool.not_false, Nat.lt_add_one, Nat.zero_lt_succ, N0, swL_n, swL_c, List.toList_toArray, false_implies, true_implies, implies_true, forall_const, not_false_eq_true, not_true_eq_false, and_false, false_and]
    simp only [hK9]
    clear hK9 K9v
    refine J_rnG GM_fa (by omega) (by omega) (by omega) 1 _ _ _ _ (fun K9v hK9 => ?_)
    simp (maxSteps := 4000000) only [↓(X_iload (pc' := 78) dX7_tryOrders_76 rfl), ↓gI_4, rn_0, gV_s, ↓pI_c, ↓pII_c, ↓pL_c, ↓pLL_c, ↓pR_c, ↓pRI_c, ↓pRII_c, ↓pRIL_c, ↓pRR_c, ↓pV_c, ↓pVV_c, ↓gI_c, ↓gL_c, ↓gR_c, f2_0, f2_1, nk_n, nk_i, nk_r, ↓reduceIte, r32, r64, Nat.reduceAdd, Nat.reduceSub, Nat.reduceEqDiff, Nat.reduceLT, Nat.reduceLeDiff, Nat.reduceBEq, Int.reduceAdd, Int.reduceSub, Int.reduceMul, Int.reduceNeg, Int.reduceToNat, Int.reduceLE, Int.reduceLT, Int.reduceEq, Int.reduceNatCast', Int.reduceNatCast, Int.natCast_zero, Int.toNat_natCast, Int.toNat_zero, Int.toNat_one, List.length_cons, List.length_nil, true_and, and_true, and_self, true_or, or_true, false_or, or_false, Bool.not_true, Bool.not_false, Nat.lt_add_one, Nat.zero_lt_succ, N0, swL_n, swL_c, List.toList_toArray, false_implies, true_implies, implies_true, forall_const, not_false_eq_true, not_true_eq_false, and_false, false_and]
    simp only [hK9]
    clear hK9 K9v
    have r3 : -2147483648 ≤ acc ∧ acc ≤ 2147483647 := by omega
    refine J_iret dX7_tryOrders_78 rfl (by omega) (by omega) (hΦ)
  | succ k ih =>
    intro j acc w6 hw6 hj ha1 ha2 hΦ
    have h1 : (j : Int) < 8 := by omega
    have r1 : -2147483648 ≤ (j : Int) ∧ (j : Int) ≤ 2147483647 := by omega
    have r3 := p2_bd j (by omega)
    have r4 : 0 ≤ (j : Int) ∧ (j : Int) < 31 := by omega
    have r5 := bAnd_rg (s : Int) (1 * 2 ^ j)
    rw [loopN] at hΦ
    rcases hb : s.testBit j with _ | _
    · have e1 := bt_out s hs j (by omega) hb
      refine J_rnG GM_fa (by omega) (by omega) (by omega) 9 _ _ _ _ (fun K9v hK9 => ?_)
      simp (maxSteps := 4000000) only [↓(X_iload (pc' := 21) dX7_tryOrders_19 rfl), ↓gI_5, ↓(X_bipush (pc' := 23) dX7_tryOrders_21 rfl), ↓(X_icmp_ge (tgt := 76) (pc' := 26) dX7_tryOrders_23 (by decide) rfl), ↓(X_iload_n (k := 1) (pc' := 27) dX7_tryOrders_26 rfl rfl), ↓gI_1, ↓(X_iconst (pc' := 28) dX7_tryOrders_27 rfl), ↓(X_iload (pc' := 30) dX7_tryOrders_28 rfl), ↓(X_ishl (pc' := 31) dX7_tryOrders_30 rfl), ↓(X_iand (pc' := 32) dX7_tryOrders_31 rfl), ↓(X_if_eq (tgt := 70) (pc' := 35) dX7_tryOrders_32 (by decide) rfl), rn_0, gV_s, ↓pI_c, ↓pII_c, ↓pL_c, ↓pLL_c, ↓pR_c, ↓pRI_c, ↓pRII_c, ↓pRIL_c, ↓pRR_c, ↓pV_c, ↓pVV_c, ↓gI_c, ↓gL_c, ↓gR_c, f2_0, f2_1, nk_n, nk_i, nk_r, ↓reduceIte, r32, r64, Nat.reduceAdd, Nat.reduceSub, Nat.reduceEqDiff, Nat.reduceLT, Nat.reduceLeDiff, Nat.reduceBEq, Int.reduceAdd, Int.reduceSub, Int.reduceMul, Int.reduceNeg, Int.reduceToNat, Int.reduceLE, Int.reduceLT, Int.reduceEq, Int.reduceNatCast', Int.reduceNatCast, Int.natCast_zero, Int.toNat_natCast, Int.toNat_zero, Int.toNat_one, List.length_cons, List.length_nil, true_and, and_true, and_self, true_or, or_true, false_or, or_false, Bool.not_true, Bool.not_false, Nat.lt_add_one, Nat.zero_lt_succ, N0, swL_n, swL_c, List.toList_toArray, false_implies, true_implies, implies_true, forall_const, not_false_eq_true, not_true_eq_false, and_false, false_and, h1, r1, r3, r4, r5, e1]
      simp only [hK9]
      clear hK9 K9v
      refine J_rnG GM_fa (by omega) (by omega) (by omega) 2 _ _ _ _ (fun K9v hK9 => ?_)
      simp (maxSteps := 4000000) only [↓(X_iinc (pc' := 73) dX7_tryOrders_70 rfl), ↓gI_5, ↓sto_5, ↓(X_goto (pc' := 19) dX7_tryOrders_73 (by decide)), rn_0, gV_s, ↓pI_c, ↓pII_c, ↓pL_c, ↓pLL_c, ↓pR_c, ↓pRI_c, ↓pRII_c, ↓pRIL_c, ↓pRR_c, ↓pV_c, ↓pVV_c, ↓gI_c, ↓gL_c, ↓gR_c, f2_0, f2_1, nk_n, nk_i, nk_r, ↓reduceIte, r32, r64, Nat.reduceAdd, Nat.reduceSub, Nat.reduceEqDiff, Nat.reduceLT, Nat.reduceLeDiff, Nat.reduceBEq, Int.reduceAdd, Int.reduceSub, Int.reduceMul, Int.reduceNeg, Int.reduceToNat, Int.reduceLE, Int.reduceLT, Int.reduceEq, Int.reduceNatCast', Int.reduceNatCast, Int.natCast_zero, Int.toNat_natCast, Int.toNat_zero, Int.toNat_one, List.length_cons, List.length_nil, true_and, and_true, and_self, true_or, or_true, false_or, or_false, Bool.not_true, Bool.not_false, Nat.lt_add_one, Nat.zero_lt_succ, N0, swL_n, swL_c, List.toList_toArray, false_implies, true_implies, implies_true, forall_const, not_false_eq_true, not_true_eq_false, and_false, false_and]
      simp only [hK9]
      clear hK9 K9v
      rw [show (j : Int) + 1 = ((j + 1 : Nat) : Int) by omega]
      refine ih (j + 1) acc w6 hw6 (by omega) ha1 ha2 ?_
      rw [lbS, if_neg (by rw [hb]; decide)] at hΦ
      exact hΦ
    · have e1 := bt_in s hs j (by omega) hb
      have e2 := (bt_rm s hs j (by omega) hb).2
      obtain ⟨e4, e3, -⟩ := pop_step s hs j (by omega) hb
      obtain ⟨c1, c2, c3⟩ := wcost_at f (by omega)
      have bb1 := hw.1 f hf j (by omega)
      have bb2 := TT_bd (C := fun r k => M (101 + r) k) (fun r k hr hk => (hw.1 r hr k hk).1) p (s - 2 ^ j) j (by omega) e3 (by omega)
      have i1 : (0 : Int) ≤ (f : Int) ∧ (f : Int) < 9 := by omega
      have i3 : 101 + f < 449 := by omega
      have i5 : (j : Int) < 8 := by omega
      have r7 : -2147483648 ≤ acc ∧ acc ≤ 2147483647 := by omega
      refine J_rnG GM_fa (by omega) (by omega) (by omega) 21 _ _ _ _ (fun K9v hK9 => ?_)
      simp (maxSteps := 4000000) only [↓(X_iload (pc' := 21) dX7_tryOrders_19 rfl), ↓gI_5, ↓(X_bipush (pc' := 23) dX7_tryOrders_21 rfl), ↓(X_icmp_ge (tgt := 76) (pc' := 26) dX7_tryOrders_23 (by decide) rfl), ↓(X_iload_n (k := 1) (pc' := 27) dX7_tryOrders_26 rfl rfl), ↓gI_1, ↓(X_iconst (pc' := 28) dX7_tryOrders_27 rfl), ↓(X_iload (pc' := 30) dX7_tryOrders_28 rfl), ↓(X_ishl (pc' := 31) dX7_tryOrders_30 rfl), ↓(X_iand (pc' := 32) dX7_tryOrders_31 rfl), ↓(X_if_eq (tgt := 70) (pc' := 35) dX7_tryOrders_32 (by decide) rfl), ↓(X_aload_n (k := 0) (pc' := 36) dX7_tryOrders_35 rfl rfl), ↓gR_0, ↓(X_iload_n (k := 1) (pc' := 37) dX7_tryOrders_36 rfl rfl), ↓(X_iconst (pc' := 38) dX7_tryOrders_37 rfl), ↓(X_iload (pc' := 40) dX7_tryOrders_38 rfl), ↓(X_ishl (pc' := 41) dX7_tryOrders_40 rfl), ↓(X_iconst (pc' := 42) dX7_tryOrders_41 rfl), ↓(X_ixor (pc' := 43) dX7_tryOrders_42 rfl), ↓(X_iand (pc' := 44) dX7_tryOrders_43 rfl), ↓(X_iload (pc' := 46) dX7_tryOrders_44 rfl), ↓(X_iload_n (k := 3) (pc' := 47) dX7_tryOrders_46 rfl rfl), ↓gI_3, ↓(X_iconst (pc' := 48) dX7_tryOrders_47 rfl), ↓(X_iadd (pc' := 49) dX7_tryOrders_48 rfl), rn_0, gV_s, ↓pI_c, ↓pII_c, ↓pL_c, ↓pLL_c, ↓pR_c, ↓pRI_c, ↓pRII_c, ↓pRIL_c, ↓pRR_c, ↓pV_c, ↓pVV_c, ↓gI_c, ↓gL_c, ↓gR_c, f2_0, f2_1, nk_n, nk_i, nk_r, ↓reduceIte, r32, r64, Nat.reduceAdd, Nat.reduceSub, Nat.reduceEqDiff, Nat.reduceLT, Nat.reduceLeDiff, Nat.reduceBEq, Int.reduceAdd, Int.reduceSub, Int.reduceMul, Int.reduceNeg, Int.reduceToNat, Int.reduceLE, Int.reduceLT, Int.reduceEq, Int.reduceNatCast', Int.reduceNatCast, Int.natCast_zero, Int.toNat_natCast, Int.toNat_zero, Int.toNat_one, List.length_cons, List.length_nil, true_and, and_true, and_self, true_or, or_true, false_or, or_false, Bool.not_true, Bool.not_false, Nat.lt_add_one, Nat.zero_lt_succ, N0, swL_n, swL_c, List.toList_toArray, false_implies, true_implies, implies_true, forall_const, not_false_eq_true, not_true_eq_false, and_false, false_and, h1, r1, r3, r4, r5, e1, e2]
      simp only [hK9]
      clear hK9 K9v
      rw [show (e : Int) + 1 = ((e + 1 : Nat) : Int) by omega]
      refine J_callSd GM_fa (ih0 (s - 2 ^ j) j e3 (by omega) (by omega)) dX7_tryOrders_49 k_7_54 (by omega) (Nat.le_of_ble_eq_true rfl) ⟨by omega, by omega⟩ rfl (by simp) rfl rfl ?_
      simp only [Option.toList, List.cons_append, List.nil_append]
      generalize hT : TT (fun r k => M (101 + r) k) (s - 2 ^ j) j = tv at bb2 ⊢
      have r6 : -2147483648 ≤ M (101 + f) j + tv ∧ M (101 + f) j + tv ≤ 2147483647 := by omega
      refine J_rnG GM_fa (by omega) (by omega) (by omega) 13 _ _ _ _ (fun K9v hK9 => ?_)
      simp (maxSteps := 4000000) only [↓(X_istore (pc' := 54) dX7_tryOrders_52 rfl), ↓sto_6, ↓(X_iload (pc' := 56) dX7_tryOrders_54 rfl), ↓gI_4, ↓(X_aload_n (k := 0) (pc' := 57) dX7_tryOrders_56 rfl rfl), ↓gR_0, ↓(X_iload_n (k := 2) (pc' := 58) dX7_tryOrders_57 rfl rfl), ↓gI_2, ↓(X_aaload (pc' := 59) dX7_tryOrders_58 rfl), ↓(X_iload (pc' := 61) dX7_tryOrders_59 rfl), ↓gI_5, ↓(X_iaload (pc' := 62) dX7_tryOrders_61 rfl), ↓(X_iload (pc' := 64) dX7_tryOrders_62 rfl), ↓gI_6, ↓(X_iadd (pc' := 65) dX7_tryOrders_64 rfl), ↓(X_min (pc' := 68) jd_7_45 dX7_tryOrders_65 rfl), ↓(X_istore (pc' := 70) dX7_tryOrders_68 rfl), ↓sto_4, ↓(X_iinc (pc' := 73) dX7_tryOrders_70 rfl), ↓sto_5, ↓(X_goto (pc' := 19) dX7_tryOrders_73 (by decide)), rn_0, gV_s, ↓pI_c, ↓pII_c, ↓pL_c, ↓pLL_c, ↓pR_c, ↓pRI_c, ↓pRII_c, ↓pRIL_c, ↓pRR_c, ↓pV_c, ↓pVV_c, ↓gI_c, ↓gL_c, ↓gR_c, f2_0, f2_1, nk_n, nk_i, nk_r, ↓reduceIte, r32, r64, Nat.reduceAdd, Nat.reduceSub, Nat.reduceEqDiff, Nat.reduceLT, Nat.reduceLeDiff, Nat.reduceBEq, Int.reduceAdd, Int.reduceSub, Int.reduceMul, Int.reduceNeg, Int.reduceToNat, Int.reduceLE, Int.reduceLT, Int.reduceEq, Int.reduceNatCast', Int.reduceNatCast, Int.natCast_zero, Int.toNat_natCast, Int.toNat_zero, Int.toNat_one, List.length_cons, List.length_nil, true_and, and_true, and_self, true_or, or_true, false_or, or_false, Bool.not_true, Bool.not_false, Nat.lt_add_one, Nat.zero_lt_succ, N0, swL_n, swL_c, List.toList_toArray, false_implies, true_implies, implies_true, forall_const, not_false_eq_true, not_true_eq_false, and_false, false_and, kd_100, ln_100, ↓(gV_c c3), c1, c2, i1, i3, i5, r4, r6, r7]
      simp only [hK9]
      clear hK9 K9v
      rw [show (j : Int) + 1 = ((j + 1 : Nat) : Int) by omega]
      rw [lbS, if_pos hb, hT] at hΦ
      refine ih (j + 1) _ _ (nk_i.mpr trivial) (by omega) ?_ ?_ hΦ <;> split <;> omega
set_option maxRecDepth 100000 in
set_option maxHeartbeats 4000000 in
theorem ok_tryOrders {M : Nat → Nat → Int} (d : Nat) (hw : wOK M) : ∀ (p s f e : Nat), s < 256 → pop s = p → f ≤ 8 → e + p ≤ 8 → Ok l D cy (d + p + 1) 0 0 yX7_tryOrders cX7_tryOrders 7 (some .int) [.inr (.inr (some 100)), .inl (s : Int), .inl (f : Int), .inl (e : Int)] (N0, R0, M) (det (some (.inl (TT (fun r k => M (101 + r) k) s f))) (N0, R0, M)) := by
  intro p
  induction p with
  | zero =>
    intro s f e hs hp hf he
    have q := pop_z s hs hp
    subst q
    refine Ok.intro (o := 7) (ini := false) [some (.inr (.inr (some 100))), some (.inl ((0 : Nat) : Int)), some (.inl (f : Int)), some (.inl (e : Int)), none, none, none] (by decide +kernel) rfl (fun h => by cases h) rfl (Nat.le_of_ble_eq_true rfl) rfl ?_
    refine J_rnG GM_fa (by omega) (by omega) (by omega) 2 _ _ _ _ (fun K9v hK9 => ?_)
    simp (maxSteps := 4000000) only [↓(X_iload_n (k := 1) (pc' := 1) dX7_tryOrders_0 rfl rfl), ↓gI_1, ↓(X_if_eq (tgt := 10) (pc' := 4) dX7_tryOrders_1 (by decide) rfl), rn_0, gV_s, ↓pI_c, ↓pII_c, ↓pL_c, ↓pLL_c, ↓pR_c, ↓pRI_c, ↓pRII_c, ↓pRIL_c, ↓pRR_c, ↓pV_c, ↓pVV_c, ↓gI_c, ↓gL_c, ↓gR_c, f2_0, f2_1, nk_n, nk_i, nk_r, ↓reduceIte, r32, r64, Nat.reduceAdd, Nat.reduceSub, Nat.reduceEqDiff, Nat.reduceLT, Nat.reduceLeDiff, Nat.reduceBEq, Int.reduceAdd, Int.reduceSub, Int.reduceMul, Int.reduceNeg, Int.reduceToNat, Int.reduceLE, Int.reduceLT, Int.reduceEq, Int.reduceNatCast', Int.reduceNatCast, Int.natCast_zero, Int.toNat_natCast, Int.toNat_zero, Int.toNat_one, List.length_cons, List.length_nil, true_and, and_true, and_self, true_or, or_true, false_or, or_false, Bool.not_true, Bool.not_false, Nat.lt_add_one, Nat.zero_lt_succ, N0, swL_n, swL_c, List.toList_toArray, false_implies, true_implies, implies_true, forall_const, not_false_eq_true, not_true_eq_false, and_false, false_and]
    simp only [hK9]
    clear hK9 K9v
    refine J_rnG GM_fa (by omega) (by omega) (by omega) 1 _ _ _ _ (fun K9v hK9 => ?_)
    simp (maxSteps := 4000000) only [↓(X_iconst (pc' := 11) dX7_tryOrders_10 rfl), rn_0, gV_s, ↓pI_c, ↓pII_c, ↓pL_c, ↓pLL_c, ↓pR_c, ↓pRI_c, ↓pRII_c, ↓pRIL_c, ↓pRR_c, ↓pV_c, ↓pVV_c, ↓gI_c, ↓gL_c, ↓gR_c, f2_0, f2_1, nk_n, nk_i, nk_r, ↓reduceIte, r32, r64, Nat.reduceAdd, Nat.reduceSub, Nat.reduceEqDiff, Nat.reduceLT, Nat.reduceLeDiff, Nat.reduceBEq, Int.reduceAdd, Int.reduceSub, Int.reduceMul, Int.reduceNeg, Int.reduceToNat, Int.reduceLE, Int.reduceLT, Int.reduceEq, Int.reduceNatCast', Int.reduceNatCast, Int.natCast_zero, Int.toNat_natCast, Int.toNat_zero, Int.toNat_one, List.length_cons, List.length_nil, true_and, and_true, and_self, true_or, or_true, false_or, or_false, Bool.not_true, Bool.not_false, Nat.lt_add_one, Nat.zero_lt_succ, N0, swL_n, swL_c, List.toList_toArray, false_implies, true_implies, implies_true, forall_const, not_false_eq_true, not_true_eq_false, and_false, false_and]
    simp only [hK9]
    clear hK9 K9v
    refine J_iret dX7_tryOrders_11 rfl (by omega) (by omega) (⟨rfl, rfl⟩)
  | succ p ih =>
    intro s f e hs hp hf he
    refine Ok.intro (o := 7) (ini := false) [some (.inr (.inr (some 100))), some (.inl (s : Int)), some (.inl (f : Int)), some (.inl (e : Int)), none, none, none] (by decide +kernel) rfl (fun h => by cases h) rfl (Nat.le_of_ble_eq_true rfl) rfl ?_
    have h0 : s ≠ 0 := by
      intro q
      subst q
      rw [show pop 0 = 0 by decide] at hp
      omega
    have h1 : ¬ (s : Int) = 0 := by omega
    have r1 : -2147483648 ≤ (s : Int) ∧ (s : Int) ≤ 2147483647 := by omega
    have h2 : (e : Int) < 8 := by omega
    have r2 : -2147483648 ≤ (e : Int) ∧ (e : Int) ≤ 2147483647 := by omega
    refine J_rnG GM_fa (by omega) (by omega) (by omega) 5 _ _ _ _ (fun K9v hK9 => ?_)
    simp (maxSteps := 4000000) only [↓(X_iload_n (k := 1) (pc' := 1) dX7_tryOrders_0 rfl rfl), ↓gI_1, ↓(X_if_eq (tgt := 10) (pc' := 4) dX7_tryOrders_1 (by decide) rfl), ↓(X_iload_n (k := 3) (pc' := 5) dX7_tryOrders_4 rfl rfl), ↓gI_3, ↓(X_bipush (pc' := 7) dX7_tryOrders_5 rfl), ↓(X_icmp_lt (tgt := 12) (pc' := 10) dX7_tryOrders_7 (by decide) rfl), rn_0, gV_s, ↓pI_c, ↓pII_c, ↓pL_c, ↓pLL_c, ↓pR_c, ↓pRI_c, ↓pRII_c, ↓pRIL_c, ↓pRR_c, ↓pV_c, ↓pVV_c, ↓gI_c, ↓gL_c, ↓gR_c, f2_0, f2_1, nk_n, nk_i, nk_r, ↓reduceIte, r32, r64, Nat.reduceAdd, Nat.reduceSub, Nat.reduceEqDiff, Nat.reduceLT, Nat.reduceLeDiff, Nat.reduceBEq, Int.reduceAdd, Int.reduceSub, Int.reduceMul, Int.reduceNeg, Int.reduceToNat, Int.reduceLE, Int.reduceLT, Int.reduceEq, Int.reduceNatCast', Int.reduceNatCast, Int.natCast_zero, Int.toNat_natCast, Int.toNat_zero, Int.toNat_one, List.length_cons, List.length_nil, true_and, and_true, and_self, true_or, or_true, false_or, or_false, Bool.not_true, Bool.not_false, Nat.lt_add_one, Nat.zero_lt_succ, N0, swL_n, swL_c, List.toList_toArray, false_implies, true_implies, implies_true, forall_const, not_false_eq_true, not_true_eq_false, and_false, false_and, h1, r1, h2, r2]
    simp only [hK9]
    clear hK9 K9v
    refine J_rnG GM_fa (by omega) (by omega) (by omega) 4 _ _ _ _ (fun K9v hK9 => ?_)
    simp (maxSteps := 4000000) only [↓(X_ldc (pc' := 14) cst_7_44 dX7_tryOrders_12 rfl), ↓(X_istore (pc' := 16) dX7_tryOrders_14 rfl), ↓sto_4, ↓(X_iconst (pc' := 17) dX7_tryOrders_16 rfl), ↓(X_istore (pc' := 19) dX7_tryOrders_17 rfl), ↓sto_5, rn_0, gV_s, ↓pI_c, ↓pII_c, ↓pL_c, ↓pLL_c, ↓pR_c, ↓pRI_c, ↓pRII_c, ↓pRIL_c, ↓pRR_c, ↓pV_c, ↓pVV_c, ↓gI_c, ↓gL_c, ↓gR_c, f2_0, f2_1, nk_n, nk_i, nk_r, ↓reduceIte, r32, r64, Nat.reduceAdd, Nat.reduceSub, Nat.reduceEqDiff, Nat.reduceLT, Nat.reduceLeDiff, Nat.reduceBEq, Int.reduceAdd, Int.reduceSub, Int.reduceMul, Int.reduceNeg, Int.reduceToNat, Int.reduceLE, Int.reduceLT, Int.reduceEq, Int.reduceNatCast', Int.reduceNatCast, Int.natCast_zero, Int.toNat_natCast, Int.toNat_zero, Int.toNat_one, List.length_cons, List.length_nil, true_and, and_true, and_self, true_or, or_true, false_or, or_false, Bool.not_true, Bool.not_false, Nat.lt_add_one, Nat.zero_lt_succ, N0, swL_n, swL_c, List.toList_toArray, false_implies, true_implies, implies_true, forall_const, not_false_eq_true, not_true_eq_false, and_false, false_and]
    simp only [hK9]
    clear hK9 K9v
    refine jj_to d p s f e hw hs hf hp he (fun s' f' h1 h2 h3 => ih s' f' (e + 1) h1 h2 h3 (by omega)) 8 0 1000000 none (nk_n.mpr trivial) (by omega) (by omega) (by omega) ⟨?_, rfl⟩
    rw [TT_eq hs h0]
set_option maxRecDepth 100000 in
set_option maxHeartbeats 4000000 in
theorem ok_leastByAllOrders {M : Nat → Nat → Int} (d n : Nat) (hn : M 89 4 = (n : Int)) (hn8 : n ≤ 8) (hw : wOK M) : Ok l D cy (d + 10) 0 0 yX7_leastByAllOrders cX7_leastByAllOrders 1 (some (.int)) [.inr (.inr (some (89)))] (N0, R0, M) (det (some (.inl (TT (fun r k => M (101 + r) k) (2 ^ n - 1) 8))) (N0, R0, M)) := by
  refine Ok.intro (o := 7) (ini := false) [some (.inr (.inr (some (89))))] (by decide +kernel) rfl (fun h => by cases h) rfl (Nat.le_of_ble_eq_true rfl) rfl ?_
  obtain ⟨b1, b2, b3, b4, b5, b6⟩ := bt_all n hn8
  have r3 : (1 * 2 ^ n : Int) ≤ 2147483647 := by omega
  have r4 : 0 ≤ (n : Int) ∧ (n : Int) < 31 := by omega
  refine J_rnG GM_fa (by omega) (by omega) (by omega) 10 _ _ _ _ (fun K9v hK9 => ?_)
  simp (maxSteps := 4000000) only [↓(X_aload_n (k := 0) (pc' := 1) dX7_leastByAllOrders_0 rfl rfl), ↓gR_0, ↓(X_getR (pc' := 4) fl_7_20 dX7_leastByAllOrders_1 rfl), kd_89, ↓(gV_c r0_89_2), kd_100, ln_100, ↓(X_iconst (pc' := 5) dX7_leastByAllOrders_4 rfl), ↓(X_aload_n (k := 0) (pc' := 6) dX7_leastByAllOrders_5 rfl rfl), ↓(X_getI (pc' := 9) fl_7_26 (by decide) dX7_leastByAllOrders_6 rfl), ↓(X_ishl (pc' := 10) dX7_leastByAllOrders_9 rfl), ↓(X_iconst (pc' := 11) dX7_leastByAllOrders_10 rfl), ↓(X_isub (pc' := 12) dX7_leastByAllOrders_11 rfl), ↓(X_bipush (pc' := 14) dX7_leastByAllOrders_12 rfl), ↓(X_iconst (pc' := 15) dX7_leastByAllOrders_14 rfl), rn_0, gV_s, ↓pI_c, ↓pII_c, ↓pL_c, ↓pLL_c, ↓pR_c, ↓pRI_c, ↓pRII_c, ↓pRIL_c, ↓pRR_c, ↓pV_c, ↓pVV_c, ↓gI_c, ↓gL_c, ↓gR_c, f2_0, f2_1, nk_n, nk_i, nk_r, ↓reduceIte, r32, r64, Nat.reduceAdd, Nat.reduceSub, Nat.reduceEqDiff, Nat.reduceLT, Nat.reduceLeDiff, Nat.reduceBEq, Int.reduceAdd, Int.reduceSub, Int.reduceMul, Int.reduceNeg, Int.reduceToNat, Int.reduceLE, Int.reduceLT, Int.reduceEq, Int.reduceNatCast', Int.reduceNatCast, Int.natCast_zero, Int.toNat_natCast, Int.toNat_zero, Int.toNat_one, List.length_cons, List.length_nil, true_and, and_true, and_self, true_or, or_true, false_or, or_false, Bool.not_true, Bool.not_false, Nat.lt_add_one, Nat.zero_lt_succ, N0, swL_n, swL_c, List.toList_toArray, false_implies, true_implies, implies_true, forall_const, not_false_eq_true, not_true_eq_false, and_false, false_and, hn, r3, r4]
  simp only [hK9]
  clear hK9 K9v
  rw [b5]
  have hp8 := pop_8 (2 ^ n - 1) b2
  refine J_callSd GM_fa (ok_tryOrders (M := M) (d + (8 - pop (2 ^ n - 1))) hw (pop (2 ^ n - 1)) (2 ^ n - 1) 8 0 b2 rfl (by omega) (by omega)) dX7_leastByAllOrders_15 k_7_54 (by omega) (Nat.le_of_ble_eq_true rfl) ⟨by omega, by omega⟩ rfl (by simp) rfl rfl ?_
  simp only [Option.toList, List.cons_append, List.nil_append]

  have hb := TT_bd (C := fun r k => M (101 + r) k) (fun r k hr hk => (hw.1 r hr k hk).1) _ (2 ^ n - 1) 8 rfl b2 (by omega)
  refine J_iret dX7_leastByAllOrders_18 rfl (by omega) (by omega) (⟨rfl, rfl⟩)
set_option maxRecDepth 100000 in
set_option maxHeartbeats 4000000 in
theorem ok_clear {M : Nat → Nat → Int} (d : Nat) : Ok l D cy (d + 1) 0 0 yX7_clear cX7_clear 1 (none) [.inr (.inr (some (89)))] (N0, R0, M) (det none (N0, R0, up2 M 89 4 0)) := by
  refine Ok.intro (o := 7) (ini := false) [some (.inr (.inr (some (89))))] (by decide +kernel) rfl (fun h => by cases h) rfl (Nat.le_of_ble_eq_true rfl) rfl ?_
  refine J_rnG GM_fa (by omega) (by omega) (by omega) 3 _ _ _ _ (fun K9v hK9 => ?_)
  simp (maxSteps := 4000000) only [↓(X_aload_n (k := 0) (pc' := 1) dX7_clear_0 rfl rfl), ↓gR_0, ↓(X_iconst (pc' := 2) dX7_clear_1 rfl), ↓(X_putI (pc' := 5) fl_7_26 (by decide) dX7_clear_2 rfl), Nat.one_ne_zero, Nat.reduceEqDiff, kd_89, rn_0, gV_s, ↓pI_c, ↓pII_c, ↓pL_c, ↓pLL_c, ↓pR_c, ↓pRI_c, ↓pRII_c, ↓pRIL_c, ↓pRR_c, ↓pV_c, ↓pVV_c, ↓gI_c, ↓gL_c, ↓gR_c, f2_0, f2_1, nk_n, nk_i, nk_r, ↓reduceIte, r32, r64, Nat.reduceAdd, Nat.reduceSub, Nat.reduceEqDiff, Nat.reduceLT, Nat.reduceLeDiff, Nat.reduceBEq, Int.reduceAdd, Int.reduceSub, Int.reduceMul, Int.reduceNeg, Int.reduceToNat, Int.reduceLE, Int.reduceLT, Int.reduceEq, Int.reduceNatCast', Int.reduceNatCast, Int.natCast_zero, Int.toNat_natCast, Int.toNat_zero, Int.toNat_one, List.length_cons, List.length_nil, true_and, and_true, and_self, true_or, or_true, false_or, or_false, Bool.not_true, Bool.not_false, Nat.lt_add_one, Nat.zero_lt_succ, N0, swL_n, swL_c, List.toList_toArray, false_implies, true_implies, implies_true, forall_const, not_false_eq_true, not_true_eq_false, and_false, false_and]
  simp only [hK9]
  clear hK9 K9v
  refine J_vret dX7_clear_5 rfl (by omega) (by omega) (⟨rfl, rfl⟩)
end C7
