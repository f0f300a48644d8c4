/-! the plan of the washes -/
/-- what the rows of the plan keep: costs and leasts within bounds -/
def wOK (M : Nat → Nat → Int) : Prop := (∀ f, f ≤ 8 → ∀ k, k < 8 → 0 ≤ M (101 + f) k ∧ M (101 + f) k ≤ 1000) ∧ ∀ s, s < 256 → ∀ f, f ≤ 8 → 0 ≤ M (111 + s) f ∧ M (111 + s) f ≤ 1000000
def lbV (M : Nat → Nat → Int) (n s f : Nat) : Int := if s = 0 then 0 else loopN (lbS (fun k => M (101 + f) k + M (111 + (s - 2 ^ k)) k) s) n 0 1000000
theorem p2_bd : ∀ k : Nat, k < 8 → (1 * 2 ^ k : Int) ≤ 2147483647 := by decide +kernel
section C7
variable {l : Launch} {D : va_G} {cy : Nat → ClassId}
set_option maxRecDepth 100000 in
set_option maxHeartbeats 4000000 in
theorem jj_lb {M : Nat → Nat → Int} {Φ : Out → Mem → Prop} (d n s f : Nat) (hn : M 89 4 = (n : Int)) (hn8 : n ≤ 8) (hs : s < 256) (hf : f ≤ 8) (hw : wOK M) : ∀ (k j : Nat) (acc : Int) (w5 : Option AV), nk w5 → j + k = n → 0 ≤ acc → acc ≤ 1000000 → Φ (.inl (some (.inl (loopN (lbS (fun k => M (101 + f) k + M (111 + (s - 2 ^ k)) k) s) k j acc)))) (N0, R0, M) →
    J l D cy (GM l D cy 7 cX7_leastBehind 6 (d + 1) 0 0 false (some .int) Φ) 12 [some (.inr (.inr (some 89))), some (.inl (s : Int)), some (.inl (f : Int)), some (.inl acc), some (.inl (j : Int)), w5] [] (468, R0, M) 0 0 := by
  intro k
  induction k with
  | zero =>
    intro j acc w5 hw5 hj ha1 ha2 hΦ
    have h1 : ¬ (j : Int) < (n : Int) := by omega
    have r1 : -2147483648 ≤ (j : Int) ∧ (j : Int) ≤ 2147483647 := by omega
    have r2 : -2147483648 ≤ (n : Int) ∧ (n : Int) ≤ 2147483647 := by omega
    refine J_rnG GM_fa (by omega) (by omega) (by omega) 4 _ _ _ _ (fun K9v hK9 => ?_)
    simp (maxSteps := 4000000) only [↓(X_iload (pc' := 14) dX7_leastBehind_12 rfl), ↓gI_4, ↓(X_aload_n (k := 0) (pc' := 15) dX7_leastBehind_14 rfl rfl), ↓gR_0, ↓(X_getI (pc' := 18) fl_7_26 (by decide) dX7_leastBehind_15 rfl), kd_89, ↓(X_icmp_ge (tgt := 75) (pc' := 21) dX7_leastBehind_18 (by decide) rfl), rn_0, gV_s, ↓pI_c, ↓pII_c, ↓pL_c, ↓pLL_c, ↓pR_c, ↓pRI_c, ↓pRII_c, ↓pRIL_c, ↓pRR_c, ↓pV_c, ↓pVV_c, ↓gI_c, ↓gL_c, ↓gR_c, f2_0, f2_1, nk_n, nk_i, nk_r, ↓reduceIte, r32, r64, Nat.reduceAdd, Nat.reduceSub, Nat.reduceEqDiff, Nat.reduceLT, Nat.reduceLeDiff, Nat.reduceBEq, Int.reduceAdd, Int.reduceSub, Int.reduceMul, Int.reduceNeg, Int.reduceToNat, Int.reduceLE, Int.reduceLT, Int.reduceEq, Int.reduceNatCast', Int.reduceNatCast, Int.natCast_zero, Int.toNat_natCast, Int.toNat_zero, Int.toNat_one, List.length_cons, List.length_nil, true_and, and_true, and_self, true_or, or_true, false_or, or_false, Bool.not_true, Bool.not_false, Nat.lt_add_one, Nat.zero_lt_succ, N0, swL_n, swL_c, List.toList_toArray, false_implies, true_implies, implies_true, forall_const, not_false_eq_true, not_true_eq_false, and_false, false_and, hn, h1, r1, r2]
    simp only [hK9]
    clear hK9 K9v
    refine J_rnG GM_fa (by omega) (by omega) (by omega) 1 _ _ _ _ (fun K9v hK9 => ?_)
    simp (maxSteps := 4000000) only [↓(X_iload_n (k := 3) (pc' := 76) dX7_leastBehind_75 rfl rfl), ↓gI_3, rn_0, gV_s, ↓pI_c, ↓pII_c, ↓pL_c, ↓pLL_c, ↓pR_c, ↓pRI_c, ↓pRII_c, ↓pRIL_c, ↓pRR_c, ↓pV_c, ↓pVV_c, ↓gI_c, ↓gL_c, ↓gR_c, f2_0, f2_1, nk_n, nk_i, nk_r, ↓reduceIte, r32, r64, Nat.reduceAdd, Nat.reduceSub, Nat.reduceEqDiff, Nat.reduceLT, Nat.reduceLeDiff, Nat.reduceBEq, Int.reduceAdd, Int.reduceSub, Int.reduceMul, Int.reduceNeg, Int.reduceToNat, Int.reduceLE, Int.reduceLT, Int.reduceEq, Int.reduceNatCast', Int.reduceNatCast, Int.natCast_zero, Int.toNat_natCast, Int.toNat_zero, Int.toNat_one, List.length_cons, List.length_nil, true_and, and_true, and_self, true_or, or_true, false_or, or_false, Bool.not_true, Bool.not_false, Nat.lt_add_one, Nat.zero_lt_succ, N0, swL_n, swL_c, List.toList_toArray, false_implies, true_implies, implies_true, forall_const, not_false_eq_true, not_true_eq_false, and_false, false_and]
    simp only [hK9]
    clear hK9 K9v
    have r3 : -2147483648 ≤ acc ∧ acc ≤ 2147483647 := by omega
    refine J_iret dX7_leastBehind_76 rfl (by omega) (by omega) (hΦ)
  | succ k ih =>
    intro j acc w5 hw5 hj ha1 ha2 hΦ
    have h1 : (j : Int) < (n : Int) := by omega
    have r1 : -2147483648 ≤ (j : Int) ∧ (j : Int) ≤ 2147483647 := by omega
    have r2 : -2147483648 ≤ (n : Int) ∧ (n : Int) ≤ 2147483647 := by omega
    have r3 := p2_bd j (by omega)
    have r4 : 0 ≤ (j : Int) ∧ (j : Int) < 31 := by omega
    have r5 := bAnd_rg (s : Int) (1 * 2 ^ j)
    rw [loopN] at hΦ
    rcases hb : s.testBit j with _ | _
    · have e1 := bt_out s hs j (by omega) hb
      refine J_rnG GM_fa (by omega) (by omega) (by omega) 10 _ _ _ _ (fun K9v hK9 => ?_)
      simp (maxSteps := 4000000) only [↓(X_iload (pc' := 14) dX7_leastBehind_12 rfl), ↓gI_4, ↓(X_aload_n (k := 0) (pc' := 15) dX7_leastBehind_14 rfl rfl), ↓gR_0, ↓(X_getI (pc' := 18) fl_7_26 (by decide) dX7_leastBehind_15 rfl), kd_89, ↓(X_icmp_ge (tgt := 75) (pc' := 21) dX7_leastBehind_18 (by decide) rfl), ↓(X_iload_n (k := 1) (pc' := 22) dX7_leastBehind_21 rfl rfl), ↓gI_1, ↓(X_iconst (pc' := 23) dX7_leastBehind_22 rfl), ↓(X_iload (pc' := 25) dX7_leastBehind_23 rfl), ↓(X_ishl (pc' := 26) dX7_leastBehind_25 rfl), ↓(X_iand (pc' := 27) dX7_leastBehind_26 rfl), ↓(X_if_eq (tgt := 69) (pc' := 30) dX7_leastBehind_27 (by decide) rfl), rn_0, gV_s, ↓pI_c, ↓pII_c, ↓pL_c, ↓pLL_c, ↓pR_c, ↓pRI_c, ↓pRII_c, ↓pRIL_c, ↓pRR_c, ↓pV_c, ↓pVV_c, ↓gI_c, ↓gL_c, ↓gR_c, f2_0, f2_1, nk_n, nk_i, nk_r, ↓reduceIte, r32, r64, Nat.reduceAdd, Nat.reduceSub, Nat.reduceEqDiff, Nat.reduceLT, Nat.reduceLeDiff, Nat.reduceBEq, Int.reduceAdd, Int.reduceSub, Int.reduceMul, Int.reduceNeg, Int.reduceToNat, Int.reduceLE, Int.reduceLT, Int.reduceEq, Int.reduceNatCast', Int.reduceNatCast, Int.natCast_zero, Int.toNat_natCast, Int.toNat_zero, Int.toNat_one, List.length_cons, List.length_nil, true_and, and_true, and_self, true_or, or_true, false_or, or_false, Bool.not_true, Bool.not_false, Nat.lt_add_one, Nat.zero_lt_succ, N0, swL_n, swL_c, List.toList_toArray, false_implies, true_implies, implies_true, forall_const, not_false_eq_true, not_true_eq_false, and_false, false_and, hn, h1, r1, r2, r3, r4, r5, e1]
      simp only [hK9]
      clear hK9 K9v
      refine J_rnG GM_fa (by omega) (by omega) (by omega) 2 _ _ _ _ (fun K9v hK9 => ?_)
      simp (maxSteps := 4000000) only [↓(X_iinc (pc' := 72) dX7_leastBehind_69 rfl), ↓gI_4, ↓sto_4, ↓(X_goto (pc' := 12) dX7_leastBehind_72 (by decide)), rn_0, gV_s, ↓pI_c, ↓pII_c, ↓pL_c, ↓pLL_c, ↓pR_c, ↓pRI_c, ↓pRII_c, ↓pRIL_c, ↓pRR_c, ↓pV_c, ↓pVV_c, ↓gI_c, ↓gL_c, ↓gR_c, f2_0, f2_1, nk_n, nk_i, nk_r, ↓reduceIte, r32, r64, Nat.reduceAdd, Nat.reduceSub, Nat.reduceEqDiff, Nat.reduceLT, Nat.reduceLeDiff, Nat.reduceBEq, Int.reduceAdd, Int.reduceSub, Int.reduceMul, Int.reduceNeg, Int.reduceToNat, Int.reduceLE, Int.reduceLT, Int.reduceEq, Int.reduceNatCast', Int.reduceNatCast, Int.natCast_zero, Int.toNat_natCast, Int.toNat_zero, Int.toNat_one, List.length_cons, List.length_nil, true_and, and_true, and_self, true_or, or_true, false_or, or_false, Bool.not_true, Bool.not_false, Nat.lt_add_one, Nat.zero_lt_succ, N0, swL_n, swL_c, List.toList_toArray, false_implies, true_implies, implies_true, forall_const, not_false_eq_true, not_true_eq_false, and_false, false_and]
      simp only [hK9]
      clear hK9 K9v
      rw [show (j : Int) + 1 = ((j + 1 : Nat) : Int) by omega]
      refine ih (j + 1) acc w5 hw5 (by omega) ha1 ha2 ?_
      rw [lbS, if_neg (by rw [hb]; decide)] at hΦ
      exact hΦ
    · have e1 := bt_in s hs j (by omega) hb
      have e2 := (bt_rm s hs j (by omega) hb).1
      obtain ⟨-, e3, -⟩ := pop_step s hs j (by omega) hb
      obtain ⟨c1, c2, c3⟩ := wcost_at f (by omega)
      obtain ⟨l1, l2, l3⟩ := wleast_at (s - 2 ^ j) e3
      have b1 := hw.1 f hf j (by omega)
      have b2 := hw.2 (s - 2 ^ j) e3 j (by omega)
      have i1 : (0 : Int) ≤ (f : Int) ∧ (f : Int) < 9 := by omega
      have i2 : (0 : Int) ≤ ((s - 2 ^ j : Nat) : Int) ∧ ((s - 2 ^ j : Nat) : Int) < 256 := by omega
      have i3 : 101 + f < 468 := by omega
      have i4 : 111 + (s - 2 ^ j) < 468 := by omega
      have i5 : (j : Int) < 8 := by omega
      have i6 : (j : Int) < 9 := by omega
      have r6 : -2147483648 ≤ M (101 + f) j + M (111 + (s - 2 ^ j)) j ∧ M (101 + f) j + M (111 + (s - 2 ^ j)) j ≤ 2147483647 := by omega
      have r7 : -2147483648 ≤ acc ∧ acc ≤ 2147483647 := by omega
      refine J_rnG GM_fa (by omega) (by omega) (by omega) 20 _ _ _ _ (fun K9v hK9 => ?_)
      simp (maxSteps := 4000000) only [↓(X_iload (pc' := 14) dX7_leastBehind_12 rfl), ↓gI_4, ↓(X_aload_n (k := 0) (pc' := 15) dX7_leastBehind_14 rfl rfl), ↓gR_0, ↓(X_getI (pc' := 18) fl_7_26 (by decide) dX7_leastBehind_15 rfl), kd_89, ↓(X_icmp_ge (tgt := 75) (pc' := 21) dX7_leastBehind_18 (by decide) rfl), ↓(X_iload_n (k := 1) (pc' := 22) dX7_leastBehind_21 rfl rfl), ↓gI_1, ↓(X_iconst (pc' := 23) dX7_leastBehind_22 rfl), ↓(X_iload (pc' := 25) dX7_leastBehind_23 rfl), ↓(X_ishl (pc' := 26) dX7_leastBehind_25 rfl), ↓(X_iand (pc' := 27) dX7_leastBehind_26 rfl), ↓(X_if_eq (tgt := 69) (pc' := 30) dX7_leastBehind_27 (by decide) rfl), ↓(X_iload_n (k := 1) (pc' := 31) dX7_leastBehind_30 rfl rfl), ↓(X_iconst (pc' := 32) dX7_leastBehind_31 rfl), ↓(X_iload (pc' := 34) dX7_leastBehind_32 rfl), ↓(X_ishl (pc' := 35) dX7_leastBehind_34 rfl), ↓(X_iconst (pc' := 36) dX7_leastBehind_35 rfl), ↓(X_ixor (pc' := 37) dX7_leastBehind_36 rfl), ↓(X_iand (pc' := 38) dX7_leastBehind_37 rfl), ↓(X_sipush (pc' := 41) dX7_leastBehind_38 rfl), ↓(X_iand (pc' := 42) dX7_leastBehind_41 rfl), ↓(X_istore (pc' := 44) dX7_leastBehind_42 rfl), ↓sto_5, rn_0, gV_s, ↓pI_c, ↓pII_c, ↓pL_c, ↓pLL_c, ↓pR_c, ↓pRI_c, ↓pRII_c, ↓pRIL_c, ↓pRR_c, ↓pV_c, ↓pVV_c, ↓gI_c, ↓gL_c, ↓gR_c, f2_0, f2_1, nk_n, nk_i, nk_r, ↓reduceIte, r32, r64, Nat.reduceAdd, Nat.reduceSub, Nat.reduceEqDiff, Nat.reduceLT, Nat.reduceLeDiff, Nat.reduceBEq, Int.reduceAdd, Int.reduceSub, Int.reduceMul, Int.reduceNeg, Int.reduceToNat, Int.reduceLE, Int.reduceLT, Int.reduceEq, Int.reduceNatCast', Int.reduceNatCast, Int.natCast_zero, Int.toNat_natCast, Int.toNat_zero, Int.toNat_one, List.length_cons, List.length_nil, true_and, and_true, and_self, true_or, or_true, false_or, or_false, Bool.not_true, Bool.not_false, Nat.lt_add_one, Nat.zero_lt_succ, N0, swL_n, swL_c, List.toList_toArray, false_implies, true_implies, implies_true, forall_const, not_false_eq_true, not_true_eq_false, and_false, false_and, hn, h1, r1, r2, r3, r4, r5, e1, e2]
      simp only [hK9]
      clear hK9 K9v
      refine J_rnG GM_fa (by omega) (by omega) (by omega) 18 _ _ _ _ (fun K9v hK9 => ?_)
      simp (maxSteps := 4000000) only [↓(X_iload_n (k := 3) (pc' := 45) dX7_leastBehind_44 rfl rfl), ↓gI_3, ↓(X_aload_n (k := 0) (pc' := 46) dX7_leastBehind_45 rfl rfl), ↓gR_0, ↓(X_getR (pc' := 49) fl_7_20 dX7_leastBehind_46 rfl), kd_89, ↓(gV_c r0_89_2), kd_100, ln_100, ↓(X_iload_n (k := 2) (pc' := 50) dX7_leastBehind_49 rfl rfl), ↓gI_2, ↓(X_aaload (pc' := 51) dX7_leastBehind_50 rfl), ↓(X_iload (pc' := 53) dX7_leastBehind_51 rfl), ↓gI_4, ↓(X_iaload (pc' := 54) dX7_leastBehind_53 rfl), ↓(X_aload_n (k := 0) (pc' := 55) dX7_leastBehind_54 rfl rfl), ↓(X_getR (pc' := 58) fl_7_23 dX7_leastBehind_55 rfl), ↓(gV_c r0_89_3), kd_110, ln_110, ↓(X_iload (pc' := 60) dX7_leastBehind_58 rfl), ↓gI_5, ↓(X_aaload (pc' := 61) dX7_leastBehind_60 rfl), ↓(X_iload (pc' := 63) dX7_leastBehind_61 rfl), ↓(X_iaload (pc' := 64) dX7_leastBehind_63 rfl), ↓(X_iadd (pc' := 65) dX7_leastBehind_64 rfl), ↓(X_min (pc' := 68) jd_7_45 dX7_leastBehind_65 rfl), ↓(X_istore_n (k := 3) (pc' := 69) dX7_leastBehind_68 rfl rfl), ↓sto_3, ↓(X_iinc (pc' := 72) dX7_leastBehind_69 rfl), ↓sto_4, ↓(X_goto (pc' := 12) dX7_leastBehind_72 (by decide)), rn_0, gV_s, ↓pI_c, ↓pII_c, ↓pL_c, ↓pLL_c, ↓pR_c, ↓pRI_c, ↓pRII_c, ↓pRIL_c, ↓pRR_c, ↓pV_c, ↓pVV_c, ↓gI_c, ↓gL_c, ↓gR_c, f2_0, f2_1, nk_n, nk_i, nk_r, ↓reduceIte, r32, r64, Nat.reduceAdd, Nat.reduceSub, Nat.reduceEqDiff, Nat.reduceLT, Nat.reduceLeDiff, Nat.reduceBEq, Int.reduceAdd, Int.reduceSub, Int.reduceMul, Int.reduceNeg, Int.reduceToNat, Int.reduceLE, Int.reduceLT, Int.reduceEq, Int.reduceNatCast', Int.reduceNatCast, Int.natCast_zero, Int.toNat_natCast, Int.toNat_zero, Int.toNat_one, List.length_cons, List.length_nil, true_and, and_true, and_self, true_or, or_true, false_or, or_false, Bool.not_true, Bool.not_false, Nat.lt_add_one, Nat.zero_lt_succ, N0, swL_n, swL_c, List.toList_toArray, false_implies, true_implies, implies_true, forall_const, not_false_eq_true, not_true_eq_false, and_false, false_and, ↓(gV_c c3), ↓(gV_c l3), c1, c2, l1, l2, i1, i2, i3, i4, i5, i6, r4, r6, r7]
      simp only [hK9]
      clear hK9 K9v
      rw [show (j : Int) + 1 = ((j + 1 : Nat) : Int) by omega]
      rw [lbS, if_pos hb] at hΦ
      refine ih (j + 1) _ _ (nk_i.mpr trivial) (by omega) ?_ ?_ hΦ <;> split <;> omega
set_option maxRecDepth 100000 in
set_option maxHeartbeats 4000000 in
theorem ok_leastBehind {M : Nat → Nat → Int} (d n s f : Nat) (hn : M 89 4 = (n : Int)) (hn8 : n ≤ 8) (hs : s < 256) (hf : f ≤ 8) (hw : wOK M) : Ok l D cy (d + 1) 0 0 yX7_leastBehind cX7_leastBehind 6 (some (.int)) [.inr (.inr (some (89))), .inl ((s : Int)), .inl ((f : Int))] (N0, R0, M) (det (some (.inl (lbV M n s f))) (N0, R0, M)) := by
  refine Ok.intro (o := 7) (ini := false) [some (.inr (.inr (some (89)))), some (.inl ((s : Int))), some (.inl ((f : Int))), none, none, none] (by decide +kernel) rfl (fun h => by cases h) rfl (Nat.le_of_ble_eq_true rfl) rfl ?_
  rcases (show s = 0 ∨ ¬ s = 0 by omega) with q | q
  · subst q
    refine J_rnG GM_fa (by omega) (by omega) (by omega) 3 _ _ _ _ (fun K9v hK9 => ?_)
    simp (maxSteps := 4000000) only [↓(X_iload_n (k := 1) (pc' := 1) dX7_leastBehind_0 rfl rfl), ↓gI_1, ↓(X_if_ne (tgt := 6) (pc' := 4) dX7_leastBehind_1 (by decide) rfl), ↓(X_iconst (pc' := 5) dX7_leastBehind_4 rfl), rn_0, gV_s, ↓pI_c, ↓pII_c, ↓pL_c, ↓pLL_c, ↓pR_c, ↓pRI_c, ↓pRII_c, ↓pRIL_c, ↓pRR_c, ↓pV_c, ↓pVV_c, ↓gI_c, ↓gL_c, ↓gR_c, f2_0, f2_1, nk_n, nk_i, nk_r, ↓reduceIte, r32, r64, Nat.reduceAdd, Nat.reduceSub, Nat.reduceEqDiff, Nat.reduceLT, Nat.reduceLeDiff, Nat.reduceBEq, Int.reduceAdd, Int.reduceSub, Int.reduceMul, Int.reduceNeg, Int.reduceToNat, Int.reduceLE, Int.reduceLT, Int.reduceEq, Int.reduceNatCast', Int.reduceNatCast, Int.natCast_zero, Int.toNat_natCast, Int.toNat_zero, Int.toNat_one, List.length_cons, List.length_nil, true_and, and_true, and_self, true_or, or_true, false_or, or_false, Bool.not_true, Bool.not_false, Nat.lt_add_one, Nat.zero_lt_succ, N0, swL_n, swL_c, List.toList_toArray, false_implies, true_implies, implies_true, forall_const, not_false_eq_true, not_true_eq_false, and_false, false_and]
    simp only [hK9]
    clear hK9 K9v
    refine J_iret dX7_leastBehind_5 rfl (by omega) (by omega) (⟨rfl, rfl⟩)
  · have h1 : ¬ (s : Int) = 0 := by omega
    have r1 : -2147483648 ≤ (s : Int) ∧ (s : Int) ≤ 2147483647 := by omega
    refine J_rnG GM_fa (by omega) (by omega) (by omega) 2 _ _ _ _ (fun K9v hK9 => ?_)
    simp (maxSteps := 4000000) only [↓(X_iload_n (k := 1) (pc' := 1) dX7_leastBehind_0 rfl rfl), ↓gI_1, ↓(X_if_ne (tgt := 6) (pc' := 4) dX7_leastBehind_1 (by decide) rfl), rn_0, gV_s, ↓pI_c, ↓pII_c, ↓pL_c, ↓pLL_c, ↓pR_c, ↓pRI_c, ↓pRII_c, ↓pRIL_c, ↓pRR_c, ↓pV_c, ↓pVV_c, ↓gI_c, ↓gL_c, ↓gR_c, f2_0, f2_1, nk_n, nk_i, nk_r, ↓reduceIte, r32, r64, Nat.reduceAdd, Nat.reduceSub, Nat.reduceEqDiff, Nat.reduceLT, Nat.reduceLeDiff, Nat.reduceBEq, Int.reduceAdd, Int.reduceSub, Int.reduceMul, Int.reduceNeg, Int.reduceToNat, Int.reduceLE, Int.reduceLT, Int.reduceEq, Int.reduceNatCast', Int.reduceNatCast, Int.natCast_zero, Int.toNat_natCast, Int.toNat_zero, Int.toNat_one, List.length_cons, List.length_nil, true_and, and_true, and_self, true_or, or_true, false_or, or_false, Bool.not_true, Bool.not_false, Nat.lt_add_one, Nat.zero_lt_succ, N0, swL_n, swL_c, List.toList_toArray, false_implies, true_implies, implies_true, forall_const, not_false_eq_true, not_true_eq_false, and_false, false_and, h1, r1]
    simp only [hK9]
    clear hK9 K9v
    refine J_rnG GM_fa (by omega) (by omega) (by omega) 4 _ _ _ _ (fun K9v hK9 => ?_)
    simp (maxSteps := 4000000) only [↓(X_ldc (pc' := 8) cst_7_44 dX7_leastBehind_6 rfl), ↓(X_istore_n (k := 3) (pc' := 9) dX7_leastBehind_8 rfl rfl), ↓sto_3, ↓(X_iconst (pc' := 10) dX7_leastBehind_9 rfl), ↓(X_istore (pc' := 12) dX7_leastBehind_10 rfl), ↓sto_4, rn_0, gV_s, ↓pI_c, ↓pII_c, ↓pL_c, ↓pLL_c, ↓pR_c, ↓pRI_c, ↓pRII_c, ↓pRIL_c, ↓pRR_c, ↓pV_c, ↓pVV_c, ↓gI_c, ↓gL_c, ↓gR_c, f2_0, f2_1, nk_n, nk_i, nk_r, ↓reduceIte, r32, r64, Nat.reduceAdd, Nat.reduceSub, Nat.reduceEqDiff, Nat.reduceLT, Nat.reduceLeDiff, Nat.reduceBEq, Int.reduceAdd, Int.reduceSub, Int.reduceMul, Int.reduceNeg, Int.reduceToNat, Int.reduceLE, Int.reduceLT, Int.reduceEq, Int.reduceNatCast', Int.reduceNatCast, Int.natCast_zero, Int.toNat_natCast, Int.toNat_zero, Int.toNat_one, List.length_cons, List.length_nil, true_and, and_true, and_self, true_or, or_true, false_or, or_false, Bool.not_true, Bool.not_false, Nat.lt_add_one, Nat.zero_lt_succ, N0, swL_n, swL_c, List.toList_toArray, false_implies, true_implies, implies_true, forall_const, not_false_eq_true, not_true_eq_false, and_false, false_and]
    simp only [hK9]
    clear hK9 K9v
    exact jj_lb d n s f hn hn8 hs hf hw n 0 1000000 none (nk_n.mpr trivial) (by omega) (by omega) (by omega) ⟨by rw [lbV, if_neg q], rfl⟩
end C7
