/-! the model's taking out of an ink -/
section MB
variable {l : Launch} {D : va_G} {cy : Nat → ClassId}
set_option maxRecDepth 100000 in
set_option maxHeartbeats 4000000 in
theorem jj_tk1 {M : Nat → Nat → Int} {Φ : Out → Mem → Prop} (d best base : Nat) (z1 z2 z3 z4 : AV) (z5 : Int) (e8 : Option AV) (hb : best < 4) (hs : base < 4) (hr : ∀ b, b < 4 → -1 ≤ M 462 b ∧ M 462 b ≤ 2147483647) (h : J l D cy (GM l D cy 9 cX9_takes 9 (d + 2) 0 0 false none Φ) 95 [some (.inr (.inr (some 447))), some z1, some z2, some z3, some z4, some (.inl z5), some (.inl ((if M 462 best < M 462 base then base else best : Nat) : Int)), some (.inl ((base + 1 : Nat) : Int)), e8] [] (468, R0, M) 0 0) :
    J l D cy (GM l D cy 9 cX9_takes 9 (d + 2) 0 0 false none Φ) 95 [some (.inr (.inr (some 447))), some z1, some z2, some z3, some z4, some (.inl z5), some (.inl (best : Int)), some (.inl (base : Int)), e8] [] (468, R0, M) 0 0 := by
  have r1 := hr best hb
  have r2 := hr base hs
  have i1 : (best : Int) < 4 := by omega
  have i2 : (base : Int) < 4 := by omega
  have i3 : (0 : Int) ≤ (best : Int) := by omega
  have i4 : (0 : Int) ≤ (base : Int) := by omega
  have r5 : -2147483648 ≤ (base : Int) ∧ (base : Int) ≤ 2147483647 := by omega
  have r3 : -9223372036854775808 ≤ M 462 best ∧ M 462 best ≤ 9223372036854775807 := by omega
  have r4 : -9223372036854775808 ≤ M 462 base ∧ M 462 base ≤ 9223372036854775807 := by omega
  refine J_rnG GM_fa (by omega) (by omega) (by omega) 13 _ _ _ _ (fun K9v hK9 => ?_)
  simp (maxSteps := 4000000) only [↓(X_iload (pc' := 97) dX9_takes_95 rfl), ↓gI_7, ↓(X_iconst (pc' := 98) dX9_takes_97 rfl), ↓(X_icmp_ge (tgt := 134) (pc' := 101) dX9_takes_98 (by decide) rfl), ↓(X_aload_n (k := 0) (pc' := 102) dX9_takes_101 rfl rfl), ↓gR_0, ↓(X_getR (pc' := 105) fl_9_56 dX9_takes_102 rfl), kd_447, ↓(gV_c r0_447_20), kd_462, ln_462, ↓(X_iload (pc' := 107) dX9_takes_105 rfl), ↓(X_laload (pc' := 108) dX9_takes_107 rfl), ↓(X_aload_n (k := 0) (pc' := 109) dX9_takes_108 rfl rfl), ↓(X_getR (pc' := 112) fl_9_56 dX9_takes_109 rfl), ↓(X_iload (pc' := 114) dX9_takes_112 rfl), ↓gI_6, ↓(X_laload (pc' := 115) dX9_takes_114 rfl), ↓(X_lcmp (pc' := 116) dX9_takes_115 rfl), ↓(X_if_le (tgt := 124) (pc' := 119) dX9_takes_116 (by decide) rfl), rn_0, gV_s, ↓pI_c, ↓pII_c, ↓pL_c, ↓pLL_c, ↓pR_c, ↓pRI_c, ↓pRII_c, ↓pRIL_c, ↓pRR_c, ↓pV_c, ↓pVV_c, ↓gI_c, ↓gL_c, ↓gR_c, f2_0, f2_1, nk_n, nk_i, nk_r, ↓reduceIte, r32, r64, Nat.reduceAdd, Nat.reduceSub, Nat.reduceEqDiff, Nat.reduceLT, Nat.reduceLeDiff, Nat.reduceBEq, Int.reduceAdd, Int.reduceSub, Int.reduceMul, Int.reduceNeg, Int.reduceToNat, Int.reduceLE, Int.reduceLT, Int.reduceEq, Int.reduceNatCast', Int.reduceNatCast, Int.natCast_zero, Int.toNat_natCast, Int.toNat_zero, Int.toNat_one, List.length_cons, List.length_nil, true_and, and_true, and_self, true_or, or_true, false_or, or_false, Bool.not_true, Bool.not_false, Nat.lt_add_one, Nat.zero_lt_succ, N0, swL_n, swL_c, List.toList_toArray, false_implies, true_implies, implies_true, forall_const, not_false_eq_true, not_true_eq_false, and_false, false_and, i1, i2, i3, i4, r5, r3, r4, lc_pos, lc_lo, lc_hi]
  simp only [hK9]
  clear hK9 K9v
  split
  · rename_i q
    rw [if_pos q] at h
    refine J_rnG GM_fa (by omega) (by omega) (by omega) 5 _ _ _ _ (fun K9v hK9 => ?_)
    simp (maxSteps := 4000000) only [↓(X_iload (pc' := 121) dX9_takes_119 rfl), ↓gI_7, ↓(X_goto (pc' := 126) dX9_takes_121 (by decide)), ↓(X_istore (pc' := 128) dX9_takes_126 rfl), ↓sto_6, ↓(X_iinc (pc' := 131) dX9_takes_128 rfl), ↓sto_7, ↓(X_goto (pc' := 95) dX9_takes_131 (by decide)), rn_0, gV_s, ↓pI_c, ↓pII_c, ↓pL_c, ↓pLL_c, ↓pR_c, ↓pRI_c, ↓pRII_c, ↓pRIL_c, ↓pRR_c, ↓pV_c, ↓pVV_c, ↓gI_c, ↓gL_c, ↓gR_c, f2_0, f2_1, nk_n, nk_i, nk_r, ↓reduceIte, r32, r64, Nat.reduceAdd, Nat.reduceSub, Nat.reduceEqDiff, Nat.reduceLT, Nat.reduceLeDiff, Nat.reduceBEq, Int.reduceAdd, Int.reduceSub, Int.reduceMul, Int.reduceNeg, Int.reduceToNat, Int.reduceLE, Int.reduceLT, Int.reduceEq, Int.reduceNatCast', Int.reduceNatCast, Int.natCast_zero, Int.toNat_natCast, Int.toNat_zero, Int.toNat_one, List.length_cons, List.length_nil, true_and, and_true, and_self, true_or, or_true, false_or, or_false, Bool.not_true, Bool.not_false, Nat.lt_add_one, Nat.zero_lt_succ, N0, swL_n, swL_c, List.toList_toArray, false_implies, true_implies, implies_true, forall_const, not_false_eq_true, not_true_eq_false, and_false, false_and]
    simp only [hK9]
    clear hK9 K9v
    rw [show (base : Int) + 1 = ((base + 1 : Nat) : Int) by omega]
    exact h
  · rename_i q
    rw [if_neg q] at h
    refine J_rnG GM_fa (by omega) (by omega) (by omega) 4 _ _ _ _ (fun K9v hK9 => ?_)
    simp (maxSteps := 4000000) only [↓(X_iload (pc' := 126) dX9_takes_124 rfl), ↓gI_6, ↓(X_istore (pc' := 128) dX9_takes_126 rfl), ↓sto_6, ↓(X_iinc (pc' := 131) dX9_takes_128 rfl), ↓gI_7, ↓sto_7, ↓(X_goto (pc' := 95) dX9_takes_131 (by decide)), rn_0, gV_s, ↓pI_c, ↓pII_c, ↓pL_c, ↓pLL_c, ↓pR_c, ↓pRI_c, ↓pRII_c, ↓pRIL_c, ↓pRR_c, ↓pV_c, ↓pVV_c, ↓gI_c, ↓gL_c, ↓gR_c, f2_0, f2_1, nk_n, nk_i, nk_r, ↓reduceIte, r32, r64, Nat.reduceAdd, Nat.reduceSub, Nat.reduceEqDiff, Nat.reduceLT, Nat.reduceLeDiff, Nat.reduceBEq, Int.reduceAdd, Int.reduceSub, Int.reduceMul, Int.reduceNeg, Int.reduceToNat, Int.reduceLE, Int.reduceLT, Int.reduceEq, Int.reduceNatCast', Int.reduceNatCast, Int.natCast_zero, Int.toNat_natCast, Int.toNat_zero, Int.toNat_one, List.length_cons, List.length_nil, true_and, and_true, and_self, true_or, or_true, false_or, or_false, Bool.not_true, Bool.not_false, Nat.lt_add_one, Nat.zero_lt_succ, N0, swL_n, swL_c, List.toList_toArray, false_implies, true_implies, implies_true, forall_const, not_false_eq_true, not_true_eq_false, and_false, false_and]
    simp only [hK9]
    clear hK9 K9v
    rw [show (base : Int) + 1 = ((base + 1 : Nat) : Int) by omega]
    exact h
set_option maxRecDepth 100000 in
set_option maxHeartbeats 4000000 in
theorem jj_tk2 {Φ : Out → Mem → Prop} (d : Nat) (z1 z2 z3 : AV) (z4 : Int) : ∀ (k : Nat) (M : Nat → Nat → Int) (e6 e7 e8 : Option AV), k ≤ 4 → (∀ b, b < 4 → -1 ≤ M 462 b ∧ M 462 b ≤ 2147483647) → (∀ M2 : Nat → Nat → Int, M2 461 = (agK k (M 461, M 462)).1 → (∀ x, x ≠ 461 → x ≠ 462 → M2 x = M x) → Φ (.inl none) (N0, R0, M2)) →
    J l D cy (GM l D cy 9 cX9_takes 9 (d + 2) 0 0 false none Φ) 84 [some (.inr (.inr (some 447))), some z1, some z2, some z3, some (.inl z4), some (.inl (k : Int)), e6, e7, e8] [] (468, R0, M) 0 0 := by
  intro k
  induction k with
  | zero =>
    intro M e6 e7 e8 h4 hr hΦ
    refine J_rnG GM_fa (by omega) (by omega) (by omega) 2 _ _ _ _ (fun K9v hK9 => ?_)
    simp (maxSteps := 4000000) only [↓(X_iload (pc' := 86) dX9_takes_84 rfl), ↓gI_5, ↓(X_if_le (tgt := 161) (pc' := 89) dX9_takes_86 (by decide) rfl), rn_0, gV_s, ↓pI_c, ↓pII_c, ↓pL_c, ↓pLL_c, ↓pR_c, ↓pRI_c, ↓pRII_c, ↓pRIL_c, ↓pRR_c, ↓pV_c, ↓pVV_c, ↓gI_c, ↓gL_c, ↓gR_c, f2_0, f2_1, nk_n, nk_i, nk_r, ↓reduceIte, r32, r64, Nat.reduceAdd, Nat.reduceSub, Nat.reduceEqDiff, Nat.reduceLT, Nat.reduceLeDiff, Nat.reduceBEq, Int.reduceAdd, Int.reduceSub, Int.reduceMul, Int.reduceNeg, Int.reduceToNat, Int.reduceLE, Int.reduceLT, Int.reduceEq, Int.reduceNatCast', Int.reduceNatCast, Int.natCast_zero, Int.toNat_natCast, Int.toNat_zero, Int.toNat_one, List.length_cons, List.length_nil, true_and, and_true, and_self, true_or, or_true, false_or, or_false, Bool.not_true, Bool.not_false, Nat.lt_add_one, Nat.zero_lt_succ, N0, swL_n, swL_c, List.toList_toArray, false_implies, true_implies, implies_true, forall_const, not_false_eq_true, not_true_eq_false, and_false, false_and]
    simp only [hK9]
    clear hK9 K9v
    refine J_vret dX9_takes_161 rfl (by omega) (by omega) (hΦ M rfl (fun _ _ _ => rfl))
  | succ k ih =>
    intro M e6 e7 e8 h4 hr hΦ
    have h5 : (0 : Int) < ((k + 1 : Nat) : Int) := by omega
    have h6 : -2147483648 ≤ ((k + 1 : Nat) : Int) ∧ ((k + 1 : Nat) : Int) ≤ 2147483647 := by omega
    refine J_rnG GM_fa (by omega) (by omega) (by omega) 2 _ _ _ _ (fun K9v hK9 => ?_)
    simp (maxSteps := 4000000) only [↓(X_iload (pc' := 86) dX9_takes_84 rfl), ↓gI_5, ↓(X_if_le (tgt := 161) (pc' := 89) dX9_takes_86 (by decide) rfl), rn_0, gV_s, ↓pI_c, ↓pII_c, ↓pL_c, ↓pLL_c, ↓pR_c, ↓pRI_c, ↓pRII_c, ↓pRIL_c, ↓pRR_c, ↓pV_c, ↓pVV_c, ↓gI_c, ↓gL_c, ↓gR_c, f2_0, f2_1, nk_n, nk_i, nk_r, ↓reduceIte, r32, r64, Nat.reduceAdd, Nat.reduceSub, Nat.reduceEqDiff, Nat.reduceLT, Nat.reduceLeDiff, Nat.reduceBEq, Int.reduceAdd, Int.reduceSub, Int.reduceMul, Int.reduceNeg, Int.reduceToNat, Int.reduceLE, Int.reduceLT, Int.reduceEq, Int.reduceNatCast', Int.reduceNatCast, Int.natCast_zero, Int.toNat_natCast, Int.toNat_zero, Int.toNat_one, List.length_cons, List.length_nil, true_and, and_true, and_self, true_or, or_true, false_or, or_false, Bool.not_true, Bool.not_false, Nat.lt_add_one, Nat.zero_lt_succ, N0, swL_n, swL_c, List.toList_toArray, false_implies, true_implies, implies_true, forall_const, not_false_eq_true, not_true_eq_false, and_false, false_and, h5, h6]
    simp only [hK9]
    clear hK9 K9v
    refine J_rnG GM_fa (by omega) (by omega) (by omega) 4 _ _ _ _ (fun K9v hK9 => ?_)
    simp (maxSteps := 4000000) only [↓(X_iconst (pc' := 90) dX9_takes_89 rfl), ↓(X_istore (pc' := 92) dX9_takes_90 rfl), ↓sto_6, ↓(X_iconst (pc' := 93) dX9_takes_92 rfl), ↓(X_istore (pc' := 95) dX9_takes_93 rfl), ↓sto_7, rn_0, gV_s, ↓pI_c, ↓pII_c, ↓pL_c, ↓pLL_c, ↓pR_c, ↓pRI_c, ↓pRII_c, ↓pRIL_c, ↓pRR_c, ↓pV_c, ↓pVV_c, ↓gI_c, ↓gL_c, ↓gR_c, f2_0, f2_1, nk_n, nk_i, nk_r, ↓reduceIte, r32, r64, Nat.reduceAdd, Nat.reduceSub, Nat.reduceEqDiff, Nat.reduceLT, Nat.reduceLeDiff, Nat.reduceBEq, Int.reduceAdd, Int.reduceSub, Int.reduceMul, Int.reduceNeg, Int.reduceToNat, Int.reduceLE, Int.reduceLT, Int.reduceEq, Int.reduceNatCast', Int.reduceNatCast, Int.natCast_zero, Int.toNat_natCast, Int.toNat_zero, Int.toNat_one, List.length_cons, List.length_nil, true_and, and_true, and_self, true_or, or_true, false_or, or_false, Bool.not_true, Bool.not_false, Nat.lt_add_one, Nat.zero_lt_succ, N0, swL_n, swL_c, List.toList_toArray, false_implies, true_implies, implies_true, forall_const, not_false_eq_true, not_true_eq_false, and_false, false_and]
    simp only [hK9]
    clear hK9 K9v
    refine jj_tk1 d 0 1 _ _ _ _ _ _ (by omega) (by omega) hr ?_
    refine jj_tk1 d (gt4a (M 462)) 2 _ _ _ _ _ _ (by unfold gt4a; split <;> omega) (by omega) hr ?_
    refine jj_tk1 d (gt4b (M 462)) 3 _ _ _ _ _ _ (by unfold gt4b gt4a; split <;> (try split) <;> omega) (by omega) hr ?_
    have e4 : (if M 462 (gt4b (M 462)) < M 462 3 then 3 else gt4b (M 462)) = gt4 (M 462) := rfl
    rw [e4]
    have hg4 := gt4_lt (M 462)
    generalize hgg : gt4 (M 462) = gg at hg4
    have i1 : (gg : Int) < 4 := by omega
    have i3 : (0 : Int) ≤ (gg : Int) := by omega
    refine J_rnG GM_fa (by omega) (by omega) (by omega) 3 _ _ _ _ (fun K9v hK9 => ?_)
    simp (maxSteps := 4000000) only [↓(X_iload (pc' := 97) dX9_takes_95 rfl), ↓gI_7, ↓(X_iconst (pc' := 98) dX9_takes_97 rfl), ↓(X_icmp_ge (tgt := 134) (pc' := 101) dX9_takes_98 (by decide) rfl), rn_0, gV_s, ↓pI_c, ↓pII_c, ↓pL_c, ↓pLL_c, ↓pR_c, ↓pRI_c, ↓pRII_c, ↓pRIL_c, ↓pRR_c, ↓pV_c, ↓pVV_c, ↓gI_c, ↓gL_c, ↓gR_c, f2_0, f2_1, nk_n, nk_i, nk_r, ↓reduceIte, r32, r64, Nat.reduceAdd, Nat.reduceSub, Nat.reduceEqDiff, Nat.reduceLT, Nat.reduceLeDiff, Nat.reduceBEq, Int.reduceAdd, Int.reduceSub, Int.reduceMul, Int.reduceNeg, Int.reduceToNat, Int.reduceLE, Int.reduceLT, Int.reduceEq, Int.reduceNatCast', Int.reduceNatCast, Int.natCast_zero, Int.toNat_natCast, Int.toNat_zero, Int.toNat_one, List.length_cons, List.length_nil, true_and, and_true, and_self, true_or, or_true, false_or, or_false, Bool.not_true, Bool.not_false, Nat.lt_add_one, Nat.zero_lt_succ, N0, swL_n, swL_c, List.toList_toArray, false_implies, true_implies, implies_true, forall_const, not_false_eq_true, not_true_eq_false, and_false, false_and]
    simp only [hK9]
    clear hK9 K9v
    refine J_rnG GM_fa (by omega) (by omega) (by omega) 15 _ _ _ _ (fun K9v hK9 => ?_)
    simp (maxSteps := 4000000) only [↓(X_aload_n (k := 0) (pc' := 135) dX9_takes_134 rfl rfl), ↓gR_0, ↓(X_getR (pc' := 138) fl_9_53 dX9_takes_135 rfl), kd_447, ↓(gV_c r0_447_19), kd_461, ln_461, ↓(X_iload (pc' := 140) dX9_takes_138 rfl), ↓gI_6, ↓(X_dup2 (pc' := 141) dX9_takes_140 rfl), ↓(X_iaload (pc' := 142) dX9_takes_141 rfl), ↓(X_iconst (pc' := 143) dX9_takes_142 rfl), ↓(X_iadd (pc' := 144) dX9_takes_143 rfl), ↓(X_iastore (pc' := 145) dX9_takes_144 rfl), ↓(X_aload_n (k := 0) (pc' := 146) dX9_takes_145 rfl rfl), ↓(X_getR (pc' := 149) fl_9_56 dX9_takes_146 rfl), ↓(gV_c r0_447_20), kd_462, ln_462, ↓(X_iload (pc' := 151) dX9_takes_149 rfl), ↓(X_ldc2_w (pc' := 154) csl_9_88 dX9_takes_151 rfl), ↓(X_lastore (pc' := 155) dX9_takes_154 rfl), ↓(X_iinc (pc' := 158) dX9_takes_155 rfl), ↓gI_5, ↓sto_5, ↓(X_goto (pc' := 84) dX9_takes_158 (by decide)), rn_0, gV_s, ↓pI_c, ↓pII_c, ↓pL_c, ↓pLL_c, ↓pR_c, ↓pRI_c, ↓pRII_c, ↓pRIL_c, ↓pRR_c, ↓pV_c, ↓pVV_c, ↓gI_c, ↓gL_c, ↓gR_c, f2_0, f2_1, nk_n, nk_i, nk_r, ↓reduceIte, r32, r64, Nat.reduceAdd, Nat.reduceSub, Nat.reduceEqDiff, Nat.reduceLT, Nat.reduceLeDiff, Nat.reduceBEq, Int.reduceAdd, Int.reduceSub, Int.reduceMul, Int.reduceNeg, Int.reduceToNat, Int.reduceLE, Int.reduceLT, Int.reduceEq, Int.reduceNatCast', Int.reduceNatCast, Int.natCast_zero, Int.toNat_natCast, Int.toNat_zero, Int.toNat_one, List.length_cons, List.length_nil, true_and, and_true, and_self, true_or, or_true, false_or, or_false, Bool.not_true, Bool.not_false, Nat.lt_add_one, Nat.zero_lt_succ, N0, swL_n, swL_c, List.toList_toArray, false_implies, true_implies, implies_true, forall_const, not_false_eq_true, not_true_eq_false, and_false, false_and, i1, i3, up2_s, up2_c (show (462 : Nat) ≠ 461 by decide)]
    simp only [hK9]
    clear hK9 K9v
    rw [show ((k + 1 : Nat) : Int) + -1 = (k : Int) by omega]
    refine ih _ _ _ _ (by omega) (fun b hb => ?_) (fun M2 h1 h2 => ?_)
    · have := hr b hb
      simp only [up2]
      split <;> (try split) <;> omega
    · refine hΦ M2 ?_ (fun x hx1 hx2 => ?_)
      · rw [h1]
        have e2 : ∀ M' : Nat → Nat → Int, M' = up2 (up2 M 461 gg (M 461 gg + 1)) 462 gg (-1) → (M' 461, M' 462) = ag1 (M 461, M 462) := by
          intro M' hM'
          subst hM'
          simp only [ag1, Prod.mk.injEq, hgg]
          constructor
          · funext b
            simp only [up2]
            by_cases hb : b = gg
            · subst hb; simp
            · simp [hb]
          · funext b
            simp only [up2]
            by_cases hb : b = gg
            · subst hb; simp
            · simp [hb]
        show (agK k _).1 = (agK k (ag1 _)).1
        rw [← e2 _ rfl]
      · rw [h2 x hx1 hx2]
        funext b
        simp only [up2]
        rw [if_neg (fun q => hx2 q.1), if_neg (fun q => hx1 q.1)]
set_option maxRecDepth 100000 in
set_option maxHeartbeats 4000000 in
theorem om_takes {M : Nat → Nat → Int} (d c f : Nat) (g : Int) (kc : kd c = 10) (hc : c < 468) (hf : f + 3 < ln c) (hl : ln c ≤ 5000) (hc1 : c ≠ 461) (hc2 : c ≠ 462) (hm : ink4 (fun b => M c (f + b))) (hg : 0 ≤ g ∧ g ≤ 500) : Ok l D cy (d + 2) 0 0 yX9_takes cX9_takes 9 (none) [.inr (.inr (some (447))), .inr (.inr (some (c))), .inl ((f : Int)), .inl (g)] (N0, R0, M) (fun o ν => o = .inl none ∧ ∃ M2 : Nat → Nat → Int, ν = (N0, R0, M2) ∧ (∀ x, x ≠ 461 → x ≠ 462 → M2 x = M x) ∧ ∀ b, b < 4 → M2 461 b = takeF (fun b => M c (f + b)) (g * 1000) b) := by
  refine Ok.intro (o := 9) (ini := false) [some (.inr (.inr (some (447)))), some (.inr (.inr (some (c)))), some (.inl ((f : Int))), some (.inl (g)), none, none, none, none, none] (by decide +kernel) rfl (fun h => by cases h) rfl (Nat.le_of_ble_eq_true rfl) rfl ?_
  obtain ⟨⟨m0, m0'⟩, ⟨m1, m1'⟩, ⟨m2, m2'⟩, ⟨m3, m3'⟩, hw⟩ := id hm
  dsimp only at m0 m0' m1 m1' m2 m2' m3 m3'
  have hG : 0 ≤ g * 1000 ∧ g * 1000 ≤ 500000 := by omega
  refine J_rnG GM_fa (by omega) (by omega) (by omega) 2 _ _ _ _ (fun K9v hK9 => ?_)
  simp (maxSteps := 4000000) only [↓(X_aload_n (k := 1) (pc' := 1) dX9_takes_0 rfl rfl), ↓gR_1, ↓(X_iload_n (k := 2) (pc' := 2) dX9_takes_1 rfl rfl), ↓gI_2, rn_0, gV_s, ↓pI_c, ↓pII_c, ↓pL_c, ↓pLL_c, ↓pR_c, ↓pRI_c, ↓pRII_c, ↓pRIL_c, ↓pRR_c, ↓pV_c, ↓pVV_c, ↓gI_c, ↓gL_c, ↓gR_c, f2_0, f2_1, nk_n, nk_i, nk_r, ↓reduceIte, r32, r64, Nat.reduceAdd, Nat.reduceSub, Nat.reduceEqDiff, Nat.reduceLT, Nat.reduceLeDiff, Nat.reduceBEq, Int.reduceAdd, Int.reduceSub, Int.reduceMul, Int.reduceNeg, Int.reduceToNat, Int.reduceLE, Int.reduceLT, Int.reduceEq, Int.reduceNatCast', Int.reduceNatCast, Int.natCast_zero, Int.toNat_natCast, Int.toNat_zero, Int.toNat_one, List.length_cons, List.length_nil, true_and, and_true, and_self, true_or, or_true, false_or, or_false, Bool.not_true, Bool.not_false, Nat.lt_add_one, Nat.zero_lt_succ, N0, swL_n, swL_c, List.toList_toArray, false_implies, true_implies, implies_true, forall_const, not_false_eq_true, not_true_eq_false, and_false, false_and]
  simp only [hK9]
  clear hK9 K9v
  refine J_callSd GM_fa (om_all (M := M) (d + 0) c f kc hc hf hl) dX9_takes_2 k_9_82 (by omega) (Nat.le_of_ble_eq_true rfl) ⟨by omega, by omega⟩ rfl (by simp) rfl rfl ?_
  simp only [Option.toList, List.cons_append, List.nil_append]
  obtain ⟨w, hwd⟩ : ∃ w, w = wt (fun b => M c (f + b)) := ⟨_, rfl⟩
  have hw0 : 0 < w := by rw [hwd]; exact hw
  have hwe : M c f + M c (f + 1) + M c (f + 2) + M c (f + 3) = w := by rw [hwd]; rfl
  rw [← hwd]
  obtain ⟨G, hGd⟩ : ∃ G, G = g * 1000 := ⟨_, rfl⟩
  rw [← hGd] at hG
  have hGe : 1000 * g = G := by omega
  have e1 : (f : Int) + 1 = ((f + 1 : Nat) : Int) := by omega
  have e2 : (f : Int) + 2 = ((f + 2 : Nat) : Int) := by omega
  have e3 : (f : Int) + 3 = ((f + 3 : Nat) : Int) := by omega
  have i0 : (0 : Int) ≤ (f : Int) ∧ (f : Int) < (ln c : Int) := by omega
  have i1 : (0 : Int) ≤ ((f + 1 : Nat) : Int) ∧ ((f + 1 : Nat) : Int) < (ln c : Int) := by omega
  have i2 : (0 : Int) ≤ ((f + 2 : Nat) : Int) ∧ ((f + 2 : Nat) : Int) < (ln c : Int) := by omega
  have i3 : (0 : Int) ≤ ((f + 3 : Nat) : Int) ∧ ((f + 3 : Nat) : Int) < (ln c : Int) := by omega
  simp only [Nat.add_zero] at m0 m0'
  have rw_ : -2147483648 ≤ w ∧ w ≤ 2147483647 := by omega
  have rwl : 0 < w ∧ w ≤ 9223372036854775807 := by omega
  have rg : -2147483648 ≤ g ∧ g ≤ 2147483647 := by omega
  have r0 : -2147483648 ≤ M c f ∧ M c f ≤ 2147483647 := by omega
  have r1 : -2147483648 ≤ M c (f + 1) ∧ M c (f + 1) ≤ 2147483647 := by omega
  have r2 : -2147483648 ≤ M c (f + 2) ∧ M c (f + 2) ≤ 2147483647 := by omega
  have r3 : -2147483648 ≤ M c (f + 3) ∧ M c (f + 3) ≤ 2147483647 := by omega
  have p0 : 0 ≤ M c f * G ∧ M c f * G ≤ 9223372036854775807 := by have := mul_bd m0 m0' hG.1 hG.2; omega
  have p1 : 0 ≤ M c (f + 1) * G ∧ M c (f + 1) * G ≤ 9223372036854775807 := by have := mul_bd m1 m1' hG.1 hG.2; omega
  have p2 : 0 ≤ M c (f + 2) * G ∧ M c (f + 2) * G ≤ 9223372036854775807 := by have := mul_bd m2 m2' hG.1 hG.2; omega
  have p3 : 0 ≤ M c (f + 3) * G ∧ M c (f + 3) * G ≤ 9223372036854775807 := by have := mul_bd m3 m3' hG.1 hG.2; omega
  refine J_rnG GM_fa (by omega) (by omega) (by omega) 7 _ _ _ _ (fun K9v hK9 => ?_)
  simp (maxSteps := 4000000) only [↓(X_istore (pc' := 7) dX9_takes_5 rfl), ↓sto_4, ↓(X_sipush (pc' := 10) dX9_takes_7 rfl), ↓(X_iload_n (k := 3) (pc' := 11) dX9_takes_10 rfl rfl), ↓gI_3, ↓(X_imul (pc' := 12) dX9_takes_11 rfl), ↓(X_istore (pc' := 14) dX9_takes_12 rfl), ↓sto_5, ↓(X_iconst (pc' := 15) dX9_takes_14 rfl), ↓(X_istore (pc' := 17) dX9_takes_15 rfl), ↓sto_6, rn_0, gV_s, ↓pI_c, ↓pII_c, ↓pL_c, ↓pLL_c, ↓pR_c, ↓pRI_c, ↓pRII_c, ↓pRIL_c, ↓pRR_c, ↓pV_c, ↓pVV_c, ↓gI_c, ↓gL_c, ↓gR_c, f2_0, f2_1, nk_n, nk_i, nk_r, ↓reduceIte, r32, r64, Nat.reduceAdd, Nat.reduceSub, Nat.reduceEqDiff, Nat.reduceLT, Nat.reduceLeDiff, Nat.reduceBEq, Int.reduceAdd, Int.reduceSub, Int.reduceMul, Int.reduceNeg, Int.reduceToNat, Int.reduceLE, Int.reduceLT, Int.reduceEq, Int.reduceNatCast', Int.reduceNatCast, Int.natCast_zero, Int.toNat_natCast, Int.toNat_zero, Int.toNat_one, List.length_cons, List.length_nil, true_and, and_true, and_self, true_or, or_true, false_or, or_false, Bool.not_true, Bool.not_false, Nat.lt_add_one, Nat.zero_lt_succ, N0, swL_n, swL_c, List.toList_toArray, false_implies, true_implies, implies_true, forall_const, not_false_eq_true, not_true_eq_false, and_false, false_and, hGe]
  simp only [hK9]
  clear hK9 K9v
  refine J_rnG GM_fa (by omega) (by omega) (by omega) 167 _ _ _ _ (fun K9v hK9 => ?_)
  simp (maxSteps := 4000000) only [↓(X_aload_n (k := 1) (pc' := 1) dX9_takes_0 rfl rfl), ↓gR_1, ↓(X_iload_n (k := 2) (pc' := 2) dX9_takes_1 rfl rfl), ↓gI_2, ↓(X_invokestatic (rfl : jd 9 82 = none) dX9_takes_2), ↓(X_istore (pc' := 7) dX9_takes_5 rfl), ↓sto_4, ↓(X_sipush (pc' := 10) dX9_takes_7 rfl), ↓(X_iload_n (k := 3) (pc' := 11) dX9_takes_10 rfl rfl), ↓gI_3, ↓(X_imul (pc' := 12) dX9_takes_11 rfl), ↓(X_istore (pc' := 14) dX9_takes_12 rfl), ↓sto_5, ↓(X_iconst (pc' := 15) dX9_takes_14 rfl), ↓(X_istore (pc' := 17) dX9_takes_15 rfl), ↓sto_6, ↓(X_iload (pc' := 19) dX9_takes_17 rfl), ↓gI_6, ↓(X_iconst (pc' := 20) dX9_takes_19 rfl), ↓(X_icmp_ge (tgt := 84) (pc' := 23) dX9_takes_20 (by decide) rfl), ↓(X_aload_n (k := 1) (pc' := 24) dX9_takes_23 rfl rfl), ↓(X_iload_n (k := 2) (pc' := 25) dX9_takes_24 rfl rfl), ↓(X_iload (pc' := 27) dX9_takes_25 rfl), ↓(X_iadd (pc' := 28) dX9_takes_27 rfl), ↓(X_iaload (pc' := 29) dX9_takes_28 rfl), ↓(X_i2l (pc' := 30) dX9_takes_29 rfl), ↓(X_ldc2_w (pc' := 33) csl_9_86 dX9_takes_30 rfl), ↓(X_iload_n (k := 3) (pc' := 34) dX9_takes_33 rfl rfl), ↓(X_i2l (pc' := 35) dX9_takes_34 rfl), ↓(X_lmul (pc' := 36) dX9_takes_35 rfl), ↓(X_lmul (pc' := 37) dX9_takes_36 rfl), ↓(X_lstore (pc' := 39) dX9_takes_37 rfl), ↓sto2_7, ↓(X_aload_n (k := 0) (pc' := 40) dX9_takes_39 rfl rfl), ↓gR_0, ↓(X_getR (pc' := 43) fl_9_53 dX9_takes_40 rfl), kd_447, ↓(gV_c r0_447_19), kd_461, ln_461, ↓(X_iload (pc' := 45) dX9_takes_43 rfl), ↓(X_lload (pc' := 47) dX9_takes_45 rfl), ↓gL_7, ↓(X_iload (pc' := 49) dX9_takes_47 rfl), ↓gI_4, ↓(X_i2l (pc' := 50) dX9_takes_49 rfl), ↓(X_ldiv (pc' := 51) dX9_takes_50 rfl), ↓(X_l2i (pc' := 52) dX9_takes_51 rfl), ↓(X_iastore (pc' := 53) dX9_takes_52 rfl), ↓(X_aload_n (k := 0) (pc' := 54) dX9_takes_53 rfl rfl), ↓(X_getR (pc' := 57) fl_9_56 dX9_takes_54 rfl), ↓(gV_c r0_447_20), kd_462, ln_462, ↓(X_iload (pc' := 59) dX9_takes_57 rfl), ↓(X_lload (pc' := 61) dX9_takes_59 rfl), ↓(X_iload (pc' := 63) dX9_takes_61 rfl), ↓(X_i2l (pc' := 64) dX9_takes_63 rfl), ↓(X_lrem (pc' := 65) dX9_takes_64 rfl), ↓(X_lastore (pc' := 66) dX9_takes_65 rfl), ↓(X_iload (pc' := 68) dX9_takes_66 rfl), ↓gI_5, ↓(X_aload_n (k := 0) (pc' := 69) dX9_takes_68 rfl rfl), ↓(X_getR (pc' := 72) fl_9_53 dX9_takes_69 rfl), ↓(X_iload (pc' := 74) dX9_takes_72 rfl), ↓(X_iaload (pc' := 75) dX9_takes_74 rfl), ↓(X_isub (pc' := 76) dX9_takes_75 rfl), ↓(X_istore (pc' := 78) dX9_takes_76 rfl), ↓(X_iinc (pc' := 81) dX9_takes_78 rfl), ↓(X_goto (pc' := 17) dX9_takes_81 (by decide)), ↓(X_iload (pc' := 86) dX9_takes_84 rfl), ↓(X_if_le (tgt := 161) (pc' := 89) dX9_takes_86 (by decide) rfl), ↓(X_iconst (pc' := 90) dX9_takes_89 rfl), ↓(X_istore (pc' := 92) dX9_takes_90 rfl), ↓(X_iconst (pc' := 93) dX9_takes_92 rfl), ↓(X_istore (pc' := 95) dX9_takes_93 rfl), ↓sto_7, ↓(X_iload (pc' := 97) dX9_takes_95 rfl), ↓gI_7, ↓(X_iconst (pc' := 98) dX9_takes_97 rfl), ↓(X_icmp_ge (tgt := 134) (pc' := 101) dX9_takes_98 (by decide) rfl), ↓(X_aload_n (k := 0) (pc' := 102) dX9_takes_101 rfl rfl), ↓(X_getR (pc' := 105) fl_9_56 dX9_takes_102 rfl), ↓(X_iload (pc' := 107) dX9_takes_105 rfl), ↓(X_laload (pc' := 108) dX9_takes_107 rfl), ↓(X_aload_n (k := 0) (pc' := 109) dX9_takes_108 rfl rfl), ↓(X_getR (pc' := 112) fl_9_56 dX9_takes_109 rfl), ↓(X_iload (pc' := 114) dX9_takes_112 rfl), ↓(X_laload (pc' := 115) dX9_takes_114 rfl), ↓(X_lcmp (pc' := 116) dX9_takes_115 rfl), ↓(X_if_le (tgt := 124) (pc' := 119) dX9_takes_116 (by decide) rfl), ↓(X_iload (pc' := 121) dX9_takes_119 rfl), ↓(X_goto (pc' := 126) dX9_takes_121 (by decide)), ↓(X_iload (pc' := 126) dX9_takes_124 rfl), ↓(X_istore (pc' := 128) dX9_takes_126 rfl), ↓(X_iinc (pc' := 131) dX9_takes_128 rfl), ↓(X_goto (pc' := 95) dX9_takes_131 (by decide)), ↓(X_aload_n (k := 0) (pc' := 135) dX9_takes_134 rfl rfl), ↓(X_getR (pc' := 138) fl_9_53 dX9_takes_135 rfl), ↓(X_iload (pc' := 140) dX9_takes_138 rfl), ↓(X_dup2 (pc' := 141) dX9_takes_140 rfl), ↓(X_iaload (pc' := 142) dX9_takes_141 rfl), ↓(X_iconst (pc' := 143) dX9_takes_142 rfl), ↓(X_iadd (pc' := 144) dX9_takes_143 rfl), ↓(X_iastore (pc' := 145) dX9_takes_144 rfl), ↓(X_aload_n (k := 0) (pc' := 146) dX9_takes_145 rfl rfl), ↓(X_getR (pc' := 149) fl_9_56 dX9_takes_146 rfl), ↓(X_iload (pc' := 151) dX9_takes_149 rfl), ↓(X_ldc2_w (pc' := 154) csl_9_88 dX9_takes_151 rfl), ↓(X_lastore (pc' := 155) dX9_takes_154 rfl), ↓(X_iinc (pc' := 158) dX9_takes_155 rfl), ↓(X_goto (pc' := 84) dX9_takes_158 (by decide)), ↓(X_return_ dX9_takes_161), rn_0, gV_s, ↓pI_c, ↓pII_c, ↓pL_c, ↓pLL_c, ↓pR_c, ↓pRI_c, ↓pRII_c, ↓pRIL_c, ↓pRR_c, ↓pV_c, ↓pVV_c, ↓gI_c, ↓gL_c, ↓gR_c, f2_0, f2_1, nk_n, nk_i, nk_r, ↓reduceIte, r32, r64, Nat.reduceAdd, Nat.reduceSub, Nat.reduceEqDiff, Nat.reduceLT, Nat.reduceLeDiff, Nat.reduceBEq, Int.reduceAdd, Int.reduceSub, Int.reduceMul, Int.reduceNeg, Int.reduceToNat, Int.reduceLE, Int.reduceLT, Int.reduceEq, Int.reduceNatCast', Int.reduceNatCast, Int.natCast_zero, Int.toNat_natCast, Int.toNat_zero, Int.toNat_one, List.length_cons, List.length_nil, true_and, and_true, and_self, true_or, or_true, false_or, or_false, Bool.not_true, Bool.not_false, Nat.lt_add_one, Nat.zero_lt_succ, N0, swL_n, swL_c, List.toList_toArray, false_implies, true_implies, implies_true, forall_const, not_false_eq_true, not_true_eq_false, and_false, false_and, kc, hc, hGe, e1, e2, e3, i0, i1, i2, i3, rw_, rwl, rg, r0, r1, r2, r3, p0, p1, p2, p3, hw0, Int.add_zero, up2_s, up2_c hc1, up2_c hc2, up2_c (show (461 : Nat) ≠ 462 by decide), up2_c (show (462 : Nat) ≠ 461 by decide)]
  simp only [hK9]
  clear hK9 K9v
  obtain ⟨t0, t3⟩ := tmiss_bd hm hG.1
  have q0 : M c f * G / w = tq (fun b => M c (f + b)) G 0 := by rw [hwd]; rfl
  have q1 : M c (f + 1) * G / w = tq (fun b => M c (f + b)) G 1 := by rw [hwd]; rfl
  have q2 : M c (f + 2) * G / w = tq (fun b => M c (f + b)) G 2 := by rw [hwd]; rfl
  have q3 : M c (f + 3) * G / w = tq (fun b => M c (f + b)) G 3 := by rw [hwd]; rfl
  have f0 : M c f * G % w = tr (fun b => M c (f + b)) G 0 := by rw [hwd]; rfl
  have f1 : M c (f + 1) * G % w = tr (fun b => M c (f + b)) G 1 := by rw [hwd]; rfl
  have f2 : M c (f + 2) * G % w = tr (fun b => M c (f + b)) G 2 := by rw [hwd]; rfl
  have f3 : M c (f + 3) * G % w = tr (fun b => M c (f + b)) G 3 := by rw [hwd]; rfl
  have em : G - M c f * G / w - M c (f + 1) * G / w - M c (f + 2) * G / w - M c (f + 3) * G / w = tmiss (fun b => M c (f + b)) G := by rw [q0, q1, q2, q3]; rfl
  have u0 := Int.emod_lt_of_pos (M c f * G) hw0
  have u1 := Int.emod_lt_of_pos (M c (f + 1) * G) hw0
  have u2 := Int.emod_lt_of_pos (M c (f + 2) * G) hw0
  have u3 := Int.emod_lt_of_pos (M c (f + 3) * G) hw0
  have v0 := Int.emod_nonneg (M c f * G) (Int.ne_of_gt hw0)
  have v1 := Int.emod_nonneg (M c (f + 1) * G) (Int.ne_of_gt hw0)
  have v2 := Int.emod_nonneg (M c (f + 2) * G) (Int.ne_of_gt hw0)
  have v3 := Int.emod_nonneg (M c (f + 3) * G) (Int.ne_of_gt hw0)
  rw [em]
  generalize hM1 : up2 _ _ _ _ = M1
  have hA : ∀ x, x ≠ 461 → x ≠ 462 → M1 x = M x := by
    intro x hx1 hx2
    subst hM1
    funext b
    simp only [up2_c hx1, up2_c hx2]
  have hB : ∀ b, b < 4 → M1 461 b = tq (fun b => M c (f + b)) G b ∧ M1 462 b = tr (fun b => M c (f + b)) G b := by
    intro b hb
    subst hM1
    rcases (show b = 0 ∨ b = 1 ∨ b = 2 ∨ b = 3 by omega) with rfl | rfl | rfl | rfl <;> simp [up2, q0, q1, q2, q3, f0, f1, f2, f3]
  have et : tmiss (fun b => M c (f + b)) G = ((tmiss (fun b => M c (f + b)) G).toNat : Int) := by omega
  rw [et]
  refine jj_tk2 d _ _ _ _ _ M1 _ _ _ (by omega) (fun b hb => ?_) (fun M2 h1 h2 => ?_)
  · rw [(hB b hb).2]
    rcases (show b = 0 ∨ b = 1 ∨ b = 2 ∨ b = 3 by omega) with rfl | rfl | rfl | rfl
    · rw [← f0]; omega
    · rw [← f1]; omega
    · rw [← f2]; omega
    · rw [← f3]; omega
  · refine ⟨rfl, M2, rfl, fun x hx1 hx2 => by rw [h2 x hx1 hx2, hA x hx1 hx2], fun b hb => ?_⟩
    rw [h1, ← hGd]
    exact (agK_congr _ _ _ hB b hb).1
end MB
