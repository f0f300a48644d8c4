/-! the model's face: where, chips -/
def inMixm (M : Nat → Nat → Int) (b : Nat) : Nat → Int
  | 0 => 0
  | k + 1 => inMixm M b k + if M 457 k = 1 then M 459 (4 * k + b) else 0
section MI
variable {l : Launch} {D : va_G} {cy : Nat → ClassId}
set_option maxRecDepth 100000 in
set_option maxHeartbeats 4000000 in
theorem jj_wa {M : Nat → Nat → Int} {Φ : Out → Mem → Prop} (d T b : Nat) (p s : Int) (hT : M 447 5 = (T : Int)) (hT30 : T ≤ 30) (hb : b < 4) (hp : 0 ≤ p ∧ p ≤ 3) (hfin : ∀ e4 : Option AV, nk e4 → J l D cy (GM l D cy 9 cX9_where 5 (d + 3) 0 0 false (some .int) Φ) 102 [some (.inr (.inr (some 447))), some (.inl (b : Int)), some (.inl p), some (.inl (s + if p = 1 then sumTo (fun t => M 452 (4 * t + b)) T else 0)), e4] [] (468, R0, M) 0 0) : ∀ (k t : Nat), t + k = T → (p = 1 ∨ t = 0) →
    J l D cy (GM l D cy 9 cX9_where 5 (d + 3) 0 0 false (some .int) Φ) 68 [some (.inr (.inr (some 447))), some (.inl (b : Int)), some (.inl p), some (.inl (s + sumTo (fun t => M 452 (4 * t + b)) t)), some (.inl (t : Int))] [] (468, R0, M) 0 0 := by
  intro k
  have rp : -2147483648 ≤ p ∧ p ≤ 2147483647 := by omega
  induction k with
  | zero =>
    intro t ht hpt
    have e : t = T := by omega
    subst e
    have h1 : ¬ (t : Int) < (t : Int) := by omega
    have r1 : -2147483648 ≤ (t : Int) ∧ (t : Int) ≤ 2147483647 := by omega
    refine J_rnG GM_fa (by omega) (by omega) (by omega) 4 _ _ _ _ (fun K9v hK9 => ?_)
    simp (maxSteps := 4000000) only [↓(X_iload (pc' := 70) dX9_where_68 rfl), ↓gI_4, ↓(X_aload_n (k := 0) (pc' := 71) dX9_where_70 rfl rfl), ↓gR_0, ↓(X_getI (pc' := 74) fl_9_124 (by decide) dX9_where_71 rfl), kd_447, ↓(X_icmp_ge (tgt := 102) (pc' := 77) dX9_where_74 (by decide) rfl), rn_0, gV_s, ↓pI_c, ↓pII_c, ↓pL_c, ↓pLL_c, ↓pR_c, ↓pRI_c, ↓pRII_c, ↓pRIL_c, ↓pRR_c, ↓pV_c, ↓pVV_c, ↓gI_c, ↓gL_c, ↓gR_c, f2_0, f2_1, nk_n, nk_i, nk_r, ↓reduceIte, r32, r64, Nat.reduceAdd, Nat.reduceSub, Nat.reduceEqDiff, Nat.reduceLT, Nat.reduceLeDiff, Nat.reduceBEq, Int.reduceAdd, Int.reduceSub, Int.reduceMul, Int.reduceNeg, Int.reduceToNat, Int.reduceLE, Int.reduceLT, Int.reduceEq, Int.reduceNatCast', Int.reduceNatCast, Int.natCast_zero, Int.toNat_natCast, Int.toNat_zero, Int.toNat_one, List.length_cons, List.length_nil, true_and, and_true, and_self, true_or, or_true, false_or, or_false, Bool.not_true, Bool.not_false, Nat.lt_add_one, Nat.zero_lt_succ, N0, swL_n, swL_c, List.toList_toArray, false_implies, true_implies, implies_true, forall_const, not_false_eq_true, not_true_eq_false, and_false, false_and, hT, h1, r1]
    simp only [hK9]
    clear hK9 K9v
    have := hfin (some (.inl (t : Int))) (nk_i.mpr trivial)
    split at this
    · exact this
    · rename_i q
      obtain h | h := hpt
      · exact absurd h q
      · subst h
        exact this
  | succ k ih =>
    intro t ht hpt
    have h1 : (t : Int) < (T : Int) := by omega
    have r1 : -2147483648 ≤ (t : Int) ∧ (t : Int) ≤ 2147483647 := by omega
    have r2 : -2147483648 ≤ (T : Int) ∧ (T : Int) ≤ 2147483647 := by omega
    rcases (show p = 1 ∨ ¬ p = 1 by omega) with q | q
    · have e0 : 4 * (t : Int) + (b : Int) = ((4 * t + b : Nat) : Int) := by omega
      have i0 : (0 : Int) ≤ ((4 * t + b : Nat) : Int) ∧ ((4 * t + b : Nat) : Int) < 120 := by omega
      refine J_rnG GM_fa (by omega) (by omega) (by omega) 7 _ _ _ _ (fun K9v hK9 => ?_)
      simp (maxSteps := 4000000) only [↓(X_iload (pc' := 70) dX9_where_68 rfl), ↓gI_4, ↓(X_aload_n (k := 0) (pc' := 71) dX9_where_70 rfl rfl), ↓gR_0, ↓(X_getI (pc' := 74) fl_9_124 (by decide) dX9_where_71 rfl), kd_447, ↓(X_icmp_ge (tgt := 102) (pc' := 77) dX9_where_74 (by decide) rfl), ↓(X_iload_n (k := 2) (pc' := 78) dX9_where_77 rfl rfl), ↓gI_2, ↓(X_iconst (pc' := 79) dX9_where_78 rfl), ↓(X_icmp_ne (tgt := 102) (pc' := 82) dX9_where_79 (by decide) rfl), rn_0, gV_s, ↓pI_c, ↓pII_c, ↓pL_c, ↓pLL_c, ↓pR_c, ↓pRI_c, ↓pRII_c, ↓pRIL_c, ↓pRR_c, ↓pV_c, ↓pVV_c, ↓gI_c, ↓gL_c, ↓gR_c, f2_0, f2_1, nk_n, nk_i, nk_r, ↓reduceIte, r32, r64, Nat.reduceAdd, Nat.reduceSub, Nat.reduceEqDiff, Nat.reduceLT, Nat.reduceLeDiff, Nat.reduceBEq, Int.reduceAdd, Int.reduceSub, Int.reduceMul, Int.reduceNeg, Int.reduceToNat, Int.reduceLE, Int.reduceLT, Int.reduceEq, Int.reduceNatCast', Int.reduceNatCast, Int.natCast_zero, Int.toNat_natCast, Int.toNat_zero, Int.toNat_one, List.length_cons, List.length_nil, true_and, and_true, and_self, true_or, or_true, false_or, or_false, Bool.not_true, Bool.not_false, Nat.lt_add_one, Nat.zero_lt_succ, N0, swL_n, swL_c, List.toList_toArray, false_implies, true_implies, implies_true, forall_const, not_false_eq_true, not_true_eq_false, and_false, false_and, hT, h1, r1, r2, q]
      simp only [hK9]
      clear hK9 K9v
      rw [← q]
      refine J_rnG GM_fa (by omega) (by omega) (by omega) 13 _ _ _ _ (fun K9v hK9 => ?_)
      simp (maxSteps := 4000000) only [↓(X_iload_n (k := 3) (pc' := 83) dX9_where_82 rfl rfl), ↓gI_3, ↓(X_aload_n (k := 0) (pc' := 84) dX9_where_83 rfl rfl), ↓gR_0, ↓(X_getR (pc' := 87) fl_9_22 dX9_where_84 rfl), kd_447, ↓(gV_c r0_447_6), kd_452, ln_452, ↓(X_iconst (pc' := 88) dX9_where_87 rfl), ↓(X_iload (pc' := 90) dX9_where_88 rfl), ↓gI_4, ↓(X_imul (pc' := 91) dX9_where_90 rfl), ↓(X_iload_n (k := 1) (pc' := 92) dX9_where_91 rfl rfl), ↓gI_1, ↓(X_iadd (pc' := 93) dX9_where_92 rfl), ↓(X_iaload (pc' := 94) dX9_where_93 rfl), ↓(X_iadd (pc' := 95) dX9_where_94 rfl), ↓(X_istore_n (k := 3) (pc' := 96) dX9_where_95 rfl rfl), ↓sto_3, ↓(X_iinc (pc' := 99) dX9_where_96 rfl), ↓sto_4, ↓(X_goto (pc' := 68) dX9_where_99 (by decide)), rn_0, gV_s, ↓pI_c, ↓pII_c, ↓pL_c, ↓pLL_c, ↓pR_c, ↓pRI_c, ↓pRII_c, ↓pRIL_c, ↓pRR_c, ↓pV_c, ↓pVV_c, ↓gI_c, ↓gL_c, ↓gR_c, f2_0, f2_1, nk_n, nk_i, nk_r, ↓reduceIte, r32, r64, Nat.reduceAdd, Nat.reduceSub, Nat.reduceEqDiff, Nat.reduceLT, Nat.reduceLeDiff, Nat.reduceBEq, Int.reduceAdd, Int.reduceSub, Int.reduceMul, Int.reduceNeg, Int.reduceToNat, Int.reduceLE, Int.reduceLT, Int.reduceEq, Int.reduceNatCast', Int.reduceNatCast, Int.natCast_zero, Int.toNat_natCast, Int.toNat_zero, Int.toNat_one, List.length_cons, List.length_nil, true_and, and_true, and_self, true_or, or_true, false_or, or_false, Bool.not_true, Bool.not_false, Nat.lt_add_one, Nat.zero_lt_succ, N0, swL_n, swL_c, List.toList_toArray, false_implies, true_implies, implies_true, forall_const, not_false_eq_true, not_true_eq_false, and_false, false_and, e0, i0]
      simp only [hK9]
      clear hK9 K9v
      rw [show (t : Int) + 1 = ((t + 1 : Nat) : Int) by omega, show s + sumTo (fun t => M 452 (4 * t + b)) t + M 452 (4 * t + b) = s + sumTo (fun t => M 452 (4 * t + b)) (t + 1) by rw [sumTo]; omega]
      exact ih (t + 1) (by omega) (Or.inl q)
    · have ht0 : t = 0 := by omega
      subst ht0
      have h0 : (0 : Int) < (T : Int) := by omega
      refine J_rnG GM_fa (by omega) (by omega) (by omega) 7 _ _ _ _ (fun K9v hK9 => ?_)
      simp (maxSteps := 4000000) only [↓(X_iload (pc' := 70) dX9_where_68 rfl), ↓gI_4, ↓(X_aload_n (k := 0) (pc' := 71) dX9_where_70 rfl rfl), ↓gR_0, ↓(X_getI (pc' := 74) fl_9_124 (by decide) dX9_where_71 rfl), kd_447, ↓(X_icmp_ge (tgt := 102) (pc' := 77) dX9_where_74 (by decide) rfl), ↓(X_iload_n (k := 2) (pc' := 78) dX9_where_77 rfl rfl), ↓gI_2, ↓(X_iconst (pc' := 79) dX9_where_78 rfl), ↓(X_icmp_ne (tgt := 102) (pc' := 82) dX9_where_79 (by decide) rfl), rn_0, gV_s, ↓pI_c, ↓pII_c, ↓pL_c, ↓pLL_c, ↓pR_c, ↓pRI_c, ↓pRII_c, ↓pRIL_c, ↓pRR_c, ↓pV_c, ↓pVV_c, ↓gI_c, ↓gL_c, ↓gR_c, f2_0, f2_1, nk_n, nk_i, nk_r, ↓reduceIte, r32, r64, Nat.reduceAdd, Nat.reduceSub, Nat.reduceEqDiff, Nat.reduceLT, Nat.reduceLeDiff, Nat.reduceBEq, Int.reduceAdd, Int.reduceSub, Int.reduceMul, Int.reduceNeg, Int.reduceToNat, Int.reduceLE, Int.reduceLT, Int.reduceEq, Int.reduceNatCast', Int.reduceNatCast, Int.natCast_zero, Int.toNat_natCast, Int.toNat_zero, Int.toNat_one, List.length_cons, List.length_nil, true_and, and_true, and_self, true_or, or_true, false_or, or_false, Bool.not_true, Bool.not_false, Nat.lt_add_one, Nat.zero_lt_succ, N0, swL_n, swL_c, List.toList_toArray, false_implies, true_implies, implies_true, forall_const, not_false_eq_true, not_true_eq_false, and_false, false_and, hT, h0, h1, r1, r2, q, rp]
      simp only [hK9]
      clear hK9 K9v
      have := hfin (some (.inl ((0 : Nat) : Int))) (nk_i.mpr trivial)
      rw [if_neg q] at this
      exact this
set_option maxRecDepth 100000 in
set_option maxHeartbeats 4000000 in
theorem jj_wb {M : Nat → Nat → Int} {Φ : Out → Mem → Prop} (d n b : Nat) (p s : Int) (hn : M 447 7 = (n : Int)) (hn2 : n ≤ 16) (hb : b < 4) (hp : 0 ≤ p ∧ p ≤ 3) (hst : ∀ i, i < 16 → 0 ≤ M 457 i ∧ M 457 i ≤ 2) (hfin : ∀ e4 : Option AV, J l D cy (GM l D cy 9 cX9_where 5 (d + 3) 0 0 false (some .int) Φ) 154 [some (.inr (.inr (some 447))), some (.inl (b : Int)), some (.inl p), some (.inl (s + if p = 2 then inMixm M b n else 0)), e4] [] (468, R0, M) 0 0) : ∀ (k t : Nat), t + k = n → (p = 2 ∨ t = 0) →
    J l D cy (GM l D cy 9 cX9_where 5 (d + 3) 0 0 false (some .int) Φ) 105 [some (.inr (.inr (some 447))), some (.inl (b : Int)), some (.inl p), some (.inl (s + inMixm M b t)), some (.inl (t : Int))] [] (468, R0, M) 0 0 := by
  intro k
  have rp : -2147483648 ≤ p ∧ p ≤ 2147483647 := by omega
  induction k with
  | zero =>
    intro t ht hpt
    have e : t = n := by omega
    subst e
    have h1 : ¬ (t : Int) < (t : Int) := by omega
    have r1 : -2147483648 ≤ (t : Int) ∧ (t : Int) ≤ 2147483647 := by omega
    refine J_rnG GM_fa (by omega) (by omega) (by omega) 4 _ _ _ _ (fun K9v hK9 => ?_)
    simp (maxSteps := 4000000) only [↓(X_iload (pc' := 107) dX9_where_105 rfl), ↓gI_4, ↓(X_aload_n (k := 0) (pc' := 108) dX9_where_107 rfl rfl), ↓gR_0, ↓(X_getI (pc' := 111) fl_9_75 (by decide) dX9_where_108 rfl), kd_447, ↓(X_icmp_ge (tgt := 154) (pc' := 114) dX9_where_111 (by decide) rfl), rn_0, gV_s, ↓pI_c, ↓pII_c, ↓pL_c, ↓pLL_c, ↓pR_c, ↓pRI_c, ↓pRII_c, ↓pRIL_c, ↓pRR_c, ↓pV_c, ↓pVV_c, ↓gI_c, ↓gL_c, ↓gR_c, f2_0, f2_1, nk_n, nk_i, nk_r, ↓reduceIte, r32, r64, Nat.reduceAdd, Nat.reduceSub, Nat.reduceEqDiff, Nat.reduceLT, Nat.reduceLeDiff, Nat.reduceBEq, Int.reduceAdd, Int.reduceSub, Int.reduceMul, Int.reduceNeg, Int.reduceToNat, Int.reduceLE, Int.reduceLT, Int.reduceEq, Int.reduceNatCast', Int.reduceNatCast, Int.natCast_zero, Int.toNat_natCast, Int.toNat_zero, Int.toNat_one, List.length_cons, List.length_nil, true_and, and_true, and_self, true_or, or_true, false_or, or_false, Bool.not_true, Bool.not_false, Nat.lt_add_one, Nat.zero_lt_succ, N0, swL_n, swL_c, List.toList_toArray, false_implies, true_implies, implies_true, forall_const, not_false_eq_true, not_true_eq_false, and_false, false_and, hn, h1, r1]
    simp only [hK9]
    clear hK9 K9v
    have := hfin (some (.inl (t : Int)))
    split at this
    · exact this
    · rename_i q
      obtain h | h := hpt
      · exact absurd h q
      · subst h
        exact this
  | succ k ih =>
    intro t ht hpt
    have h1 : (t : Int) < (n : Int) := by omega
    have r1 : -2147483648 ≤ (t : Int) ∧ (t : Int) ≤ 2147483647 := by omega
    have r2 : -2147483648 ≤ (n : Int) ∧ (n : Int) ≤ 2147483647 := by omega
    rcases (show p = 2 ∨ ¬ p = 2 by omega) with q | q
    · have e0 : 4 * (t : Int) + (b : Int) = ((4 * t + b : Nat) : Int) := by omega
      have i0 : (0 : Int) ≤ ((4 * t + b : Nat) : Int) ∧ ((4 * t + b : Nat) : Int) < 64 := by omega
      have i1 : (0 : Int) ≤ (t : Int) ∧ (t : Int) < 16 := by omega
      have hs := hst t (by omega)
      have r3 : -2147483648 ≤ M 457 t ∧ M 457 t ≤ 2147483647 := by omega
      refine J_rnG GM_fa (by omega) (by omega) (by omega) 7 _ _ _ _ (fun K9v hK9 => ?_)
      simp (maxSteps := 4000000) only [↓(X_iload (pc' := 107) dX9_where_105 rfl), ↓gI_4, ↓(X_aload_n (k := 0) (pc' := 108) dX9_where_107 rfl rfl), ↓gR_0, ↓(X_getI (pc' := 111) fl_9_75 (by decide) dX9_where_108 rfl), kd_447, ↓(X_icmp_ge (tgt := 154) (pc' := 114) dX9_where_111 (by decide) rfl), ↓(X_iload_n (k := 2) (pc' := 115) dX9_where_114 rfl rfl), ↓gI_2, ↓(X_iconst (pc' := 116) dX9_where_115 rfl), ↓(X_icmp_ne (tgt := 154) (pc' := 119) dX9_where_116 (by decide) rfl), rn_0, gV_s, ↓pI_c, ↓pII_c, ↓pL_c, ↓pLL_c, ↓pR_c, ↓pRI_c, ↓pRII_c, ↓pRIL_c, ↓pRR_c, ↓pV_c, ↓pVV_c, ↓gI_c, ↓gL_c, ↓gR_c, f2_0, f2_1, nk_n, nk_i, nk_r, ↓reduceIte, r32, r64, Nat.reduceAdd, Nat.reduceSub, Nat.reduceEqDiff, Nat.reduceLT, Nat.reduceLeDiff, Nat.reduceBEq, Int.reduceAdd, Int.reduceSub, Int.reduceMul, Int.reduceNeg, Int.reduceToNat, Int.reduceLE, Int.reduceLT, Int.reduceEq, Int.reduceNatCast', Int.reduceNatCast, Int.natCast_zero, Int.toNat_natCast, Int.toNat_zero, Int.toNat_one, List.length_cons, List.length_nil, true_and, and_true, and_self, true_or, or_true, false_or, or_false, Bool.not_true, Bool.not_false, Nat.lt_add_one, Nat.zero_lt_succ, N0, swL_n, swL_c, List.toList_toArray, false_implies, true_implies, implies_true, forall_const, not_false_eq_true, not_true_eq_false, and_false, false_and, hn, h1, r1, r2, q]
      simp only [hK9]
      clear hK9 K9v
      rw [← q]
      rcases (show M 457 t = 1 ∨ ¬ M 457 t = 1 by omega) with v | v
      · refine J_rnG GM_fa (by omega) (by omega) (by omega) 20 _ _ _ _ (fun K9v hK9 => ?_)
        simp (maxSteps := 4000000) only [↓(X_iload_n (k := 3) (pc' := 120) dX9_where_119 rfl rfl), ↓gI_3, ↓(X_aload_n (k := 0) (pc' := 121) dX9_where_120 rfl rfl), ↓gR_0, ↓(X_getR (pc' := 124) fl_9_37 dX9_where_121 rfl), kd_447, ↓(gV_c r0_447_12), kd_457, ln_457, ↓(X_iload (pc' := 126) dX9_where_124 rfl), ↓gI_4, ↓(X_iaload (pc' := 127) dX9_where_126 rfl), ↓(X_iconst (pc' := 128) dX9_where_127 rfl), ↓(X_icmp_ne (tgt := 145) (pc' := 131) dX9_where_128 (by decide) rfl), ↓(X_aload_n (k := 0) (pc' := 132) dX9_where_131 rfl rfl), ↓(X_getR (pc' := 135) fl_9_43 dX9_where_132 rfl), ↓(gV_c r0_447_14), kd_459, ln_459, ↓(X_iconst (pc' := 136) dX9_where_135 rfl), ↓(X_iload (pc' := 138) dX9_where_136 rfl), ↓(X_imul (pc' := 139) dX9_where_138 rfl), ↓(X_iload_n (k := 1) (pc' := 140) dX9_where_139 rfl rfl), ↓gI_1, ↓(X_iadd (pc' := 141) dX9_where_140 rfl), ↓(X_iaload (pc' := 142) dX9_where_141 rfl), ↓(X_goto (pc' := 146) dX9_where_142 (by decide)), ↓(X_iadd (pc' := 147) dX9_where_146 rfl), ↓(X_istore_n (k := 3) (pc' := 148) dX9_where_147 rfl rfl), ↓sto_3, ↓(X_iinc (pc' := 151) dX9_where_148 rfl), ↓sto_4, ↓(X_goto (pc' := 105) dX9_where_151 (by decide)), rn_0, gV_s, ↓pI_c, ↓pII_c, ↓pL_c, ↓pLL_c, ↓pR_c, ↓pRI_c, ↓pRII_c, ↓pRIL_c, ↓pRR_c, ↓pV_c, ↓pVV_c, ↓gI_c, ↓gL_c, ↓gR_c, f2_0, f2_1, nk_n, nk_i, nk_r, ↓reduceIte, r32, r64, Nat.reduceAdd, Nat.reduceSub, Nat.reduceEqDiff, Nat.reduceLT, Nat.reduceLeDiff, Nat.reduceBEq, Int.reduceAdd, Int.reduceSub, Int.reduceMul, Int.reduceNeg, Int.reduceToNat, Int.reduceLE, Int.reduceLT, Int.reduceEq, Int.reduceNatCast', Int.reduceNatCast, Int.natCast_zero, Int.toNat_natCast, Int.toNat_zero, Int.toNat_one, List.length_cons, List.length_nil, true_and, and_true, and_self, true_or, or_true, false_or, or_false, Bool.not_true, Bool.not_false, Nat.lt_add_one, Nat.zero_lt_succ, N0, swL_n, swL_c, List.toList_toArray, false_implies, true_implies, implies_true, forall_const, not_false_eq_true, not_true_eq_false, and_false, false_and, e0, i0, i1, v]
        simp only [hK9]
        clear hK9 K9v
        rw [show (t : Int) + 1 = ((t + 1 : Nat) : Int) by omega, show s + inMixm M b t + M 459 (4 * t + b) = s + inMixm M b (t + 1) by rw [inMixm, if_pos v]; omega]
        exact ih (t + 1) (by omega) (Or.inl q)
      · refine J_rnG GM_fa (by omega) (by omega) (by omega) 7 _ _ _ _ (fun K9v hK9 => ?_)
        simp (maxSteps := 4000000) only [↓(X_iload_n (k := 3) (pc' := 120) dX9_where_119 rfl rfl), ↓gI_3, ↓(X_aload_n (k := 0) (pc' := 121) dX9_where_120 rfl rfl), ↓gR_0, ↓(X_getR (pc' := 124) fl_9_37 dX9_where_121 rfl), kd_447, ↓(gV_c r0_447_12), kd_457, ln_457, ↓(X_iload (pc' := 126) dX9_where_124 rfl), ↓gI_4, ↓(X_iaload (pc' := 127) dX9_where_126 rfl), ↓(X_iconst (pc' := 128) dX9_where_127 rfl), ↓(X_icmp_ne (tgt := 145) (pc' := 131) dX9_where_128 (by decide) rfl), rn_0, gV_s, ↓pI_c, ↓pII_c, ↓pL_c, ↓pLL_c, ↓pR_c, ↓pRI_c, ↓pRII_c, ↓pRIL_c, ↓pRR_c, ↓pV_c, ↓pVV_c, ↓gI_c, ↓gL_c, ↓gR_c, f2_0, f2_1, nk_n, nk_i, nk_r, ↓reduceIte, r32, r64, Nat.reduceAdd, Nat.reduceSub, Nat.reduceEqDiff, Nat.reduceLT, Nat.reduceLeDiff, Nat.reduceBEq, Int.reduceAdd, Int.reduceSub, Int.reduceMul, Int.reduceNeg, Int.reduceToNat, Int.reduceLE, Int.reduceLT, Int.reduceEq, Int.reduceNatCast', Int.reduceNatCast, Int.natCast_zero, Int.toNat_natCast, Int.toNat_zero, Int.toNat_one, List.length_cons, List.length_nil, true_and, and_true, and_self, true_or, or_true, false_or, or_false, Bool.not_true, Bool.not_false, Nat.lt_add_one, Nat.zero_lt_succ, N0, swL_n, swL_c, List.toList_toArray, false_implies, true_implies, implies_true, forall_const, not_false_eq_true, not_true_eq_false, and_false, false_and, e0, i0, i1, v, r3]
        simp only [hK9]
        clear hK9 K9v
        refine J_rnG GM_fa (by omega) (by omega) (by omega) 5 _ _ _ _ (fun K9v hK9 => ?_)
        simp (maxSteps := 4000000) only [↓(X_iconst (pc' := 146) dX9_where_145 rfl), ↓(X_iadd (pc' := 147) dX9_where_146 rfl), ↓(X_istore_n (k := 3) (pc' := 148) dX9_where_147 rfl rfl), ↓sto_3, ↓(X_iinc (pc' := 151) dX9_where_148 rfl), ↓gI_4, ↓sto_4, ↓(X_goto (pc' := 105) dX9_where_151 (by decide)), rn_0, gV_s, ↓pI_c, ↓pII_c, ↓pL_c, ↓pLL_c, ↓pR_c, ↓pRI_c, ↓pRII_c, ↓pRIL_c, ↓pRR_c, ↓pV_c, ↓pVV_c, ↓gI_c, ↓gL_c, ↓gR_c, f2_0, f2_1, nk_n, nk_i, nk_r, ↓reduceIte, r32, r64, Nat.reduceAdd, Nat.reduceSub, Nat.reduceEqDiff, Nat.reduceLT, Nat.reduceLeDiff, Nat.reduceBEq, Int.reduceAdd, Int.reduceSub, Int.reduceMul, Int.reduceNeg, Int.reduceToNat, Int.reduceLE, Int.reduceLT, Int.reduceEq, Int.reduceNatCast', Int.reduceNatCast, Int.natCast_zero, Int.toNat_natCast, Int.toNat_zero, Int.toNat_one, List.length_cons, List.length_nil, true_and, and_true, and_self, true_or, or_true, false_or, or_false, Bool.not_true, Bool.not_false, Nat.lt_add_one, Nat.zero_lt_succ, N0, swL_n, swL_c, List.toList_toArray, false_implies, true_implies, implies_true, forall_const, not_false_eq_true, not_true_eq_false, and_false, false_and]
        simp only [hK9]
        clear hK9 K9v
        rw [show (t : Int) + 1 = ((t + 1 : Nat) : Int) by omega, show s + inMixm M b t + 0 = s + inMixm M b (t + 1) by rw [inMixm, if_neg v]; omega]
        exact ih (t + 1) (by omega) (Or.inl q)
    · have ht0 : t = 0 := by omega
      subst ht0
      have h0 : (0 : Int) < (n : Int) := by omega
      refine J_rnG GM_fa (by omega) (by omega) (by omega) 7 _ _ _ _ (fun K9v hK9 => ?_)
      simp (maxSteps := 4000000) only [↓(X_iload (pc' := 107) dX9_where_105 rfl), ↓gI_4, ↓(X_aload_n (k := 0) (pc' := 108) dX9_where_107 rfl rfl), ↓gR_0, ↓(X_getI (pc' := 111) fl_9_75 (by decide) dX9_where_108 rfl), kd_447, ↓(X_icmp_ge (tgt := 154) (pc' := 114) dX9_where_111 (by decide) rfl), ↓(X_iload_n (k := 2) (pc' := 115) dX9_where_114 rfl rfl), ↓gI_2, ↓(X_iconst (pc' := 116) dX9_where_115 rfl), ↓(X_icmp_ne (tgt := 154) (pc' := 119) dX9_where_116 (by decide) rfl), rn_0, gV_s, ↓pI_c, ↓pII_c, ↓pL_c, ↓pLL_c, ↓pR_c, ↓pRI_c, ↓pRII_c, ↓pRIL_c, ↓pRR_c, ↓pV_c, ↓pVV_c, ↓gI_c, ↓gL_c, ↓gR_c, f2_0, f2_1, nk_n, nk_i, nk_r, ↓reduceIte, r32, r64, Nat.reduceAdd, Nat.reduceSub, Nat.reduceEqDiff, Nat.reduceLT, Nat.reduceLeDiff, Nat.reduceBEq, Int.reduceAdd, Int.reduceSub, Int.reduceMul, Int.reduceNeg, Int.reduceToNat, Int.reduceLE, Int.reduceLT, Int.reduceEq, Int.reduceNatCast', Int.reduceNatCast, Int.natCast_zero, Int.toNat_natCast, Int.toNat_zero, Int.toNat_one, List.length_cons, List.length_nil, true_and, and_true, and_self, true_or, or_true, false_or, or_false, Bool.not_true, Bool.not_false, Nat.lt_add_one, Nat.zero_lt_succ, N0, swL_n, swL_c, List.toList_toArray, false_implies, true_implies, implies_true, forall_const, not_false_eq_true, not_true_eq_false, and_false, false_and, hn, h0, h1, r1, r2, q, rp]
      simp only [hK9]
      clear hK9 K9v
      have := hfin (some (.inl ((0 : Nat) : Int)))
      rw [if_neg q] at this
      exact this
set_option maxRecDepth 100000 in
set_option maxHeartbeats 4000000 in
theorem om_where {M : Nat → Nat → Int} (d n T : Nat) (b p : Int) (hb : r32 b) (hp : r32 p) (hn : M 447 7 = (n : Int)) (hn2 : n ≤ 16) (hT : M 447 5 = (T : Int)) (hT30 : T ≤ 30) (hst : ∀ i, i < 16 → 0 ≤ M 457 i ∧ M 457 i ≤ 2) : Ok l D cy (d + 3) 0 0 yX9_where cX9_where 5 (some (.int)) [.inr (.inr (some (447))), .inl (b), .inl (p)] (N0, R0, M) (det (some (.inl (if cWhere b p = 0 then (if p = 0 then M 450 b.toNat else if p = 1 then sumTo (fun t => M 452 (4 * t + b.toNat)) T else if p = 2 then inMixm M b.toNat n else M 451 b.toNat) else 0))) (N0, R0, th M (cWhere b p))) := by
  refine Ok.intro (o := 9) (ini := false) [some (.inr (.inr (some (447)))), some (.inl (b)), some (.inl (p)), none, none] (by decide +kernel) rfl (fun h => by cases h) rfl (Nat.le_of_ble_eq_true rfl) rfl ?_
  refine J_rnG GM_fa (by omega) (by omega) (by omega) 4 _ _ _ _ (fun K9v hK9 => ?_)
  simp (maxSteps := 4000000) only [↓(X_aload_n (k := 0) (pc' := 1) dX9_where_0 rfl rfl), ↓gR_0, ↓(X_iload_n (k := 1) (pc' := 2) dX9_where_1 rfl rfl), ↓gI_1, ↓(X_iconst (pc' := 3) dX9_where_2 rfl), ↓(X_iconst (pc' := 4) dX9_where_3 rfl), rn_0, gV_s, ↓pI_c, ↓pII_c, ↓pL_c, ↓pLL_c, ↓pR_c, ↓pRI_c, ↓pRII_c, ↓pRIL_c, ↓pRR_c, ↓pV_c, ↓pVV_c, ↓gI_c, ↓gL_c, ↓gR_c, f2_0, f2_1, nk_n, nk_i, nk_r, ↓reduceIte, r32, r64, Nat.reduceAdd, Nat.reduceSub, Nat.reduceEqDiff, Nat.reduceLT, Nat.reduceLeDiff, Nat.reduceBEq, Int.reduceAdd, Int.reduceSub, Int.reduceMul, Int.reduceNeg, Int.reduceToNat, Int.reduceLE, Int.reduceLT, Int.reduceEq, Int.reduceNatCast', Int.reduceNatCast, Int.natCast_zero, Int.toNat_natCast, Int.toNat_zero, Int.toNat_one, List.length_cons, List.length_nil, true_and, and_true, and_self, true_or, or_true, false_or, or_false, Bool.not_true, Bool.not_false, Nat.lt_add_one, Nat.zero_lt_succ, N0, swL_n, swL_c, List.toList_toArray, false_implies, true_implies, implies_true, forall_const, not_false_eq_true, not_true_eq_false, and_false, false_and]
  simp only [hK9]
  clear hK9 K9v
  refine J_callSd GM_fa (om_in (M := M) (d + 1) b 0 3 hb (by simp only [r32]; omega) (by simp only [r32]; omega)) dX9_where_4 k_9_78 (by omega) (Nat.le_of_ble_eq_true rfl) ⟨by omega, by omega⟩ rfl (by simp) rfl rfl ?_
  simp only [Option.toList, List.cons_append, List.nil_append]
  rcases (show (0 ≤ b ∧ b ≤ 3) ∨ ¬ (0 ≤ b ∧ b ≤ 3) by omega) with q | q
  · rw [inI_pos q]
    refine J_rnG GM_fa (by omega) (by omega) (by omega) 4 _ _ _ _ (fun K9v hK9 => ?_)
    simp (maxSteps := 4000000) only [↓(X_if_eq (tgt := 23) (pc' := 10) dX9_where_7 (by decide) rfl), ↓(X_iload_n (k := 2) (pc' := 11) dX9_where_10 rfl rfl), ↓gI_2, ↓(X_iconst (pc' := 12) dX9_where_11 rfl), ↓(X_iconst (pc' := 13) dX9_where_12 rfl), rn_0, gV_s, ↓pI_c, ↓pII_c, ↓pL_c, ↓pLL_c, ↓pR_c, ↓pRI_c, ↓pRII_c, ↓pRIL_c, ↓pRR_c, ↓pV_c, ↓pVV_c, ↓gI_c, ↓gL_c, ↓gR_c, f2_0, f2_1, nk_n, nk_i, nk_r, ↓reduceIte, r32, r64, Nat.reduceAdd, Nat.reduceSub, Nat.reduceEqDiff, Nat.reduceLT, Nat.reduceLeDiff, Nat.reduceBEq, Int.reduceAdd, Int.reduceSub, Int.reduceMul, Int.reduceNeg, Int.reduceToNat, Int.reduceLE, Int.reduceLT, Int.reduceEq, Int.reduceNatCast', Int.reduceNatCast, Int.natCast_zero, Int.toNat_natCast, Int.toNat_zero, Int.toNat_one, List.length_cons, List.length_nil, true_and, and_true, and_self, true_or, or_true, false_or, or_false, Bool.not_true, Bool.not_false, Nat.lt_add_one, Nat.zero_lt_succ, N0, swL_n, swL_c, List.toList_toArray, false_implies, true_implies, implies_true, forall_const, not_false_eq_true, not_true_eq_false, and_false, false_and]
    simp only [hK9]
    clear hK9 K9v
    refine J_callSd GM_fa (om_in (M := M) (d + 1) p 0 3 hp (by simp only [r32]; omega) (by simp only [r32]; omega)) dX9_where_13 k_9_78 (by omega) (Nat.le_of_ble_eq_true rfl) ⟨by omega, by omega⟩ rfl (by simp) rfl rfl ?_
    simp only [Option.toList, List.cons_append, List.nil_append]
    rcases (show (0 ≤ p ∧ p ≤ 3) ∨ ¬ (0 ≤ p ∧ p ≤ 3) by omega) with q2 | q2
    · have e : cWhere b p = 0 := by rw [cWhere, if_pos ⟨q, q2⟩]
      rw [inI_pos q2, e]
      obtain ⟨j, rfl⟩ : ∃ j : Nat, b = (j : Int) := ⟨b.toNat, by omega⟩
      rw [Int.toNat_natCast, if_pos rfl]
      have i1 : (j : Int) < 4 := by omega
      refine J_rnG GM_fa (by omega) (by omega) (by omega) 7 _ _ _ _ (fun K9v hK9 => ?_)
      simp (maxSteps := 4000000) only [↓(X_if_eq (tgt := 23) (pc' := 19) dX9_where_16 (by decide) rfl), ↓(X_iconst (pc' := 20) dX9_where_19 rfl), ↓(X_goto (pc' := 24) dX9_where_20 (by decide)), ↓(X_putI (pc' := 27) fl_9_72 (by decide) dX9_where_24 rfl), Nat.one_ne_zero, Nat.reduceEqDiff, kd_447, ↓(X_aload_n (k := 0) (pc' := 28) dX9_where_27 rfl rfl), ↓gR_0, ↓(X_getI (pc' := 31) fl_9_72 (by decide) dX9_where_28 rfl), ↓(X_if_le (tgt := 36) (pc' := 34) dX9_where_31 (by decide) rfl), rn_0, gV_s, ↓pI_c, ↓pII_c, ↓pL_c, ↓pLL_c, ↓pR_c, ↓pRI_c, ↓pRII_c, ↓pRIL_c, ↓pRR_c, ↓pV_c, ↓pVV_c, ↓gI_c, ↓gL_c, ↓gR_c, f2_0, f2_1, nk_n, nk_i, nk_r, ↓reduceIte, r32, r64, Nat.reduceAdd, Nat.reduceSub, Nat.reduceEqDiff, Nat.reduceLT, Nat.reduceLeDiff, Nat.reduceBEq, Int.reduceAdd, Int.reduceSub, Int.reduceMul, Int.reduceNeg, Int.reduceToNat, Int.reduceLE, Int.reduceLT, Int.reduceEq, Int.reduceNatCast', Int.reduceNatCast, Int.natCast_zero, Int.toNat_natCast, Int.toNat_zero, Int.toNat_one, List.length_cons, List.length_nil, true_and, and_true, and_self, true_or, or_true, false_or, or_false, Bool.not_true, Bool.not_false, Nat.lt_add_one, Nat.zero_lt_succ, N0, swL_n, swL_c, List.toList_toArray, false_implies, true_implies, implies_true, forall_const, not_false_eq_true, not_true_eq_false, and_false, false_and, up2_s]
      simp only [hK9]
      clear hK9 K9v
      obtain ⟨M1, hM1⟩ : ∃ M1, M1 = th M 0 := ⟨_, rfl⟩
      have hA : ∀ x, x ≠ 447 → M1 x = M x := fun x hx => by rw [hM1]; exact up2_r hx
      have hn1 : M1 447 7 = (n : Int) := by rw [hM1]; simpa [up2] using hn
      have hT1 : M1 447 5 = (T : Int) := by rw [hM1]; simpa [up2] using hT
      rw [show up2 M 447 26 0 = M1 from hM1.symm]
      have im : ∀ k, inMixm M1 j k = inMixm M j k := by
        intro k
        induction k with
        | zero => rfl
        | succ k ih => rw [inMixm, inMixm, ih, hA 457 (by decide), hA 459 (by decide)]
      have hgo : ∀ (s v : Int), s + (if p = 1 then sumTo (fun t => M 452 (4 * t + j)) T else 0) + (if p = 2 then inMixm M j n else 0) = v → J l D cy (GM l D cy 9 cX9_where 5 (d + 3) 0 0 false (some .int) (det (some (.inl v)) (N0, R0, th M 0))) 64 [some (.inr (.inr (some 447))), some (.inl (j : Int)), some (.inl p), none, none] [.inl s] (468, R0, M1) 0 0 := by
        intro s v hv
        refine J_rnG GM_fa (by omega) (by omega) (by omega) 3 _ _ _ _ (fun K9v hK9 => ?_)
        simp (maxSteps := 4000000) only [↓(X_istore_n (k := 3) (pc' := 65) dX9_where_64 rfl rfl), ↓sto_3, ↓(X_iconst (pc' := 66) dX9_where_65 rfl), ↓(X_istore (pc' := 68) dX9_where_66 rfl), ↓sto_4, rn_0, gV_s, ↓pI_c, ↓pII_c, ↓pL_c, ↓pLL_c, ↓pR_c, ↓pRI_c, ↓pRII_c, ↓pRIL_c, ↓pRR_c, ↓pV_c, ↓pVV_c, ↓gI_c, ↓gL_c, ↓gR_c, f2_0, f2_1, nk_n, nk_i, nk_r, ↓reduceIte, r32, r64, Nat.reduceAdd, Nat.reduceSub, Nat.reduceEqDiff, Nat.reduceLT, Nat.reduceLeDiff, Nat.reduceBEq, Int.reduceAdd, Int.reduceSub, Int.reduceMul, Int.reduceNeg, Int.reduceToNat, Int.reduceLE, Int.reduceLT, Int.reduceEq, Int.reduceNatCast', Int.reduceNatCast, Int.natCast_zero, Int.toNat_natCast, Int.toNat_zero, Int.toNat_one, List.length_cons, List.length_nil, true_and, and_true, and_self, true_or, or_true, false_or, or_false, Bool.not_true, Bool.not_false, Nat.lt_add_one, Nat.zero_lt_succ, N0, swL_n, swL_c, List.toList_toArray, false_implies, true_implies, implies_true, forall_const, not_false_eq_true, not_true_eq_false, and_false, false_and]
        simp only [hK9]
        clear hK9 K9v
        have e1 : s = s + sumTo (fun t => M1 452 (4 * t + j)) 0 := by rw [sumTo]; omega
        rw [e1]
        refine jj_wa d T j p s hT1 hT30 (by omega) q2 (fun e4 he4 => ?_) T 0 (by omega) (Or.inr rfl)
        refine J_rnG GM_fa (by omega) (by omega) (by omega) 2 _ _ _ _ (fun K9v hK9 => ?_)
        simp (maxSteps := 4000000) only [↓(X_iconst (pc' := 103) dX9_where_102 rfl), ↓(X_istore (pc' := 105) dX9_where_103 rfl), ↓sto_4, rn_0, gV_s, ↓pI_c, ↓pII_c, ↓pL_c, ↓pLL_c, ↓pR_c, ↓pRI_c, ↓pRII_c, ↓pRIL_c, ↓pRR_c, ↓pV_c, ↓pVV_c, ↓gI_c, ↓gL_c, ↓gR_c, f2_0, f2_1, nk_n, nk_i, nk_r, ↓reduceIte, r32, r64, Nat.reduceAdd, Nat.reduceSub, Nat.reduceEqDiff, Nat.reduceLT, Nat.reduceLeDiff, Nat.reduceBEq, Int.reduceAdd, Int.reduceSub, Int.reduceMul, Int.reduceNeg, Int.reduceToNat, Int.reduceLE, Int.reduceLT, Int.reduceEq, Int.reduceNatCast', Int.reduceNatCast, Int.natCast_zero, Int.toNat_natCast, Int.toNat_zero, Int.toNat_one, List.length_cons, List.length_nil, true_and, and_true, and_self, true_or, or_true, false_or, or_false, Bool.not_true, Bool.not_false, Nat.lt_add_one, Nat.zero_lt_succ, N0, swL_n, swL_c, List.toList_toArray, false_implies, true_implies, implies_true, forall_const, not_false_eq_true, not_true_eq_false, and_false, false_and]
        simp only [hK9]
        clear hK9 K9v
        have e2 : ∀ w : Int, w = w + inMixm M1 j 0 := fun w => by rw [inMixm]; omega
        rw [e2 (s + _)]
        refine jj_wb d n j p _ hn1 hn2 (by omega) q2 (by rw [hA 457 (by decide)]; exact hst) (fun e4 => ?_) n 0 (by omega) (Or.inr rfl)
        refine J_rnG GM_fa (by omega) (by omega) (by omega) 1 _ _ _ _ (fun K9v hK9 => ?_)
        simp (maxSteps := 4000000) only [↓(X_iload_n (k := 3) (pc' := 155) dX9_where_154 rfl rfl), ↓gI_3, rn_0, gV_s, ↓pI_c, ↓pII_c, ↓pL_c, ↓pLL_c, ↓pR_c, ↓pRI_c, ↓pRII_c, ↓pRIL_c, ↓pRR_c, ↓pV_c, ↓pVV_c, ↓gI_c, ↓gL_c, ↓gR_c, f2_0, f2_1, nk_n, nk_i, nk_r, ↓reduceIte, r32, r64, Nat.reduceAdd, Nat.reduceSub, Nat.reduceEqDiff, Nat.reduceLT, Nat.reduceLeDiff, Nat.reduceBEq, Int.reduceAdd, Int.reduceSub, Int.reduceMul, Int.reduceNeg, Int.reduceToNat, Int.reduceLE, Int.reduceLT, Int.reduceEq, Int.reduceNatCast', Int.reduceNatCast, Int.natCast_zero, Int.toNat_natCast, Int.toNat_zero, Int.toNat_one, List.length_cons, List.length_nil, true_and, and_true, and_self, true_or, or_true, false_or, or_false, Bool.not_true, Bool.not_false, Nat.lt_add_one, Nat.zero_lt_succ, N0, swL_n, swL_c, List.toList_toArray, false_implies, true_implies, implies_true, forall_const, not_false_eq_true, not_true_eq_false, and_false, false_and]
        simp only [hK9]
        clear hK9 K9v
        refine J_iret dX9_where_155 rfl (by omega) (by omega) (⟨by rw [im, hA 452 (by decide), hv], by rw [hM1]; rfl⟩)
      obtain e | e | e | e : p = 0 ∨ p = 1 ∨ p = 2 ∨ p = 3 := by omega
      · subst e
        refine J_rnG GM_fa (by omega) (by omega) (by omega) 7 _ _ _ _ (fun K9v hK9 => ?_)
        simp (maxSteps := 4000000) only [↓(X_iload_n (k := 2) (pc' := 37) dX9_where_36 rfl rfl), ↓gI_2, ↓(X_if_ne (tgt := 49) (pc' := 40) dX9_where_37 (by decide) rfl), ↓(X_aload_n (k := 0) (pc' := 41) dX9_where_40 rfl rfl), ↓gR_0, ↓(X_getR (pc' := 44) fl_9_16 dX9_where_41 rfl), kd_447, ↓(gV_c r0_447_3), kd_450, ln_450, ↓(X_iload_n (k := 1) (pc' := 45) dX9_where_44 rfl rfl), ↓gI_1, ↓(X_iaload (pc' := 46) dX9_where_45 rfl), ↓(X_goto (pc' := 64) dX9_where_46 (by decide)), rn_0, gV_s, ↓pI_c, ↓pII_c, ↓pL_c, ↓pLL_c, ↓pR_c, ↓pRI_c, ↓pRII_c, ↓pRIL_c, ↓pRR_c, ↓pV_c, ↓pVV_c, ↓gI_c, ↓gL_c, ↓gR_c, f2_0, f2_1, nk_n, nk_i, nk_r, ↓reduceIte, r32, r64, Nat.reduceAdd, Nat.reduceSub, Nat.reduceEqDiff, Nat.reduceLT, Nat.reduceLeDiff, Nat.reduceBEq, Int.reduceAdd, Int.reduceSub, Int.reduceMul, Int.reduceNeg, Int.reduceToNat, Int.reduceLE, Int.reduceLT, Int.reduceEq, Int.reduceNatCast', Int.reduceNatCast, Int.natCast_zero, Int.toNat_natCast, Int.toNat_zero, Int.toNat_one, List.length_cons, List.length_nil, true_and, and_true, and_self, true_or, or_true, false_or, or_false, Bool.not_true, Bool.not_false, Nat.lt_add_one, Nat.zero_lt_succ, N0, swL_n, swL_c, List.toList_toArray, false_implies, true_implies, implies_true, forall_const, not_false_eq_true, not_true_eq_false, and_false, false_and, i1, q.1, hA 450 (by decide)]
        simp only [hK9]
        clear hK9 K9v
        exact hgo _ _ (by simp)
      · subst e
        refine J_rnG GM_fa (by omega) (by omega) (by omega) 2 _ _ _ _ (fun K9v hK9 => ?_)
        simp (maxSteps := 4000000) only [↓(X_iload_n (k := 2) (pc' := 37) dX9_where_36 rfl rfl), ↓gI_2, ↓(X_if_ne (tgt := 49) (pc' := 40) dX9_where_37 (by decide) rfl), rn_0, gV_s, ↓pI_c, ↓pII_c, ↓pL_c, ↓pLL_c, ↓pR_c, ↓pRI_c, ↓pRII_c, ↓pRIL_c, ↓pRR_c, ↓pV_c, ↓pVV_c, ↓gI_c, ↓gL_c, ↓gR_c, f2_0, f2_1, nk_n, nk_i, nk_r, ↓reduceIte, r32, r64, Nat.reduceAdd, Nat.reduceSub, Nat.reduceEqDiff, Nat.reduceLT, Nat.reduceLeDiff, Nat.reduceBEq, Int.reduceAdd, Int.reduceSub, Int.reduceMul, Int.reduceNeg, Int.reduceToNat, Int.reduceLE, Int.reduceLT, Int.reduceEq, Int.reduceNatCast', Int.reduceNatCast, Int.natCast_zero, Int.toNat_natCast, Int.toNat_zero, Int.toNat_one, List.length_cons, List.length_nil, true_and, and_true, and_self, true_or, or_true, false_or, or_false, Bool.not_true, Bool.not_false, Nat.lt_add_one, Nat.zero_lt_succ, N0, swL_n, swL_c, List.toList_toArray, false_implies, true_implies, implies_true, forall_const, not_false_eq_true, not_true_eq_false, and_false, false_and]
        simp only [hK9]
        clear hK9 K9v
        refine J_rnG GM_fa (by omega) (by omega) (by omega) 3 _ _ _ _ (fun K9v hK9 => ?_)
        simp (maxSteps := 4000000) only [↓(X_iload_n (k := 2) (pc' := 50) dX9_where_49 rfl rfl), ↓gI_2, ↓(X_iconst (pc' := 51) dX9_where_50 rfl), ↓(X_icmp_ne (tgt := 63) (pc' := 54) dX9_where_51 (by decide) rfl), rn_0, gV_s, ↓pI_c, ↓pII_c, ↓pL_c, ↓pLL_c, ↓pR_c, ↓pRI_c, ↓pRII_c, ↓pRIL_c, ↓pRR_c, ↓pV_c, ↓pVV_c, ↓gI_c, ↓gL_c, ↓gR_c, f2_0, f2_1, nk_n, nk_i, nk_r, ↓reduceIte, r32, r64, Nat.reduceAdd, Nat.reduceSub, Nat.reduceEqDiff, Nat.reduceLT, Nat.reduceLeDiff, Nat.reduceBEq, Int.reduceAdd, Int.reduceSub, Int.reduceMul, Int.reduceNeg, Int.reduceToNat, Int.reduceLE, Int.reduceLT, Int.reduceEq, Int.reduceNatCast', Int.reduceNatCast, Int.natCast_zero, Int.toNat_natCast, Int.toNat_zero, Int.toNat_one, List.length_cons, List.length_nil, true_and, and_true, and_self, true_or, or_true, false_or, or_false, Bool.not_true, Bool.not_false, Nat.lt_add_one, Nat.zero_lt_succ, N0, swL_n, swL_c, List.toList_toArray, false_implies, true_implies, implies_true, forall_const, not_false_eq_true, not_true_eq_false, and_false, false_and]
        simp only [hK9]
        clear hK9 K9v
        refine J_rnG GM_fa (by omega) (by omega) (by omega) 1 _ _ _ _ (fun K9v hK9 => ?_)
        simp (maxSteps := 4000000) only [↓(X_iconst (pc' := 64) dX9_where_63 rfl), rn_0, gV_s, ↓pI_c, ↓pII_c, ↓pL_c, ↓pLL_c, ↓pR_c, ↓pRI_c, ↓pRII_c, ↓pRIL_c, ↓pRR_c, ↓pV_c, ↓pVV_c, ↓gI_c, ↓gL_c, ↓gR_c, f2_0, f2_1, nk_n, nk_i, nk_r, ↓reduceIte, r32, r64, Nat.reduceAdd, Nat.reduceSub, Nat.reduceEqDiff, Nat.reduceLT, Nat.reduceLeDiff, Nat.reduceBEq, Int.reduceAdd, Int.reduceSub, Int.reduceMul, Int.reduceNeg, Int.reduceToNat, Int.reduceLE, Int.reduceLT, Int.reduceEq, Int.reduceNatCast', Int.reduceNatCast, Int.natCast_zero, Int.toNat_natCast, Int.toNat_zero, Int.toNat_one, List.length_cons, List.length_nil, true_and, and_true, and_self, true_or, or_true, false_or, or_false, Bool.not_true, Bool.not_false, Nat.lt_add_one, Nat.zero_lt_succ, N0, swL_n, swL_c, List.toList_toArray, false_implies, true_implies, implies_true, forall_const, not_false_eq_true, not_true_eq_false, and_false, false_and]
        simp only [hK9]
        clear hK9 K9v
        exact hgo _ _ (by simp)
      · subst e
        refine J_rnG GM_fa (by omega) (by omega) (by omega) 2 _ _ _ _ (fun K9v hK9 => ?_)
        simp (maxSteps := 4000000) only [↓(X_iload_n (k := 2) (pc' := 37) dX9_where_36 rfl rfl), ↓gI_2, ↓(X_if_ne (tgt := 49) (pc' := 40) dX9_where_37 (by decide) rfl), rn_0, gV_s, ↓pI_c, ↓pII_c, ↓pL_c, ↓pLL_c, ↓pR_c, ↓pRI_c, ↓pRII_c, ↓pRIL_c, ↓pRR_c, ↓pV_c, ↓pVV_c, ↓gI_c, ↓gL_c, ↓gR_c, f2_0, f2_1, nk_n, nk_i, nk_r, ↓reduceIte, r32, r64, Nat.reduceAdd, Nat.reduceSub, Nat.reduceEqDiff, Nat.reduceLT, Nat.reduceLeDiff, Nat.reduceBEq, Int.reduceAdd, Int.reduceSub, Int.reduceMul, Int.reduceNeg, Int.reduceToNat, Int.reduceLE, Int.reduceLT, Int.reduceEq, Int.reduceNatCast', Int.reduceNatCast, Int.natCast_zero, Int.toNat_natCast, Int.toNat_zero, Int.toNat_one, List.length_cons, List.length_nil, true_and, and_true, and_self, true_or, or_true, false_or, or_false, Bool.not_true, Bool.not_false, Nat.lt_add_one, Nat.zero_lt_succ, N0, swL_n, swL_c, List.toList_toArray, false_implies, true_implies, implies_true, forall_const, not_false_eq_true, not_true_eq_false, and_false, false_and]
        simp only [hK9]
        clear hK9 K9v
        refine J_rnG GM_fa (by omega) (by omega) (by omega) 3 _ _ _ _ (fun K9v hK9 => ?_)
        simp (maxSteps := 4000000) only [↓(X_iload_n (k := 2) (pc' := 50) dX9_where_49 rfl rfl), ↓gI_2, ↓(X_iconst (pc' := 51) dX9_where_50 rfl), ↓(X_icmp_ne (tgt := 63) (pc' := 54) dX9_where_51 (by decide) rfl), rn_0, gV_s, ↓pI_c, ↓pII_c, ↓pL_c, ↓pLL_c, ↓pR_c, ↓pRI_c, ↓pRII_c, ↓pRIL_c, ↓pRR_c, ↓pV_c, ↓pVV_c, ↓gI_c, ↓gL_c, ↓gR_c, f2_0, f2_1, nk_n, nk_i, nk_r, ↓reduceIte, r32, r64, Nat.reduceAdd, Nat.reduceSub, Nat.reduceEqDiff, Nat.reduceLT, Nat.reduceLeDiff, Nat.reduceBEq, Int.reduceAdd, Int.reduceSub, Int.reduceMul, Int.reduceNeg, Int.reduceToNat, Int.reduceLE, Int.reduceLT, Int.reduceEq, Int.reduceNatCast', Int.reduceNatCast, Int.natCast_zero, Int.toNat_natCast, Int.toNat_zero, Int.toNat_one, List.length_cons, List.length_nil, true_and, and_true, and_self, true_or, or_true, false_or, or_false, Bool.not_true, Bool.not_false, Nat.lt_add_one, Nat.zero_lt_succ, N0, swL_n, swL_c, List.toList_toArray, false_implies, true_implies, implies_true, forall_const, not_false_eq_true, not_true_eq_false, and_false, false_and]
        simp only [hK9]
        clear hK9 K9v
        refine J_rnG GM_fa (by omega) (by omega) (by omega) 1 _ _ _ _ (fun K9v hK9 => ?_)
        simp (maxSteps := 4000000) only [↓(X_iconst (pc' := 64) dX9_where_63 rfl), rn_0, gV_s, ↓pI_c, ↓pII_c, ↓pL_c, ↓pLL_c, ↓pR_c, ↓pRI_c, ↓pRII_c, ↓pRIL_c, ↓pRR_c, ↓pV_c, ↓pVV_c, ↓gI_c, ↓gL_c, ↓gR_c, f2_0, f2_1, nk_n, nk_i, nk_r, ↓reduceIte, r32, r64, Nat.reduceAdd, Nat.reduceSub, Nat.reduceEqDiff, Nat.reduceLT, Nat.reduceLeDiff, Nat.reduceBEq, Int.reduceAdd, Int.reduceSub, Int.reduceMul, Int.reduceNeg, Int.reduceToNat, Int.reduceLE, Int.reduceLT, Int.reduceEq, Int.reduceNatCast', Int.reduceNatCast, Int.natCast_zero, Int.toNat_natCast, Int.toNat_zero, Int.toNat_one, List.length_cons, List.length_nil, true_and, and_true, and_self, true_or, or_true, false_or, or_false, Bool.not_true, Bool.not_false, Nat.lt_add_one, Nat.zero_lt_succ, N0, swL_n, swL_c, List.toList_toArray, false_implies, true_implies, implies_true, forall_const, not_false_eq_true, not_true_eq_false, and_false, false_and]
        simp only [hK9]
        clear hK9 K9v
        exact hgo _ _ (by simp)
      · subst e
        refine J_rnG GM_fa (by omega) (by omega) (by omega) 2 _ _ _ _ (fun K9v hK9 => ?_)
        simp (maxSteps := 4000000) only [↓(X_iload_n (k := 2) (pc' := 37) dX9_where_36 rfl rfl), ↓gI_2, ↓(X_if_ne (tgt := 49) (pc' := 40) dX9_where_37 (by decide) rfl), rn_0, gV_s, ↓pI_c, ↓pII_c, ↓pL_c, ↓pLL_c, ↓pR_c, ↓pRI_c, ↓pRII_c, ↓pRIL_c, ↓pRR_c, ↓pV_c, ↓pVV_c, ↓gI_c, ↓gL_c, ↓gR_c, f2_0, f2_1, nk_n, nk_i, nk_r, ↓reduceIte, r32, r64, Nat.reduceAdd, Nat.reduceSub, Nat.reduceEqDiff, Nat.reduceLT, Nat.reduceLeDiff, Nat.reduceBEq, Int.reduceAdd, Int.reduceSub, Int.reduceMul, Int.reduceNeg, Int.reduceToNat, Int.reduceLE, Int.reduceLT, Int.reduceEq, Int.reduceNatCast', Int.reduceNatCast, Int.natCast_zero, Int.toNat_natCast, Int.toNat_zero, Int.toNat_one, List.length_cons, List.length_nil, true_and, and_true, and_self, true_or, or_true, false_or, or_false, Bool.not_true, Bool.not_false, Nat.lt_add_one, Nat.zero_lt_succ, N0, swL_n, swL_c, List.toList_toArray, false_implies, true_implies, implies_true, forall_const, not_false_eq_true, not_true_eq_false, and_false, false_and]
        simp only [hK9]
        clear hK9 K9v
        refine J_rnG GM_fa (by omega) (by omega) (by omega) 8 _ _ _ _ (fun K9v hK9 => ?_)
        simp (maxSteps := 4000000) only [↓(X_iload_n (k := 2) (pc' := 50) dX9_where_49 rfl rfl), ↓gI_2, ↓(X_iconst (pc' := 51) dX9_where_50 rfl), ↓(X_icmp_ne (tgt := 63) (pc' := 54) dX9_where_51 (by decide) rfl), ↓(X_aload_n (k := 0) (pc' := 55) dX9_where_54 rfl rfl), ↓gR_0, ↓(X_getR (pc' := 58) fl_9_19 dX9_where_55 rfl), kd_447, ↓(gV_c r0_447_4), kd_451, ln_451, ↓(X_iload_n (k := 1) (pc' := 59) dX9_where_58 rfl rfl), ↓gI_1, ↓(X_iaload (pc' := 60) dX9_where_59 rfl), ↓(X_goto (pc' := 64) dX9_where_60 (by decide)), rn_0, gV_s, ↓pI_c, ↓pII_c, ↓pL_c, ↓pLL_c, ↓pR_c, ↓pRI_c, ↓pRII_c, ↓pRIL_c, ↓pRR_c, ↓pV_c, ↓pVV_c, ↓gI_c, ↓gL_c, ↓gR_c, f2_0, f2_1, nk_n, nk_i, nk_r, ↓reduceIte, r32, r64, Nat.reduceAdd, Nat.reduceSub, Nat.reduceEqDiff, Nat.reduceLT, Nat.reduceLeDiff, Nat.reduceBEq, Int.reduceAdd, Int.reduceSub, Int.reduceMul, Int.reduceNeg, Int.reduceToNat, Int.reduceLE, Int.reduceLT, Int.reduceEq, Int.reduceNatCast', Int.reduceNatCast, Int.natCast_zero, Int.toNat_natCast, Int.toNat_zero, Int.toNat_one, List.length_cons, List.length_nil, true_and, and_true, and_self, true_or, or_true, false_or, or_false, Bool.not_true, Bool.not_false, Nat.lt_add_one, Nat.zero_lt_succ, N0, swL_n, swL_c, List.toList_toArray, false_implies, true_implies, implies_true, forall_const, not_false_eq_true, not_true_eq_false, and_false, false_and, i1, q.1, hA 451 (by decide)]
        simp only [hK9]
        clear hK9 K9v
        exact hgo _ _ (by simp)
    · have e : cWhere b p = 1 := by rw [cWhere, if_neg (fun h => q2 h.2)]
      rw [inI_neg q2, e]
      refine J_rnG GM_fa (by omega) (by omega) (by omega) 1 _ _ _ _ (fun K9v hK9 => ?_)
      simp (maxSteps := 4000000) only [↓(X_if_eq (tgt := 23) (pc' := 19) dX9_where_16 (by decide) rfl), rn_0, gV_s, ↓pI_c, ↓pII_c, ↓pL_c, ↓pLL_c, ↓pR_c, ↓pRI_c, ↓pRII_c, ↓pRIL_c, ↓pRR_c, ↓pV_c, ↓pVV_c, ↓gI_c, ↓gL_c, ↓gR_c, f2_0, f2_1, nk_n, nk_i, nk_r, ↓reduceIte, r32, r64, Nat.reduceAdd, Nat.reduceSub, Nat.reduceEqDiff, Nat.reduceLT, Nat.reduceLeDiff, Nat.reduceBEq, Int.reduceAdd, Int.reduceSub, Int.reduceMul, Int.reduceNeg, Int.reduceToNat, Int.reduceLE, Int.reduceLT, Int.reduceEq, Int.reduceNatCast', Int.reduceNatCast, Int.natCast_zero, Int.toNat_natCast, Int.toNat_zero, Int.toNat_one, List.length_cons, List.length_nil, true_and, and_true, and_self, true_or, or_true, false_or, or_false, Bool.not_true, Bool.not_false, Nat.lt_add_one, Nat.zero_lt_succ, N0, swL_n, swL_c, List.toList_toArray, false_implies, true_implies, implies_true, forall_const, not_false_eq_true, not_true_eq_false, and_false, false_and]
      simp only [hK9]
      clear hK9 K9v
      refine J_rnG GM_fa (by omega) (by omega) (by omega) 6 _ _ _ _ (fun K9v hK9 => ?_)
      simp (maxSteps := 4000000) only [↓(X_iconst (pc' := 24) dX9_where_23 rfl), ↓(X_putI (pc' := 27) fl_9_72 (by decide) dX9_where_24 rfl), Nat.one_ne_zero, Nat.reduceEqDiff, kd_447, ↓(X_aload_n (k := 0) (pc' := 28) dX9_where_27 rfl rfl), ↓gR_0, ↓(X_getI (pc' := 31) fl_9_72 (by decide) dX9_where_28 rfl), ↓(X_if_le (tgt := 36) (pc' := 34) dX9_where_31 (by decide) rfl), ↓(X_iconst (pc' := 35) dX9_where_34 rfl), rn_0, gV_s, ↓pI_c, ↓pII_c, ↓pL_c, ↓pLL_c, ↓pR_c, ↓pRI_c, ↓pRII_c, ↓pRIL_c, ↓pRR_c, ↓pV_c, ↓pVV_c, ↓gI_c, ↓gL_c, ↓gR_c, f2_0, f2_1, nk_n, nk_i, nk_r, ↓reduceIte, r32, r64, Nat.reduceAdd, Nat.reduceSub, Nat.reduceEqDiff, Nat.reduceLT, Nat.reduceLeDiff, Nat.reduceBEq, Int.reduceAdd, Int.reduceSub, Int.reduceMul, Int.reduceNeg, Int.reduceToNat, Int.reduceLE, Int.reduceLT, Int.reduceEq, Int.reduceNatCast', Int.reduceNatCast, Int.natCast_zero, Int.toNat_natCast, Int.toNat_zero, Int.toNat_one, List.length_cons, List.length_nil, true_and, and_true, and_self, true_or, or_true, false_or, or_false, Bool.not_true, Bool.not_false, Nat.lt_add_one, Nat.zero_lt_succ, N0, swL_n, swL_c, List.toList_toArray, false_implies, true_implies, implies_true, forall_const, not_false_eq_true, not_true_eq_false, and_false, false_and, up2_s]
      simp only [hK9]
      clear hK9 K9v
      refine J_iret dX9_where_35 rfl (by omega) (by omega) (⟨rfl, rfl⟩)
  · have e : cWhere b p = 1 := by rw [cWhere, if_neg (fun h => q h.1)]
    rw [inI_neg q, e]
    refine J_rnG GM_fa (by omega) (by omega) (by omega) 1 _ _ _ _ (fun K9v hK9 => ?_)
    simp (maxSteps := 4000000) only [↓(X_if_eq (tgt := 23) (pc' := 10) dX9_where_7 (by decide) rfl), rn_0, gV_s, ↓pI_c, ↓pII_c, ↓pL_c, ↓pLL_c, ↓pR_c, ↓pRI_c, ↓pRII_c, ↓pRIL_c, ↓pRR_c, ↓pV_c, ↓pVV_c, ↓gI_c, ↓gL_c, ↓gR_c, f2_0, f2_1, nk_n, nk_i, nk_r, ↓reduceIte, r32, r64, Nat.reduceAdd, Nat.reduceSub, Nat.reduceEqDiff, Nat.reduceLT, Nat.reduceLeDiff, Nat.reduceBEq, Int.reduceAdd, Int.reduceSub, Int.reduceMul, Int.reduceNeg, Int.reduceToNat, Int.reduceLE, Int.reduceLT, Int.reduceEq, Int.reduceNatCast', Int.reduceNatCast, Int.natCast_zero, Int.toNat_natCast, Int.toNat_zero, Int.toNat_one, List.length_cons, List.length_nil, true_and, and_true, and_self, true_or, or_true, false_or, or_false, Bool.not_true, Bool.not_false, Nat.lt_add_one, Nat.zero_lt_succ, N0, swL_n, swL_c, List.toList_toArray, false_implies, true_implies, implies_true, forall_const, not_false_eq_true, not_true_eq_false, and_false, false_and]
    simp only [hK9]
    clear hK9 K9v
    refine J_rnG GM_fa (by omega) (by omega) (by omega) 6 _ _ _ _ (fun K9v hK9 => ?_)
    simp (maxSteps := 4000000) only [↓(X_iconst (pc' := 24) dX9_where_23 rfl), ↓(X_putI (pc' := 27) fl_9_72 (by decide) dX9_where_24 rfl), Nat.one_ne_zero, Nat.reduceEqDiff, kd_447, ↓(X_aload_n (k := 0) (pc' := 28) dX9_where_27 rfl rfl), ↓gR_0, ↓(X_getI (pc' := 31) fl_9_72 (by decide) dX9_where_28 rfl), ↓(X_if_le (tgt := 36) (pc' := 34) dX9_where_31 (by decide) rfl), ↓(X_iconst (pc' := 35) dX9_where_34 rfl), rn_0, gV_s, ↓pI_c, ↓pII_c, ↓pL_c, ↓pLL_c, ↓pR_c, ↓pRI_c, ↓pRII_c, ↓pRIL_c, ↓pRR_c, ↓pV_c, ↓pVV_c, ↓gI_c, ↓gL_c, ↓gR_c, f2_0, f2_1, nk_n, nk_i, nk_r, ↓reduceIte, r32, r64, Nat.reduceAdd, Nat.reduceSub, Nat.reduceEqDiff, Nat.reduceLT, Nat.reduceLeDiff, Nat.reduceBEq, Int.reduceAdd, Int.reduceSub, Int.reduceMul, Int.reduceNeg, Int.reduceToNat, Int.reduceLE, Int.reduceLT, Int.reduceEq, Int.reduceNatCast', Int.reduceNatCast, Int.natCast_zero, Int.toNat_natCast, Int.toNat_zero, Int.toNat_one, List.length_cons, List.length_nil, true_and, and_true, and_self, true_or, or_true, false_or, or_false, Bool.not_true, Bool.not_false, Nat.lt_add_one, Nat.zero_lt_succ, N0, swL_n, swL_c, List.toList_toArray, false_implies, true_implies, implies_true, forall_const, not_false_eq_true, not_true_eq_false, and_false, false_and, up2_s]
    simp only [hK9]
    clear hK9 K9v
    refine J_iret dX9_where_35 rfl (by omega) (by omega) (⟨rfl, rfl⟩)
end MI
