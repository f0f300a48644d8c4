/-! the model's washes: between two, and the list of mixed jobs -/
def mcol (M : Nat → Nat → Int) (j : Nat) : Nat → Int := fun p => M 454 (3 * j + p)
def cJ (M : Nat → Nat → Int) (a b : Nat) : Int := if a = 16 then 0 else washF (mcol M a) (mcol M b)
def CA (M : Nat → Nat → Int) (js : Nat → Nat) (a : Nat) : Nat → Nat → Int := fun r k => if r = 8 then cJ M a (js k) else cJ M (js r) (js k)
def mJ (M : Nat → Nat → Int) : Prop := ∀ i, i < 16 → col3 (mcol M i)
def mixAtm (M : Nat → Nat → Int) : Nat → Nat → Nat
  | 0, _ => 0
  | j + 1, k => if M 457 j = 1 ∧ k = nMixm M j then j else mixAtm M j k
theorem mixAtm_lt {M : Nat → Nat → Int} : ∀ (j k : Nat), k < nMixm M j → mixAtm M j k < j
  | 0, k, h => by rw [nMixm] at h; omega
  | j + 1, k, h => by
    rw [mixAtm]
    rw [nMixm] at h
    split
    · omega
    · rename_i q
      have : k < nMixm M j := by
        split at h
        · rename_i q2
          have : ¬ k = nMixm M j := fun e => q ⟨q2, e⟩
          omega
        · omega
      have := mixAtm_lt (M := M) j k this
      omega
theorem nMixm_mono {M : Nat → Nat → Int} {j n : Nat} (h : j ≤ n) : nMixm M j ≤ nMixm M n := by
  induction n with
  | zero => rw [show j = 0 by omega]; exact Nat.le_refl _
  | succ n ih =>
    rcases (show j = n + 1 ∨ j ≤ n by omega) with q | q
    · rw [q]; exact Nat.le_refl _
    · have := ih q
      rw [nMixm]
      split <;> omega
def mxI (M M' : Nat → Nat → Int) (i : Nat) : Prop := (∀ x, x ≠ 466 → M' x = M x) ∧ ∀ k, k < nMixm M i → M' 466 k = (mixAtm M i k : Int)
theorem bt_shr : ∀ s : Nat, s < 256 → ∀ k : Nat, k < 8 → bAnd ((s : Int) / 2 ^ k) 1 = if s.testBit k then 1 else 0 := by decide +kernel
section MP
variable {l : Launch} {D : va_G} {cy : Nat → ClassId}
set_option maxRecDepth 100000 in
set_option maxHeartbeats 4000000 in
theorem om_wash {M : Nat → Nat → Int} (d a b : Nat) (ha : a < 16) (hb : b < 16) (hJ : mJ M) : Ok l D cy (d + 2) 0 0 yX9_wash cX9_wash 6 (some (.int)) [.inr (.inr (some (447))), .inl ((a : Int)), .inl ((b : Int))] (N0, R0, M) (det (some (.inl (washF (mcol M a) (mcol M b)))) (N0, R0, M)) := by
  refine Ok.intro (o := 9) (ini := false) [some (.inr (.inr (some (447)))), some (.inl ((a : Int))), some (.inl ((b : Int))), none, none, none] (by decide +kernel) rfl (fun h => by cases h) rfl (Nat.le_of_ble_eq_true rfl) rfl ?_
  have ca := hJ a ha
  have cb := hJ b hb
  obtain ⟨u0, u1, u2⟩ := ca
  obtain ⟨v0, v1, v2⟩ := cb
  have ea0 : 3 * (a : Int) = ((3 * a : Nat) : Int) := by omega
  have ea1 : ((3 * a : Nat) : Int) + 1 = ((3 * a + 1 : Nat) : Int) := by omega
  have ea2 : ((3 * a : Nat) : Int) + 2 = ((3 * a + 2 : Nat) : Int) := by omega
  have eb0 : 3 * (b : Int) = ((3 * b : Nat) : Int) := by omega
  have eb1 : ((3 * b : Nat) : Int) + 1 = ((3 * b + 1 : Nat) : Int) := by omega
  have eb2 : ((3 * b : Nat) : Int) + 2 = ((3 * b + 2 : Nat) : Int) := by omega
  have ia0 : (0 : Int) ≤ ((3 * a : Nat) : Int) ∧ ((3 * a : Nat) : Int) < 48 := by omega
  have ia1 : (0 : Int) ≤ ((3 * a + 1 : Nat) : Int) ∧ ((3 * a + 1 : Nat) : Int) < 48 := by omega
  have ia2 : (0 : Int) ≤ ((3 * a + 2 : Nat) : Int) ∧ ((3 * a + 2 : Nat) : Int) < 48 := by omega
  have ib0 : (0 : Int) ≤ ((3 * b : Nat) : Int) ∧ ((3 * b : Nat) : Int) < 48 := by omega
  have ib1 : (0 : Int) ≤ ((3 * b + 1 : Nat) : Int) ∧ ((3 * b + 1 : Nat) : Int) < 48 := by omega
  have ib2 : (0 : Int) ≤ ((3 * b + 2 : Nat) : Int) ∧ ((3 * b + 2 : Nat) : Int) < 48 := by omega
  have wa0 : M 454 (3 * a) = mcol M a 0 := rfl
  have wa1 : M 454 (3 * a + 1) = mcol M a 1 := rfl
  have wa2 : M 454 (3 * a + 2) = mcol M a 2 := rfl
  have wb0 : M 454 (3 * b) = mcol M b 0 := rfl
  have wb1 : M 454 (3 * b + 1) = mcol M b 1 := rfl
  have wb2 : M 454 (3 * b + 2) = mcol M b 2 := rfl
  refine J_rnG GM_fa (by omega) (by omega) (by omega) 6 _ _ _ _ (fun K9v hK9 => ?_)
  simp (maxSteps := 4000000) only [↓(X_iconst (pc' := 1) dX9_wash_0 rfl), ↓(X_istore_n (k := 3) (pc' := 2) dX9_wash_1 rfl rfl), ↓sto_3, ↓(X_iconst (pc' := 3) dX9_wash_2 rfl), ↓(X_istore (pc' := 5) dX9_wash_3 rfl), ↓sto_4, ↓(X_iconst (pc' := 6) dX9_wash_5 rfl), ↓(X_istore (pc' := 8) dX9_wash_6 rfl), ↓sto_5, rn_0, gV_s, ↓pI_c, ↓pII_c, ↓pL_c, ↓pLL_c, ↓pR_c, ↓pRI_c, ↓pRII_c, ↓pRIL_c, ↓pRR_c, ↓pV_c, ↓pVV_c, ↓gI_c, ↓gL_c, ↓gR_c, f2_0, f2_1, nk_n, nk_i, nk_r, ↓reduceIte, r32, r64, Nat.reduceAdd, Nat.reduceSub, Nat.reduceEqDiff, Nat.reduceLT, Nat.reduceLeDiff, Nat.reduceBEq, Int.reduceAdd, Int.reduceSub, Int.reduceMul, Int.reduceNeg, Int.reduceToNat, Int.reduceLE, Int.reduceLT, Int.reduceEq, Int.reduceNatCast', Int.reduceNatCast, Int.natCast_zero, Int.toNat_natCast, Int.toNat_zero, Int.toNat_one, List.length_cons, List.length_nil, true_and, and_true, and_self, true_or, or_true, false_or, or_false, Bool.not_true, Bool.not_false, Nat.lt_add_one, Nat.zero_lt_succ, N0, swL_n, swL_c, List.toList_toArray, false_implies, true_implies, implies_true, forall_const, not_false_eq_true, not_true_eq_false, and_false, false_and]
  simp only [hK9]
  clear hK9 K9v
  refine J_rnG GM_fa (by omega) (by omega) (by omega) 20 _ _ _ _ (fun K9v hK9 => ?_)
  simp (maxSteps := 4000000) only [↓(X_iload (pc' := 10) dX9_wash_8 rfl), ↓gI_5, ↓(X_iconst (pc' := 11) dX9_wash_10 rfl), ↓(X_icmp_ge (tgt := 76) (pc' := 14) dX9_wash_11 (by decide) rfl), ↓(X_iload_n (k := 3) (pc' := 15) dX9_wash_14 rfl rfl), ↓gI_3, ↓(X_aload_n (k := 0) (pc' := 16) dX9_wash_15 rfl rfl), ↓gR_0, ↓(X_getR (pc' := 19) fl_9_28 dX9_wash_16 rfl), kd_447, ↓(gV_c r0_447_9), kd_454, ln_454, ↓(X_iconst (pc' := 20) dX9_wash_19 rfl), ↓(X_iload_n (k := 1) (pc' := 21) dX9_wash_20 rfl rfl), ↓gI_1, ↓(X_imul (pc' := 22) dX9_wash_21 rfl), ↓(X_iload (pc' := 24) dX9_wash_22 rfl), ↓(X_iadd (pc' := 25) dX9_wash_24 rfl), ↓(X_iaload (pc' := 26) dX9_wash_25 rfl), ↓(X_aload_n (k := 0) (pc' := 27) dX9_wash_26 rfl rfl), ↓(X_getR (pc' := 30) fl_9_28 dX9_wash_27 rfl), ↓(X_iconst (pc' := 31) dX9_wash_30 rfl), ↓(X_iload_n (k := 2) (pc' := 32) dX9_wash_31 rfl rfl), ↓gI_2, ↓(X_imul (pc' := 33) dX9_wash_32 rfl), ↓(X_iload (pc' := 35) dX9_wash_33 rfl), ↓(X_iadd (pc' := 36) dX9_wash_35 rfl), ↓(X_iaload (pc' := 37) dX9_wash_36 rfl), rn_0, gV_s, ↓pI_c, ↓pII_c, ↓pL_c, ↓pLL_c, ↓pR_c, ↓pRI_c, ↓pRII_c, ↓pRIL_c, ↓pRR_c, ↓pV_c, ↓pVV_c, ↓gI_c, ↓gL_c, ↓gR_c, f2_0, f2_1, nk_n, nk_i, nk_r, ↓reduceIte, r32, r64, Nat.reduceAdd, Nat.reduceSub, Nat.reduceEqDiff, Nat.reduceLT, Nat.reduceLeDiff, Nat.reduceBEq, Int.reduceAdd, Int.reduceSub, Int.reduceMul, Int.reduceNeg, Int.reduceToNat, Int.reduceLE, Int.reduceLT, Int.reduceEq, Int.reduceNatCast', Int.reduceNatCast, Int.natCast_zero, Int.toNat_natCast, Int.toNat_zero, Int.toNat_one, List.length_cons, List.length_nil, true_and, and_true, and_self, true_or, or_true, false_or, or_false, Bool.not_true, Bool.not_false, Nat.lt_add_one, Nat.zero_lt_succ, N0, swL_n, swL_c, List.toList_toArray, false_implies, true_implies, implies_true, forall_const, not_false_eq_true, not_true_eq_false, and_false, false_and, ea0, eb0, ia0, ib0, wa0, wb0, Int.add_zero]
  simp only [hK9]
  clear hK9 K9v
  refine J_callSd GM_fa (om_apart (M := M) (d + 0) (mcol M a 0) (mcol M b 0) (by simp only [r32]; omega) (by simp only [r32]; omega)) dX9_wash_37 k_9_90 (by omega) (Nat.le_of_ble_eq_true rfl) ⟨by omega, by omega⟩ rfl (by simp) rfl rfl ?_
  simp only [Option.toList, List.cons_append, List.nil_append]
  refine J_rnG GM_fa (by omega) (by omega) (by omega) 44 _ _ _ _ (fun K9v hK9 => ?_)
  simp (maxSteps := 4000000) only [↓(X_iadd (pc' := 41) dX9_wash_40 rfl), ↓(X_istore_n (k := 3) (pc' := 42) dX9_wash_41 rfl rfl), ↓sto_3, ↓(X_iload (pc' := 44) dX9_wash_42 rfl), ↓gI_4, ↓(X_aload_n (k := 0) (pc' := 45) dX9_wash_44 rfl rfl), ↓gR_0, ↓(X_getR (pc' := 48) fl_9_28 dX9_wash_45 rfl), kd_447, ↓(gV_c r0_447_9), kd_454, ln_454, ↓(X_iconst (pc' := 49) dX9_wash_48 rfl), ↓(X_iload_n (k := 2) (pc' := 50) dX9_wash_49 rfl rfl), ↓gI_2, ↓(X_imul (pc' := 51) dX9_wash_50 rfl), ↓(X_iload (pc' := 53) dX9_wash_51 rfl), ↓gI_5, ↓(X_iadd (pc' := 54) dX9_wash_53 rfl), ↓(X_iaload (pc' := 55) dX9_wash_54 rfl), ↓(X_aload_n (k := 0) (pc' := 56) dX9_wash_55 rfl rfl), ↓(X_getR (pc' := 59) fl_9_28 dX9_wash_56 rfl), ↓(X_iconst (pc' := 60) dX9_wash_59 rfl), ↓(X_iload_n (k := 1) (pc' := 61) dX9_wash_60 rfl rfl), ↓gI_1, ↓(X_imul (pc' := 62) dX9_wash_61 rfl), ↓(X_iload (pc' := 64) dX9_wash_62 rfl), ↓(X_iadd (pc' := 65) dX9_wash_64 rfl), ↓(X_iaload (pc' := 66) dX9_wash_65 rfl), ↓(X_isub (pc' := 67) dX9_wash_66 rfl), ↓(X_iadd (pc' := 68) dX9_wash_67 rfl), ↓(X_istore (pc' := 70) dX9_wash_68 rfl), ↓sto_4, ↓(X_iinc (pc' := 73) dX9_wash_70 rfl), ↓sto_5, ↓(X_goto (pc' := 8) dX9_wash_73 (by decide)), ↓(X_iload (pc' := 10) dX9_wash_8 rfl), ↓(X_iconst (pc' := 11) dX9_wash_10 rfl), ↓(X_icmp_ge (tgt := 76) (pc' := 14) dX9_wash_11 (by decide) rfl), ↓(X_iload_n (k := 3) (pc' := 15) dX9_wash_14 rfl rfl), ↓gI_3, ↓(X_aload_n (k := 0) (pc' := 16) dX9_wash_15 rfl rfl), ↓(X_getR (pc' := 19) fl_9_28 dX9_wash_16 rfl), ↓(X_iconst (pc' := 20) dX9_wash_19 rfl), ↓(X_iload_n (k := 1) (pc' := 21) dX9_wash_20 rfl rfl), ↓(X_imul (pc' := 22) dX9_wash_21 rfl), ↓(X_iload (pc' := 24) dX9_wash_22 rfl), ↓(X_iadd (pc' := 25) dX9_wash_24 rfl), ↓(X_iaload (pc' := 26) dX9_wash_25 rfl), ↓(X_aload_n (k := 0) (pc' := 27) dX9_wash_26 rfl rfl), ↓(X_getR (pc' := 30) fl_9_28 dX9_wash_27 rfl), ↓(X_iconst (pc' := 31) dX9_wash_30 rfl), ↓(X_iload_n (k := 2) (pc' := 32) dX9_wash_31 rfl rfl), ↓(X_imul (pc' := 33) dX9_wash_32 rfl), ↓(X_iload (pc' := 35) dX9_wash_33 rfl), ↓(X_iadd (pc' := 36) dX9_wash_35 rfl), ↓(X_iaload (pc' := 37) dX9_wash_36 rfl), rn_0, gV_s, ↓pI_c, ↓pII_c, ↓pL_c, ↓pLL_c, ↓pR_c, ↓pRI_c, ↓pRII_c, ↓pRIL_c, ↓pRR_c, ↓pV_c, ↓pVV_c, ↓gI_c, ↓gL_c, ↓gR_c, f2_0, f2_1, nk_n, nk_i, nk_r, ↓reduceIte, r32, r64, Nat.reduceAdd, Nat.reduceSub, Nat.reduceEqDiff, Nat.reduceLT, Nat.reduceLeDiff, Nat.reduceBEq, Int.reduceAdd, Int.reduceSub, Int.reduceMul, Int.reduceNeg, Int.reduceToNat, Int.reduceLE, Int.reduceLT, Int.reduceEq, Int.reduceNatCast', Int.reduceNatCast, Int.natCast_zero, Int.toNat_natCast, Int.toNat_zero, Int.toNat_one, List.length_cons, List.length_nil, true_and, and_true, and_self, true_or, or_true, false_or, or_false, Bool.not_true, Bool.not_false, Nat.lt_add_one, Nat.zero_lt_succ, N0, swL_n, swL_c, List.toList_toArray, false_implies, true_implies, implies_true, forall_const, not_false_eq_true, not_true_eq_false, and_false, false_and, ea0, ea1, eb0, eb1, ia0, ia1, ib0, ib1, wa0, wa1, wb0, wb1, Int.add_zero]
  simp only [hK9]
  clear hK9 K9v
  refine J_callSd GM_fa (om_apart (M := M) (d + 0) (mcol M a 1) (mcol M b 1) (by simp only [r32]; omega) (by simp only [r32]; omega)) dX9_wash_37 k_9_90 (by omega) (Nat.le_of_ble_eq_true rfl) ⟨by omega, by omega⟩ rfl (by simp) rfl rfl ?_
  simp only [Option.toList, List.cons_append, List.nil_append]
  refine J_rnG GM_fa (by omega) (by omega) (by omega) 44 _ _ _ _ (fun K9v hK9 => ?_)
  simp (maxSteps := 4000000) only [↓(X_iadd (pc' := 41) dX9_wash_40 rfl), ↓(X_istore_n (k := 3) (pc' := 42) dX9_wash_41 rfl rfl), ↓sto_3, ↓(X_iload (pc' := 44) dX9_wash_42 rfl), ↓gI_4, ↓(X_aload_n (k := 0) (pc' := 45) dX9_wash_44 rfl rfl), ↓gR_0, ↓(X_getR (pc' := 48) fl_9_28 dX9_wash_45 rfl), kd_447, ↓(gV_c r0_447_9), kd_454, ln_454, ↓(X_iconst (pc' := 49) dX9_wash_48 rfl), ↓(X_iload_n (k := 2) (pc' := 50) dX9_wash_49 rfl rfl), ↓gI_2, ↓(X_imul (pc' := 51) dX9_wash_50 rfl), ↓(X_iload (pc' := 53) dX9_wash_51 rfl), ↓gI_5, ↓(X_iadd (pc' := 54) dX9_wash_53 rfl), ↓(X_iaload (pc' := 55) dX9_wash_54 rfl), ↓(X_aload_n (k := 0) (pc' := 56) dX9_wash_55 rfl rfl), ↓(X_getR (pc' := 59) fl_9_28 dX9_wash_56 rfl), ↓(X_iconst (pc' := 60) dX9_wash_59 rfl), ↓(X_iload_n (k := 1) (pc' := 61) dX9_wash_60 rfl rfl), ↓gI_1, ↓(X_imul (pc' := 62) dX9_wash_61 rfl), ↓(X_iload (pc' := 64) dX9_wash_62 rfl), ↓(X_iadd (pc' := 65) dX9_wash_64 rfl), ↓(X_iaload (pc' := 66) dX9_wash_65 rfl), ↓(X_isub (pc' := 67) dX9_wash_66 rfl), ↓(X_iadd (pc' := 68) dX9_wash_67 rfl), ↓(X_istore (pc' := 70) dX9_wash_68 rfl), ↓sto_4, ↓(X_iinc (pc' := 73) dX9_wash_70 rfl), ↓sto_5, ↓(X_goto (pc' := 8) dX9_wash_73 (by decide)), ↓(X_iload (pc' := 10) dX9_wash_8 rfl), ↓(X_iconst (pc' := 11) dX9_wash_10 rfl), ↓(X_icmp_ge (tgt := 76) (pc' := 14) dX9_wash_11 (by decide) rfl), ↓(X_iload_n (k := 3) (pc' := 15) dX9_wash_14 rfl rfl), ↓gI_3, ↓(X_aload_n (k := 0) (pc' := 16) dX9_wash_15 rfl rfl), ↓(X_getR (pc' := 19) fl_9_28 dX9_wash_16 rfl), ↓(X_iconst (pc' := 20) dX9_wash_19 rfl), ↓(X_iload_n (k := 1) (pc' := 21) dX9_wash_20 rfl rfl), ↓(X_imul (pc' := 22) dX9_wash_21 rfl), ↓(X_iload (pc' := 24) dX9_wash_22 rfl), ↓(X_iadd (pc' := 25) dX9_wash_24 rfl), ↓(X_iaload (pc' := 26) dX9_wash_25 rfl), ↓(X_aload_n (k := 0) (pc' := 27) dX9_wash_26 rfl rfl), ↓(X_getR (pc' := 30) fl_9_28 dX9_wash_27 rfl), ↓(X_iconst (pc' := 31) dX9_wash_30 rfl), ↓(X_iload_n (k := 2) (pc' := 32) dX9_wash_31 rfl rfl), ↓(X_imul (pc' := 33) dX9_wash_32 rfl), ↓(X_iload (pc' := 35) dX9_wash_33 rfl), ↓(X_iadd (pc' := 36) dX9_wash_35 rfl), ↓(X_iaload (pc' := 37) dX9_wash_36 rfl), rn_0, gV_s, ↓pI_c, ↓pII_c, ↓pL_c, ↓pLL_c, ↓pR_c, ↓pRI_c, ↓pRII_c, ↓pRIL_c, ↓pRR_c, ↓pV_c, ↓pVV_c, ↓gI_c, ↓gL_c, ↓gR_c, f2_0, f2_1, nk_n, nk_i, nk_r, ↓reduceIte, r32, r64, Nat.reduceAdd, Nat.reduceSub, Nat.reduceEqDiff, Nat.reduceLT, Nat.reduceLeDiff, Nat.reduceBEq, Int.reduceAdd, Int.reduceSub, Int.reduceMul, Int.reduceNeg, Int.reduceToNat, Int.reduceLE, Int.reduceLT, Int.reduceEq, Int.reduceNatCast', Int.reduceNatCast, Int.natCast_zero, Int.toNat_natCast, Int.toNat_zero, Int.toNat_one, List.length_cons, List.length_nil, true_and, and_true, and_self, true_or, or_true, false_or, or_false, Bool.not_true, Bool.not_false, Nat.lt_add_one, Nat.zero_lt_succ, N0, swL_n, swL_c, List.toList_toArray, false_implies, true_implies, implies_true, forall_const, not_false_eq_true, not_true_eq_false, and_false, false_and, ea0, ea1, ea2, eb0, eb1, eb2, ia1, ia2, ib1, ib2, wa1, wa2, wb1, wb2, Int.add_zero]
  simp only [hK9]
  clear hK9 K9v
  refine J_callSd GM_fa (om_apart (M := M) (d + 0) (mcol M a 2) (mcol M b 2) (by simp only [r32]; omega) (by simp only [r32]; omega)) dX9_wash_37 k_9_90 (by omega) (Nat.le_of_ble_eq_true rfl) ⟨by omega, by omega⟩ rfl (by simp) rfl rfl ?_
  simp only [Option.toList, List.cons_append, List.nil_append]
  have em : 0 + (mcol M b 0 - mcol M a 0) + (mcol M b 1 - mcol M a 1) + (mcol M b 2 - mcol M a 2) = (mcol M b 0 - mcol M a 0) + (mcol M b 1 - mcol M a 1) + (mcol M b 2 - mcol M a 2) := by omega
  have rm : -2147483648 ≤ (mcol M b 0 - mcol M a 0) + (mcol M b 1 - mcol M a 1) + (mcol M b 2 - mcol M a 2) ∧ (mcol M b 0 - mcol M a 0) + (mcol M b 1 - mcol M a 1) + (mcol M b 2 - mcol M a 2) ≤ 2147483647 := by omega
  rcases (show 0 < (mcol M b 0 - mcol M a 0) + (mcol M b 1 - mcol M a 1) + (mcol M b 2 - mcol M a 2) ∨ ¬ 0 < (mcol M b 0 - mcol M a 0) + (mcol M b 1 - mcol M a 1) + (mcol M b 2 - mcol M a 2) by omega) with q | q
  · have ew : washF (mcol M a) (mcol M b) = 2 * (0 + ((mcol M a 0 - mcol M b 0).natAbs : Int) + (mcol M a 1 - mcol M b 1).natAbs + (mcol M a 2 - mcol M b 2).natAbs) := by
      rw [washF, if_pos q]
      omega
    rw [ew]
    refine J_rnG GM_fa (by omega) (by omega) (by omega) 27 _ _ _ _ (fun K9v hK9 => ?_)
    simp (maxSteps := 4000000) only [↓(X_iadd (pc' := 41) dX9_wash_40 rfl), ↓(X_istore_n (k := 3) (pc' := 42) dX9_wash_41 rfl rfl), ↓sto_3, ↓(X_iload (pc' := 44) dX9_wash_42 rfl), ↓gI_4, ↓(X_aload_n (k := 0) (pc' := 45) dX9_wash_44 rfl rfl), ↓gR_0, ↓(X_getR (pc' := 48) fl_9_28 dX9_wash_45 rfl), kd_447, ↓(gV_c r0_447_9), kd_454, ln_454, ↓(X_iconst (pc' := 49) dX9_wash_48 rfl), ↓(X_iload_n (k := 2) (pc' := 50) dX9_wash_49 rfl rfl), ↓gI_2, ↓(X_imul (pc' := 51) dX9_wash_50 rfl), ↓(X_iload (pc' := 53) dX9_wash_51 rfl), ↓gI_5, ↓(X_iadd (pc' := 54) dX9_wash_53 rfl), ↓(X_iaload (pc' := 55) dX9_wash_54 rfl), ↓(X_aload_n (k := 0) (pc' := 56) dX9_wash_55 rfl rfl), ↓(X_getR (pc' := 59) fl_9_28 dX9_wash_56 rfl), ↓(X_iconst (pc' := 60) dX9_wash_59 rfl), ↓(X_iload_n (k := 1) (pc' := 61) dX9_wash_60 rfl rfl), ↓gI_1, ↓(X_imul (pc' := 62) dX9_wash_61 rfl), ↓(X_iload (pc' := 64) dX9_wash_62 rfl), ↓(X_iadd (pc' := 65) dX9_wash_64 rfl), ↓(X_iaload (pc' := 66) dX9_wash_65 rfl), ↓(X_isub (pc' := 67) dX9_wash_66 rfl), ↓(X_iadd (pc' := 68) dX9_wash_67 rfl), ↓(X_istore (pc' := 70) dX9_wash_68 rfl), ↓sto_4, ↓(X_iinc (pc' := 73) dX9_wash_70 rfl), ↓sto_5, ↓(X_goto (pc' := 8) dX9_wash_73 (by decide)), ↓(X_iload (pc' := 10) dX9_wash_8 rfl), ↓(X_iconst (pc' := 11) dX9_wash_10 rfl), ↓(X_icmp_ge (tgt := 76) (pc' := 14) dX9_wash_11 (by decide) rfl), rn_0, gV_s, ↓pI_c, ↓pII_c, ↓pL_c, ↓pLL_c, ↓pR_c, ↓pRI_c, ↓pRII_c, ↓pRIL_c, ↓pRR_c, ↓pV_c, ↓pVV_c, ↓gI_c, ↓gL_c, ↓gR_c, f2_0, f2_1, nk_n, nk_i, nk_r, ↓reduceIte, r32, r64, Nat.reduceAdd, Nat.reduceSub, Nat.reduceEqDiff, Nat.reduceLT, Nat.reduceLeDiff, Nat.reduceBEq, Int.reduceAdd, Int.reduceSub, Int.reduceMul, Int.reduceNeg, Int.reduceToNat, Int.reduceLE, Int.reduceLT, Int.reduceEq, Int.reduceNatCast', Int.reduceNatCast, Int.natCast_zero, Int.toNat_natCast, Int.toNat_zero, Int.toNat_one, List.length_cons, List.length_nil, true_and, and_true, and_self, true_or, or_true, false_or, or_false, Bool.not_true, Bool.not_false, Nat.lt_add_one, Nat.zero_lt_succ, N0, swL_n, swL_c, List.toList_toArray, false_implies, true_implies, implies_true, forall_const, not_false_eq_true, not_true_eq_false, and_false, false_and, ea0, ea2, eb0, eb2, ia2, ib2, wa2, wb2]
    simp only [hK9]
    clear hK9 K9v
    refine J_rnG GM_fa (by omega) (by omega) (by omega) 2 _ _ _ _ (fun K9v hK9 => ?_)
    simp (maxSteps := 4000000) only [↓(X_iload (pc' := 78) dX9_wash_76 rfl), ↓gI_4, ↓(X_if_le (tgt := 87) (pc' := 81) dX9_wash_78 (by decide) rfl), rn_0, gV_s, ↓pI_c, ↓pII_c, ↓pL_c, ↓pLL_c, ↓pR_c, ↓pRI_c, ↓pRII_c, ↓pRIL_c, ↓pRR_c, ↓pV_c, ↓pVV_c, ↓gI_c, ↓gL_c, ↓gR_c, f2_0, f2_1, nk_n, nk_i, nk_r, ↓reduceIte, r32, r64, Nat.reduceAdd, Nat.reduceSub, Nat.reduceEqDiff, Nat.reduceLT, Nat.reduceLeDiff, Nat.reduceBEq, Int.reduceAdd, Int.reduceSub, Int.reduceMul, Int.reduceNeg, Int.reduceToNat, Int.reduceLE, Int.reduceLT, Int.reduceEq, Int.reduceNatCast', Int.reduceNatCast, Int.natCast_zero, Int.toNat_natCast, Int.toNat_zero, Int.toNat_one, List.length_cons, List.length_nil, true_and, and_true, and_self, true_or, or_true, false_or, or_false, Bool.not_true, Bool.not_false, Nat.lt_add_one, Nat.zero_lt_succ, N0, swL_n, swL_c, List.toList_toArray, false_implies, true_implies, implies_true, forall_const, not_false_eq_true, not_true_eq_false, and_false, false_and, em, rm, q]
    simp only [hK9]
    clear hK9 K9v
    refine J_rnG GM_fa (by omega) (by omega) (by omega) 4 _ _ _ _ (fun K9v hK9 => ?_)
    simp (maxSteps := 4000000) only [↓(X_iconst (pc' := 82) dX9_wash_81 rfl), ↓(X_iload_n (k := 3) (pc' := 83) dX9_wash_82 rfl rfl), ↓gI_3, ↓(X_imul (pc' := 84) dX9_wash_83 rfl), ↓(X_goto (pc' := 88) dX9_wash_84 (by decide)), rn_0, gV_s, ↓pI_c, ↓pII_c, ↓pL_c, ↓pLL_c, ↓pR_c, ↓pRI_c, ↓pRII_c, ↓pRIL_c, ↓pRR_c, ↓pV_c, ↓pVV_c, ↓gI_c, ↓gL_c, ↓gR_c, f2_0, f2_1, nk_n, nk_i, nk_r, ↓reduceIte, r32, r64, Nat.reduceAdd, Nat.reduceSub, Nat.reduceEqDiff, Nat.reduceLT, Nat.reduceLeDiff, Nat.reduceBEq, Int.reduceAdd, Int.reduceSub, Int.reduceMul, Int.reduceNeg, Int.reduceToNat, Int.reduceLE, Int.reduceLT, Int.reduceEq, Int.reduceNatCast', Int.reduceNatCast, Int.natCast_zero, Int.toNat_natCast, Int.toNat_zero, Int.toNat_one, List.length_cons, List.length_nil, true_and, and_true, and_self, true_or, or_true, false_or, or_false, Bool.not_true, Bool.not_false, Nat.lt_add_one, Nat.zero_lt_succ, N0, swL_n, swL_c, List.toList_toArray, false_implies, true_implies, implies_true, forall_const, not_false_eq_true, not_true_eq_false, and_false, false_and]
    simp only [hK9]
    clear hK9 K9v
    refine J_iret dX9_wash_88 rfl (by omega) (by omega) (⟨rfl, rfl⟩)
  · have ew : washF (mcol M a) (mcol M b) = 0 + ((mcol M a 0 - mcol M b 0).natAbs : Int) + (mcol M a 1 - mcol M b 1).natAbs + (mcol M a 2 - mcol M b 2).natAbs := by
      rw [washF, if_neg q]
      omega
    rw [ew]
    refine J_rnG GM_fa (by omega) (by omega) (by omega) 27 _ _ _ _ (fun K9v hK9 => ?_)
    simp (maxSteps := 4000000) only [↓(X_iadd (pc' := 41) dX9_wash_40 rfl), ↓(X_istore_n (k := 3) (pc' := 42) dX9_wash_41 rfl rfl), ↓sto_3, ↓(X_iload (pc' := 44) dX9_wash_42 rfl), ↓gI_4, ↓(X_aload_n (k := 0) (pc' := 45) dX9_wash_44 rfl rfl), ↓gR_0, ↓(X_getR (pc' := 48) fl_9_28 dX9_wash_45 rfl), kd_447, ↓(gV_c r0_447_9), kd_454, ln_454, ↓(X_iconst (pc' := 49) dX9_wash_48 rfl), ↓(X_iload_n (k := 2) (pc' := 50) dX9_wash_49 rfl rfl), ↓gI_2, ↓(X_imul (pc' := 51) dX9_wash_50 rfl), ↓(X_iload (pc' := 53) dX9_wash_51 rfl), ↓gI_5, ↓(X_iadd (pc' := 54) dX9_wash_53 rfl), ↓(X_iaload (pc' := 55) dX9_wash_54 rfl), ↓(X_aload_n (k := 0) (pc' := 56) dX9_wash_55 rfl rfl), ↓(X_getR (pc' := 59) fl_9_28 dX9_wash_56 rfl), ↓(X_iconst (pc' := 60) dX9_wash_59 rfl), ↓(X_iload_n (k := 1) (pc' := 61) dX9_wash_60 rfl rfl), ↓gI_1, ↓(X_imul (pc' := 62) dX9_wash_61 rfl), ↓(X_iload (pc' := 64) dX9_wash_62 rfl), ↓(X_iadd (pc' := 65) dX9_wash_64 rfl), ↓(X_iaload (pc' := 66) dX9_wash_65 rfl), ↓(X_isub (pc' := 67) dX9_wash_66 rfl), ↓(X_iadd (pc' := 68) dX9_wash_67 rfl), ↓(X_istore (pc' := 70) dX9_wash_68 rfl), ↓sto_4, ↓(X_iinc (pc' := 73) dX9_wash_70 rfl), ↓sto_5, ↓(X_goto (pc' := 8) dX9_wash_73 (by decide)), ↓(X_iload (pc' := 10) dX9_wash_8 rfl), ↓(X_iconst (pc' := 11) dX9_wash_10 rfl), ↓(X_icmp_ge (tgt := 76) (pc' := 14) dX9_wash_11 (by decide) rfl), rn_0, gV_s, ↓pI_c, ↓pII_c, ↓pL_c, ↓pLL_c, ↓pR_c, ↓pRI_c, ↓pRII_c, ↓pRIL_c, ↓pRR_c, ↓pV_c, ↓pVV_c, ↓gI_c, ↓gL_c, ↓gR_c, f2_0, f2_1, nk_n, nk_i, nk_r, ↓reduceIte, r32, r64, Nat.reduceAdd, Nat.reduceSub, Nat.reduceEqDiff, Nat.reduceLT, Nat.reduceLeDiff, Nat.reduceBEq, Int.reduceAdd, Int.reduceSub, Int.reduceMul, Int.reduceNeg, Int.reduceToNat, Int.reduceLE, Int.reduceLT, Int.reduceEq, Int.reduceNatCast', Int.reduceNatCast, Int.natCast_zero, Int.toNat_natCast, Int.toNat_zero, Int.toNat_one, List.length_cons, List.length_nil, true_and, and_true, and_self, true_or, or_true, false_or, or_false, Bool.not_true, Bool.not_false, Nat.lt_add_one, Nat.zero_lt_succ, N0, swL_n, swL_c, List.toList_toArray, false_implies, true_implies, implies_true, forall_const, not_false_eq_true, not_true_eq_false, and_false, false_and, ea0, ea2, eb0, eb2, ia2, ib2, wa2, wb2]
    simp only [hK9]
    clear hK9 K9v
    refine J_rnG GM_fa (by omega) (by omega) (by omega) 2 _ _ _ _ (fun K9v hK9 => ?_)
    simp (maxSteps := 4000000) only [↓(X_iload (pc' := 78) dX9_wash_76 rfl), ↓gI_4, ↓(X_if_le (tgt := 87) (pc' := 81) dX9_wash_78 (by decide) rfl), rn_0, gV_s, ↓pI_c, ↓pII_c, ↓pL_c, ↓pLL_c, ↓pR_c, ↓pRI_c, ↓pRII_c, ↓pRIL_c, ↓pRR_c, ↓pV_c, ↓pVV_c, ↓gI_c, ↓gL_c, ↓gR_c, f2_0, f2_1, nk_n, nk_i, nk_r, ↓reduceIte, r32, r64, Nat.reduceAdd, Nat.reduceSub, Nat.reduceEqDiff, Nat.reduceLT, Nat.reduceLeDiff, Nat.reduceBEq, Int.reduceAdd, Int.reduceSub, Int.reduceMul, Int.reduceNeg, Int.reduceToNat, Int.reduceLE, Int.reduceLT, Int.reduceEq, Int.reduceNatCast', Int.reduceNatCast, Int.natCast_zero, Int.toNat_natCast, Int.toNat_zero, Int.toNat_one, List.length_cons, List.length_nil, true_and, and_true, and_self, true_or, or_true, false_or, or_false, Bool.not_true, Bool.not_false, Nat.lt_add_one, Nat.zero_lt_succ, N0, swL_n, swL_c, List.toList_toArray, false_implies, true_implies, implies_true, forall_const, not_false_eq_true, not_true_eq_false, and_false, false_and, em, rm, q]
    simp only [hK9]
    clear hK9 K9v
    refine J_rnG GM_fa (by omega) (by omega) (by omega) 1 _ _ _ _ (fun K9v hK9 => ?_)
    simp (maxSteps := 4000000) only [↓(X_iload_n (k := 3) (pc' := 88) dX9_wash_87 rfl rfl), ↓gI_3, rn_0, gV_s, ↓pI_c, ↓pII_c, ↓pL_c, ↓pLL_c, ↓pR_c, ↓pRI_c, ↓pRII_c, ↓pRIL_c, ↓pRR_c, ↓pV_c, ↓pVV_c, ↓gI_c, ↓gL_c, ↓gR_c, f2_0, f2_1, nk_n, nk_i, nk_r, ↓reduceIte, r32, r64, Nat.reduceAdd, Nat.reduceSub, Nat.reduceEqDiff, Nat.reduceLT, Nat.reduceLeDiff, Nat.reduceBEq, Int.reduceAdd, Int.reduceSub, Int.reduceMul, Int.reduceNeg, Int.reduceToNat, Int.reduceLE, Int.reduceLT, Int.reduceEq, Int.reduceNatCast', Int.reduceNatCast, Int.natCast_zero, Int.toNat_natCast, Int.toNat_zero, Int.toNat_one, List.length_cons, List.length_nil, true_and, and_true, and_self, true_or, or_true, false_or, or_false, Bool.not_true, Bool.not_false, Nat.lt_add_one, Nat.zero_lt_succ, N0, swL_n, swL_c, List.toList_toArray, false_implies, true_implies, implies_true, forall_const, not_false_eq_true, not_true_eq_false, and_false, false_and]
    simp only [hK9]
    clear hK9 K9v
    refine J_iret dX9_wash_88 rfl (by omega) (by omega) (⟨rfl, rfl⟩)
set_option maxRecDepth 100000 in
set_option maxHeartbeats 4000000 in
theorem jj_o1 {M : Nat → Nat → Int} {Φ : Out → Mem → Prop} (d n : Nat) (hn : M 447 7 = (n : Int)) (hn2 : n ≤ 16) (hst : ∀ i, i < 16 → 0 ≤ M 457 i ∧ M 457 i ≤ 2) (h8 : nMixm M n ≤ 8) (hfin : ∀ M' : Nat → Nat → Int, mxI M M' n → J l D cy (GM l D cy 9 cX9_orders 7 (d + 3) 0 0 false (some .int) Φ) 38 [some (.inr (.inr (some 447))), some (.inl (nMixm M n : Int)), some (.inl (n : Int)), none, none, none, none] [] (468, R0, M') 0 0) : ∀ (k j : Nat) (M' : Nat → Nat → Int), j + k = n → mxI M M' j →
    J l D cy (GM l D cy 9 cX9_orders 7 (d + 3) 0 0 false (some .int) Φ) 4 [some (.inr (.inr (some 447))), some (.inl (nMixm M j : Int)), some (.inl (j : Int)), none, none, none, none] [] (468, R0, M') 0 0 := by
  intro k
  induction k with
  | zero =>
    intro j M' hj hM
    have e : j = n := by omega
    subst e
    have f1 : M' 447 7 = (j : Int) := by rw [hM.1 447 (by decide)]; exact hn
    have h1 : ¬ (j : Int) < (j : Int) := by omega
    have r1 : -2147483648 ≤ (j : Int) ∧ (j : Int) ≤ 2147483647 := by omega
    refine J_rnG GM_fa (by omega) (by omega) (by omega) 4 _ _ _ _ (fun K9v hK9 => ?_)
    simp (maxSteps := 4000000) only [↓(X_iload_n (k := 2) (pc' := 5) dX9_orders_4 rfl rfl), ↓gI_2, ↓(X_aload_n (k := 0) (pc' := 6) dX9_orders_5 rfl rfl), ↓gR_0, ↓(X_getI (pc' := 9) fl_9_75 (by decide) dX9_orders_6 rfl), kd_447, ↓(X_icmp_ge (tgt := 38) (pc' := 12) dX9_orders_9 (by decide) rfl), rn_0, gV_s, ↓pI_c, ↓pII_c, ↓pL_c, ↓pLL_c, ↓pR_c, ↓pRI_c, ↓pRII_c, ↓pRIL_c, ↓pRR_c, ↓pV_c, ↓pVV_c, ↓gI_c, ↓gL_c, ↓gR_c, f2_0, f2_1, nk_n, nk_i, nk_r, ↓reduceIte, r32, r64, Nat.reduceAdd, Nat.reduceSub, Nat.reduceEqDiff, Nat.reduceLT, Nat.reduceLeDiff, Nat.reduceBEq, Int.reduceAdd, Int.reduceSub, Int.reduceMul, Int.reduceNeg, Int.reduceToNat, Int.reduceLE, Int.reduceLT, Int.reduceEq, Int.reduceNatCast', Int.reduceNatCast, Int.natCast_zero, Int.toNat_natCast, Int.toNat_zero, Int.toNat_one, List.length_cons, List.length_nil, true_and, and_true, and_self, true_or, or_true, false_or, or_false, Bool.not_true, Bool.not_false, Nat.lt_add_one, Nat.zero_lt_succ, N0, swL_n, swL_c, List.toList_toArray, false_implies, true_implies, implies_true, forall_const, not_false_eq_true, not_true_eq_false, and_false, false_and, h1, r1, f1]
    simp only [hK9]
    clear hK9 K9v
    exact hfin M' hM
  | succ k ih =>
    intro j M' hj hM
    have f1 : M' 447 7 = (n : Int) := by rw [hM.1 447 (by decide)]; exact hn
    have f2 : M' 457 = M 457 := hM.1 457 (by decide)
    have h1 : (j : Int) < (n : Int) := by omega
    have r1 : -2147483648 ≤ (j : Int) ∧ (j : Int) ≤ 2147483647 := by omega
    have r2 : -2147483648 ≤ (n : Int) ∧ (n : Int) ≤ 2147483647 := by omega
    have i1 : (0 : Int) ≤ (j : Int) ∧ (j : Int) < 16 := by omega
    have hs := hst j (by omega)
    have r3 : -2147483648 ≤ M 457 j ∧ M 457 j ≤ 2147483647 := by omega
    rcases (show M 457 j = 1 ∨ ¬ M 457 j = 1 by omega) with q | q
    · have hm := nMixm_mono (M := M) (show j + 1 ≤ n by omega)
      have en : nMixm M (j + 1) = nMixm M j + 1 := by rw [nMixm, if_pos q]
      have i2 : (0 : Int) ≤ (nMixm M j : Int) ∧ (nMixm M j : Int) < 8 := by omega
      refine J_rnG GM_fa (by omega) (by omega) (by omega) 18 _ _ _ _ (fun K9v hK9 => ?_)
      simp (maxSteps := 4000000) only [↓(X_iload_n (k := 2) (pc' := 5) dX9_orders_4 rfl rfl), ↓gI_2, ↓(X_aload_n (k := 0) (pc' := 6) dX9_orders_5 rfl rfl), ↓gR_0, ↓(X_getI (pc' := 9) fl_9_75 (by decide) dX9_orders_6 rfl), kd_447, ↓(X_icmp_ge (tgt := 38) (pc' := 12) dX9_orders_9 (by decide) rfl), ↓(X_aload_n (k := 0) (pc' := 13) dX9_orders_12 rfl rfl), ↓(X_getR (pc' := 16) fl_9_37 dX9_orders_13 rfl), ↓(gV_c r0_447_12), kd_457, ln_457, ↓(X_iload_n (k := 2) (pc' := 17) dX9_orders_16 rfl rfl), ↓(X_iaload (pc' := 18) dX9_orders_17 rfl), ↓(X_iconst (pc' := 19) dX9_orders_18 rfl), ↓(X_icmp_ne (tgt := 32) (pc' := 22) dX9_orders_19 (by decide) rfl), ↓(X_aload_n (k := 0) (pc' := 23) dX9_orders_22 rfl rfl), ↓(X_getR (pc' := 26) fl_9_69 dX9_orders_23 rfl), ↓(gV_c r0_447_25), kd_466, ln_466, ↓(X_iload_n (k := 1) (pc' := 27) dX9_orders_26 rfl rfl), ↓gI_1, ↓(X_iload_n (k := 2) (pc' := 28) dX9_orders_27 rfl rfl), ↓(X_iastore (pc' := 29) dX9_orders_28 rfl), ↓(X_iinc (pc' := 32) dX9_orders_29 rfl), ↓sto_1, ↓(X_iinc (pc' := 35) dX9_orders_32 rfl), ↓sto_2, ↓(X_goto (pc' := 4) dX9_orders_35 (by decide)), rn_0, gV_s, ↓pI_c, ↓pII_c, ↓pL_c, ↓pLL_c, ↓pR_c, ↓pRI_c, ↓pRII_c, ↓pRIL_c, ↓pRR_c, ↓pV_c, ↓pVV_c, ↓gI_c, ↓gL_c, ↓gR_c, f2_0, f2_1, nk_n, nk_i, nk_r, ↓reduceIte, r32, r64, Nat.reduceAdd, Nat.reduceSub, Nat.reduceEqDiff, Nat.reduceLT, Nat.reduceLeDiff, Nat.reduceBEq, Int.reduceAdd, Int.reduceSub, Int.reduceMul, Int.reduceNeg, Int.reduceToNat, Int.reduceLE, Int.reduceLT, Int.reduceEq, Int.reduceNatCast', Int.reduceNatCast, Int.natCast_zero, Int.toNat_natCast, Int.toNat_zero, Int.toNat_one, List.length_cons, List.length_nil, true_and, and_true, and_self, true_or, or_true, false_or, or_false, Bool.not_true, Bool.not_false, Nat.lt_add_one, Nat.zero_lt_succ, N0, swL_n, swL_c, List.toList_toArray, false_implies, true_implies, implies_true, forall_const, not_false_eq_true, not_true_eq_false, and_false, false_and, h1, r1, r2, f1, f2, i1, i2, q]
      simp only [hK9]
      clear hK9 K9v
      rw [show (j : Int) + 1 = ((j + 1 : Nat) : Int) by omega, show (nMixm M j : Int) + 1 = (nMixm M (j + 1) : Int) by omega]
      refine ih (j + 1) _ (by omega) ⟨fun x hx => by rw [up2_r hx, hM.1 x hx], fun k9 hk9 => ?_⟩
      rw [mixAtm]
      rcases (show k9 = nMixm M j ∨ k9 ≠ nMixm M j by omega) with e | e
      · rw [if_pos ⟨q, e⟩, e, up2_s]
      · rw [if_neg (fun h => e h.2), up2_k e]
        exact hM.2 k9 (by omega)
    · have en : nMixm M (j + 1) = nMixm M j := by rw [nMixm, if_neg q]; omega
      refine J_rnG GM_fa (by omega) (by omega) (by omega) 10 _ _ _ _ (fun K9v hK9 => ?_)
      simp (maxSteps := 4000000) only [↓(X_iload_n (k := 2) (pc' := 5) dX9_orders_4 rfl rfl), ↓gI_2, ↓(X_aload_n (k := 0) (pc' := 6) dX9_orders_5 rfl rfl), ↓gR_0, ↓(X_getI (pc' := 9) fl_9_75 (by decide) dX9_orders_6 rfl), kd_447, ↓(X_icmp_ge (tgt := 38) (pc' := 12) dX9_orders_9 (by decide) rfl), ↓(X_aload_n (k := 0) (pc' := 13) dX9_orders_12 rfl rfl), ↓(X_getR (pc' := 16) fl_9_37 dX9_orders_13 rfl), ↓(gV_c r0_447_12), kd_457, ln_457, ↓(X_iload_n (k := 2) (pc' := 17) dX9_orders_16 rfl rfl), ↓(X_iaload (pc' := 18) dX9_orders_17 rfl), ↓(X_iconst (pc' := 19) dX9_orders_18 rfl), ↓(X_icmp_ne (tgt := 32) (pc' := 22) dX9_orders_19 (by decide) rfl), rn_0, gV_s, ↓pI_c, ↓pII_c, ↓pL_c, ↓pLL_c, ↓pR_c, ↓pRI_c, ↓pRII_c, ↓pRIL_c, ↓pRR_c, ↓pV_c, ↓pVV_c, ↓gI_c, ↓gL_c, ↓gR_c, f2_0, f2_1, nk_n, nk_i, nk_r, ↓reduceIte, r32, r64, Nat.reduceAdd, Nat.reduceSub, Nat.reduceEqDiff, Nat.reduceLT, Nat.reduceLeDiff, Nat.reduceBEq, Int.reduceAdd, Int.reduceSub, Int.reduceMul, Int.reduceNeg, Int.reduceToNat, Int.reduceLE, Int.reduceLT, Int.reduceEq, Int.reduceNatCast', Int.reduceNatCast, Int.natCast_zero, Int.toNat_natCast, Int.toNat_zero, Int.toNat_one, List.length_cons, List.length_nil, true_and, and_true, and_self, true_or, or_true, false_or, or_false, Bool.not_true, Bool.not_false, Nat.lt_add_one, Nat.zero_lt_succ, N0, swL_n, swL_c, List.toList_toArray, false_implies, true_implies, implies_true, forall_const, not_false_eq_true, not_true_eq_false, and_false, false_and, h1, r1, r2, r3, f1, f2, i1, q]
      simp only [hK9]
      clear hK9 K9v
      refine J_rnG GM_fa (by omega) (by omega) (by omega) 2 _ _ _ _ (fun K9v hK9 => ?_)
      simp (maxSteps := 4000000) only [↓(X_iinc (pc' := 35) dX9_orders_32 rfl), ↓gI_2, ↓sto_2, ↓(X_goto (pc' := 4) dX9_orders_35 (by decide)), rn_0, gV_s, ↓pI_c, ↓pII_c, ↓pL_c, ↓pLL_c, ↓pR_c, ↓pRI_c, ↓pRII_c, ↓pRIL_c, ↓pRR_c, ↓pV_c, ↓pVV_c, ↓gI_c, ↓gL_c, ↓gR_c, f2_0, f2_1, nk_n, nk_i, nk_r, ↓reduceIte, r32, r64, Nat.reduceAdd, Nat.reduceSub, Nat.reduceEqDiff, Nat.reduceLT, Nat.reduceLeDiff, Nat.reduceBEq, Int.reduceAdd, Int.reduceSub, Int.reduceMul, Int.reduceNeg, Int.reduceToNat, Int.reduceLE, Int.reduceLT, Int.reduceEq, Int.reduceNatCast', Int.reduceNatCast, Int.natCast_zero, Int.toNat_natCast, Int.toNat_zero, Int.toNat_one, List.length_cons, List.length_nil, true_and, and_true, and_self, true_or, or_true, false_or, or_false, Bool.not_true, Bool.not_false, Nat.lt_add_one, Nat.zero_lt_succ, N0, swL_n, swL_c, List.toList_toArray, false_implies, true_implies, implies_true, forall_const, not_false_eq_true, not_true_eq_false, and_false, false_and]
      simp only [hK9]
      clear hK9 K9v
      rw [show (j : Int) + 1 = ((j + 1 : Nat) : Int) by omega, ← en]
      refine ih (j + 1) _ (by omega) ⟨hM.1, fun k9 hk9 => ?_⟩
      rw [mixAtm, if_neg (fun h => q h.1)]
      exact hM.2 k9 (by omega)
end MP
