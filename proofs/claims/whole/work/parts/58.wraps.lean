/-! the wrappers: what the class answers comes as a code, and the answer in the array -/
theorem outF_E {es : List String} {code : Nat} {v : Option AV} {E : String} (h : (Sum.inr E : Out) = outF es code v) : code ≠ 0 ∧ E = es.getD (code - 1) "" := by
  unfold outF at h
  split at h
  · cases h
  · rename_i q
    exact ⟨q, Sum.inr.inj h⟩
theorem outF_V {es : List String} {code : Nat} {v w : Option AV} (h : (Sum.inl w : Out) = outF es code v) : code = 0 ∧ w = v := by
  unfold outF at h
  split at h
  · rename_i q
    exact ⟨q, Sum.inl.inj h⟩
  · cases h
theorem ex_IAE : ex3 IAE := Or.inl rfl
theorem ex_ISE : ex3 ISE := Or.inr (Or.inl rfl)
theorem ex_IOB : ex3 IOB := Or.inr (Or.inr rfl)
theorem hd_setBase_1 : hdl cL_setBase 6 12 1 := Or.inl ⟨5, dL_setBase_12, dL_setBase_14, dL_setBase_15, by decide⟩
theorem hd_setBase_2 : hdl cL_setBase 6 16 2 := Or.inl ⟨5, dL_setBase_16, dL_setBase_18, dL_setBase_19, by decide⟩
theorem hd_buy_1 : hdl cL_buy 5 13 1 := Or.inl ⟨4, dL_buy_13, dL_buy_15, dL_buy_16, by decide⟩
theorem hd_buy_2 : hdl cL_buy 5 17 2 := Or.inl ⟨4, dL_buy_17, dL_buy_19, dL_buy_20, by decide⟩
theorem hd_job_1 : hdl cL_job 8 19 1 := Or.inl ⟨7, dL_job_19, dL_job_21, dL_job_22, by decide⟩
theorem hd_job_2 : hdl cL_job 8 23 2 := Or.inl ⟨7, dL_job_23, dL_job_25, dL_job_26, by decide⟩
theorem hd_recipe_1 : hdl cL_recipe 5 13 1 := Or.inl ⟨4, dL_recipe_13, dL_recipe_15, dL_recipe_16, by decide⟩
theorem hd_recipe_2 : hdl cL_recipe 5 17 2 := Or.inl ⟨4, dL_recipe_17, dL_recipe_19, dL_recipe_20, by decide⟩
theorem hd_recipe_3 : hdl cL_recipe 5 21 3 := Or.inl ⟨4, dL_recipe_21, dL_recipe_23, dL_recipe_24, by decide⟩
theorem hd_mix_1 : hdl cL_mix 4 12 1 := Or.inr ⟨3, dL_mix_12, dL_mix_13, dL_mix_14, by decide⟩
theorem hd_mix_2 : hdl cL_mix 4 15 2 := Or.inr ⟨3, dL_mix_15, dL_mix_16, dL_mix_17, by decide⟩
theorem hd_print_1 : hdl cL_print 6 15 1 := Or.inl ⟨5, dL_print_15, dL_print_17, dL_print_18, by decide⟩
theorem hd_print_2 : hdl cL_print 6 19 2 := Or.inl ⟨5, dL_print_19, dL_print_21, dL_print_22, by decide⟩
theorem hd_print_3 : hdl cL_print 6 23 3 := Or.inl ⟨5, dL_print_23, dL_print_25, dL_print_26, by decide⟩
theorem hd_pass_1 : hdl cL_pass 4 12 1 := Or.inr ⟨3, dL_pass_12, dL_pass_13, dL_pass_14, by decide⟩
theorem hd_pass_2 : hdl cL_pass 4 15 2 := Or.inr ⟨3, dL_pass_15, dL_pass_16, dL_pass_17, by decide⟩
theorem hd_state_1 : hdl cL_state 4 12 1 := Or.inr ⟨3, dL_state_12, dL_state_13, dL_state_14, by decide⟩
theorem hd_inTin_1 : hdl cL_inTin 5 13 1 := Or.inl ⟨4, dL_inTin_13, dL_inTin_15, dL_inTin_16, by decide⟩
theorem hd_inTin_2 : hdl cL_inTin 5 17 2 := Or.inl ⟨4, dL_inTin_17, dL_inTin_19, dL_inTin_20, by decide⟩
theorem hd_shade_1 : hdl cL_shade 5 13 1 := Or.inl ⟨4, dL_shade_13, dL_shade_15, dL_shade_16, by decide⟩
theorem hd_shade_2 : hdl cL_shade 5 17 2 := Or.inl ⟨4, dL_shade_17, dL_shade_19, dL_shade_20, by decide⟩
theorem hd_shade_3 : hdl cL_shade 5 21 3 := Or.inl ⟨4, dL_shade_21, dL_shade_23, dL_shade_24, by decide⟩
theorem hd_where_1 : hdl cL_where 5 13 1 := Or.inl ⟨4, dL_where_13, dL_where_15, dL_where_16, by decide⟩
theorem hd_washesByAll_1 : hdl cL_washesByAll 3 11 1 := Or.inr ⟨2, dL_washesByAll_11, dL_washesByAll_12, dL_washesByAll_13, by decide⟩
theorem hd_chipGap_1 : hdl cL_chipGap 5 13 1 := Or.inl ⟨4, dL_chipGap_13, dL_chipGap_15, dL_chipGap_16, by decide⟩
theorem hd_chipGap_2 : hdl cL_chipGap 5 17 2 := Or.inl ⟨4, dL_chipGap_17, dL_chipGap_19, dL_chipGap_20, by decide⟩
section WR
variable {l : Launch} {D : va_G} {cy : Nat → ClassId}
set_option maxRecDepth 100000 in
set_option maxHeartbeats 4000000 in
theorem ow_setBase {M : Nat → Nat → Int} {P : (Nat → Nat → Int) → Prop} {code : Nat} {val : Int} (d : Nat) (z0 z1 z2 z3 : Int) (hcode : code ≤ 2) (hval : code = 0 → r32 val) (hok : Ok l D cy (d + 6) 1 6 yX8_setBase cX8_setBase 5 (none) [.inr (.inr (some 0)), .inl z0, .inl z1, .inl z2, .inl z3] (N0, R0, M) (fun o ν => o = outF [IAE, ISE] code (none) ∧ ∃ M2 : Nat → Nat → Int, ν = (N0, R0, M2) ∧ P M2)) : OkW l D cy (d + 7) 1 6 yL_setBase cL_setBase 6 (some .int) [(0, 9, 12, 13), (0, 9, 16, 15)] [.inr (.inr (some 0)), .inl z0, .inl z1, .inl z2, .inl z3] (N0, R0, M) (fun o ν => o = .inl (some (.inl (code : Int))) ∧ ∃ M3 : Nat → Nat → Int, ν = (N0, R0, M3) ∧ P M3) := by
  refine OkW.intro [some (.inr (.inr (some 0))), some (.inl z0), some (.inl z1), some (.inl z2), some (.inl z3), none] (by decide +kernel) rfl rfl (Nat.le_of_ble_eq_true rfl) rfl ?_
  refine J_rnG GW_fa (by omega) (by omega) (by omega) 5 _ _ _ _ (fun K9v hK9 => ?_)
  simp (maxSteps := 4000000) only [↓(X_aload_n (k := 0) (pc' := 1) dL_setBase_0 rfl rfl), ↓gR_0, ↓(X_iload_n (k := 1) (pc' := 2) dL_setBase_1 rfl rfl), ↓gI_1, ↓(X_iload_n (k := 2) (pc' := 3) dL_setBase_2 rfl rfl), ↓gI_2, ↓(X_iload_n (k := 3) (pc' := 4) dL_setBase_3 rfl rfl), ↓gI_3, ↓(X_iload (pc' := 6) dL_setBase_4 rfl), ↓gI_4, rn_0, gV_s, ↓pI_c, ↓pII_c, ↓pL_c, ↓pLL_c, ↓pR_c, ↓pRI_c, ↓pRII_c, ↓pRIL_c, ↓pRR_c, ↓pV_c, ↓pVV_c, ↓gI_c, ↓gL_c, ↓gR_c, f2_0, f2_1, nk_n, nk_i, nk_r, ↓reduceIte, r32, r64, Nat.reduceAdd, Nat.reduceSub, Nat.reduceEqDiff, Nat.reduceLT, Nat.reduceLeDiff, Nat.reduceBEq, Int.reduceAdd, Int.reduceSub, Int.reduceMul, Int.reduceNeg, Int.reduceToNat, Int.reduceLE, Int.reduceLT, Int.reduceEq, Int.reduceNatCast', Int.reduceNatCast, Int.natCast_zero, Int.toNat_natCast, Int.toNat_zero, Int.toNat_one, List.length_cons, List.length_nil, true_and, and_true, and_self, true_or, or_true, false_or, or_false, Bool.not_true, Bool.not_false, Nat.lt_add_one, Nat.zero_lt_succ, N0, swL_n, swL_c, List.toList_toArray, false_implies, true_implies, implies_true, forall_const, not_false_eq_true, not_true_eq_false, and_false, false_and]
  simp only [hK9]
  clear hK9 K9v
  refine J_callV0 GW_fa hok dL_setBase_6 k_10_7 (by omega) (Nat.le_of_ble_eq_true rfl) ⟨by omega, by omega⟩ rfl (by decide +kernel) (by decide +kernel) (by simp only [N0]; omega) (by simp) rfl (fun q9 ν9 h9 => Or.inl (by obtain ⟨-, M9, h9, -⟩ := h9; rw [h9]; rfl)) (fun E ν hE => ?_) (fun v ν hv _ => ?_)
  · obtain ⟨h1, M2, rfl, hP⟩ := hE
    obtain ⟨hc0, hE9⟩ := outF_E h1
    clear h1
    obtain q | q : code = 1 ∨ code = 2 := by omega
    · have e9 : E = IAE := by rw [hE9, q]; rfl
      subst e9
      exact exitsW [] [(0, 9, 16, 15)] (0, 9, 12, 13) rfl ex_IAE (by decide) (by decide +kernel) (fun z hz => by cases hz) (by decide) hd_setBase_1 (by omega) (by omega) ⟨by rw [q]; rfl, M2, rfl, hP⟩
    · have e9 : E = ISE := by rw [hE9, q]; rfl
      subst e9
      exact exitsW [(0, 9, 12, 13)] [] (0, 9, 16, 15) rfl ex_ISE (by decide) (by decide +kernel) (by decide +kernel) (by decide) hd_setBase_2 (by omega) (by omega) ⟨by rw [q]; rfl, M2, rfl, hP⟩
  · obtain ⟨h1, M2, rfl, hP⟩ := hv
    obtain ⟨hc0, rfl⟩ := outF_V h1
    clear h1
    simp only [Option.toList, List.cons_append, List.nil_append]
    refine J_rnG GW_fa (by omega) (by omega) (by omega) 2 _ _ _ _ (fun K9v hK9 => ?_)
    simp (maxSteps := 4000000) only [↓(X_goto (pc' := 20) dL_setBase_9 (by decide)), ↓(X_iconst (pc' := 21) dL_setBase_20 rfl), rn_0, gV_s, ↓pI_c, ↓pII_c, ↓pL_c, ↓pLL_c, ↓pR_c, ↓pRI_c, ↓pRII_c, ↓pRIL_c, ↓pRR_c, ↓pV_c, ↓pVV_c, ↓gI_c, ↓gL_c, ↓gR_c, f2_0, f2_1, nk_n, nk_i, nk_r, ↓reduceIte, r32, r64, Nat.reduceAdd, Nat.reduceSub, Nat.reduceEqDiff, Nat.reduceLT, Nat.reduceLeDiff, Nat.reduceBEq, Int.reduceAdd, Int.reduceSub, Int.reduceMul, Int.reduceNeg, Int.reduceToNat, Int.reduceLE, Int.reduceLT, Int.reduceEq, Int.reduceNatCast', Int.reduceNatCast, Int.natCast_zero, Int.toNat_natCast, Int.toNat_zero, Int.toNat_one, List.length_cons, List.length_nil, true_and, and_true, and_self, true_or, or_true, false_or, or_false, Bool.not_true, Bool.not_false, Nat.lt_add_one, Nat.zero_lt_succ, N0, swL_n, swL_c, List.toList_toArray, false_implies, true_implies, implies_true, forall_const, not_false_eq_true, not_true_eq_false, and_false, false_and]
    simp only [hK9]
    clear hK9 K9v
    refine J_iretW dL_setBase_21 (by omega) (by omega) (⟨by rw [hc0]; rfl, M2, rfl, hP⟩)
set_option maxRecDepth 100000 in
set_option maxHeartbeats 4000000 in
theorem ow_buy {M : Nat → Nat → Int} {P : (Nat → Nat → Int) → Prop} {code : Nat} {val : Int} (d : Nat) (z0 z1 : Int) (hcode : code ≤ 2) (hval : code = 0 → r32 val) (hok : Ok l D cy (d + 6) 1 6 yX8_buy cX8_buy 3 (some (.int)) [.inr (.inr (some 0)), .inl z0, .inl z1] (N0, R0, M) (fun o ν => o = outF [IAE, ISE] code (some (.inl val)) ∧ ∃ M2 : Nat → Nat → Int, ν = (N0, R0, M2) ∧ P M2)) : OkW l D cy (d + 7) 1 6 yL_buy cL_buy 5 (some .int) [(0, 10, 13, 13), (0, 10, 17, 15)] [.inr (.inr (some 0)), .inl z0, .inl z1, .inr (.inr (some 467))] (N0, R0, M) (fun o ν => o = .inl (some (.inl (code : Int))) ∧ ∃ M3 : Nat → Nat → Int, ν = (N0, R0, M3) ∧ ∃ M2 : Nat → Nat → Int, P M2 ∧ M3 = if code = 0 then up2 M2 467 0 val else M2) := by
  refine OkW.intro [some (.inr (.inr (some 0))), some (.inl z0), some (.inl z1), some (.inr (.inr (some 467))), none] (by decide +kernel) rfl rfl (Nat.le_of_ble_eq_true rfl) rfl ?_
  refine J_rnG GW_fa (by omega) (by omega) (by omega) 5 _ _ _ _ (fun K9v hK9 => ?_)
  simp (maxSteps := 4000000) only [↓(X_aload_n (k := 3) (pc' := 1) dL_buy_0 rfl rfl), ↓gR_3, ↓(X_iconst (pc' := 2) dL_buy_1 rfl), ↓(X_aload_n (k := 0) (pc' := 3) dL_buy_2 rfl rfl), ↓gR_0, ↓(X_iload_n (k := 1) (pc' := 4) dL_buy_3 rfl rfl), ↓gI_1, ↓(X_iload_n (k := 2) (pc' := 5) dL_buy_4 rfl rfl), ↓gI_2, rn_0, gV_s, ↓pI_c, ↓pII_c, ↓pL_c, ↓pLL_c, ↓pR_c, ↓pRI_c, ↓pRII_c, ↓pRIL_c, ↓pRR_c, ↓pV_c, ↓pVV_c, ↓gI_c, ↓gL_c, ↓gR_c, f2_0, f2_1, nk_n, nk_i, nk_r, ↓reduceIte, r32, r64, Nat.reduceAdd, Nat.reduceSub, Nat.reduceEqDiff, Nat.reduceLT, Nat.reduceLeDiff, Nat.reduceBEq, Int.reduceAdd, Int.reduceSub, Int.reduceMul, Int.reduceNeg, Int.reduceToNat, Int.reduceLE, Int.reduceLT, Int.reduceEq, Int.reduceNatCast', Int.reduceNatCast, Int.natCast_zero, Int.toNat_natCast, Int.toNat_zero, Int.toNat_one, List.length_cons, List.length_nil, true_and, and_true, and_self, true_or, or_true, false_or, or_false, Bool.not_true, Bool.not_false, Nat.lt_add_one, Nat.zero_lt_succ, N0, swL_n, swL_c, List.toList_toArray, false_implies, true_implies, implies_true, forall_const, not_false_eq_true, not_true_eq_false, and_false, false_and]
  simp only [hK9]
  clear hK9 K9v
  refine J_callV0 GW_fa hok dL_buy_5 k_10_17 (by omega) (Nat.le_of_ble_eq_true rfl) ⟨by omega, by omega⟩ rfl (by decide +kernel) (by decide +kernel) (by simp only [N0]; omega) (by simp) rfl (fun q9 ν9 h9 => Or.inl (by obtain ⟨-, M9, h9, -⟩ := h9; rw [h9]; rfl)) (fun E ν hE => ?_) (fun v ν hv _ => ?_)
  · obtain ⟨h1, M2, rfl, hP⟩ := hE
    obtain ⟨hc0, hE9⟩ := outF_E h1
    clear h1
    obtain q | q : code = 1 ∨ code = 2 := by omega
    · have e9 : E = IAE := by rw [hE9, q]; rfl
      subst e9
      exact exitsW [] [(0, 10, 17, 15)] (0, 10, 13, 13) rfl ex_IAE (by decide) (by decide +kernel) (fun z hz => by cases hz) (by decide) hd_buy_1 (by omega) (by omega) ⟨by rw [q]; rfl, M2, rfl, M2, hP, by rw [if_neg hc0]⟩
    · have e9 : E = ISE := by rw [hE9, q]; rfl
      subst e9
      exact exitsW [(0, 10, 13, 13)] [] (0, 10, 17, 15) rfl ex_ISE (by decide) (by decide +kernel) (by decide +kernel) (by decide) hd_buy_2 (by omega) (by omega) ⟨by rw [q]; rfl, M2, rfl, M2, hP, by rw [if_neg hc0]⟩
  · obtain ⟨h1, M2, rfl, hP⟩ := hv
    obtain ⟨hc0, rfl⟩ := outF_V h1
    clear h1
    simp only [Option.toList, List.cons_append, List.nil_append]
    have hr := hval hc0
    simp only [r32] at hr
    refine J_rnG GW_fa (by omega) (by omega) (by omega) 4 _ _ _ _ (fun K9v hK9 => ?_)
    simp (maxSteps := 4000000) only [↓(X_i2l (pc' := 9) dL_buy_8 rfl), ↓(X_lastore (pc' := 10) dL_buy_9 rfl), ↓(X_goto (pc' := 21) dL_buy_10 (by decide)), ↓(X_iconst (pc' := 22) dL_buy_21 rfl), rn_0, gV_s, ↓pI_c, ↓pII_c, ↓pL_c, ↓pLL_c, ↓pR_c, ↓pRI_c, ↓pRII_c, ↓pRIL_c, ↓pRR_c, ↓pV_c, ↓pVV_c, ↓gI_c, ↓gL_c, ↓gR_c, f2_0, f2_1, nk_n, nk_i, nk_r, ↓reduceIte, r32, r64, Nat.reduceAdd, Nat.reduceSub, Nat.reduceEqDiff, Nat.reduceLT, Nat.reduceLeDiff, Nat.reduceBEq, Int.reduceAdd, Int.reduceSub, Int.reduceMul, Int.reduceNeg, Int.reduceToNat, Int.reduceLE, Int.reduceLT, Int.reduceEq, Int.reduceNatCast', Int.reduceNatCast, Int.natCast_zero, Int.toNat_natCast, Int.toNat_zero, Int.toNat_one, List.length_cons, List.length_nil, true_and, and_true, and_self, true_or, or_true, false_or, or_false, Bool.not_true, Bool.not_false, Nat.lt_add_one, Nat.zero_lt_succ, N0, swL_n, swL_c, List.toList_toArray, false_implies, true_implies, implies_true, forall_const, not_false_eq_true, not_true_eq_false, and_false, false_and, kd_467, ln_467, hr]
    simp only [hK9]
    clear hK9 K9v
    refine J_iretW dL_buy_22 (by omega) (by omega) (⟨by rw [hc0]; rfl, _, rfl, M2, hP, by rw [if_pos hc0]⟩)
set_option maxRecDepth 100000 in
set_option maxHeartbeats 4000000 in
theorem ow_job {M : Nat → Nat → Int} {P : (Nat → Nat → Int) → Prop} {code : Nat} {val : Int} (d : Nat) (z0 z1 z2 z3 z4 : Int) (hcode : code ≤ 2) (hval : code = 0 → r32 val) (hok : Ok l D cy (d + 6) 1 6 yX8_job cX8_job 7 (some (.int)) [.inr (.inr (some 0)), .inl z0, .inl z1, .inl z2, .inl z3, .inl z4] (N0, R0, M) (fun o ν => o = outF [IAE, ISE] code (some (.inl val)) ∧ ∃ M2 : Nat → Nat → Int, ν = (N0, R0, M2) ∧ P M2)) : OkW l D cy (d + 7) 1 6 yL_job cL_job 8 (some .int) [(0, 16, 19, 13), (0, 16, 23, 15)] [.inr (.inr (some 0)), .inl z0, .inl z1, .inl z2, .inl z3, .inl z4, .inr (.inr (some 467))] (N0, R0, M) (fun o ν => o = .inl (some (.inl (code : Int))) ∧ ∃ M3 : Nat → Nat → Int, ν = (N0, R0, M3) ∧ ∃ M2 : Nat → Nat → Int, P M2 ∧ M3 = if code = 0 then up2 M2 467 0 val else M2) := by
  refine OkW.intro [some (.inr (.inr (some 0))), some (.inl z0), some (.inl z1), some (.inl z2), some (.inl z3), some (.inl z4), some (.inr (.inr (some 467))), none] (by decide +kernel) rfl rfl (Nat.le_of_ble_eq_true rfl) rfl ?_
  refine J_rnG GW_fa (by omega) (by omega) (by omega) 8 _ _ _ _ (fun K9v hK9 => ?_)
  simp (maxSteps := 4000000) only [↓(X_aload (pc' := 2) dL_job_0 rfl), ↓gR_6, ↓(X_iconst (pc' := 3) dL_job_2 rfl), ↓(X_aload_n (k := 0) (pc' := 4) dL_job_3 rfl rfl), ↓gR_0, ↓(X_iload_n (k := 1) (pc' := 5) dL_job_4 rfl rfl), ↓gI_1, ↓(X_iload_n (k := 2) (pc' := 6) dL_job_5 rfl rfl), ↓gI_2, ↓(X_iload_n (k := 3) (pc' := 7) dL_job_6 rfl rfl), ↓gI_3, ↓(X_iload (pc' := 9) dL_job_7 rfl), ↓gI_4, ↓(X_iload (pc' := 11) dL_job_9 rfl), ↓gI_5, rn_0, gV_s, ↓pI_c, ↓pII_c, ↓pL_c, ↓pLL_c, ↓pR_c, ↓pRI_c, ↓pRII_c, ↓pRIL_c, ↓pRR_c, ↓pV_c, ↓pVV_c, ↓gI_c, ↓gL_c, ↓gR_c, f2_0, f2_1, nk_n, nk_i, nk_r, ↓reduceIte, r32, r64, Nat.reduceAdd, Nat.reduceSub, Nat.reduceEqDiff, Nat.reduceLT, Nat.reduceLeDiff, Nat.reduceBEq, Int.reduceAdd, Int.reduceSub, Int.reduceMul, Int.reduceNeg, Int.reduceToNat, Int.reduceLE, Int.reduceLT, Int.reduceEq, Int.reduceNatCast', Int.reduceNatCast, Int.natCast_zero, Int.toNat_natCast, Int.toNat_zero, Int.toNat_one, List.length_cons, List.length_nil, true_and, and_true, and_self, true_or, or_true, false_or, or_false, Bool.not_true, Bool.not_false, Nat.lt_add_one, Nat.zero_lt_succ, N0, swL_n, swL_c, List.toList_toArray, false_implies, true_implies, implies_true, forall_const, not_false_eq_true, not_true_eq_false, and_false, false_and]
  simp only [hK9]
  clear hK9 K9v
  refine J_callV0 GW_fa hok dL_job_11 k_10_21 (by omega) (Nat.le_of_ble_eq_true rfl) ⟨by omega, by omega⟩ rfl (by decide +kernel) (by decide +kernel) (by simp only [N0]; omega) (by simp) rfl (fun q9 ν9 h9 => Or.inl (by obtain ⟨-, M9, h9, -⟩ := h9; rw [h9]; rfl)) (fun E ν hE => ?_) (fun v ν hv _ => ?_)
  · obtain ⟨h1, M2, rfl, hP⟩ := hE
    obtain ⟨hc0, hE9⟩ := outF_E h1
    clear h1
    obtain q | q : code = 1 ∨ code = 2 := by omega
    · have e9 : E = IAE := by rw [hE9, q]; rfl
      subst e9
      exact exitsW [] [(0, 16, 23, 15)] (0, 16, 19, 13) rfl ex_IAE (by decide) (by decide +kernel) (fun z hz => by cases hz) (by decide) hd_job_1 (by omega) (by omega) ⟨by rw [q]; rfl, M2, rfl, M2, hP, by rw [if_neg hc0]⟩
    · have e9 : E = ISE := by rw [hE9, q]; rfl
      subst e9
      exact exitsW [(0, 16, 19, 13)] [] (0, 16, 23, 15) rfl ex_ISE (by decide) (by decide +kernel) (by decide +kernel) (by decide) hd_job_2 (by omega) (by omega) ⟨by rw [q]; rfl, M2, rfl, M2, hP, by rw [if_neg hc0]⟩
  · obtain ⟨h1, M2, rfl, hP⟩ := hv
    obtain ⟨hc0, rfl⟩ := outF_V h1
    clear h1
    simp only [Option.toList, List.cons_append, List.nil_append]
    have hr := hval hc0
    simp only [r32] at hr
    refine J_rnG GW_fa (by omega) (by omega) (by omega) 4 _ _ _ _ (fun K9v hK9 => ?_)
    simp (maxSteps := 4000000) only [↓(X_i2l (pc' := 15) dL_job_14 rfl), ↓(X_lastore (pc' := 16) dL_job_15 rfl), ↓(X_goto (pc' := 27) dL_job_16 (by decide)), ↓(X_iconst (pc' := 28) dL_job_27 rfl), rn_0, gV_s, ↓pI_c, ↓pII_c, ↓pL_c, ↓pLL_c, ↓pR_c, ↓pRI_c, ↓pRII_c, ↓pRIL_c, ↓pRR_c, ↓pV_c, ↓pVV_c, ↓gI_c, ↓gL_c, ↓gR_c, f2_0, f2_1, nk_n, nk_i, nk_r, ↓reduceIte, r32, r64, Nat.reduceAdd, Nat.reduceSub, Nat.reduceEqDiff, Nat.reduceLT, Nat.reduceLeDiff, Nat.reduceBEq, Int.reduceAdd, Int.reduceSub, Int.reduceMul, Int.reduceNeg, Int.reduceToNat, Int.reduceLE, Int.reduceLT, Int.reduceEq, Int.reduceNatCast', Int.reduceNatCast, Int.natCast_zero, Int.toNat_natCast, Int.toNat_zero, Int.toNat_one, List.length_cons, List.length_nil, true_and, and_true, and_self, true_or, or_true, false_or, or_false, Bool.not_true, Bool.not_false, Nat.lt_add_one, Nat.zero_lt_succ, N0, swL_n, swL_c, List.toList_toArray, false_implies, true_implies, implies_true, forall_const, not_false_eq_true, not_true_eq_false, and_false, false_and, kd_467, ln_467, hr]
    simp only [hK9]
    clear hK9 K9v
    refine J_iretW dL_job_28 (by omega) (by omega) (⟨by rw [hc0]; rfl, _, rfl, M2, hP, by rw [if_pos hc0]⟩)
set_option maxRecDepth 100000 in
set_option maxHeartbeats 4000000 in
theorem ow_recipe {M : Nat → Nat → Int} {P : (Nat → Nat → Int) → Prop} {code : Nat} {val : Int} (d : Nat) (z0 z1 : Int) (hcode : code ≤ 3) (hval : code = 0 → r32 val) (hok : Ok l D cy (d + 8) 2 12 yX8_recipe cX8_recipe 4 (some (.int)) [.inr (.inr (some 0)), .inl z0, .inl z1] (N0, R0, M) (fun o ν => o = outF [IOB, IAE, ISE] code (some (.inl val)) ∧ ∃ M2 : Nat → Nat → Int, ν = (N0, R0, M2) ∧ P M2)) : OkW l D cy (d + 9) 2 12 yL_recipe cL_recipe 5 (some .int) [(0, 10, 13, 28), (0, 10, 17, 13), (0, 10, 21, 15)] [.inr (.inr (some 0)), .inl z0, .inl z1, .inr (.inr (some 467))] (N0, R0, M) (fun o ν => o = .inl (some (.inl (code : Int))) ∧ ∃ M3 : Nat → Nat → Int, ν = (N0, R0, M3) ∧ ∃ M2 : Nat → Nat → Int, P M2 ∧ M3 = if code = 0 then up2 M2 467 0 val else M2) := by
  refine OkW.intro [some (.inr (.inr (some 0))), some (.inl z0), some (.inl z1), some (.inr (.inr (some 467))), none] (by decide +kernel) rfl rfl (Nat.le_of_ble_eq_true rfl) rfl ?_
  refine J_rnG GW_fa (by omega) (by omega) (by omega) 5 _ _ _ _ (fun K9v hK9 => ?_)
  simp (maxSteps := 4000000) only [↓(X_aload_n (k := 3) (pc' := 1) dL_recipe_0 rfl rfl), ↓gR_3, ↓(X_iconst (pc' := 2) dL_recipe_1 rfl), ↓(X_aload_n (k := 0) (pc' := 3) dL_recipe_2 rfl rfl), ↓gR_0, ↓(X_iload_n (k := 1) (pc' := 4) dL_recipe_3 rfl rfl), ↓gI_1, ↓(X_iload_n (k := 2) (pc' := 5) dL_recipe_4 rfl rfl), ↓gI_2, rn_0, gV_s, ↓pI_c, ↓pII_c, ↓pL_c, ↓pLL_c, ↓pR_c, ↓pRI_c, ↓pRII_c, ↓pRIL_c, ↓pRR_c, ↓pV_c, ↓pVV_c, ↓gI_c, ↓gL_c, ↓gR_c, f2_0, f2_1, nk_n, nk_i, nk_r, ↓reduceIte, r32, r64, Nat.reduceAdd, Nat.reduceSub, Nat.reduceEqDiff, Nat.reduceLT, Nat.reduceLeDiff, Nat.reduceBEq, Int.reduceAdd, Int.reduceSub, Int.reduceMul, Int.reduceNeg, Int.reduceToNat, Int.reduceLE, Int.reduceLT, Int.reduceEq, Int.reduceNatCast', Int.reduceNatCast, Int.natCast_zero, Int.toNat_natCast, Int.toNat_zero, Int.toNat_one, List.length_cons, List.length_nil, true_and, and_true, and_self, true_or, or_true, false_or, or_false, Bool.not_true, Bool.not_false, Nat.lt_add_one, Nat.zero_lt_succ, N0, swL_n, swL_c, List.toList_toArray, false_implies, true_implies, implies_true, forall_const, not_false_eq_true, not_true_eq_false, and_false, false_and]
  simp only [hK9]
  clear hK9 K9v
  refine J_callV0 GW_fa hok dL_recipe_5 k_10_25 (by omega) (Nat.le_of_ble_eq_true rfl) ⟨by omega, by omega⟩ rfl (by decide +kernel) (by decide +kernel) (by simp only [N0]; omega) (by simp) rfl (fun q9 ν9 h9 => Or.inl (by obtain ⟨-, M9, h9, -⟩ := h9; rw [h9]; rfl)) (fun E ν hE => ?_) (fun v ν hv _ => ?_)
  · obtain ⟨h1, M2, rfl, hP⟩ := hE
    obtain ⟨hc0, hE9⟩ := outF_E h1
    clear h1
    obtain q | q | q : code = 1 ∨ code = 2 ∨ code = 3 := by omega
    · have e9 : E = IOB := by rw [hE9, q]; rfl
      subst e9
      exact exitsW [] [(0, 10, 17, 13), (0, 10, 21, 15)] (0, 10, 13, 28) rfl ex_IOB (by decide) (by decide +kernel) (fun z hz => by cases hz) (by decide) hd_recipe_1 (by omega) (by omega) ⟨by rw [q]; rfl, M2, rfl, M2, hP, by rw [if_neg hc0]⟩
    · have e9 : E = IAE := by rw [hE9, q]; rfl
      subst e9
      exact exitsW [(0, 10, 13, 28)] [(0, 10, 21, 15)] (0, 10, 17, 13) rfl ex_IAE (by decide) (by decide +kernel) (by decide +kernel) (by decide) hd_recipe_2 (by omega) (by omega) ⟨by rw [q]; rfl, M2, rfl, M2, hP, by rw [if_neg hc0]⟩
    · have e9 : E = ISE := by rw [hE9, q]; rfl
      subst e9
      exact exitsW [(0, 10, 13, 28), (0, 10, 17, 13)] [] (0, 10, 21, 15) rfl ex_ISE (by decide) (by decide +kernel) (by decide +kernel) (by decide) hd_recipe_3 (by omega) (by omega) ⟨by rw [q]; rfl, M2, rfl, M2, hP, by rw [if_neg hc0]⟩
  · obtain ⟨h1, M2, rfl, hP⟩ := hv
    obtain ⟨hc0, rfl⟩ := outF_V h1
    clear h1
    simp only [Option.toList, List.cons_append, List.nil_append]
    have hr := hval hc0
    simp only [r32] at hr
    refine J_rnG GW_fa (by omega) (by omega) (by omega) 4 _ _ _ _ (fun K9v hK9 => ?_)
    simp (maxSteps := 4000000) only [↓(X_i2l (pc' := 9) dL_recipe_8 rfl), ↓(X_lastore (pc' := 10) dL_recipe_9 rfl), ↓(X_goto (pc' := 25) dL_recipe_10 (by decide)), ↓(X_iconst (pc' := 26) dL_recipe_25 rfl), rn_0, gV_s, ↓pI_c, ↓pII_c, ↓pL_c, ↓pLL_c, ↓pR_c, ↓pRI_c, ↓pRII_c, ↓pRIL_c, ↓pRR_c, ↓pV_c, ↓pVV_c, ↓gI_c, ↓gL_c, ↓gR_c, f2_0, f2_1, nk_n, nk_i, nk_r, ↓reduceIte, r32, r64, Nat.reduceAdd, Nat.reduceSub, Nat.reduceEqDiff, Nat.reduceLT, Nat.reduceLeDiff, Nat.reduceBEq, Int.reduceAdd, Int.reduceSub, Int.reduceMul, Int.reduceNeg, Int.reduceToNat, Int.reduceLE, Int.reduceLT, Int.reduceEq, Int.reduceNatCast', Int.reduceNatCast, Int.natCast_zero, Int.toNat_natCast, Int.toNat_zero, Int.toNat_one, List.length_cons, List.length_nil, true_and, and_true, and_self, true_or, or_true, false_or, or_false, Bool.not_true, Bool.not_false, Nat.lt_add_one, Nat.zero_lt_succ, N0, swL_n, swL_c, List.toList_toArray, false_implies, true_implies, implies_true, forall_const, not_false_eq_true, not_true_eq_false, and_false, false_and, kd_467, ln_467, hr]
    simp only [hK9]
    clear hK9 K9v
    refine J_iretW dL_recipe_26 (by omega) (by omega) (⟨by rw [hc0]; rfl, _, rfl, M2, hP, by rw [if_pos hc0]⟩)
set_option maxRecDepth 100000 in
set_option maxHeartbeats 4000000 in
theorem ow_mix {M : Nat → Nat → Int} {P : (Nat → Nat → Int) → Prop} {code : Nat} {val : Int} (d : Nat) (z0 : Int) (hcode : code ≤ 2) (hval : code = 0 → r32 val) (hok : Ok l D cy (d + 8) 2 12 yX8_mix cX8_mix 4 (some (.int)) [.inr (.inr (some 0)), .inl z0] (N0, R0, M) (fun o ν => o = outF [IOB, ISE] code (some (.inl val)) ∧ ∃ M2 : Nat → Nat → Int, ν = (N0, R0, M2) ∧ P M2)) : OkW l D cy (d + 9) 2 12 yL_mix cL_mix 4 (some .int) [(0, 9, 12, 28), (0, 9, 15, 15)] [.inr (.inr (some 0)), .inl z0, .inr (.inr (some 467))] (N0, R0, M) (fun o ν => o = .inl (some (.inl (code : Int))) ∧ ∃ M3 : Nat → Nat → Int, ν = (N0, R0, M3) ∧ ∃ M2 : Nat → Nat → Int, P M2 ∧ M3 = if code = 0 then up2 M2 467 0 val else M2) := by
  refine OkW.intro [some (.inr (.inr (some 0))), some (.inl z0), some (.inr (.inr (some 467))), none] (by decide +kernel) rfl rfl (Nat.le_of_ble_eq_true rfl) rfl ?_
  refine J_rnG GW_fa (by omega) (by omega) (by omega) 4 _ _ _ _ (fun K9v hK9 => ?_)
  simp (maxSteps := 4000000) only [↓(X_aload_n (k := 2) (pc' := 1) dL_mix_0 rfl rfl), ↓gR_2, ↓(X_iconst (pc' := 2) dL_mix_1 rfl), ↓(X_aload_n (k := 0) (pc' := 3) dL_mix_2 rfl rfl), ↓gR_0, ↓(X_iload_n (k := 1) (pc' := 4) dL_mix_3 rfl rfl), ↓gI_1, rn_0, gV_s, ↓pI_c, ↓pII_c, ↓pL_c, ↓pLL_c, ↓pR_c, ↓pRI_c, ↓pRII_c, ↓pRIL_c, ↓pRR_c, ↓pV_c, ↓pVV_c, ↓gI_c, ↓gL_c, ↓gR_c, f2_0, f2_1, nk_n, nk_i, nk_r, ↓reduceIte, r32, r64, Nat.reduceAdd, Nat.reduceSub, Nat.reduceEqDiff, Nat.reduceLT, Nat.reduceLeDiff, Nat.reduceBEq, Int.reduceAdd, Int.reduceSub, Int.reduceMul, Int.reduceNeg, Int.reduceToNat, Int.reduceLE, Int.reduceLT, Int.reduceEq, Int.reduceNatCast', Int.reduceNatCast, Int.natCast_zero, Int.toNat_natCast, Int.toNat_zero, Int.toNat_one, List.length_cons, List.length_nil, true_and, and_true, and_self, true_or, or_true, false_or, or_false, Bool.not_true, Bool.not_false, Nat.lt_add_one, Nat.zero_lt_succ, N0, swL_n, swL_c, List.toList_toArray, false_implies, true_implies, implies_true, forall_const, not_false_eq_true, not_true_eq_false, and_false, false_and]
  simp only [hK9]
  clear hK9 K9v
  refine J_callV0 GW_fa hok dL_mix_4 k_10_30 (by omega) (Nat.le_of_ble_eq_true rfl) ⟨by omega, by omega⟩ rfl (by decide +kernel) (by decide +kernel) (by simp only [N0]; omega) (by simp) rfl (fun q9 ν9 h9 => Or.inl (by obtain ⟨-, M9, h9, -⟩ := h9; rw [h9]; rfl)) (fun E ν hE => ?_) (fun v ν hv _ => ?_)
  · obtain ⟨h1, M2, rfl, hP⟩ := hE
    obtain ⟨hc0, hE9⟩ := outF_E h1
    clear h1
    obtain q | q : code = 1 ∨ code = 2 := by omega
    · have e9 : E = IOB := by rw [hE9, q]; rfl
      subst e9
      exact exitsW [] [(0, 9, 15, 15)] (0, 9, 12, 28) rfl ex_IOB (by decide) (by decide +kernel) (fun z hz => by cases hz) (by decide) hd_mix_1 (by omega) (by omega) ⟨by rw [q]; rfl, M2, rfl, M2, hP, by rw [if_neg hc0]⟩
    · have e9 : E = ISE := by rw [hE9, q]; rfl
      subst e9
      exact exitsW [(0, 9, 12, 28)] [] (0, 9, 15, 15) rfl ex_ISE (by decide) (by decide +kernel) (by decide +kernel) (by decide) hd_mix_2 (by omega) (by omega) ⟨by rw [q]; rfl, M2, rfl, M2, hP, by rw [if_neg hc0]⟩
  · obtain ⟨h1, M2, rfl, hP⟩ := hv
    obtain ⟨hc0, rfl⟩ := outF_V h1
    clear h1
    simp only [Option.toList, List.cons_append, List.nil_append]
    have hr := hval hc0
    simp only [r32] at hr
    refine J_rnG GW_fa (by omega) (by omega) (by omega) 4 _ _ _ _ (fun K9v hK9 => ?_)
    simp (maxSteps := 4000000) only [↓(X_i2l (pc' := 8) dL_mix_7 rfl), ↓(X_lastore (pc' := 9) dL_mix_8 rfl), ↓(X_goto (pc' := 18) dL_mix_9 (by decide)), ↓(X_iconst (pc' := 19) dL_mix_18 rfl), rn_0, gV_s, ↓pI_c, ↓pII_c, ↓pL_c, ↓pLL_c, ↓pR_c, ↓pRI_c, ↓pRII_c, ↓pRIL_c, ↓pRR_c, ↓pV_c, ↓pVV_c, ↓gI_c, ↓gL_c, ↓gR_c, f2_0, f2_1, nk_n, nk_i, nk_r, ↓reduceIte, r32, r64, Nat.reduceAdd, Nat.reduceSub, Nat.reduceEqDiff, Nat.reduceLT, Nat.reduceLeDiff, Nat.reduceBEq, Int.reduceAdd, Int.reduceSub, Int.reduceMul, Int.reduceNeg, Int.reduceToNat, Int.reduceLE, Int.reduceLT, Int.reduceEq, Int.reduceNatCast', Int.reduceNatCast, Int.natCast_zero, Int.toNat_natCast, Int.toNat_zero, Int.toNat_one, List.length_cons, List.length_nil, true_and, and_true, and_self, true_or, or_true, false_or, or_false, Bool.not_true, Bool.not_false, Nat.lt_add_one, Nat.zero_lt_succ, N0, swL_n, swL_c, List.toList_toArray, false_implies, true_implies, implies_true, forall_const, not_false_eq_true, not_true_eq_false, and_false, false_and, kd_467, ln_467, hr]
    simp only [hK9]
    clear hK9 K9v
    refine J_iretW dL_mix_19 (by omega) (by omega) (⟨by rw [hc0]; rfl, _, rfl, M2, hP, by rw [if_pos hc0]⟩)
set_option maxRecDepth 100000 in
set_option maxHeartbeats 4000000 in
theorem ow_print {M : Nat → Nat → Int} {P : (Nat → Nat → Int) → Prop} {code : Nat} {val : Int} (d : Nat) (z0 z1 z2 : Int) (hcode : code ≤ 3) (hval : code = 0 → r32 val) (hok : Ok l D cy (d + 8) 2 12 yX8_print cX8_print 6 (some (.int)) [.inr (.inr (some 0)), .inl z0, .inl z1, .inl z2] (N0, R0, M) (fun o ν => o = outF [IOB, IAE, ISE] code (some (.inl val)) ∧ ∃ M2 : Nat → Nat → Int, ν = (N0, R0, M2) ∧ P M2)) : OkW l D cy (d + 9) 2 12 yL_print cL_print 6 (some .int) [(0, 12, 15, 28), (0, 12, 19, 13), (0, 12, 23, 15)] [.inr (.inr (some 0)), .inl z0, .inl z1, .inl z2, .inr (.inr (some 467))] (N0, R0, M) (fun o ν => o = .inl (some (.inl (code : Int))) ∧ ∃ M3 : Nat → Nat → Int, ν = (N0, R0, M3) ∧ ∃ M2 : Nat → Nat → Int, P M2 ∧ M3 = if code = 0 then up2 M2 467 0 val else M2) := by
  refine OkW.intro [some (.inr (.inr (some 0))), some (.inl z0), some (.inl z1), some (.inl z2), some (.inr (.inr (some 467))), none] (by decide +kernel) rfl rfl (Nat.le_of_ble_eq_true rfl) rfl ?_
  refine J_rnG GW_fa (by omega) (by omega) (by omega) 6 _ _ _ _ (fun K9v hK9 => ?_)
  simp (maxSteps := 4000000) only [↓(X_aload (pc' := 2) dL_print_0 rfl), ↓gR_4, ↓(X_iconst (pc' := 3) dL_print_2 rfl), ↓(X_aload_n (k := 0) (pc' := 4) dL_print_3 rfl rfl), ↓gR_0, ↓(X_iload_n (k := 1) (pc' := 5) dL_print_4 rfl rfl), ↓gI_1, ↓(X_iload_n (k := 2) (pc' := 6) dL_print_5 rfl rfl), ↓gI_2, ↓(X_iload_n (k := 3) (pc' := 7) dL_print_6 rfl rfl), ↓gI_3, rn_0, gV_s, ↓pI_c, ↓pII_c, ↓pL_c, ↓pLL_c, ↓pR_c, ↓pRI_c, ↓pRII_c, ↓pRIL_c, ↓pRR_c, ↓pV_c, ↓pVV_c, ↓gI_c, ↓gL_c, ↓gR_c, f2_0, f2_1, nk_n, nk_i, nk_r, ↓reduceIte, r32, r64, Nat.reduceAdd, Nat.reduceSub, Nat.reduceEqDiff, Nat.reduceLT, Nat.reduceLeDiff, Nat.reduceBEq, Int.reduceAdd, Int.reduceSub, Int.reduceMul, Int.reduceNeg, Int.reduceToNat, Int.reduceLE, Int.reduceLT, Int.reduceEq, Int.reduceNatCast', Int.reduceNatCast, Int.natCast_zero, Int.toNat_natCast, Int.toNat_zero, Int.toNat_one, List.length_cons, List.length_nil, true_and, and_true, and_self, true_or, or_true, false_or, or_false, Bool.not_true, Bool.not_false, Nat.lt_add_one, Nat.zero_lt_succ, N0, swL_n, swL_c, List.toList_toArray, false_implies, true_implies, implies_true, forall_const, not_false_eq_true, not_true_eq_false, and_false, false_and]
  simp only [hK9]
  clear hK9 K9v
  refine J_callV0 GW_fa hok dL_print_7 k_10_34 (by omega) (Nat.le_of_ble_eq_true rfl) ⟨by omega, by omega⟩ rfl (by decide +kernel) (by decide +kernel) (by simp only [N0]; omega) (by simp) rfl (fun q9 ν9 h9 => Or.inl (by obtain ⟨-, M9, h9, -⟩ := h9; rw [h9]; rfl)) (fun E ν hE => ?_) (fun v ν hv _ => ?_)
  · obtain ⟨h1, M2, rfl, hP⟩ := hE
    obtain ⟨hc0, hE9⟩ := outF_E h1
    clear h1
    obtain q | q | q : code = 1 ∨ code = 2 ∨ code = 3 := by omega
    · have e9 : E = IOB := by rw [hE9, q]; rfl
      subst e9
      exact exitsW [] [(0, 12, 19, 13), (0, 12, 23, 15)] (0, 12, 15, 28) rfl ex_IOB (by decide) (by decide +kernel) (fun z hz => by cases hz) (by decide) hd_print_1 (by omega) (by omega) ⟨by rw [q]; rfl, M2, rfl, M2, hP, by rw [if_neg hc0]⟩
    · have e9 : E = IAE := by rw [hE9, q]; rfl
      subst e9
      exact exitsW [(0, 12, 15, 28)] [(0, 12, 23, 15)] (0, 12, 19, 13) rfl ex_IAE (by decide) (by decide +kernel) (by decide +kernel) (by decide) hd_print_2 (by omega) (by omega) ⟨by rw [q]; rfl, M2, rfl, M2, hP, by rw [if_neg hc0]⟩
    · have e9 : E = ISE := by rw [hE9, q]; rfl
      subst e9
      exact exitsW [(0, 12, 15, 28), (0, 12, 19, 13)] [] (0, 12, 23, 15) rfl ex_ISE (by decide) (by decide +kernel) (by decide +kernel) (by decide) hd_print_3 (by omega) (by omega) ⟨by rw [q]; rfl, M2, rfl, M2, hP, by rw [if_neg hc0]⟩
  · obtain ⟨h1, M2, rfl, hP⟩ := hv
    obtain ⟨hc0, rfl⟩ := outF_V h1
    clear h1
    simp only [Option.toList, List.cons_append, List.nil_append]
    have hr := hval hc0
    simp only [r32] at hr
    refine J_rnG GW_fa (by omega) (by omega) (by omega) 4 _ _ _ _ (fun K9v hK9 => ?_)
    simp (maxSteps := 4000000) only [↓(X_i2l (pc' := 11) dL_print_10 rfl), ↓(X_lastore (pc' := 12) dL_print_11 rfl), ↓(X_goto (pc' := 27) dL_print_12 (by decide)), ↓(X_iconst (pc' := 28) dL_print_27 rfl), rn_0, gV_s, ↓pI_c, ↓pII_c, ↓pL_c, ↓pLL_c, ↓pR_c, ↓pRI_c, ↓pRII_c, ↓pRIL_c, ↓pRR_c, ↓pV_c, ↓pVV_c, ↓gI_c, ↓gL_c, ↓gR_c, f2_0, f2_1, nk_n, nk_i, nk_r, ↓reduceIte, r32, r64, Nat.reduceAdd, Nat.reduceSub, Nat.reduceEqDiff, Nat.reduceLT, Nat.reduceLeDiff, Nat.reduceBEq, Int.reduceAdd, Int.reduceSub, Int.reduceMul, Int.reduceNeg, Int.reduceToNat, Int.reduceLE, Int.reduceLT, Int.reduceEq, Int.reduceNatCast', Int.reduceNatCast, Int.natCast_zero, Int.toNat_natCast, Int.toNat_zero, Int.toNat_one, List.length_cons, List.length_nil, true_and, and_true, and_self, true_or, or_true, false_or, or_false, Bool.not_true, Bool.not_false, Nat.lt_add_one, Nat.zero_lt_succ, N0, swL_n, swL_c, List.toList_toArray, false_implies, true_implies, implies_true, forall_const, not_false_eq_true, not_true_eq_false, and_false, false_and, kd_467, ln_467, hr]
    simp only [hK9]
    clear hK9 K9v
    refine J_iretW dL_print_28 (by omega) (by omega) (⟨by rw [hc0]; rfl, _, rfl, M2, hP, by rw [if_pos hc0]⟩)
set_option maxRecDepth 100000 in
set_option maxHeartbeats 4000000 in
theorem ow_pass {M : Nat → Nat → Int} {P : (Nat → Nat → Int) → Prop} {code : Nat} {val : Int} (d : Nat) (z0 : Int) (hcode : code ≤ 2) (hval : code = 0 → r32 val) (hok : Ok l D cy (d + 6) 1 6 yX8_pass cX8_pass 2 (some (.int)) [.inr (.inr (some 0)), .inl z0] (N0, R0, M) (fun o ν => o = outF [IAE, ISE] code (some (.inl val)) ∧ ∃ M2 : Nat → Nat → Int, ν = (N0, R0, M2) ∧ P M2)) : OkW l D cy (d + 7) 1 6 yL_pass cL_pass 4 (some .int) [(0, 9, 12, 13), (0, 9, 15, 15)] [.inr (.inr (some 0)), .inl z0, .inr (.inr (some 467))] (N0, R0, M) (fun o ν => o = .inl (some (.inl (code : Int))) ∧ ∃ M3 : Nat → Nat → Int, ν = (N0, R0, M3) ∧ ∃ M2 : Nat → Nat → Int, P M2 ∧ M3 = if code = 0 then up2 M2 467 0 val else M2) := by
  refine OkW.intro [some (.inr (.inr (some 0))), some (.inl z0), some (.inr (.inr (some 467))), none] (by decide +kernel) rfl rfl (Nat.le_of_ble_eq_true rfl) rfl ?_
  refine J_rnG GW_fa (by omega) (by omega) (by omega) 4 _ _ _ _ (fun K9v hK9 => ?_)
  simp (maxSteps := 4000000) only [↓(X_aload_n (k := 2) (pc' := 1) dL_pass_0 rfl rfl), ↓gR_2, ↓(X_iconst (pc' := 2) dL_pass_1 rfl), ↓(X_aload_n (k := 0) (pc' := 3) dL_pass_2 rfl rfl), ↓gR_0, ↓(X_iload_n (k := 1) (pc' := 4) dL_pass_3 rfl rfl), ↓gI_1, rn_0, gV_s, ↓pI_c, ↓pII_c, ↓pL_c, ↓pLL_c, ↓pR_c, ↓pRI_c, ↓pRII_c, ↓pRIL_c, ↓pRR_c, ↓pV_c, ↓pVV_c, ↓gI_c, ↓gL_c, ↓gR_c, f2_0, f2_1, nk_n, nk_i, nk_r, ↓reduceIte, r32, r64, Nat.reduceAdd, Nat.reduceSub, Nat.reduceEqDiff, Nat.reduceLT, Nat.reduceLeDiff, Nat.reduceBEq, Int.reduceAdd, Int.reduceSub, Int.reduceMul, Int.reduceNeg, Int.reduceToNat, Int.reduceLE, Int.reduceLT, Int.reduceEq, Int.reduceNatCast', Int.reduceNatCast, Int.natCast_zero, Int.toNat_natCast, Int.toNat_zero, Int.toNat_one, List.length_cons, List.length_nil, true_and, and_true, and_self, true_or, or_true, false_or, or_false, Bool.not_true, Bool.not_false, Nat.lt_add_one, Nat.zero_lt_succ, N0, swL_n, swL_c, List.toList_toArray, false_implies, true_implies, implies_true, forall_const, not_false_eq_true, not_true_eq_false, and_false, false_and]
  simp only [hK9]
  clear hK9 K9v
  refine J_callV0 GW_fa hok dL_pass_4 k_10_38 (by omega) (Nat.le_of_ble_eq_true rfl) ⟨by omega, by omega⟩ rfl (by decide +kernel) (by decide +kernel) (by simp only [N0]; omega) (by simp) rfl (fun q9 ν9 h9 => Or.inl (by obtain ⟨-, M9, h9, -⟩ := h9; rw [h9]; rfl)) (fun E ν hE => ?_) (fun v ν hv _ => ?_)
  · obtain ⟨h1, M2, rfl, hP⟩ := hE
    obtain ⟨hc0, hE9⟩ := outF_E h1
    clear h1
    obtain q | q : code = 1 ∨ code = 2 := by omega
    · have e9 : E = IAE := by rw [hE9, q]; rfl
      subst e9
      exact exitsW [] [(0, 9, 15, 15)] (0, 9, 12, 13) rfl ex_IAE (by decide) (by decide +kernel) (fun z hz => by cases hz) (by decide) hd_pass_1 (by omega) (by omega) ⟨by rw [q]; rfl, M2, rfl, M2, hP, by rw [if_neg hc0]⟩
    · have e9 : E = ISE := by rw [hE9, q]; rfl
      subst e9
      exact exitsW [(0, 9, 12, 13)] [] (0, 9, 15, 15) rfl ex_ISE (by decide) (by decide +kernel) (by decide +kernel) (by decide) hd_pass_2 (by omega) (by omega) ⟨by rw [q]; rfl, M2, rfl, M2, hP, by rw [if_neg hc0]⟩
  · obtain ⟨h1, M2, rfl, hP⟩ := hv
    obtain ⟨hc0, rfl⟩ := outF_V h1
    clear h1
    simp only [Option.toList, List.cons_append, List.nil_append]
    have hr := hval hc0
    simp only [r32] at hr
    refine J_rnG GW_fa (by omega) (by omega) (by omega) 4 _ _ _ _ (fun K9v hK9 => ?_)
    simp (maxSteps := 4000000) only [↓(X_i2l (pc' := 8) dL_pass_7 rfl), ↓(X_lastore (pc' := 9) dL_pass_8 rfl), ↓(X_goto (pc' := 18) dL_pass_9 (by decide)), ↓(X_iconst (pc' := 19) dL_pass_18 rfl), rn_0, gV_s, ↓pI_c, ↓pII_c, ↓pL_c, ↓pLL_c, ↓pR_c, ↓pRI_c, ↓pRII_c, ↓pRIL_c, ↓pRR_c, ↓pV_c, ↓pVV_c, ↓gI_c, ↓gL_c, ↓gR_c, f2_0, f2_1, nk_n, nk_i, nk_r, ↓reduceIte, r32, r64, Nat.reduceAdd, Nat.reduceSub, Nat.reduceEqDiff, Nat.reduceLT, Nat.reduceLeDiff, Nat.reduceBEq, Int.reduceAdd, Int.reduceSub, Int.reduceMul, Int.reduceNeg, Int.reduceToNat, Int.reduceLE, Int.reduceLT, Int.reduceEq, Int.reduceNatCast', Int.reduceNatCast, Int.natCast_zero, Int.toNat_natCast, Int.toNat_zero, Int.toNat_one, List.length_cons, List.length_nil, true_and, and_true, and_self, true_or, or_true, false_or, or_false, Bool.not_true, Bool.not_false, Nat.lt_add_one, Nat.zero_lt_succ, N0, swL_n, swL_c, List.toList_toArray, false_implies, true_implies, implies_true, forall_const, not_false_eq_true, not_true_eq_false, and_false, false_and, kd_467, ln_467, hr]
    simp only [hK9]
    clear hK9 K9v
    refine J_iretW dL_pass_19 (by omega) (by omega) (⟨by rw [hc0]; rfl, _, rfl, M2, hP, by rw [if_pos hc0]⟩)
set_option maxRecDepth 100000 in
set_option maxHeartbeats 4000000 in
theorem ow_state {M : Nat → Nat → Int} {P : (Nat → Nat → Int) → Prop} {code : Nat} {val : Int} (d : Nat) (z0 : Int) (hcode : code ≤ 1) (hval : code = 0 → r32 val) (hok : Ok l D cy (d + 7) 1 6 yX8_state cX8_state 2 (some (.int)) [.inr (.inr (some 0)), .inl z0] (N0, R0, M) (fun o ν => o = outF [IOB] code (some (.inl val)) ∧ ∃ M2 : Nat → Nat → Int, ν = (N0, R0, M2) ∧ P M2)) : OkW l D cy (d + 8) 1 6 yL_state cL_state 4 (some .int) [(0, 9, 12, 28)] [.inr (.inr (some 0)), .inl z0, .inr (.inr (some 467))] (N0, R0, M) (fun o ν => o = .inl (some (.inl (code : Int))) ∧ ∃ M3 : Nat → Nat → Int, ν = (N0, R0, M3) ∧ ∃ M2 : Nat → Nat → Int, P M2 ∧ M3 = if code = 0 then up2 M2 467 0 val else M2) := by
  refine OkW.intro [some (.inr (.inr (some 0))), some (.inl z0), some (.inr (.inr (some 467))), none] (by decide +kernel) rfl rfl (Nat.le_of_ble_eq_true rfl) rfl ?_
  refine J_rnG GW_fa (by omega) (by omega) (by omega) 4 _ _ _ _ (fun K9v hK9 => ?_)
  simp (maxSteps := 4000000) only [↓(X_aload_n (k := 2) (pc' := 1) dL_state_0 rfl rfl), ↓gR_2, ↓(X_iconst (pc' := 2) dL_state_1 rfl), ↓(X_aload_n (k := 0) (pc' := 3) dL_state_2 rfl rfl), ↓gR_0, ↓(X_iload_n (k := 1) (pc' := 4) dL_state_3 rfl rfl), ↓gI_1, rn_0, gV_s, ↓pI_c, ↓pII_c, ↓pL_c, ↓pLL_c, ↓pR_c, ↓pRI_c, ↓pRII_c, ↓pRIL_c, ↓pRR_c, ↓pV_c, ↓pVV_c, ↓gI_c, ↓gL_c, ↓gR_c, f2_0, f2_1, nk_n, nk_i, nk_r, ↓reduceIte, r32, r64, Nat.reduceAdd, Nat.reduceSub, Nat.reduceEqDiff, Nat.reduceLT, Nat.reduceLeDiff, Nat.reduceBEq, Int.reduceAdd, Int.reduceSub, Int.reduceMul, Int.reduceNeg, Int.reduceToNat, Int.reduceLE, Int.reduceLT, Int.reduceEq, Int.reduceNatCast', Int.reduceNatCast, Int.natCast_zero, Int.toNat_natCast, Int.toNat_zero, Int.toNat_one, List.length_cons, List.length_nil, true_and, and_true, and_self, true_or, or_true, false_or, or_false, Bool.not_true, Bool.not_false, Nat.lt_add_one, Nat.zero_lt_succ, N0, swL_n, swL_c, List.toList_toArray, false_implies, true_implies, implies_true, forall_const, not_false_eq_true, not_true_eq_false, and_false, false_and]
  simp only [hK9]
  clear hK9 K9v
  refine J_callV0 GW_fa hok dL_state_4 k_10_41 (by omega) (Nat.le_of_ble_eq_true rfl) ⟨by omega, by omega⟩ rfl (by decide +kernel) (by decide +kernel) (by simp only [N0]; omega) (by simp) rfl (fun q9 ν9 h9 => Or.inl (by obtain ⟨-, M9, h9, -⟩ := h9; rw [h9]; rfl)) (fun E ν hE => ?_) (fun v ν hv _ => ?_)
  · obtain ⟨h1, M2, rfl, hP⟩ := hE
    obtain ⟨hc0, hE9⟩ := outF_E h1
    clear h1
    obtain q : code = 1 := by omega
    have e9 : E = IOB := by rw [hE9, q]; rfl
    subst e9
    exact exitsW [] [] (0, 9, 12, 28) rfl ex_IOB (by decide) (by decide +kernel) (fun z hz => by cases hz) (by decide) hd_state_1 (by omega) (by omega) ⟨by rw [q]; rfl, M2, rfl, M2, hP, by rw [if_neg hc0]⟩
  · obtain ⟨h1, M2, rfl, hP⟩ := hv
    obtain ⟨hc0, rfl⟩ := outF_V h1
    clear h1
    simp only [Option.toList, List.cons_append, List.nil_append]
    have hr := hval hc0
    simp only [r32] at hr
    refine J_rnG GW_fa (by omega) (by omega) (by omega) 4 _ _ _ _ (fun K9v hK9 => ?_)
    simp (maxSteps := 4000000) only [↓(X_i2l (pc' := 8) dL_state_7 rfl), ↓(X_lastore (pc' := 9) dL_state_8 rfl), ↓(X_goto (pc' := 15) dL_state_9 (by decide)), ↓(X_iconst (pc' := 16) dL_state_15 rfl), rn_0, gV_s, ↓pI_c, ↓pII_c, ↓pL_c, ↓pLL_c, ↓pR_c, ↓pRI_c, ↓pRII_c, ↓pRIL_c, ↓pRR_c, ↓pV_c, ↓pVV_c, ↓gI_c, ↓gL_c, ↓gR_c, f2_0, f2_1, nk_n, nk_i, nk_r, ↓reduceIte, r32, r64, Nat.reduceAdd, Nat.reduceSub, Nat.reduceEqDiff, Nat.reduceLT, Nat.reduceLeDiff, Nat.reduceBEq, Int.reduceAdd, Int.reduceSub, Int.reduceMul, Int.reduceNeg, Int.reduceToNat, Int.reduceLE, Int.reduceLT, Int.reduceEq, Int.reduceNatCast', Int.reduceNatCast, Int.natCast_zero, Int.toNat_natCast, Int.toNat_zero, Int.toNat_one, List.length_cons, List.length_nil, true_and, and_true, and_self, true_or, or_true, false_or, or_false, Bool.not_true, Bool.not_false, Nat.lt_add_one, Nat.zero_lt_succ, N0, swL_n, swL_c, List.toList_toArray, false_implies, true_implies, implies_true, forall_const, not_false_eq_true, not_true_eq_false, and_false, false_and, kd_467, ln_467, hr]
    simp only [hK9]
    clear hK9 K9v
    refine J_iretW dL_state_16 (by omega) (by omega) (⟨by rw [hc0]; rfl, _, rfl, M2, hP, by rw [if_pos hc0]⟩)
set_option maxRecDepth 100000 in
set_option maxHeartbeats 4000000 in
theorem ow_inTin {M : Nat → Nat → Int} {P : (Nat → Nat → Int) → Prop} {code : Nat} {val : Int} (d : Nat) (z0 z1 : Int) (hcode : code ≤ 2) (hval : code = 0 → r32 val) (hok : Ok l D cy (d + 7) 2 12 yX8_inTin cX8_inTin 4 (some (.int)) [.inr (.inr (some 0)), .inl z0, .inl z1] (N0, R0, M) (fun o ν => o = outF [IOB, IAE] code (some (.inl val)) ∧ ∃ M2 : Nat → Nat → Int, ν = (N0, R0, M2) ∧ P M2)) : OkW l D cy (d + 8) 2 12 yL_inTin cL_inTin 5 (some .int) [(0, 10, 13, 28), (0, 10, 17, 13)] [.inr (.inr (some 0)), .inl z0, .inl z1, .inr (.inr (some 467))] (N0, R0, M) (fun o ν => o = .inl (some (.inl (code : Int))) ∧ ∃ M3 : Nat → Nat → Int, ν = (N0, R0, M3) ∧ ∃ M2 : Nat → Nat → Int, P M2 ∧ M3 = if code = 0 then up2 M2 467 0 val else M2) := by
  refine OkW.intro [some (.inr (.inr (some 0))), some (.inl z0), some (.inl z1), some (.inr (.inr (some 467))), none] (by decide +kernel) rfl rfl (Nat.le_of_ble_eq_true rfl) rfl ?_
  refine J_rnG GW_fa (by omega) (by omega) (by omega) 5 _ _ _ _ (fun K9v hK9 => ?_)
  simp (maxSteps := 4000000) only [↓(X_aload_n (k := 3) (pc' := 1) dL_inTin_0 rfl rfl), ↓gR_3, ↓(X_iconst (pc' := 2) dL_inTin_1 rfl), ↓(X_aload_n (k := 0) (pc' := 3) dL_inTin_2 rfl rfl), ↓gR_0, ↓(X_iload_n (k := 1) (pc' := 4) dL_inTin_3 rfl rfl), ↓gI_1, ↓(X_iload_n (k := 2) (pc' := 5) dL_inTin_4 rfl rfl), ↓gI_2, rn_0, gV_s, ↓pI_c, ↓pII_c, ↓pL_c, ↓pLL_c, ↓pR_c, ↓pRI_c, ↓pRII_c, ↓pRIL_c, ↓pRR_c, ↓pV_c, ↓pVV_c, ↓gI_c, ↓gL_c, ↓gR_c, f2_0, f2_1, nk_n, nk_i, nk_r, ↓reduceIte, r32, r64, Nat.reduceAdd, Nat.reduceSub, Nat.reduceEqDiff, Nat.reduceLT, Nat.reduceLeDiff, Nat.reduceBEq, Int.reduceAdd, Int.reduceSub, Int.reduceMul, Int.reduceNeg, Int.reduceToNat, Int.reduceLE, Int.reduceLT, Int.reduceEq, Int.reduceNatCast', Int.reduceNatCast, Int.natCast_zero, Int.toNat_natCast, Int.toNat_zero, Int.toNat_one, List.length_cons, List.length_nil, true_and, and_true, and_self, true_or, or_true, false_or, or_false, Bool.not_true, Bool.not_false, Nat.lt_add_one, Nat.zero_lt_succ, N0, swL_n, swL_c, List.toList_toArray, false_implies, true_implies, implies_true, forall_const, not_false_eq_true, not_true_eq_false, and_false, false_and]
  simp only [hK9]
  clear hK9 K9v
  refine J_callV0 GW_fa hok dL_inTin_5 k_10_44 (by omega) (Nat.le_of_ble_eq_true rfl) ⟨by omega, by omega⟩ rfl (by decide +kernel) (by decide +kernel) (by simp only [N0]; omega) (by simp) rfl (fun q9 ν9 h9 => Or.inl (by obtain ⟨-, M9, h9, -⟩ := h9; rw [h9]; rfl)) (fun E ν hE => ?_) (fun v ν hv _ => ?_)
  · obtain ⟨h1, M2, rfl, hP⟩ := hE
    obtain ⟨hc0, hE9⟩ := outF_E h1
    clear h1
    obtain q | q : code = 1 ∨ code = 2 := by omega
    · have e9 : E = IOB := by rw [hE9, q]; rfl
      subst e9
      exact exitsW [] [(0, 10, 17, 13)] (0, 10, 13, 28) rfl ex_IOB (by decide) (by decide +kernel) (fun z hz => by cases hz) (by decide) hd_inTin_1 (by omega) (by omega) ⟨by rw [q]; rfl, M2, rfl, M2, hP, by rw [if_neg hc0]⟩
    · have e9 : E = IAE := by rw [hE9, q]; rfl
      subst e9
      exact exitsW [(0, 10, 13, 28)] [] (0, 10, 17, 13) rfl ex_IAE (by decide) (by decide +kernel) (by decide +kernel) (by decide) hd_inTin_2 (by omega) (by omega) ⟨by rw [q]; rfl, M2, rfl, M2, hP, by rw [if_neg hc0]⟩
  · obtain ⟨h1, M2, rfl, hP⟩ := hv
    obtain ⟨hc0, rfl⟩ := outF_V h1
    clear h1
    simp only [Option.toList, List.cons_append, List.nil_append]
    have hr := hval hc0
    simp only [r32] at hr
    refine J_rnG GW_fa (by omega) (by omega) (by omega) 4 _ _ _ _ (fun K9v hK9 => ?_)
    simp (maxSteps := 4000000) only [↓(X_i2l (pc' := 9) dL_inTin_8 rfl), ↓(X_lastore (pc' := 10) dL_inTin_9 rfl), ↓(X_goto (pc' := 21) dL_inTin_10 (by decide)), ↓(X_iconst (pc' := 22) dL_inTin_21 rfl), rn_0, gV_s, ↓pI_c, ↓pII_c, ↓pL_c, ↓pLL_c, ↓pR_c, ↓pRI_c, ↓pRII_c, ↓pRIL_c, ↓pRR_c, ↓pV_c, ↓pVV_c, ↓gI_c, ↓gL_c, ↓gR_c, f2_0, f2_1, nk_n, nk_i, nk_r, ↓reduceIte, r32, r64, Nat.reduceAdd, Nat.reduceSub, Nat.reduceEqDiff, Nat.reduceLT, Nat.reduceLeDiff, Nat.reduceBEq, Int.reduceAdd, Int.reduceSub, Int.reduceMul, Int.reduceNeg, Int.reduceToNat, Int.reduceLE, Int.reduceLT, Int.reduceEq, Int.reduceNatCast', Int.reduceNatCast, Int.natCast_zero, Int.toNat_natCast, Int.toNat_zero, Int.toNat_one, List.length_cons, List.length_nil, true_and, and_true, and_self, true_or, or_true, false_or, or_false, Bool.not_true, Bool.not_false, Nat.lt_add_one, Nat.zero_lt_succ, N0, swL_n, swL_c, List.toList_toArray, false_implies, true_implies, implies_true, forall_const, not_false_eq_true, not_true_eq_false, and_false, false_and, kd_467, ln_467, hr]
    simp only [hK9]
    clear hK9 K9v
    refine J_iretW dL_inTin_22 (by omega) (by omega) (⟨by rw [hc0]; rfl, _, rfl, M2, hP, by rw [if_pos hc0]⟩)
set_option maxRecDepth 100000 in
set_option maxHeartbeats 4000000 in
theorem ow_shade {M : Nat → Nat → Int} {P : (Nat → Nat → Int) → Prop} {code : Nat} {val : Int} (d : Nat) (z0 z1 : Int) (hcode : code ≤ 3) (hval : code = 0 → r32 val) (hok : Ok l D cy (d + 7) 2 12 yX8_shade cX8_shade 4 (some (.int)) [.inr (.inr (some 0)), .inl z0, .inl z1] (N0, R0, M) (fun o ν => o = outF [IOB, IAE, ISE] code (some (.inl val)) ∧ ∃ M2 : Nat → Nat → Int, ν = (N0, R0, M2) ∧ P M2)) : OkW l D cy (d + 8) 2 12 yL_shade cL_shade 5 (some .int) [(0, 10, 13, 28), (0, 10, 17, 13), (0, 10, 21, 15)] [.inr (.inr (some 0)), .inl z0, .inl z1, .inr (.inr (some 467))] (N0, R0, M) (fun o ν => o = .inl (some (.inl (code : Int))) ∧ ∃ M3 : Nat → Nat → Int, ν = (N0, R0, M3) ∧ ∃ M2 : Nat → Nat → Int, P M2 ∧ M3 = if code = 0 then up2 M2 467 0 val else M2) := by
  refine OkW.intro [some (.inr (.inr (some 0))), some (.inl z0), some (.inl z1), some (.inr (.inr (some 467))), none] (by decide +kernel) rfl rfl (Nat.le_of_ble_eq_true rfl) rfl ?_
  refine J_rnG GW_fa (by omega) (by omega) (by omega) 5 _ _ _ _ (fun K9v hK9 => ?_)
  simp (maxSteps := 4000000) only [↓(X_aload_n (k := 3) (pc' := 1) dL_shade_0 rfl rfl), ↓gR_3, ↓(X_iconst (pc' := 2) dL_shade_1 rfl), ↓(X_aload_n (k := 0) (pc' := 3) dL_shade_2 rfl rfl), ↓gR_0, ↓(X_iload_n (k := 1) (pc' := 4) dL_shade_3 rfl rfl), ↓gI_1, ↓(X_iload_n (k := 2) (pc' := 5) dL_shade_4 rfl rfl), ↓gI_2, rn_0, gV_s, ↓pI_c, ↓pII_c, ↓pL_c, ↓pLL_c, ↓pR_c, ↓pRI_c, ↓pRII_c, ↓pRIL_c, ↓pRR_c, ↓pV_c, ↓pVV_c, ↓gI_c, ↓gL_c, ↓gR_c, f2_0, f2_1, nk_n, nk_i, nk_r, ↓reduceIte, r32, r64, Nat.reduceAdd, Nat.reduceSub, Nat.reduceEqDiff, Nat.reduceLT, Nat.reduceLeDiff, Nat.reduceBEq, Int.reduceAdd, Int.reduceSub, Int.reduceMul, Int.reduceNeg, Int.reduceToNat, Int.reduceLE, Int.reduceLT, Int.reduceEq, Int.reduceNatCast', Int.reduceNatCast, Int.natCast_zero, Int.toNat_natCast, Int.toNat_zero, Int.toNat_one, List.length_cons, List.length_nil, true_and, and_true, and_self, true_or, or_true, false_or, or_false, Bool.not_true, Bool.not_false, Nat.lt_add_one, Nat.zero_lt_succ, N0, swL_n, swL_c, List.toList_toArray, false_implies, true_implies, implies_true, forall_const, not_false_eq_true, not_true_eq_false, and_false, false_and]
  simp only [hK9]
  clear hK9 K9v
  refine J_callV0 GW_fa hok dL_shade_5 k_10_47 (by omega) (Nat.le_of_ble_eq_true rfl) ⟨by omega, by omega⟩ rfl (by decide +kernel) (by decide +kernel) (by simp only [N0]; omega) (by simp) rfl (fun q9 ν9 h9 => Or.inl (by obtain ⟨-, M9, h9, -⟩ := h9; rw [h9]; rfl)) (fun E ν hE => ?_) (fun v ν hv _ => ?_)
  · obtain ⟨h1, M2, rfl, hP⟩ := hE
    obtain ⟨hc0, hE9⟩ := outF_E h1
    clear h1
    obtain q | q | q : code = 1 ∨ code = 2 ∨ code = 3 := by omega
    · have e9 : E = IOB := by rw [hE9, q]; rfl
      subst e9
      exact exitsW [] [(0, 10, 17, 13), (0, 10, 21, 15)] (0, 10, 13, 28) rfl ex_IOB (by decide) (by decide +kernel) (fun z hz => by cases hz) (by decide) hd_shade_1 (by omega) (by omega) ⟨by rw [q]; rfl, M2, rfl, M2, hP, by rw [if_neg hc0]⟩
    · have e9 : E = IAE := by rw [hE9, q]; rfl
      subst e9
      exact exitsW [(0, 10, 13, 28)] [(0, 10, 21, 15)] (0, 10, 17, 13) rfl ex_IAE (by decide) (by decide +kernel) (by decide +kernel) (by decide) hd_shade_2 (by omega) (by omega) ⟨by rw [q]; rfl, M2, rfl, M2, hP, by rw [if_neg hc0]⟩
    · have e9 : E = ISE := by rw [hE9, q]; rfl
      subst e9
      exact exitsW [(0, 10, 13, 28), (0, 10, 17, 13)] [] (0, 10, 21, 15) rfl ex_ISE (by decide) (by decide +kernel) (by decide +kernel) (by decide) hd_shade_3 (by omega) (by omega) ⟨by rw [q]; rfl, M2, rfl, M2, hP, by rw [if_neg hc0]⟩
  · obtain ⟨h1, M2, rfl, hP⟩ := hv
    obtain ⟨hc0, rfl⟩ := outF_V h1
    clear h1
    simp only [Option.toList, List.cons_append, List.nil_append]
    have hr := hval hc0
    simp only [r32] at hr
    refine J_rnG GW_fa (by omega) (by omega) (by omega) 4 _ _ _ _ (fun K9v hK9 => ?_)
    simp (maxSteps := 4000000) only [↓(X_i2l (pc' := 9) dL_shade_8 rfl), ↓(X_lastore (pc' := 10) dL_shade_9 rfl), ↓(X_goto (pc' := 25) dL_shade_10 (by decide)), ↓(X_iconst (pc' := 26) dL_shade_25 rfl), rn_0, gV_s, ↓pI_c, ↓pII_c, ↓pL_c, ↓pLL_c, ↓pR_c, ↓pRI_c, ↓pRII_c, ↓pRIL_c, ↓pRR_c, ↓pV_c, ↓pVV_c, ↓gI_c, ↓gL_c, ↓gR_c, f2_0, f2_1, nk_n, nk_i, nk_r, ↓reduceIte, r32, r64, Nat.reduceAdd, Nat.reduceSub, Nat.reduceEqDiff, Nat.reduceLT, Nat.reduceLeDiff, Nat.reduceBEq, Int.reduceAdd, Int.reduceSub, Int.reduceMul, Int.reduceNeg, Int.reduceToNat, Int.reduceLE, Int.reduceLT, Int.reduceEq, Int.reduceNatCast', Int.reduceNatCast, Int.natCast_zero, Int.toNat_natCast, Int.toNat_zero, Int.toNat_one, List.length_cons, List.length_nil, true_and, and_true, and_self, true_or, or_true, false_or, or_false, Bool.not_true, Bool.not_false, Nat.lt_add_one, Nat.zero_lt_succ, N0, swL_n, swL_c, List.toList_toArray, false_implies, true_implies, implies_true, forall_const, not_false_eq_true, not_true_eq_false, and_false, false_and, kd_467, ln_467, hr]
    simp only [hK9]
    clear hK9 K9v
    refine J_iretW dL_shade_26 (by omega) (by omega) (⟨by rw [hc0]; rfl, _, rfl, M2, hP, by rw [if_pos hc0]⟩)
set_option maxRecDepth 100000 in
set_option maxHeartbeats 4000000 in
theorem ow_where {M : Nat → Nat → Int} {P : (Nat → Nat → Int) → Prop} {code : Nat} {val : Int} (d : Nat) (z0 z1 : Int) (hcode : code ≤ 1) (hval : code = 0 → r32 val) (hok : Ok l D cy (d + 7) 1 6 yX8_where cX8_where 3 (some (.int)) [.inr (.inr (some 0)), .inl z0, .inl z1] (N0, R0, M) (fun o ν => o = outF [IAE] code (some (.inl val)) ∧ ∃ M2 : Nat → Nat → Int, ν = (N0, R0, M2) ∧ P M2)) : OkW l D cy (d + 8) 1 6 yL_where cL_where 5 (some .int) [(0, 10, 13, 13)] [.inr (.inr (some 0)), .inl z0, .inl z1, .inr (.inr (some 467))] (N0, R0, M) (fun o ν => o = .inl (some (.inl (code : Int))) ∧ ∃ M3 : Nat → Nat → Int, ν = (N0, R0, M3) ∧ ∃ M2 : Nat → Nat → Int, P M2 ∧ M3 = if code = 0 then up2 M2 467 0 val else M2) := by
  refine OkW.intro [some (.inr (.inr (some 0))), some (.inl z0), some (.inl z1), some (.inr (.inr (some 467))), none] (by decide +kernel) rfl rfl (Nat.le_of_ble_eq_true rfl) rfl ?_
  refine J_rnG GW_fa (by omega) (by omega) (by omega) 5 _ _ _ _ (fun K9v hK9 => ?_)
  simp (maxSteps := 4000000) only [↓(X_aload_n (k := 3) (pc' := 1) dL_where_0 rfl rfl), ↓gR_3, ↓(X_iconst (pc' := 2) dL_where_1 rfl), ↓(X_aload_n (k := 0) (pc' := 3) dL_where_2 rfl rfl), ↓gR_0, ↓(X_iload_n (k := 1) (pc' := 4) dL_where_3 rfl rfl), ↓gI_1, ↓(X_iload_n (k := 2) (pc' := 5) dL_where_4 rfl rfl), ↓gI_2, rn_0, gV_s, ↓pI_c, ↓pII_c, ↓pL_c, ↓pLL_c, ↓pR_c, ↓pRI_c, ↓pRII_c, ↓pRIL_c, ↓pRR_c, ↓pV_c, ↓pVV_c, ↓gI_c, ↓gL_c, ↓gR_c, f2_0, f2_1, nk_n, nk_i, nk_r, ↓reduceIte, r32, r64, Nat.reduceAdd, Nat.reduceSub, Nat.reduceEqDiff, Nat.reduceLT, Nat.reduceLeDiff, Nat.reduceBEq, Int.reduceAdd, Int.reduceSub, Int.reduceMul, Int.reduceNeg, Int.reduceToNat, Int.reduceLE, Int.reduceLT, Int.reduceEq, Int.reduceNatCast', Int.reduceNatCast, Int.natCast_zero, Int.toNat_natCast, Int.toNat_zero, Int.toNat_one, List.length_cons, List.length_nil, true_and, and_true, and_self, true_or, or_true, false_or, or_false, Bool.not_true, Bool.not_false, Nat.lt_add_one, Nat.zero_lt_succ, N0, swL_n, swL_c, List.toList_toArray, false_implies, true_implies, implies_true, forall_const, not_false_eq_true, not_true_eq_false, and_false, false_and]
  simp only [hK9]
  clear hK9 K9v
  refine J_callV0 GW_fa hok dL_where_5 k_10_50 (by omega) (Nat.le_of_ble_eq_true rfl) ⟨by omega, by omega⟩ rfl (by decide +kernel) (by decide +kernel) (by simp only [N0]; omega) (by simp) rfl (fun q9 ν9 h9 => Or.inl (by obtain ⟨-, M9, h9, -⟩ := h9; rw [h9]; rfl)) (fun E ν hE => ?_) (fun v ν hv _ => ?_)
  · obtain ⟨h1, M2, rfl, hP⟩ := hE
    obtain ⟨hc0, hE9⟩ := outF_E h1
    clear h1
    obtain q : code = 1 := by omega
    have e9 : E = IAE := by rw [hE9, q]; rfl
    subst e9
    exact exitsW [] [] (0, 10, 13, 13) rfl ex_IAE (by decide) (by decide +kernel) (fun z hz => by cases hz) (by decide) hd_where_1 (by omega) (by omega) ⟨by rw [q]; rfl, M2, rfl, M2, hP, by rw [if_neg hc0]⟩
  · obtain ⟨h1, M2, rfl, hP⟩ := hv
    obtain ⟨hc0, rfl⟩ := outF_V h1
    clear h1
    simp only [Option.toList, List.cons_append, List.nil_append]
    have hr := hval hc0
    simp only [r32] at hr
    refine J_rnG GW_fa (by omega) (by omega) (by omega) 4 _ _ _ _ (fun K9v hK9 => ?_)
    simp (maxSteps := 4000000) only [↓(X_i2l (pc' := 9) dL_where_8 rfl), ↓(X_lastore (pc' := 10) dL_where_9 rfl), ↓(X_goto (pc' := 17) dL_where_10 (by decide)), ↓(X_iconst (pc' := 18) dL_where_17 rfl), rn_0, gV_s, ↓pI_c, ↓pII_c, ↓pL_c, ↓pLL_c, ↓pR_c, ↓pRI_c, ↓pRII_c, ↓pRIL_c, ↓pRR_c, ↓pV_c, ↓pVV_c, ↓gI_c, ↓gL_c, ↓gR_c, f2_0, f2_1, nk_n, nk_i, nk_r, ↓reduceIte, r32, r64, Nat.reduceAdd, Nat.reduceSub, Nat.reduceEqDiff, Nat.reduceLT, Nat.reduceLeDiff, Nat.reduceBEq, Int.reduceAdd, Int.reduceSub, Int.reduceMul, Int.reduceNeg, Int.reduceToNat, Int.reduceLE, Int.reduceLT, Int.reduceEq, Int.reduceNatCast', Int.reduceNatCast, Int.natCast_zero, Int.toNat_natCast, Int.toNat_zero, Int.toNat_one, List.length_cons, List.length_nil, true_and, and_true, and_self, true_or, or_true, false_or, or_false, Bool.not_true, Bool.not_false, Nat.lt_add_one, Nat.zero_lt_succ, N0, swL_n, swL_c, List.toList_toArray, false_implies, true_implies, implies_true, forall_const, not_false_eq_true, not_true_eq_false, and_false, false_and, kd_467, ln_467, hr]
    simp only [hK9]
    clear hK9 K9v
    refine J_iretW dL_where_18 (by omega) (by omega) (⟨by rw [hc0]; rfl, _, rfl, M2, hP, by rw [if_pos hc0]⟩)
set_option maxRecDepth 100000 in
set_option maxHeartbeats 4000000 in
theorem ow_washesByAll {M : Nat → Nat → Int} {P : (Nat → Nat → Int) → Prop} {code : Nat} {val : Int} (d : Nat) (hcode : code ≤ 1) (hval : code = 0 → r32 val) (hok : Ok l D cy (d + 11) 1 6 yX8_washesByAll cX8_washesByAll 1 (some (.int)) [.inr (.inr (some 0))] (N0, R0, M) (fun o ν => o = outF [ISE] code (some (.inl val)) ∧ ∃ M2 : Nat → Nat → Int, ν = (N0, R0, M2) ∧ P M2)) : OkW l D cy (d + 12) 1 6 yL_washesByAll cL_washesByAll 3 (some .int) [(0, 8, 11, 15)] [.inr (.inr (some 0)), .inr (.inr (some 467))] (N0, R0, M) (fun o ν => o = .inl (some (.inl (code : Int))) ∧ ∃ M3 : Nat → Nat → Int, ν = (N0, R0, M3) ∧ ∃ M2 : Nat → Nat → Int, P M2 ∧ M3 = if code = 0 then up2 M2 467 0 val else M2) := by
  refine OkW.intro [some (.inr (.inr (some 0))), some (.inr (.inr (some 467))), none] (by decide +kernel) rfl rfl (Nat.le_of_ble_eq_true rfl) rfl ?_
  refine J_rnG GW_fa (by omega) (by omega) (by omega) 3 _ _ _ _ (fun K9v hK9 => ?_)
  simp (maxSteps := 4000000) only [↓(X_aload_n (k := 1) (pc' := 1) dL_washesByAll_0 rfl rfl), ↓gR_1, ↓(X_iconst (pc' := 2) dL_washesByAll_1 rfl), ↓(X_aload_n (k := 0) (pc' := 3) dL_washesByAll_2 rfl rfl), ↓gR_0, rn_0, gV_s, ↓pI_c, ↓pII_c, ↓pL_c, ↓pLL_c, ↓pR_c, ↓pRI_c, ↓pRII_c, ↓pRIL_c, ↓pRR_c, ↓pV_c, ↓pVV_c, ↓gI_c, ↓gL_c, ↓gR_c, f2_0, f2_1, nk_n, nk_i, nk_r, ↓reduceIte, r32, r64, Nat.reduceAdd, Nat.reduceSub, Nat.reduceEqDiff, Nat.reduceLT, Nat.reduceLeDiff, Nat.reduceBEq, Int.reduceAdd, Int.reduceSub, Int.reduceMul, Int.reduceNeg, Int.reduceToNat, Int.reduceLE, Int.reduceLT, Int.reduceEq, Int.reduceNatCast', Int.reduceNatCast, Int.natCast_zero, Int.toNat_natCast, Int.toNat_zero, Int.toNat_one, List.length_cons, List.length_nil, true_and, and_true, and_self, true_or, or_true, false_or, or_false, Bool.not_true, Bool.not_false, Nat.lt_add_one, Nat.zero_lt_succ, N0, swL_n, swL_c, List.toList_toArray, false_implies, true_implies, implies_true, forall_const, not_false_eq_true, not_true_eq_false, and_false, false_and]
  simp only [hK9]
  clear hK9 K9v
  refine J_callV0 GW_fa hok dL_washesByAll_3 k_10_53 (by omega) (Nat.le_of_ble_eq_true rfl) ⟨by omega, by omega⟩ rfl (by decide +kernel) (by decide +kernel) (by simp only [N0]; omega) (by simp) rfl (fun q9 ν9 h9 => Or.inl (by obtain ⟨-, M9, h9, -⟩ := h9; rw [h9]; rfl)) (fun E ν hE => ?_) (fun v ν hv _ => ?_)
  · obtain ⟨h1, M2, rfl, hP⟩ := hE
    obtain ⟨hc0, hE9⟩ := outF_E h1
    clear h1
    obtain q : code = 1 := by omega
    have e9 : E = ISE := by rw [hE9, q]; rfl
    subst e9
    exact exitsW [] [] (0, 8, 11, 15) rfl ex_ISE (by decide) (by decide +kernel) (fun z hz => by cases hz) (by decide) hd_washesByAll_1 (by omega) (by omega) ⟨by rw [q]; rfl, M2, rfl, M2, hP, by rw [if_neg hc0]⟩
  · obtain ⟨h1, M2, rfl, hP⟩ := hv
    obtain ⟨hc0, rfl⟩ := outF_V h1
    clear h1
    simp only [Option.toList, List.cons_append, List.nil_append]
    have hr := hval hc0
    simp only [r32] at hr
    refine J_rnG GW_fa (by omega) (by omega) (by omega) 4 _ _ _ _ (fun K9v hK9 => ?_)
    simp (maxSteps := 4000000) only [↓(X_i2l (pc' := 7) dL_washesByAll_6 rfl), ↓(X_lastore (pc' := 8) dL_washesByAll_7 rfl), ↓(X_goto (pc' := 14) dL_washesByAll_8 (by decide)), ↓(X_iconst (pc' := 15) dL_washesByAll_14 rfl), rn_0, gV_s, ↓pI_c, ↓pII_c, ↓pL_c, ↓pLL_c, ↓pR_c, ↓pRI_c, ↓pRII_c, ↓pRIL_c, ↓pRR_c, ↓pV_c, ↓pVV_c, ↓gI_c, ↓gL_c, ↓gR_c, f2_0, f2_1, nk_n, nk_i, nk_r, ↓reduceIte, r32, r64, Nat.reduceAdd, Nat.reduceSub, Nat.reduceEqDiff, Nat.reduceLT, Nat.reduceLeDiff, Nat.reduceBEq, Int.reduceAdd, Int.reduceSub, Int.reduceMul, Int.reduceNeg, Int.reduceToNat, Int.reduceLE, Int.reduceLT, Int.reduceEq, Int.reduceNatCast', Int.reduceNatCast, Int.natCast_zero, Int.toNat_natCast, Int.toNat_zero, Int.toNat_one, List.length_cons, List.length_nil, true_and, and_true, and_self, true_or, or_true, false_or, or_false, Bool.not_true, Bool.not_false, Nat.lt_add_one, Nat.zero_lt_succ, N0, swL_n, swL_c, List.toList_toArray, false_implies, true_implies, implies_true, forall_const, not_false_eq_true, not_true_eq_false, and_false, false_and, kd_467, ln_467, hr]
    simp only [hK9]
    clear hK9 K9v
    refine J_iretW dL_washesByAll_15 (by omega) (by omega) (⟨by rw [hc0]; rfl, _, rfl, M2, hP, by rw [if_pos hc0]⟩)
set_option maxRecDepth 100000 in
set_option maxHeartbeats 4000000 in
theorem ow_chipGap {M : Nat → Nat → Int} {P : (Nat → Nat → Int) → Prop} {code : Nat} {val : Int} (d : Nat) (z0 z1 : Int) (hcode : code ≤ 2) (hval : code = 0 → r32 val) (hok : Ok l D cy (d + 7) 3 18 yX8_chipGap cX8_chipGap 7 (some (.int)) [.inr (.inr (some 0)), .inl z0, .inl z1] (N0, R0, M) (fun o ν => o = outF [IOB, ISE] code (some (.inl val)) ∧ ∃ M2 : Nat → Nat → Int, ν = (N0, R0, M2) ∧ P M2)) : OkW l D cy (d + 8) 3 18 yL_chipGap cL_chipGap 5 (some .int) [(0, 10, 13, 28), (0, 10, 17, 15)] [.inr (.inr (some 0)), .inl z0, .inl z1, .inr (.inr (some 467))] (N0, R0, M) (fun o ν => o = .inl (some (.inl (code : Int))) ∧ ∃ M3 : Nat → Nat → Int, ν = (N0, R0, M3) ∧ ∃ M2 : Nat → Nat → Int, P M2 ∧ M3 = if code = 0 then up2 M2 467 0 val else M2) := by
  refine OkW.intro [some (.inr (.inr (some 0))), some (.inl z0), some (.inl z1), some (.inr (.inr (some 467))), none] (by decide +kernel) rfl rfl (Nat.le_of_ble_eq_true rfl) rfl ?_
  refine J_rnG GW_fa (by omega) (by omega) (by omega) 5 _ _ _ _ (fun K9v hK9 => ?_)
  simp (maxSteps := 4000000) only [↓(X_aload_n (k := 3) (pc' := 1) dL_chipGap_0 rfl rfl), ↓gR_3, ↓(X_iconst (pc' := 2) dL_chipGap_1 rfl), ↓(X_aload_n (k := 0) (pc' := 3) dL_chipGap_2 rfl rfl), ↓gR_0, ↓(X_iload_n (k := 1) (pc' := 4) dL_chipGap_3 rfl rfl), ↓gI_1, ↓(X_iload_n (k := 2) (pc' := 5) dL_chipGap_4 rfl rfl), ↓gI_2, rn_0, gV_s, ↓pI_c, ↓pII_c, ↓pL_c, ↓pLL_c, ↓pR_c, ↓pRI_c, ↓pRII_c, ↓pRIL_c, ↓pRR_c, ↓pV_c, ↓pVV_c, ↓gI_c, ↓gL_c, ↓gR_c, f2_0, f2_1, nk_n, nk_i, nk_r, ↓reduceIte, r32, r64, Nat.reduceAdd, Nat.reduceSub, Nat.reduceEqDiff, Nat.reduceLT, Nat.reduceLeDiff, Nat.reduceBEq, Int.reduceAdd, Int.reduceSub, Int.reduceMul, Int.reduceNeg, Int.reduceToNat, Int.reduceLE, Int.reduceLT, Int.reduceEq, Int.reduceNatCast', Int.reduceNatCast, Int.natCast_zero, Int.toNat_natCast, Int.toNat_zero, Int.toNat_one, List.length_cons, List.length_nil, true_and, and_true, and_self, true_or, or_true, false_or, or_false, Bool.not_true, Bool.not_false, Nat.lt_add_one, Nat.zero_lt_succ, N0, swL_n, swL_c, List.toList_toArray, false_implies, true_implies, implies_true, forall_const, not_false_eq_true, not_true_eq_false, and_false, false_and]
  simp only [hK9]
  clear hK9 K9v
  refine J_callV0 GW_fa hok dL_chipGap_5 k_10_57 (by omega) (Nat.le_of_ble_eq_true rfl) ⟨by omega, by omega⟩ rfl (by decide +kernel) (by decide +kernel) (by simp only [N0]; omega) (by simp) rfl (fun q9 ν9 h9 => Or.inl (by obtain ⟨-, M9, h9, -⟩ := h9; rw [h9]; rfl)) (fun E ν hE => ?_) (fun v ν hv _ => ?_)
  · obtain ⟨h1, M2, rfl, hP⟩ := hE
    obtain ⟨hc0, hE9⟩ := outF_E h1
    clear h1
    obtain q | q : code = 1 ∨ code = 2 := by omega
    · have e9 : E = IOB := by rw [hE9, q]; rfl
      subst e9
      exact exitsW [] [(0, 10, 17, 15)] (0, 10, 13, 28) rfl ex_IOB (by decide) (by decide +kernel) (fun z hz => by cases hz) (by decide) hd_chipGap_1 (by omega) (by omega) ⟨by rw [q]; rfl, M2, rfl, M2, hP, by rw [if_neg hc0]⟩
    · have e9 : E = ISE := by rw [hE9, q]; rfl
      subst e9
      exact exitsW [(0, 10, 13, 28)] [] (0, 10, 17, 15) rfl ex_ISE (by decide) (by decide +kernel) (by decide +kernel) (by decide) hd_chipGap_2 (by omega) (by omega) ⟨by rw [q]; rfl, M2, rfl, M2, hP, by rw [if_neg hc0]⟩
  · obtain ⟨h1, M2, rfl, hP⟩ := hv
    obtain ⟨hc0, rfl⟩ := outF_V h1
    clear h1
    simp only [Option.toList, List.cons_append, List.nil_append]
    have hr := hval hc0
    simp only [r32] at hr
    refine J_rnG GW_fa (by omega) (by omega) (by omega) 4 _ _ _ _ (fun K9v hK9 => ?_)
    simp (maxSteps := 4000000) only [↓(X_i2l (pc' := 9) dL_chipGap_8 rfl), ↓(X_lastore (pc' := 10) dL_chipGap_9 rfl), ↓(X_goto (pc' := 21) dL_chipGap_10 (by decide)), ↓(X_iconst (pc' := 22) dL_chipGap_21 rfl), rn_0, gV_s, ↓pI_c, ↓pII_c, ↓pL_c, ↓pLL_c, ↓pR_c, ↓pRI_c, ↓pRII_c, ↓pRIL_c, ↓pRR_c, ↓pV_c, ↓pVV_c, ↓gI_c, ↓gL_c, ↓gR_c, f2_0, f2_1, nk_n, nk_i, nk_r, ↓reduceIte, r32, r64, Nat.reduceAdd, Nat.reduceSub, Nat.reduceEqDiff, Nat.reduceLT, Nat.reduceLeDiff, Nat.reduceBEq, Int.reduceAdd, Int.reduceSub, Int.reduceMul, Int.reduceNeg, Int.reduceToNat, Int.reduceLE, Int.reduceLT, Int.reduceEq, Int.reduceNatCast', Int.reduceNatCast, Int.natCast_zero, Int.toNat_natCast, Int.toNat_zero, Int.toNat_one, List.length_cons, List.length_nil, true_and, and_true, and_self, true_or, or_true, false_or, or_false, Bool.not_true, Bool.not_false, Nat.lt_add_one, Nat.zero_lt_succ, N0, swL_n, swL_c, List.toList_toArray, false_implies, true_implies, implies_true, forall_const, not_false_eq_true, not_true_eq_false, and_false, false_and, kd_467, ln_467, hr]
    simp only [hK9]
    clear hK9 K9v
    refine J_iretW dL_chipGap_22 (by omega) (by omega) (⟨by rw [hc0]; rfl, _, rfl, M2, hP, by rw [if_pos hc0]⟩)
end WR
