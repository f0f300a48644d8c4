/-! THE LAW'S METHODS THAT CATCH: what the class answers, or -3 -/
theorem outF_E {es : List String} {code : Nat} {v : Option AV} {E : String} (h : (Sum.inr E : Out) = outF es code v) : code ≠ 0 ∧ E = es.getD (code - 1) "" := by
  unfold outF at h
  split at h
  · cases h
  · rename_i q
    exact ⟨q, Sum.inr.inj h⟩
theorem outF_V {es : List String} {code : Nat} {v w : Option AV} (h : (Sum.inl w : Out) = outF es code v) : code = 0 ∧ w = v := by
  unfold outF at h
  split at h
  · rename_i q
    exact ⟨q, Sum.inl.inj h⟩
  · cases h
theorem hd_buy : hdl cL_buy 4 7 := Or.inr ⟨3, dL_buy_7, dL_buy_8, dL_buy_10, by decide⟩
theorem hd_recipe : hdl cL_recipe 4 7 := Or.inr ⟨3, dL_recipe_7, dL_recipe_8, dL_recipe_10, by decide⟩
theorem hd_mix : hdl cL_mix 3 6 := Or.inr ⟨2, dL_mix_6, dL_mix_7, dL_mix_9, by decide⟩
theorem hd_print : hdl cL_print 5 8 := Or.inl ⟨4, dL_print_8, dL_print_10, dL_print_12, by decide⟩
section WR
variable {l : Launch} {D : va_G} {cy : Nat → ClassId}
set_option maxRecDepth 100000 in
set_option maxHeartbeats 4000000 in
theorem ow_buy {M : Nat → Nat → Int} {P : (Nat → Nat → Int) → Prop} {code : Nat} {val : Int} (d : Nat) (z0 z1 : Int) (hcode : code = 0 ∨ code = 2) (hok : Ok l D cy (d + 6) 1 6 yX8_buy cX8_buy 3 (some .int) [.inr (.inr (some 0)), .inl z0, .inl z1] (N0, R0, M) (fun o ν => o = outF [IAE, ISE] code (some (.inl val)) ∧ ∃ M2 : Nat → Nat → Int, ν = (N0, R0, M2) ∧ P M2)) : OkW l D cy (d + 7) 1 6 yL_buy cL_buy 4 (some .int) [(0, 6, 7, 15)] [.inr (.inr (some 0)), .inl z0, .inl z1] (N0, R0, M) (fun o ν => o = .inl (some (.inl (if code = 0 then val else -3))) ∧ ∃ M2 : Nat → Nat → Int, ν = (N0, R0, M2) ∧ P M2) := by
  refine OkW.intro [some (.inr (.inr (some 0))), some (.inl z0), some (.inl z1), none] (by decide +kernel) rfl rfl (Nat.le_of_ble_eq_true rfl) rfl ?_
  refine J_rnG GW_fa (by omega) (by omega) (by omega) 3 _ _ _ _ (fun K9v hK9 => ?_)
  simp (maxSteps := 4000000) only [↓(X_aload_n (k := 0) (pc' := 1) dL_buy_0 rfl rfl), ↓gR_0, ↓(X_iload_n (k := 1) (pc' := 2) dL_buy_1 rfl rfl), ↓gI_1, ↓(X_iload_n (k := 2) (pc' := 3) dL_buy_2 rfl rfl), ↓gI_2, rn_0, gV_s, ↓pI_c, ↓pII_c, ↓pL_c, ↓pLL_c, ↓pR_c, ↓pRI_c, ↓pRII_c, ↓pRIL_c, ↓pRR_c, ↓pV_c, ↓pVV_c, ↓gI_c, ↓gL_c, ↓gR_c, f2_0, f2_1, nk_n, nk_i, nk_r, ↓reduceIte, r32, r64, Nat.reduceAdd, Nat.reduceSub, Nat.reduceEqDiff, Nat.reduceLT, Nat.reduceLeDiff, Nat.reduceBEq, Int.reduceAdd, Int.reduceSub, Int.reduceMul, Int.reduceNeg, Int.reduceToNat, Int.reduceLE, Int.reduceLT, Int.reduceEq, Int.reduceNatCast', Int.reduceNatCast, Int.natCast_zero, Int.toNat_natCast, Int.toNat_zero, Int.toNat_one, List.length_cons, List.length_nil, true_and, and_true, and_self, true_or, or_true, false_or, or_false, Bool.not_true, Bool.not_false, Nat.lt_add_one, Nat.zero_lt_succ, N0, swL_n, swL_c, List.toList_toArray, false_implies, true_implies, implies_true, forall_const, not_false_eq_true, not_true_eq_false, and_false, false_and]
  simp only [hK9]
  clear hK9 K9v
  refine J_callV0 GW_fa hok dL_buy_3 k_10_9 (by omega) (Nat.le_of_ble_eq_true rfl) ⟨by omega, by omega⟩ rfl (by decide +kernel) (by decide +kernel) (by simp only [N0]; omega) (by simp) rfl (fun q9 ν9 h9 => Or.inl (by obtain ⟨-, M9, h9, -⟩ := h9; rw [h9]; rfl)) (fun E ν hE => ?_) (fun v ν hv _ => ?_)
  · obtain ⟨h1, M2, rfl, hP⟩ := hE
    obtain ⟨hc0, hE9⟩ := outF_E h1
    clear h1
    have q : code = 2 := by omega
    have e9 : E = ISE := by rw [hE9, q]; rfl
    subst e9
    exact exitsW rfl (by decide) hd_buy (by omega) (by omega) ⟨by rw [q]; rfl, M2, rfl, hP⟩
  · obtain ⟨h1, M2, rfl, hP⟩ := hv
    obtain ⟨hc0, rfl⟩ := outF_V h1
    refine J_iretW dL_buy_6 (by omega) (by omega) (⟨by rw [if_pos hc0], M2, rfl, hP⟩)
set_option maxRecDepth 100000 in
set_option maxHeartbeats 4000000 in
theorem ow_recipe {M : Nat → Nat → Int} {P : (Nat → Nat → Int) → Prop} {code : Nat} {val : Int} (d : Nat) (z0 z1 : Int) (hcode : code = 0 ∨ code = 3) (hok : Ok l D cy (d + 8) 2 12 yX8_recipe cX8_recipe 4 (some .int) [.inr (.inr (some 0)), .inl z0, .inl z1] (N0, R0, M) (fun o ν => o = outF [IOB, IAE, ISE] code (some (.inl val)) ∧ ∃ M2 : Nat → Nat → Int, ν = (N0, R0, M2) ∧ P M2)) : OkW l D cy (d + 9) 2 12 yL_recipe cL_recipe 4 (some .int) [(0, 6, 7, 15)] [.inr (.inr (some 0)), .inl z0, .inl z1] (N0, R0, M) (fun o ν => o = .inl (some (.inl (if code = 0 then val else -3))) ∧ ∃ M2 : Nat → Nat → Int, ν = (N0, R0, M2) ∧ P M2) := by
  refine OkW.intro [some (.inr (.inr (some 0))), some (.inl z0), some (.inl z1), none] (by decide +kernel) rfl rfl (Nat.le_of_ble_eq_true rfl) rfl ?_
  refine J_rnG GW_fa (by omega) (by omega) (by omega) 3 _ _ _ _ (fun K9v hK9 => ?_)
  simp (maxSteps := 4000000) only [↓(X_aload_n (k := 0) (pc' := 1) dL_recipe_0 rfl rfl), ↓gR_0, ↓(X_iload_n (k := 1) (pc' := 2) dL_recipe_1 rfl rfl), ↓gI_1, ↓(X_iload_n (k := 2) (pc' := 3) dL_recipe_2 rfl rfl), ↓gI_2, rn_0, gV_s, ↓pI_c, ↓pII_c, ↓pL_c, ↓pLL_c, ↓pR_c, ↓pRI_c, ↓pRII_c, ↓pRIL_c, ↓pRR_c, ↓pV_c, ↓pVV_c, ↓gI_c, ↓gL_c, ↓gR_c, f2_0, f2_1, nk_n, nk_i, nk_r, ↓reduceIte, r32, r64, Nat.reduceAdd, Nat.reduceSub, Nat.reduceEqDiff, Nat.reduceLT, Nat.reduceLeDiff, Nat.reduceBEq, Int.reduceAdd, Int.reduceSub, Int.reduceMul, Int.reduceNeg, Int.reduceToNat, Int.reduceLE, Int.reduceLT, Int.reduceEq, Int.reduceNatCast', Int.reduceNatCast, Int.natCast_zero, Int.toNat_natCast, Int.toNat_zero, Int.toNat_one, List.length_cons, List.length_nil, true_and, and_true, and_self, true_or, or_true, false_or, or_false, Bool.not_true, Bool.not_false, Nat.lt_add_one, Nat.zero_lt_succ, N0, swL_n, swL_c, List.toList_toArray, false_implies, true_implies, implies_true, forall_const, not_false_eq_true, not_true_eq_false, and_false, false_and]
  simp only [hK9]
  clear hK9 K9v
  refine J_callV0 GW_fa hok dL_recipe_3 k_10_17 (by omega) (Nat.le_of_ble_eq_true rfl) ⟨by omega, by omega⟩ rfl (by decide +kernel) (by decide +kernel) (by simp only [N0]; omega) (by simp) rfl (fun q9 ν9 h9 => Or.inl (by obtain ⟨-, M9, h9, -⟩ := h9; rw [h9]; rfl)) (fun E ν hE => ?_) (fun v ν hv _ => ?_)
  · obtain ⟨h1, M2, rfl, hP⟩ := hE
    obtain ⟨hc0, hE9⟩ := outF_E h1
    clear h1
    have q : code = 3 := by omega
    have e9 : E = ISE := by rw [hE9, q]; rfl
    subst e9
    exact exitsW rfl (by decide) hd_recipe (by omega) (by omega) ⟨by rw [q]; rfl, M2, rfl, hP⟩
  · obtain ⟨h1, M2, rfl, hP⟩ := hv
    obtain ⟨hc0, rfl⟩ := outF_V h1
    refine J_iretW dL_recipe_6 (by omega) (by omega) (⟨by rw [if_pos hc0], M2, rfl, hP⟩)
set_option maxRecDepth 100000 in
set_option maxHeartbeats 4000000 in
theorem ow_mix {M : Nat → Nat → Int} {P : (Nat → Nat → Int) → Prop} {code : Nat} {val : Int} (d : Nat) (z0 : Int) (hcode : code = 0 ∨ code = 2) (hok : Ok l D cy (d + 8) 2 12 yX8_mix cX8_mix 4 (some .int) [.inr (.inr (some 0)), .inl z0] (N0, R0, M) (fun o ν => o = outF [IOB, ISE] code (some (.inl val)) ∧ ∃ M2 : Nat → Nat → Int, ν = (N0, R0, M2) ∧ P M2)) : OkW l D cy (d + 9) 2 12 yL_mix cL_mix 3 (some .int) [(0, 5, 6, 15)] [.inr (.inr (some 0)), .inl z0] (N0, R0, M) (fun o ν => o = .inl (some (.inl (if code = 0 then val else -3))) ∧ ∃ M2 : Nat → Nat → Int, ν = (N0, R0, M2) ∧ P M2) := by
  refine OkW.intro [some (.inr (.inr (some 0))), some (.inl z0), none] (by decide +kernel) rfl rfl (Nat.le_of_ble_eq_true rfl) rfl ?_
  refine J_rnG GW_fa (by omega) (by omega) (by omega) 2 _ _ _ _ (fun K9v hK9 => ?_)
  simp (maxSteps := 4000000) only [↓(X_aload_n (k := 0) (pc' := 1) dL_mix_0 rfl rfl), ↓gR_0, ↓(X_iload_n (k := 1) (pc' := 2) dL_mix_1 rfl rfl), ↓gI_1, rn_0, gV_s, ↓pI_c, ↓pII_c, ↓pL_c, ↓pLL_c, ↓pR_c, ↓pRI_c, ↓pRII_c, ↓pRIL_c, ↓pRR_c, ↓pV_c, ↓pVV_c, ↓gI_c, ↓gL_c, ↓gR_c, f2_0, f2_1, nk_n, nk_i, nk_r, ↓reduceIte, r32, r64, Nat.reduceAdd, Nat.reduceSub, Nat.reduceEqDiff, Nat.reduceLT, Nat.reduceLeDiff, Nat.reduceBEq, Int.reduceAdd, Int.reduceSub, Int.reduceMul, Int.reduceNeg, Int.reduceToNat, Int.reduceLE, Int.reduceLT, Int.reduceEq, Int.reduceNatCast', Int.reduceNatCast, Int.natCast_zero, Int.toNat_natCast, Int.toNat_zero, Int.toNat_one, List.length_cons, List.length_nil, true_and, and_true, and_self, true_or, or_true, false_or, or_false, Bool.not_true, Bool.not_false, Nat.lt_add_one, Nat.zero_lt_succ, N0, swL_n, swL_c, List.toList_toArray, false_implies, true_implies, implies_true, forall_const, not_false_eq_true, not_true_eq_false, and_false, false_and]
  simp only [hK9]
  clear hK9 K9v
  refine J_callV0 GW_fa hok dL_mix_2 k_10_20 (by omega) (Nat.le_of_ble_eq_true rfl) ⟨by omega, by omega⟩ rfl (by decide +kernel) (by decide +kernel) (by simp only [N0]; omega) (by simp) rfl (fun q9 ν9 h9 => Or.inl (by obtain ⟨-, M9, h9, -⟩ := h9; rw [h9]; rfl)) (fun E ν hE => ?_) (fun v ν hv _ => ?_)
  · obtain ⟨h1, M2, rfl, hP⟩ := hE
    obtain ⟨hc0, hE9⟩ := outF_E h1
    clear h1
    have q : code = 2 := by omega
    have e9 : E = ISE := by rw [hE9, q]; rfl
    subst e9
    exact exitsW rfl (by decide) hd_mix (by omega) (by omega) ⟨by rw [q]; rfl, M2, rfl, hP⟩
  · obtain ⟨h1, M2, rfl, hP⟩ := hv
    obtain ⟨hc0, rfl⟩ := outF_V h1
    refine J_iretW dL_mix_5 (by omega) (by omega) (⟨by rw [if_pos hc0], M2, rfl, hP⟩)
set_option maxRecDepth 100000 in
set_option maxHeartbeats 4000000 in
theorem ow_print {M : Nat → Nat → Int} {P : (Nat → Nat → Int) → Prop} {code : Nat} {val : Int} (d : Nat) (z0 z1 z2 : Int) (hcode : code = 0 ∨ code = 3) (hok : Ok l D cy (d + 8) 2 12 yX8_print cX8_print 6 (some .int) [.inr (.inr (some 0)), .inl z0, .inl z1, .inl z2] (N0, R0, M) (fun o ν => o = outF [IOB, IAE, ISE] code (some (.inl val)) ∧ ∃ M2 : Nat → Nat → Int, ν = (N0, R0, M2) ∧ P M2)) : OkW l D cy (d + 9) 2 12 yL_print cL_print 5 (some .int) [(0, 7, 8, 15)] [.inr (.inr (some 0)), .inl z0, .inl z1, .inl z2] (N0, R0, M) (fun o ν => o = .inl (some (.inl (if code = 0 then val else -3))) ∧ ∃ M2 : Nat → Nat → Int, ν = (N0, R0, M2) ∧ P M2) := by
  refine OkW.intro [some (.inr (.inr (some 0))), some (.inl z0), some (.inl z1), some (.inl z2), none] (by decide +kernel) rfl rfl (Nat.le_of_ble_eq_true rfl) rfl ?_
  refine J_rnG GW_fa (by omega) (by omega) (by omega) 4 _ _ _ _ (fun K9v hK9 => ?_)
  simp (maxSteps := 4000000) only [↓(X_aload_n (k := 0) (pc' := 1) dL_print_0 rfl rfl), ↓gR_0, ↓(X_iload_n (k := 1) (pc' := 2) dL_print_1 rfl rfl), ↓gI_1, ↓(X_iload_n (k := 2) (pc' := 3) dL_print_2 rfl rfl), ↓gI_2, ↓(X_iload_n (k := 3) (pc' := 4) dL_print_3 rfl rfl), ↓gI_3, rn_0, gV_s, ↓pI_c, ↓pII_c, ↓pL_c, ↓pLL_c, ↓pR_c, ↓pRI_c, ↓pRII_c, ↓pRIL_c, ↓pRR_c, ↓pV_c, ↓pVV_c, ↓gI_c, ↓gL_c, ↓gR_c, f2_0, f2_1, nk_n, nk_i, nk_r, ↓reduceIte, r32, r64, Nat.reduceAdd, Nat.reduceSub, Nat.reduceEqDiff, Nat.reduceLT, Nat.reduceLeDiff, Nat.reduceBEq, Int.reduceAdd, Int.reduceSub, Int.reduceMul, Int.reduceNeg, Int.reduceToNat, Int.reduceLE, Int.reduceLT, Int.reduceEq, Int.reduceNatCast', Int.reduceNatCast, Int.natCast_zero, Int.toNat_natCast, Int.toNat_zero, Int.toNat_one, List.length_cons, List.length_nil, true_and, and_true, and_self, true_or, or_true, false_or, or_false, Bool.not_true, Bool.not_false, Nat.lt_add_one, Nat.zero_lt_succ, N0, swL_n, swL_c, List.toList_toArray, false_implies, true_implies, implies_true, forall_const, not_false_eq_true, not_true_eq_false, and_false, false_and]
  simp only [hK9]
  clear hK9 K9v
  refine J_callV0 GW_fa hok dL_print_4 k_10_24 (by omega) (Nat.le_of_ble_eq_true rfl) ⟨by omega, by omega⟩ rfl (by decide +kernel) (by decide +kernel) (by simp only [N0]; omega) (by simp) rfl (fun q9 ν9 h9 => Or.inl (by obtain ⟨-, M9, h9, -⟩ := h9; rw [h9]; rfl)) (fun E ν hE => ?_) (fun v ν hv _ => ?_)
  · obtain ⟨h1, M2, rfl, hP⟩ := hE
    obtain ⟨hc0, hE9⟩ := outF_E h1
    clear h1
    have q : code = 3 := by omega
    have e9 : E = ISE := by rw [hE9, q]; rfl
    subst e9
    exact exitsW rfl (by decide) hd_print (by omega) (by omega) ⟨by rw [q]; rfl, M2, rfl, hP⟩
  · obtain ⟨h1, M2, rfl, hP⟩ := hv
    obtain ⟨hc0, rfl⟩ := outF_V h1
    refine J_iretW dL_print_7 (by omega) (by omega) (⟨by rw [if_pos hc0], M2, rfl, hP⟩)
/-! the law's low and cell -/
def lowF (v n : Int) : Int := bAnd v 2147483647 % n
theorem bAnd_31 (v : Int) : 0 ≤ bAnd v 2147483647 ∧ bAnd v 2147483647 ≤ 2147483647 := by
  have h1 : (BitVec.ofInt 32 v &&& BitVec.ofInt 32 2147483647).toNat ≤ 2147483647 := by
    rw [BitVec.toNat_and]
    exact Nat.le_trans Nat.and_le_right (by decide)
  have h2 : (BitVec.ofInt 32 v &&& BitVec.ofInt 32 2147483647).toInt = ((BitVec.ofInt 32 v &&& BitVec.ofInt 32 2147483647).toNat : Int) := BitVec.toInt_eq_toNat_of_lt (by omega)
  simp only [bAnd]
  omega
theorem lowF_rg (v n : Int) (hn : 1 ≤ n) : 0 ≤ lowF v n ∧ lowF v n < n := ⟨Int.emod_nonneg _ (by omega), Int.emod_lt_of_pos _ (by omega)⟩
set_option maxRecDepth 100000 in
set_option maxHeartbeats 4000000 in
theorem ok_low {M : Nat → Nat → Int} (d : Nat) (v n : Int) (hn : 1 ≤ n ∧ n ≤ 2147483647) : Ok l D cy (d + 1) 0 0 yL_low cL_low 2 (some (.int)) [.inl (v), .inl (n)] (N0, R0, M) (det (some (.inl (lowF v n))) (N0, R0, M)) := by
  refine Ok.intro (o := 10) (ini := false) [some (.inl (v)), some (.inl (n))] (by decide +kernel) rfl (fun h => by cases h) rfl (Nat.le_of_ble_eq_true rfl) rfl ?_
  have hr := bAnd_31 v
  have hn' : 0 < n ∧ n ≤ 2147483647 := by omega
  refine J_rnG GM_fa (by omega) (by omega) (by omega) 5 _ _ _ _ (fun K9v hK9 => ?_)
  simp (maxSteps := 4000000) only [↓(X_iload_n (k := 0) (pc' := 1) dL_low_0 rfl rfl), ↓gI_0, ↓(X_ldc (pc' := 3) cst_10_7 dL_low_1 rfl), ↓(X_iand (pc' := 4) dL_low_3 rfl), ↓(X_iload_n (k := 1) (pc' := 5) dL_low_4 rfl rfl), ↓gI_1, ↓(X_irem (pc' := 6) dL_low_5 rfl), rn_0, gV_s, ↓pI_c, ↓pII_c, ↓pL_c, ↓pLL_c, ↓pR_c, ↓pRI_c, ↓pRII_c, ↓pRIL_c, ↓pRR_c, ↓pV_c, ↓pVV_c, ↓gI_c, ↓gL_c, ↓gR_c, f2_0, f2_1, nk_n, nk_i, nk_r, ↓reduceIte, r32, r64, Nat.reduceAdd, Nat.reduceSub, Nat.reduceEqDiff, Nat.reduceLT, Nat.reduceLeDiff, Nat.reduceBEq, Int.reduceAdd, Int.reduceSub, Int.reduceMul, Int.reduceNeg, Int.reduceToNat, Int.reduceLE, Int.reduceLT, Int.reduceEq, Int.reduceNatCast', Int.reduceNatCast, Int.natCast_zero, Int.toNat_natCast, Int.toNat_zero, Int.toNat_one, List.length_cons, List.length_nil, true_and, and_true, and_self, true_or, or_true, false_or, or_false, Bool.not_true, Bool.not_false, Nat.lt_add_one, Nat.zero_lt_succ, N0, swL_n, swL_c, List.toList_toArray, false_implies, true_implies, implies_true, forall_const, not_false_eq_true, not_true_eq_false, and_false, false_and, hr, hn']
  simp only [hK9]
  clear hK9 K9v
  refine J_iret dL_low_6 rfl (by omega) (by omega) (⟨rfl, rfl⟩)
def zR (μ : Mem) : Out → Mem → Prop := fun o ν => ν = μ ∧ ∃ z : Int, r32 z ∧ o = .inl (some (.inl z))
set_option maxRecDepth 100000 in
set_option maxHeartbeats 4000000 in
set_option maxRecDepth 100000 in
set_option maxHeartbeats 4000000 in
theorem ok_cell {M : Nat → Nat → Int} {b L : Nat} {xs : Nat → Int32} (d k : Nat) (hL : L ≤ 260) (hk : k ≤ 100) : OkX l D cy (d + 1) yL_cell cL_cell 2 b L xs [.inr (.inr (some 1000000)), .inl (k : Int)] (N0, R0, M) (zR (N0, R0, M)) := by
  refine OkX.intro [some (.inr (.inr (some 1000000))), some (.inl (k : Int))] (by decide +kernel) rfl rfl (Nat.le_of_ble_eq_true rfl) rfl ?_
  refine J_rnG GX_fa (by omega) (by omega) (by omega) 2 _ _ _ _ (fun K9v hK9 => ?_)
  simp (maxSteps := 4000000) only [↓(X_iload_n (k := 1) (pc' := 1) dL_cell_0 rfl rfl), ↓gI_1, ↓(X_aload_n (k := 0) (pc' := 2) dL_cell_1 rfl rfl), ↓gR_0, rn_0, gV_s, ↓pI_c, ↓pII_c, ↓pL_c, ↓pLL_c, ↓pR_c, ↓pRI_c, ↓pRII_c, ↓pRIL_c, ↓pRR_c, ↓pV_c, ↓pVV_c, ↓gI_c, ↓gL_c, ↓gR_c, f2_0, f2_1, nk_n, nk_i, nk_r, ↓reduceIte, r32, r64, Nat.reduceAdd, Nat.reduceSub, Nat.reduceEqDiff, Nat.reduceLT, Nat.reduceLeDiff, Nat.reduceBEq, Int.reduceAdd, Int.reduceSub, Int.reduceMul, Int.reduceNeg, Int.reduceToNat, Int.reduceLE, Int.reduceLT, Int.reduceEq, Int.reduceNatCast', Int.reduceNatCast, Int.natCast_zero, Int.toNat_natCast, Int.toNat_zero, Int.toNat_one, List.length_cons, List.length_nil, true_and, and_true, and_self, true_or, or_true, false_or, or_false, Bool.not_true, Bool.not_false, Nat.lt_add_one, Nat.zero_lt_succ, N0, swL_n, swL_c, List.toList_toArray, false_implies, true_implies, implies_true, forall_const, not_false_eq_true, not_true_eq_false, and_false, false_and]
  simp only [hK9]
  clear hK9 K9v
  refine J_slenX dL_cell_2 (by simp only [N0]; omega) ?_
  refine J_rnG GX_fa (by omega) (by omega) (by omega) 1 _ _ _ _ (fun K9v hK9 => ?_)
  simp (maxSteps := 4000000) only [↓(X_icmp_ge (tgt := 12) (pc' := 6) dL_cell_3 (by decide) rfl), rn_0, gV_s, ↓pI_c, ↓pII_c, ↓pL_c, ↓pLL_c, ↓pR_c, ↓pRI_c, ↓pRII_c, ↓pRIL_c, ↓pRR_c, ↓pV_c, ↓pVV_c, ↓gI_c, ↓gL_c, ↓gR_c, f2_0, f2_1, nk_n, nk_i, nk_r, ↓reduceIte, r32, r64, Nat.reduceAdd, Nat.reduceSub, Nat.reduceEqDiff, Nat.reduceLT, Nat.reduceLeDiff, Nat.reduceBEq, Int.reduceAdd, Int.reduceSub, Int.reduceMul, Int.reduceNeg, Int.reduceToNat, Int.reduceLE, Int.reduceLT, Int.reduceEq, Int.reduceNatCast', Int.reduceNatCast, Int.natCast_zero, Int.toNat_natCast, Int.toNat_zero, Int.toNat_one, List.length_cons, List.length_nil, true_and, and_true, and_self, true_or, or_true, false_or, or_false, Bool.not_true, Bool.not_false, Nat.lt_add_one, Nat.zero_lt_succ, N0, swL_n, swL_c, List.toList_toArray, false_implies, true_implies, implies_true, forall_const, not_false_eq_true, not_true_eq_false, and_false, false_and]
  simp only [hK9]
  clear hK9 K9v
  repeat (refine And.intro (by first | omega | assumption | (refine ⟨?_, ?_⟩ <;> omega)) ?_)
  split
  · rename_i q
    refine J_rnG GX_fa (by omega) (by omega) (by omega) 2 _ _ _ _ (fun K9v hK9 => ?_)
    simp (maxSteps := 4000000) only [↓(X_aload_n (k := 0) (pc' := 7) dL_cell_6 rfl rfl), ↓gR_0, ↓(X_iload_n (k := 1) (pc' := 8) dL_cell_7 rfl rfl), ↓gI_1, rn_0, gV_s, ↓pI_c, ↓pII_c, ↓pL_c, ↓pLL_c, ↓pR_c, ↓pRI_c, ↓pRII_c, ↓pRIL_c, ↓pRR_c, ↓pV_c, ↓pVV_c, ↓gI_c, ↓gL_c, ↓gR_c, f2_0, f2_1, nk_n, nk_i, nk_r, ↓reduceIte, r32, r64, Nat.reduceAdd, Nat.reduceSub, Nat.reduceEqDiff, Nat.reduceLT, Nat.reduceLeDiff, Nat.reduceBEq, Int.reduceAdd, Int.reduceSub, Int.reduceMul, Int.reduceNeg, Int.reduceToNat, Int.reduceLE, Int.reduceLT, Int.reduceEq, Int.reduceNatCast', Int.reduceNatCast, Int.natCast_zero, Int.toNat_natCast, Int.toNat_zero, Int.toNat_one, List.length_cons, List.length_nil, true_and, and_true, and_self, true_or, or_true, false_or, or_false, Bool.not_true, Bool.not_false, Nat.lt_add_one, Nat.zero_lt_succ, N0, swL_n, swL_c, List.toList_toArray, false_implies, true_implies, implies_true, forall_const, not_false_eq_true, not_true_eq_false, and_false, false_and]
    simp only [hK9]
    clear hK9 K9v
    refine J_sldX (k := k) dL_cell_8 (by omega) hL (by simp only [N0]; omega) ?_
    refine J_rnG GX_fa (by omega) (by omega) (by omega) 1 _ _ _ _ (fun K9v hK9 => ?_)
    simp (maxSteps := 4000000) only [↓(X_goto (pc' := 20) dL_cell_9 (by decide)), rn_0, gV_s, ↓pI_c, ↓pII_c, ↓pL_c, ↓pLL_c, ↓pR_c, ↓pRI_c, ↓pRII_c, ↓pRIL_c, ↓pRR_c, ↓pV_c, ↓pVV_c, ↓gI_c, ↓gL_c, ↓gR_c, f2_0, f2_1, nk_n, nk_i, nk_r, ↓reduceIte, r32, r64, Nat.reduceAdd, Nat.reduceSub, Nat.reduceEqDiff, Nat.reduceLT, Nat.reduceLeDiff, Nat.reduceBEq, Int.reduceAdd, Int.reduceSub, Int.reduceMul, Int.reduceNeg, Int.reduceToNat, Int.reduceLE, Int.reduceLT, Int.reduceEq, Int.reduceNatCast', Int.reduceNatCast, Int.natCast_zero, Int.toNat_natCast, Int.toNat_zero, Int.toNat_one, List.length_cons, List.length_nil, true_and, and_true, and_self, true_or, or_true, false_or, or_false, Bool.not_true, Bool.not_false, Nat.lt_add_one, Nat.zero_lt_succ, N0, swL_n, swL_c, List.toList_toArray, false_implies, true_implies, implies_true, forall_const, not_false_eq_true, not_true_eq_false, and_false, false_and]
    simp only [hK9]
    clear hK9 K9v
    refine J_iretX dL_cell_20 (by omega) (by omega) (⟨rfl, _, i32_r _, rfl⟩)
  · refine J_rnG GX_fa (by omega) (by omega) (by omega) 5 _ _ _ _ (fun K9v hK9 => ?_)
    simp (maxSteps := 4000000) only [↓(X_ldc (pc' := 14) cst_10_8 dL_cell_12 rfl), ↓(X_iload_n (k := 1) (pc' := 15) dL_cell_14 rfl rfl), ↓gI_1, ↓(X_imul (pc' := 16) dL_cell_15 rfl), ↓(X_sipush (pc' := 19) dL_cell_16 rfl), ↓(X_iadd (pc' := 20) dL_cell_19 rfl), rn_0, gV_s, ↓pI_c, ↓pII_c, ↓pL_c, ↓pLL_c, ↓pR_c, ↓pRI_c, ↓pRII_c, ↓pRIL_c, ↓pRR_c, ↓pV_c, ↓pVV_c, ↓gI_c, ↓gL_c, ↓gR_c, f2_0, f2_1, nk_n, nk_i, nk_r, ↓reduceIte, r32, r64, Nat.reduceAdd, Nat.reduceSub, Nat.reduceEqDiff, Nat.reduceLT, Nat.reduceLeDiff, Nat.reduceBEq, Int.reduceAdd, Int.reduceSub, Int.reduceMul, Int.reduceNeg, Int.reduceToNat, Int.reduceLE, Int.reduceLT, Int.reduceEq, Int.reduceNatCast', Int.reduceNatCast, Int.natCast_zero, Int.toNat_natCast, Int.toNat_zero, Int.toNat_one, List.length_cons, List.length_nil, true_and, and_true, and_self, true_or, or_true, false_or, or_false, Bool.not_true, Bool.not_false, Nat.lt_add_one, Nat.zero_lt_succ, N0, swL_n, swL_c, List.toList_toArray, false_implies, true_implies, implies_true, forall_const, not_false_eq_true, not_true_eq_false, and_false, false_and]
    simp only [hK9]
    clear hK9 K9v
    refine J_iretX dL_cell_20 (by omega) (by omega) (⟨rfl, _, ⟨by omega, by omega⟩, rfl⟩)
end WR
