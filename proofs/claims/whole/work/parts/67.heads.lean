/-! THE LAW'S CASES: the calls -/
/-- what the model's answer must be, beside the class's code -/
def AF (code : Nat) : Out → Mem → Prop := fun o ν => ∃ (v6 : Int) (M4 : Nat → Nat → Int) (n9 T9 : Nat), o = .inl (some (.inl v6)) ∧ ν = (N0, R0, M4) ∧ M4 447 26 = (code : Int) ∧ (code = 0 → M4 467 0 = v6 ∧ r32 v6) ∧ Inv M4 n9 T9
theorem AF_calm {code : Nat} : Calm 468 (AF code) := by
  intro q9 ν9 h9
  obtain ⟨v6, M4, n9, T9, h8, h7, -⟩ := h9
  exact ⟨⟨_, h8⟩, by rw [h7]; rfl⟩
section HW
variable {l : Launch} {D : va_G} {cy : Nat → ClassId} {b L : Nat} {xs : Nat → Int32} {ca sl : Nat} {M : Nat → Nat → Int} {i : Nat} {w5 w6 : Option AV}
set_option maxRecDepth 100000 in
set_option maxHeartbeats 4000000 in
theorem br_511 {lv : List (Option AV)} {st : List AV} {z3 : Int} (hz3 : r32 z3) (hc : ca ≤ 601024) (hs : sl ≤ 7293034) (k : J l D cy (GL l D cy b L xs) 519 lv (.inl (if z3 = 0 then 0 else 1) :: st) (N0, R0, M) ca sl) : J l D cy (GL l D cy b L xs) 511 lv (.inl z3 :: st) (N0, R0, M) ca sl := by
  simp only [r32] at hz3
  refine J_rnG GL_fa (by omega) (by omega) (by omega) 1 _ _ _ _ (fun K9v hK9 => ?_)
  simp (maxSteps := 4000000) only [↓(X_if_eq (tgt := 518) (pc' := 514) dL_law_511 (by decide) rfl), rn_0, gV_s, ↓pI_c, ↓pII_c, ↓pL_c, ↓pLL_c, ↓pR_c, ↓pRI_c, ↓pRII_c, ↓pRIL_c, ↓pRR_c, ↓pV_c, ↓pVV_c, ↓gI_c, ↓gL_c, ↓gR_c, f2_0, f2_1, nk_n, nk_i, nk_r, ↓reduceIte, r32, r64, Nat.reduceAdd, Nat.reduceSub, Nat.reduceEqDiff, Nat.reduceLT, Nat.reduceLeDiff, Nat.reduceBEq, Int.reduceAdd, Int.reduceSub, Int.reduceMul, Int.reduceNeg, Int.reduceToNat, Int.reduceLE, Int.reduceLT, Int.reduceEq, Int.reduceNatCast', Int.reduceNatCast, Int.natCast_zero, Int.toNat_natCast, Int.toNat_zero, Int.toNat_one, List.length_cons, List.length_nil, true_and, and_true, and_self, true_or, or_true, false_or, or_false, Bool.not_true, Bool.not_false, Nat.lt_add_one, Nat.zero_lt_succ, N0, swL_n, swL_c, List.toList_toArray, false_implies, true_implies, implies_true, forall_const, not_false_eq_true, not_true_eq_false, and_false, false_and]
  simp only [hK9]
  clear hK9 K9v
  repeat (refine And.intro (by first | omega | assumption | (refine ⟨?_, ?_⟩ <;> omega)) ?_)
  split
  · rename_i q
    rw [if_pos q] at k
    refine J_rnG GL_fa (by omega) (by omega) (by omega) 1 _ _ _ _ (fun K9v hK9 => ?_)
    simp (maxSteps := 4000000) only [↓(X_iconst (pc' := 519) dL_law_518 rfl), rn_0, gV_s, ↓pI_c, ↓pII_c, ↓pL_c, ↓pLL_c, ↓pR_c, ↓pRI_c, ↓pRII_c, ↓pRIL_c, ↓pRR_c, ↓pV_c, ↓pVV_c, ↓gI_c, ↓gL_c, ↓gR_c, f2_0, f2_1, nk_n, nk_i, nk_r, ↓reduceIte, r32, r64, Nat.reduceAdd, Nat.reduceSub, Nat.reduceEqDiff, Nat.reduceLT, Nat.reduceLeDiff, Nat.reduceBEq, Int.reduceAdd, Int.reduceSub, Int.reduceMul, Int.reduceNeg, Int.reduceToNat, Int.reduceLE, Int.reduceLT, Int.reduceEq, Int.reduceNatCast', Int.reduceNatCast, Int.natCast_zero, Int.toNat_natCast, Int.toNat_zero, Int.toNat_one, List.length_cons, List.length_nil, true_and, and_true, and_self, true_or, or_true, false_or, or_false, Bool.not_true, Bool.not_false, Nat.lt_add_one, Nat.zero_lt_succ, N0, swL_n, swL_c, List.toList_toArray, false_implies, true_implies, implies_true, forall_const, not_false_eq_true, not_true_eq_false, and_false, false_and]
    simp only [hK9]
    clear hK9 K9v
    exact k
  · rename_i q
    rw [if_neg q] at k
    refine J_rnG GL_fa (by omega) (by omega) (by omega) 2 _ _ _ _ (fun K9v hK9 => ?_)
    simp (maxSteps := 4000000) only [↓(X_iconst (pc' := 515) dL_law_514 rfl), ↓(X_goto (pc' := 519) dL_law_515 (by decide)), rn_0, gV_s, ↓pI_c, ↓pII_c, ↓pL_c, ↓pLL_c, ↓pR_c, ↓pRI_c, ↓pRII_c, ↓pRIL_c, ↓pRR_c, ↓pV_c, ↓pVV_c, ↓gI_c, ↓gL_c, ↓gR_c, f2_0, f2_1, nk_n, nk_i, nk_r, ↓reduceIte, r32, r64, Nat.reduceAdd, Nat.reduceSub, Nat.reduceEqDiff, Nat.reduceLT, Nat.reduceLeDiff, Nat.reduceBEq, Int.reduceAdd, Int.reduceSub, Int.reduceMul, Int.reduceNeg, Int.reduceToNat, Int.reduceLE, Int.reduceLT, Int.reduceEq, Int.reduceNatCast', Int.reduceNatCast, Int.natCast_zero, Int.toNat_natCast, Int.toNat_zero, Int.toNat_one, List.length_cons, List.length_nil, true_and, and_true, and_self, true_or, or_true, false_or, or_false, Bool.not_true, Bool.not_false, Nat.lt_add_one, Nat.zero_lt_succ, N0, swL_n, swL_c, List.toList_toArray, false_implies, true_implies, implies_true, forall_const, not_false_eq_true, not_true_eq_false, and_false, false_and]
    simp only [hK9]
    clear hK9 K9v
    exact k
set_option maxRecDepth 100000 in
set_option maxHeartbeats 4000000 in
theorem br_544 {lv : List (Option AV)} {st : List AV} {z3 : Int} (hz3 : r32 z3) (hc : ca ≤ 601024) (hs : sl ≤ 7293034) (k : J l D cy (GL l D cy b L xs) 552 lv (.inl (if z3 = 0 then 0 else 1) :: st) (N0, R0, M) ca sl) : J l D cy (GL l D cy b L xs) 544 lv (.inl z3 :: st) (N0, R0, M) ca sl := by
  simp only [r32] at hz3
  refine J_rnG GL_fa (by omega) (by omega) (by omega) 1 _ _ _ _ (fun K9v hK9 => ?_)
  simp (maxSteps := 4000000) only [↓(X_if_eq (tgt := 551) (pc' := 547) dL_law_544 (by decide) rfl), rn_0, gV_s, ↓pI_c, ↓pII_c, ↓pL_c, ↓pLL_c, ↓pR_c, ↓pRI_c, ↓pRII_c, ↓pRIL_c, ↓pRR_c, ↓pV_c, ↓pVV_c, ↓gI_c, ↓gL_c, ↓gR_c, f2_0, f2_1, nk_n, nk_i, nk_r, ↓reduceIte, r32, r64, Nat.reduceAdd, Nat.reduceSub, Nat.reduceEqDiff, Nat.reduceLT, Nat.reduceLeDiff, Nat.reduceBEq, Int.reduceAdd, Int.reduceSub, Int.reduceMul, Int.reduceNeg, Int.reduceToNat, Int.reduceLE, Int.reduceLT, Int.reduceEq, Int.reduceNatCast', Int.reduceNatCast, Int.natCast_zero, Int.toNat_natCast, Int.toNat_zero, Int.toNat_one, List.length_cons, List.length_nil, true_and, and_true, and_self, true_or, or_true, false_or, or_false, Bool.not_true, Bool.not_false, Nat.lt_add_one, Nat.zero_lt_succ, N0, swL_n, swL_c, List.toList_toArray, false_implies, true_implies, implies_true, forall_const, not_false_eq_true, not_true_eq_false, and_false, false_and]
  simp only [hK9]
  clear hK9 K9v
  repeat (refine And.intro (by first | omega | assumption | (refine ⟨?_, ?_⟩ <;> omega)) ?_)
  split
  · rename_i q
    rw [if_pos q] at k
    refine J_rnG GL_fa (by omega) (by omega) (by omega) 1 _ _ _ _ (fun K9v hK9 => ?_)
    simp (maxSteps := 4000000) only [↓(X_iconst (pc' := 552) dL_law_551 rfl), rn_0, gV_s, ↓pI_c, ↓pII_c, ↓pL_c, ↓pLL_c, ↓pR_c, ↓pRI_c, ↓pRII_c, ↓pRIL_c, ↓pRR_c, ↓pV_c, ↓pVV_c, ↓gI_c, ↓gL_c, ↓gR_c, f2_0, f2_1, nk_n, nk_i, nk_r, ↓reduceIte, r32, r64, Nat.reduceAdd, Nat.reduceSub, Nat.reduceEqDiff, Nat.reduceLT, Nat.reduceLeDiff, Nat.reduceBEq, Int.reduceAdd, Int.reduceSub, Int.reduceMul, Int.reduceNeg, Int.reduceToNat, Int.reduceLE, Int.reduceLT, Int.reduceEq, Int.reduceNatCast', Int.reduceNatCast, Int.natCast_zero, Int.toNat_natCast, Int.toNat_zero, Int.toNat_one, List.length_cons, List.length_nil, true_and, and_true, and_self, true_or, or_true, false_or, or_false, Bool.not_true, Bool.not_false, Nat.lt_add_one, Nat.zero_lt_succ, N0, swL_n, swL_c, List.toList_toArray, false_implies, true_implies, implies_true, forall_const, not_false_eq_true, not_true_eq_false, and_false, false_and]
    simp only [hK9]
    clear hK9 K9v
    exact k
  · rename_i q
    rw [if_neg q] at k
    refine J_rnG GL_fa (by omega) (by omega) (by omega) 2 _ _ _ _ (fun K9v hK9 => ?_)
    simp (maxSteps := 4000000) only [↓(X_iconst (pc' := 548) dL_law_547 rfl), ↓(X_goto (pc' := 552) dL_law_548 (by decide)), rn_0, gV_s, ↓pI_c, ↓pII_c, ↓pL_c, ↓pLL_c, ↓pR_c, ↓pRI_c, ↓pRII_c, ↓pRIL_c, ↓pRR_c, ↓pV_c, ↓pVV_c, ↓gI_c, ↓gL_c, ↓gR_c, f2_0, f2_1, nk_n, nk_i, nk_r, ↓reduceIte, r32, r64, Nat.reduceAdd, Nat.reduceSub, Nat.reduceEqDiff, Nat.reduceLT, Nat.reduceLeDiff, Nat.reduceBEq, Int.reduceAdd, Int.reduceSub, Int.reduceMul, Int.reduceNeg, Int.reduceToNat, Int.reduceLE, Int.reduceLT, Int.reduceEq, Int.reduceNatCast', Int.reduceNatCast, Int.natCast_zero, Int.toNat_natCast, Int.toNat_zero, Int.toNat_one, List.length_cons, List.length_nil, true_and, and_true, and_self, true_or, or_true, false_or, or_false, Bool.not_true, Bool.not_false, Nat.lt_add_one, Nat.zero_lt_succ, N0, swL_n, swL_c, List.toList_toArray, false_implies, true_implies, implies_true, forall_const, not_false_eq_true, not_true_eq_false, and_false, false_and]
    simp only [hK9]
    clear hK9 K9v
    exact k
set_option maxRecDepth 100000 in
set_option maxHeartbeats 4000000 in
theorem hw_buy {Q : (Nat → Nat → Int) → Prop} {code dW dM : Nat} {z1 z2 : Int} (e1 : (xs (i + 1)).toInt = z1) (e2 : (xs (i + 2)).toInt = z2) (hi : i + 5 < L) (hL : L ≤ 3072) (hc : ca + 3 ≤ 601024) (hs : sl + 18 ≤ 7293034) (hdW : dW ≤ 1000) (hdM : dM ≤ 1000) (hc4 : code ≤ 3) (hW : OkW l D cy dW 1 6 yL_buy cL_buy 5 (some .int) [(0, 10, 13, 13), (0, 10, 17, 15)] [.inr (.inr (some 0)), .inl (z1), .inl (z2), .inr (.inr (some 467))] (N0, R0, M) (fun o ν => o = .inl (some (.inl (code : Int))) ∧ ∃ M3 : Nat → Nat → Int, ν = (N0, R0, M3) ∧ Q M3)) (hMd : ∀ M3, Q M3 → Ok l D cy dM 0 0 yX9_buy cX9_buy 3 (some (.int)) [.inr (.inr (some 447)), .inl (z1), .inl (z2)] (N0, R0, M3) (AF code)) (K : NX l D cy b L xs i ca sl) : J l D cy (GL l D cy b L xs) 196 [some (.inr (.inr (some 1000000))), some (.inr (.inr (some 0))), some (.inr (.inr (some 447))), some (.inr (.inr (some 467))), some (.inl (i : Int)), w5, w6] [] (N0, R0, M) ca sl := by
  refine J_rnG GL_fa (by omega) (by omega) (by omega) 5 _ _ _ _ (fun K9v hK9 => ?_)
  simp (maxSteps := 4000000) only [↓(X_aload_n (k := 1) (pc' := 197) dL_law_196 rfl rfl), ↓gR_1, ↓(X_aload_n (k := 0) (pc' := 198) dL_law_197 rfl rfl), ↓gR_0, ↓(X_iload (pc' := 200) dL_law_198 rfl), ↓gI_4, ↓(X_iconst (pc' := 201) dL_law_200 rfl), ↓(X_iadd (pc' := 202) dL_law_201 rfl), rn_0, gV_s, ↓pI_c, ↓pII_c, ↓pL_c, ↓pLL_c, ↓pR_c, ↓pRI_c, ↓pRII_c, ↓pRIL_c, ↓pRR_c, ↓pV_c, ↓pVV_c, ↓gI_c, ↓gL_c, ↓gR_c, f2_0, f2_1, nk_n, nk_i, nk_r, ↓reduceIte, r32, r64, Nat.reduceAdd, Nat.reduceSub, Nat.reduceEqDiff, Nat.reduceLT, Nat.reduceLeDiff, Nat.reduceBEq, Int.reduceAdd, Int.reduceSub, Int.reduceMul, Int.reduceNeg, Int.reduceToNat, Int.reduceLE, Int.reduceLT, Int.reduceEq, Int.reduceNatCast', Int.reduceNatCast, Int.natCast_zero, Int.toNat_natCast, Int.toNat_zero, Int.toNat_one, List.length_cons, List.length_nil, true_and, and_true, and_self, true_or, or_true, false_or, or_false, Bool.not_true, Bool.not_false, Nat.lt_add_one, Nat.zero_lt_succ, N0, swL_n, swL_c, List.toList_toArray, false_implies, true_implies, implies_true, forall_const, not_false_eq_true, not_true_eq_false, and_false, false_and, hi]
  simp only [hK9]
  clear hK9 K9v
  refine J_sldE (k := i + 1) dL_law_202 (by omega) (by omega) hL (by simp only [N0]; omega) ?_
  rw [e1]
  refine J_rnG GL_fa (by omega) (by omega) (by omega) 4 _ _ _ _ (fun K9v hK9 => ?_)
  simp (maxSteps := 4000000) only [↓(X_aload_n (k := 0) (pc' := 204) dL_law_203 rfl rfl), ↓gR_0, ↓(X_iload (pc' := 206) dL_law_204 rfl), ↓gI_4, ↓(X_iconst (pc' := 207) dL_law_206 rfl), ↓(X_iadd (pc' := 208) dL_law_207 rfl), rn_0, gV_s, ↓pI_c, ↓pII_c, ↓pL_c, ↓pLL_c, ↓pR_c, ↓pRI_c, ↓pRII_c, ↓pRIL_c, ↓pRR_c, ↓pV_c, ↓pVV_c, ↓gI_c, ↓gL_c, ↓gR_c, f2_0, f2_1, nk_n, nk_i, nk_r, ↓reduceIte, r32, r64, Nat.reduceAdd, Nat.reduceSub, Nat.reduceEqDiff, Nat.reduceLT, Nat.reduceLeDiff, Nat.reduceBEq, Int.reduceAdd, Int.reduceSub, Int.reduceMul, Int.reduceNeg, Int.reduceToNat, Int.reduceLE, Int.reduceLT, Int.reduceEq, Int.reduceNatCast', Int.reduceNatCast, Int.natCast_zero, Int.toNat_natCast, Int.toNat_zero, Int.toNat_one, List.length_cons, List.length_nil, true_and, and_true, and_self, true_or, or_true, false_or, or_false, Bool.not_true, Bool.not_false, Nat.lt_add_one, Nat.zero_lt_succ, N0, swL_n, swL_c, List.toList_toArray, false_implies, true_implies, implies_true, forall_const, not_false_eq_true, not_true_eq_false, and_false, false_and, hi]
  simp only [hK9]
  clear hK9 K9v
  refine J_sldE (k := i + 2) dL_law_208 (by omega) (by omega) hL (by simp only [N0]; omega) ?_
  rw [e2]
  refine J_rnG GL_fa (by omega) (by omega) (by omega) 1 _ _ _ _ (fun K9v hK9 => ?_)
  simp (maxSteps := 4000000) only [↓(X_aload_n (k := 3) (pc' := 210) dL_law_209 rfl rfl), ↓gR_3, rn_0, gV_s, ↓pI_c, ↓pII_c, ↓pL_c, ↓pLL_c, ↓pR_c, ↓pRI_c, ↓pRII_c, ↓pRIL_c, ↓pRR_c, ↓pV_c, ↓pVV_c, ↓gI_c, ↓gL_c, ↓gR_c, f2_0, f2_1, nk_n, nk_i, nk_r, ↓reduceIte, r32, r64, Nat.reduceAdd, Nat.reduceSub, Nat.reduceEqDiff, Nat.reduceLT, Nat.reduceLeDiff, Nat.reduceBEq, Int.reduceAdd, Int.reduceSub, Int.reduceMul, Int.reduceNeg, Int.reduceToNat, Int.reduceLE, Int.reduceLT, Int.reduceEq, Int.reduceNatCast', Int.reduceNatCast, Int.natCast_zero, Int.toNat_natCast, Int.toNat_zero, Int.toNat_one, List.length_cons, List.length_nil, true_and, and_true, and_self, true_or, or_true, false_or, or_false, Bool.not_true, Bool.not_false, Nat.lt_add_one, Nat.zero_lt_succ, N0, swL_n, swL_c, List.toList_toArray, false_implies, true_implies, implies_true, forall_const, not_false_eq_true, not_true_eq_false, and_false, false_and]
  simp only [hK9]
  clear hK9 K9v
  refine J_callSW hW dL_law_210 kw_73 (by omega) (Nat.le_of_ble_eq_true rfl) ⟨by omega, by omega⟩ rfl (Nat.le_of_ble_eq_true rfl) rfl (fun q ν h => by obtain ⟨h1, M3, h2, -⟩ := h; exact ⟨⟨_, h1⟩, by rw [h2]; rfl⟩) (fun v ν hv => ?_)
  obtain ⟨h1, M3, rfl, hQ⟩ := hv
  cases h1
  simp only [Option.toList, List.cons_append, List.nil_append]
  refine J_rnG GL_fa (by omega) (by omega) (by omega) 6 _ _ _ _ (fun K9v hK9 => ?_)
  simp (maxSteps := 4000000) only [↓(X_istore (pc' := 215) dL_law_213 rfl), ↓sto_5, ↓(X_aload_n (k := 2) (pc' := 216) dL_law_215 rfl rfl), ↓gR_2, ↓(X_aload_n (k := 0) (pc' := 217) dL_law_216 rfl rfl), ↓gR_0, ↓(X_iload (pc' := 219) dL_law_217 rfl), ↓gI_4, ↓(X_iconst (pc' := 220) dL_law_219 rfl), ↓(X_iadd (pc' := 221) dL_law_220 rfl), rn_0, gV_s, ↓pI_c, ↓pII_c, ↓pL_c, ↓pLL_c, ↓pR_c, ↓pRI_c, ↓pRII_c, ↓pRIL_c, ↓pRR_c, ↓pV_c, ↓pVV_c, ↓gI_c, ↓gL_c, ↓gR_c, f2_0, f2_1, nk_n, nk_i, nk_r, ↓reduceIte, r32, r64, Nat.reduceAdd, Nat.reduceSub, Nat.reduceEqDiff, Nat.reduceLT, Nat.reduceLeDiff, Nat.reduceBEq, Int.reduceAdd, Int.reduceSub, Int.reduceMul, Int.reduceNeg, Int.reduceToNat, Int.reduceLE, Int.reduceLT, Int.reduceEq, Int.reduceNatCast', Int.reduceNatCast, Int.natCast_zero, Int.toNat_natCast, Int.toNat_zero, Int.toNat_one, List.length_cons, List.length_nil, true_and, and_true, and_self, true_or, or_true, false_or, or_false, Bool.not_true, Bool.not_false, Nat.lt_add_one, Nat.zero_lt_succ, N0, swL_n, swL_c, List.toList_toArray, false_implies, true_implies, implies_true, forall_const, not_false_eq_true, not_true_eq_false, and_false, false_and, hi]
  simp only [hK9]
  clear hK9 K9v
  refine J_sldE (k := i + 1) dL_law_221 (by omega) (by omega) hL (by simp only [N0]; omega) ?_
  rw [e1]
  refine J_rnG GL_fa (by omega) (by omega) (by omega) 4 _ _ _ _ (fun K9v hK9 => ?_)
  simp (maxSteps := 4000000) only [↓(X_aload_n (k := 0) (pc' := 223) dL_law_222 rfl rfl), ↓gR_0, ↓(X_iload (pc' := 225) dL_law_223 rfl), ↓gI_4, ↓(X_iconst (pc' := 226) dL_law_225 rfl), ↓(X_iadd (pc' := 227) dL_law_226 rfl), rn_0, gV_s, ↓pI_c, ↓pII_c, ↓pL_c, ↓pLL_c, ↓pR_c, ↓pRI_c, ↓pRII_c, ↓pRIL_c, ↓pRR_c, ↓pV_c, ↓pVV_c, ↓gI_c, ↓gL_c, ↓gR_c, f2_0, f2_1, nk_n, nk_i, nk_r, ↓reduceIte, r32, r64, Nat.reduceAdd, Nat.reduceSub, Nat.reduceEqDiff, Nat.reduceLT, Nat.reduceLeDiff, Nat.reduceBEq, Int.reduceAdd, Int.reduceSub, Int.reduceMul, Int.reduceNeg, Int.reduceToNat, Int.reduceLE, Int.reduceLT, Int.reduceEq, Int.reduceNatCast', Int.reduceNatCast, Int.natCast_zero, Int.toNat_natCast, Int.toNat_zero, Int.toNat_one, List.length_cons, List.length_nil, true_and, and_true, and_self, true_or, or_true, false_or, or_false, Bool.not_true, Bool.not_false, Nat.lt_add_one, Nat.zero_lt_succ, N0, swL_n, swL_c, List.toList_toArray, false_implies, true_implies, implies_true, forall_const, not_false_eq_true, not_true_eq_false, and_false, false_and, hi]
  simp only [hK9]
  clear hK9 K9v
  refine J_sldE (k := i + 2) dL_law_227 (by omega) (by omega) hL (by simp only [N0]; omega) ?_
  rw [e2]
  refine J_callV (ci := 9) GL_fa (hMd M3 hQ) AF_calm dL_law_228 k_10_76 (by omega) (Nat.le_of_ble_eq_true rfl) ⟨by omega, by omega⟩ rfl (by decide +kernel) rfl (by decide) (by simp only [N0]; omega) (by simp) rfl (fun v ν hv => ?_)
  obtain ⟨v6, M4, n9, T9, h1, rfl, hth, h0, hI⟩ := hv
  cases h1
  simp only [Option.toList, List.cons_append, List.nil_append]
  exact tl_buy (by omega) (by omega) hc4 hth h0 (J_wd (by omega) (by omega) (K M4 n9 T9 _ _ hI))

set_option maxRecDepth 100000 in
set_option maxHeartbeats 4000000 in
theorem hw_job {Q : (Nat → Nat → Int) → Prop} {code dW dM : Nat} {z1 z2 z3 z4 z5 : Int} (e1 : (xs (i + 1)).toInt = z1) (e2 : (xs (i + 2)).toInt = z2) (e3 : (xs (i + 3)).toInt = z3) (e4 : (xs (i + 4)).toInt = z4) (e5 : (xs (i + 5)).toInt = z5) (hi : i + 5 < L) (hL : L ≤ 3072) (hc : ca + 3 ≤ 601024) (hs : sl + 18 ≤ 7293034) (hdW : dW ≤ 1000) (hdM : dM ≤ 1000) (hc4 : code ≤ 3) (hW : OkW l D cy dW 1 6 yL_job cL_job 8 (some .int) [(0, 16, 19, 13), (0, 16, 23, 15)] [.inr (.inr (some 0)), .inl (z1), .inl (z2), .inl (z3), .inl (z4), .inl (z5), .inr (.inr (some 467))] (N0, R0, M) (fun o ν => o = .inl (some (.inl (code : Int))) ∧ ∃ M3 : Nat → Nat → Int, ν = (N0, R0, M3) ∧ Q M3)) (hMd : ∀ M3, Q M3 → Ok l D cy dM 0 0 yX9_job cX9_job 6 (some (.int)) [.inr (.inr (some 447)), .inl (z1), .inl (z2), .inl (z3), .inl (z4), .inl (z5)] (N0, R0, M3) (AF code)) (K : NX l D cy b L xs i ca sl) : J l D cy (GL l D cy b L xs) 264 [some (.inr (.inr (some 1000000))), some (.inr (.inr (some 0))), some (.inr (.inr (some 447))), some (.inr (.inr (some 467))), some (.inl (i : Int)), w5, w6] [] (N0, R0, M) ca sl := by
  refine J_rnG GL_fa (by omega) (by omega) (by omega) 5 _ _ _ _ (fun K9v hK9 => ?_)
  simp (maxSteps := 4000000) only [↓(X_aload_n (k := 1) (pc' := 265) dL_law_264 rfl rfl), ↓gR_1, ↓(X_aload_n (k := 0) (pc' := 266) dL_law_265 rfl rfl), ↓gR_0, ↓(X_iload (pc' := 268) dL_law_266 rfl), ↓gI_4, ↓(X_iconst (pc' := 269) dL_law_268 rfl), ↓(X_iadd (pc' := 270) dL_law_269 rfl), rn_0, gV_s, ↓pI_c, ↓pII_c, ↓pL_c, ↓pLL_c, ↓pR_c, ↓pRI_c, ↓pRII_c, ↓pRIL_c, ↓pRR_c, ↓pV_c, ↓pVV_c, ↓gI_c, ↓gL_c, ↓gR_c, f2_0, f2_1, nk_n, nk_i, nk_r, ↓reduceIte, r32, r64, Nat.reduceAdd, Nat.reduceSub, Nat.reduceEqDiff, Nat.reduceLT, Nat.reduceLeDiff, Nat.reduceBEq, Int.reduceAdd, Int.reduceSub, Int.reduceMul, Int.reduceNeg, Int.reduceToNat, Int.reduceLE, Int.reduceLT, Int.reduceEq, Int.reduceNatCast', Int.reduceNatCast, Int.natCast_zero, Int.toNat_natCast, Int.toNat_zero, Int.toNat_one, List.length_cons, List.length_nil, true_and, and_true, and_self, true_or, or_true, false_or, or_false, Bool.not_true, Bool.not_false, Nat.lt_add_one, Nat.zero_lt_succ, N0, swL_n, swL_c, List.toList_toArray, false_implies, true_implies, implies_true, forall_const, not_false_eq_true, not_true_eq_false, and_false, false_and, hi]
  simp only [hK9]
  clear hK9 K9v
  refine J_sldE (k := i + 1) dL_law_270 (by omega) (by omega) hL (by simp only [N0]; omega) ?_
  rw [e1]
  refine J_rnG GL_fa (by omega) (by omega) (by omega) 4 _ _ _ _ (fun K9v hK9 => ?_)
  simp (maxSteps := 4000000) only [↓(X_aload_n (k := 0) (pc' := 272) dL_law_271 rfl rfl), ↓gR_0, ↓(X_iload (pc' := 274) dL_law_272 rfl), ↓gI_4, ↓(X_iconst (pc' := 275) dL_law_274 rfl), ↓(X_iadd (pc' := 276) dL_law_275 rfl), rn_0, gV_s, ↓pI_c, ↓pII_c, ↓pL_c, ↓pLL_c, ↓pR_c, ↓pRI_c, ↓pRII_c, ↓pRIL_c, ↓pRR_c, ↓pV_c, ↓pVV_c, ↓gI_c, ↓gL_c, ↓gR_c, f2_0, f2_1, nk_n, nk_i, nk_r, ↓reduceIte, r32, r64, Nat.reduceAdd, Nat.reduceSub, Nat.reduceEqDiff, Nat.reduceLT, Nat.reduceLeDiff, Nat.reduceBEq, Int.reduceAdd, Int.reduceSub, Int.reduceMul, Int.reduceNeg, Int.reduceToNat, Int.reduceLE, Int.reduceLT, Int.reduceEq, Int.reduceNatCast', Int.reduceNatCast, Int.natCast_zero, Int.toNat_natCast, Int.toNat_zero, Int.toNat_one, List.length_cons, List.length_nil, true_and, and_true, and_self, true_or, or_true, false_or, or_false, Bool.not_true, Bool.not_false, Nat.lt_add_one, Nat.zero_lt_succ, N0, swL_n, swL_c, List.toList_toArray, false_implies, true_implies, implies_true, forall_const, not_false_eq_true, not_true_eq_false, and_false, false_and, hi]
  simp only [hK9]
  clear hK9 K9v
  refine J_sldE (k := i + 2) dL_law_276 (by omega) (by omega) hL (by simp only [N0]; omega) ?_
  rw [e2]
  refine J_rnG GL_fa (by omega) (by omega) (by omega) 4 _ _ _ _ (fun K9v hK9 => ?_)
  simp (maxSteps := 4000000) only [↓(X_aload_n (k := 0) (pc' := 278) dL_law_277 rfl rfl), ↓gR_0, ↓(X_iload (pc' := 280) dL_law_278 rfl), ↓gI_4, ↓(X_iconst (pc' := 281) dL_law_280 rfl), ↓(X_iadd (pc' := 282) dL_law_281 rfl), rn_0, gV_s, ↓pI_c, ↓pII_c, ↓pL_c, ↓pLL_c, ↓pR_c, ↓pRI_c, ↓pRII_c, ↓pRIL_c, ↓pRR_c, ↓pV_c, ↓pVV_c, ↓gI_c, ↓gL_c, ↓gR_c, f2_0, f2_1, nk_n, nk_i, nk_r, ↓reduceIte, r32, r64, Nat.reduceAdd, Nat.reduceSub, Nat.reduceEqDiff, Nat.reduceLT, Nat.reduceLeDiff, Nat.reduceBEq, Int.reduceAdd, Int.reduceSub, Int.reduceMul, Int.reduceNeg, Int.reduceToNat, Int.reduceLE, Int.reduceLT, Int.reduceEq, Int.reduceNatCast', Int.reduceNatCast, Int.natCast_zero, Int.toNat_natCast, Int.toNat_zero, Int.toNat_one, List.length_cons, List.length_nil, true_and, and_true, and_self, true_or, or_true, false_or, or_false, Bool.not_true, Bool.not_false, Nat.lt_add_one, Nat.zero_lt_succ, N0, swL_n, swL_c, List.toList_toArray, false_implies, true_implies, implies_true, forall_const, not_false_eq_true, not_true_eq_false, and_false, false_and, hi]
  simp only [hK9]
  clear hK9 K9v
  refine J_sldE (k := i + 3) dL_law_282 (by omega) (by omega) hL (by simp only [N0]; omega) ?_
  rw [e3]
  refine J_rnG GL_fa (by omega) (by omega) (by omega) 4 _ _ _ _ (fun K9v hK9 => ?_)
  simp (maxSteps := 4000000) only [↓(X_aload_n (k := 0) (pc' := 284) dL_law_283 rfl rfl), ↓gR_0, ↓(X_iload (pc' := 286) dL_law_284 rfl), ↓gI_4, ↓(X_iconst (pc' := 287) dL_law_286 rfl), ↓(X_iadd (pc' := 288) dL_law_287 rfl), rn_0, gV_s, ↓pI_c, ↓pII_c, ↓pL_c, ↓pLL_c, ↓pR_c, ↓pRI_c, ↓pRII_c, ↓pRIL_c, ↓pRR_c, ↓pV_c, ↓pVV_c, ↓gI_c, ↓gL_c, ↓gR_c, f2_0, f2_1, nk_n, nk_i, nk_r, ↓reduceIte, r32, r64, Nat.reduceAdd, Nat.reduceSub, Nat.reduceEqDiff, Nat.reduceLT, Nat.reduceLeDiff, Nat.reduceBEq, Int.reduceAdd, Int.reduceSub, Int.reduceMul, Int.reduceNeg, Int.reduceToNat, Int.reduceLE, Int.reduceLT, Int.reduceEq, Int.reduceNatCast', Int.reduceNatCast, Int.natCast_zero, Int.toNat_natCast, Int.toNat_zero, Int.toNat_one, List.length_cons, List.length_nil, true_and, and_true, and_self, true_or, or_true, false_or, or_false, Bool.not_true, Bool.not_false, Nat.lt_add_one, Nat.zero_lt_succ, N0, swL_n, swL_c, List.toList_toArray, false_implies, true_implies, implies_true, forall_const, not_false_eq_true, not_true_eq_false, and_false, false_and, hi]
  simp only [hK9]
  clear hK9 K9v
  refine J_sldE (k := i + 4) dL_law_288 (by omega) (by omega) hL (by simp only [N0]; omega) ?_
  rw [e4]
  refine J_rnG GL_fa (by omega) (by omega) (by omega) 4 _ _ _ _ (fun K9v hK9 => ?_)
  simp (maxSteps := 4000000) only [↓(X_aload_n (k := 0) (pc' := 290) dL_law_289 rfl rfl), ↓gR_0, ↓(X_iload (pc' := 292) dL_law_290 rfl), ↓gI_4, ↓(X_iconst (pc' := 293) dL_law_292 rfl), ↓(X_iadd (pc' := 294) dL_law_293 rfl), rn_0, gV_s, ↓pI_c, ↓pII_c, ↓pL_c, ↓pLL_c, ↓pR_c, ↓pRI_c, ↓pRII_c, ↓pRIL_c, ↓pRR_c, ↓pV_c, ↓pVV_c, ↓gI_c, ↓gL_c, ↓gR_c, f2_0, f2_1, nk_n, nk_i, nk_r, ↓reduceIte, r32, r64, Nat.reduceAdd, Nat.reduceSub, Nat.reduceEqDiff, Nat.reduceLT, Nat.reduceLeDiff, Nat.reduceBEq, Int.reduceAdd, Int.reduceSub, Int.reduceMul, Int.reduceNeg, Int.reduceToNat, Int.reduceLE, Int.reduceLT, Int.reduceEq, Int.reduceNatCast', Int.reduceNatCast, Int.natCast_zero, Int.toNat_natCast, Int.toNat_zero, Int.toNat_one, List.length_cons, List.length_nil, true_and, and_true, and_self, true_or, or_true, false_or, or_false, Bool.not_true, Bool.not_false, Nat.lt_add_one, Nat.zero_lt_succ, N0, swL_n, swL_c, List.toList_toArray, false_implies, true_implies, implies_true, forall_const, not_false_eq_true, not_true_eq_false, and_false, false_and, hi]
  simp only [hK9]
  clear hK9 K9v
  refine J_sldE (k := i + 5) dL_law_294 (by omega) (by omega) hL (by simp only [N0]; omega) ?_
  rw [e5]
  refine J_rnG GL_fa (by omega) (by omega) (by omega) 1 _ _ _ _ (fun K9v hK9 => ?_)
  simp (maxSteps := 4000000) only [↓(X_aload_n (k := 3) (pc' := 296) dL_law_295 rfl rfl), ↓gR_3, rn_0, gV_s, ↓pI_c, ↓pII_c, ↓pL_c, ↓pLL_c, ↓pR_c, ↓pRI_c, ↓pRII_c, ↓pRIL_c, ↓pRR_c, ↓pV_c, ↓pVV_c, ↓gI_c, ↓gL_c, ↓gR_c, f2_0, f2_1, nk_n, nk_i, nk_r, ↓reduceIte, r32, r64, Nat.reduceAdd, Nat.reduceSub, Nat.reduceEqDiff, Nat.reduceLT, Nat.reduceLeDiff, Nat.reduceBEq, Int.reduceAdd, Int.reduceSub, Int.reduceMul, Int.reduceNeg, Int.reduceToNat, Int.reduceLE, Int.reduceLT, Int.reduceEq, Int.reduceNatCast', Int.reduceNatCast, Int.natCast_zero, Int.toNat_natCast, Int.toNat_zero, Int.toNat_one, List.length_cons, List.length_nil, true_and, and_true, and_self, true_or, or_true, false_or, or_false, Bool.not_true, Bool.not_false, Nat.lt_add_one, Nat.zero_lt_succ, N0, swL_n, swL_c, List.toList_toArray, false_implies, true_implies, implies_true, forall_const, not_false_eq_true, not_true_eq_false, and_false, false_and]
  simp only [hK9]
  clear hK9 K9v
  refine J_callSW hW dL_law_296 kw_77 (by omega) (Nat.le_of_ble_eq_true rfl) ⟨by omega, by omega⟩ rfl (Nat.le_of_ble_eq_true rfl) rfl (fun q ν h => by obtain ⟨h1, M3, h2, -⟩ := h; exact ⟨⟨_, h1⟩, by rw [h2]; rfl⟩) (fun v ν hv => ?_)
  obtain ⟨h1, M3, rfl, hQ⟩ := hv
  cases h1
  simp only [Option.toList, List.cons_append, List.nil_append]
  refine J_rnG GL_fa (by omega) (by omega) (by omega) 6 _ _ _ _ (fun K9v hK9 => ?_)
  simp (maxSteps := 4000000) only [↓(X_istore (pc' := 301) dL_law_299 rfl), ↓sto_5, ↓(X_aload_n (k := 2) (pc' := 302) dL_law_301 rfl rfl), ↓gR_2, ↓(X_aload_n (k := 0) (pc' := 303) dL_law_302 rfl rfl), ↓gR_0, ↓(X_iload (pc' := 305) dL_law_303 rfl), ↓gI_4, ↓(X_iconst (pc' := 306) dL_law_305 rfl), ↓(X_iadd (pc' := 307) dL_law_306 rfl), rn_0, gV_s, ↓pI_c, ↓pII_c, ↓pL_c, ↓pLL_c, ↓pR_c, ↓pRI_c, ↓pRII_c, ↓pRIL_c, ↓pRR_c, ↓pV_c, ↓pVV_c, ↓gI_c, ↓gL_c, ↓gR_c, f2_0, f2_1, nk_n, nk_i, nk_r, ↓reduceIte, r32, r64, Nat.reduceAdd, Nat.reduceSub, Nat.reduceEqDiff, Nat.reduceLT, Nat.reduceLeDiff, Nat.reduceBEq, Int.reduceAdd, Int.reduceSub, Int.reduceMul, Int.reduceNeg, Int.reduceToNat, Int.reduceLE, Int.reduceLT, Int.reduceEq, Int.reduceNatCast', Int.reduceNatCast, Int.natCast_zero, Int.toNat_natCast, Int.toNat_zero, Int.toNat_one, List.length_cons, List.length_nil, true_and, and_true, and_self, true_or, or_true, false_or, or_false, Bool.not_true, Bool.not_false, Nat.lt_add_one, Nat.zero_lt_succ, N0, swL_n, swL_c, List.toList_toArray, false_implies, true_implies, implies_true, forall_const, not_false_eq_true, not_true_eq_false, and_false, false_and, hi]
  simp only [hK9]
  clear hK9 K9v
  refine J_sldE (k := i + 1) dL_law_307 (by omega) (by omega) hL (by simp only [N0]; omega) ?_
  rw [e1]
  refine J_rnG GL_fa (by omega) (by omega) (by omega) 4 _ _ _ _ (fun K9v hK9 => ?_)
  simp (maxSteps := 4000000) only [↓(X_aload_n (k := 0) (pc' := 309) dL_law_308 rfl rfl), ↓gR_0, ↓(X_iload (pc' := 311) dL_law_309 rfl), ↓gI_4, ↓(X_iconst (pc' := 312) dL_law_311 rfl), ↓(X_iadd (pc' := 313) dL_law_312 rfl), rn_0, gV_s, ↓pI_c, ↓pII_c, ↓pL_c, ↓pLL_c, ↓pR_c, ↓pRI_c, ↓pRII_c, ↓pRIL_c, ↓pRR_c, ↓pV_c, ↓pVV_c, ↓gI_c, ↓gL_c, ↓gR_c, f2_0, f2_1, nk_n, nk_i, nk_r, ↓reduceIte, r32, r64, Nat.reduceAdd, Nat.reduceSub, Nat.reduceEqDiff, Nat.reduceLT, Nat.reduceLeDiff, Nat.reduceBEq, Int.reduceAdd, Int.reduceSub, Int.reduceMul, Int.reduceNeg, Int.reduceToNat, Int.reduceLE, Int.reduceLT, Int.reduceEq, Int.reduceNatCast', Int.reduceNatCast, Int.natCast_zero, Int.toNat_natCast, Int.toNat_zero, Int.toNat_one, List.length_cons, List.length_nil, true_and, and_true, and_self, true_or, or_true, false_or, or_false, Bool.not_true, Bool.not_false, Nat.lt_add_one, Nat.zero_lt_succ, N0, swL_n, swL_c, List.toList_toArray, false_implies, true_implies, implies_true, forall_const, not_false_eq_true, not_true_eq_false, and_false, false_and, hi]
  simp only [hK9]
  clear hK9 K9v
  refine J_sldE (k := i + 2) dL_law_313 (by omega) (by omega) hL (by simp only [N0]; omega) ?_
  rw [e2]
  refine J_rnG GL_fa (by omega) (by omega) (by omega) 4 _ _ _ _ (fun K9v hK9 => ?_)
  simp (maxSteps := 4000000) only [↓(X_aload_n (k := 0) (pc' := 315) dL_law_314 rfl rfl), ↓gR_0, ↓(X_iload (pc' := 317) dL_law_315 rfl), ↓gI_4, ↓(X_iconst (pc' := 318) dL_law_317 rfl), ↓(X_iadd (pc' := 319) dL_law_318 rfl), rn_0, gV_s, ↓pI_c, ↓pII_c, ↓pL_c, ↓pLL_c, ↓pR_c, ↓pRI_c, ↓pRII_c, ↓pRIL_c, ↓pRR_c, ↓pV_c, ↓pVV_c, ↓gI_c, ↓gL_c, ↓gR_c, f2_0, f2_1, nk_n, nk_i, nk_r, ↓reduceIte, r32, r64, Nat.reduceAdd, Nat.reduceSub, Nat.reduceEqDiff, Nat.reduceLT, Nat.reduceLeDiff, Nat.reduceBEq, Int.reduceAdd, Int.reduceSub, Int.reduceMul, Int.reduceNeg, Int.reduceToNat, Int.reduceLE, Int.reduceLT, Int.reduceEq, Int.reduceNatCast', Int.reduceNatCast, Int.natCast_zero, Int.toNat_natCast, Int.toNat_zero, Int.toNat_one, List.length_cons, List.length_nil, true_and, and_true, and_self, true_or, or_true, false_or, or_false, Bool.not_true, Bool.not_false, Nat.lt_add_one, Nat.zero_lt_succ, N0, swL_n, swL_c, List.toList_toArray, false_implies, true_implies, implies_true, forall_const, not_false_eq_true, not_true_eq_false, and_false, false_and, hi]
  simp only [hK9]
  clear hK9 K9v
  refine J_sldE (k := i + 3) dL_law_319 (by omega) (by omega) hL (by simp only [N0]; omega) ?_
  rw [e3]
  refine J_rnG GL_fa (by omega) (by omega) (by omega) 4 _ _ _ _ (fun K9v hK9 => ?_)
  simp (maxSteps := 4000000) only [↓(X_aload_n (k := 0) (pc' := 321) dL_law_320 rfl rfl), ↓gR_0, ↓(X_iload (pc' := 323) dL_law_321 rfl), ↓gI_4, ↓(X_iconst (pc' := 324) dL_law_323 rfl), ↓(X_iadd (pc' := 325) dL_law_324 rfl), rn_0, gV_s, ↓pI_c, ↓pII_c, ↓pL_c, ↓pLL_c, ↓pR_c, ↓pRI_c, ↓pRII_c, ↓pRIL_c, ↓pRR_c, ↓pV_c, ↓pVV_c, ↓gI_c, ↓gL_c, ↓gR_c, f2_0, f2_1, nk_n, nk_i, nk_r, ↓reduceIte, r32, r64, Nat.reduceAdd, Nat.reduceSub, Nat.reduceEqDiff, Nat.reduceLT, Nat.reduceLeDiff, Nat.reduceBEq, Int.reduceAdd, Int.reduceSub, Int.reduceMul, Int.reduceNeg, Int.reduceToNat, Int.reduceLE, Int.reduceLT, Int.reduceEq, Int.reduceNatCast', Int.reduceNatCast, Int.natCast_zero, Int.toNat_natCast, Int.toNat_zero, Int.toNat_one, List.length_cons, List.length_nil, true_and, and_true, and_self, true_or, or_true, false_or, or_false, Bool.not_true, Bool.not_false, Nat.lt_add_one, Nat.zero_lt_succ, N0, swL_n, swL_c, List.toList_toArray, false_implies, true_implies, implies_true, forall_const, not_false_eq_true, not_true_eq_false, and_false, false_and, hi]
  simp only [hK9]
  clear hK9 K9v
  refine J_sldE (k := i + 4) dL_law_325 (by omega) (by omega) hL (by simp only [N0]; omega) ?_
  rw [e4]
  refine J_rnG GL_fa (by omega) (by omega) (by omega) 4 _ _ _ _ (fun K9v hK9 => ?_)
  simp (maxSteps := 4000000) only [↓(X_aload_n (k := 0) (pc' := 327) dL_law_326 rfl rfl), ↓gR_0, ↓(X_iload (pc' := 329) dL_law_327 rfl), ↓gI_4, ↓(X_iconst (pc' := 330) dL_law_329 rfl), ↓(X_iadd (pc' := 331) dL_law_330 rfl), rn_0, gV_s, ↓pI_c, ↓pII_c, ↓pL_c, ↓pLL_c, ↓pR_c, ↓pRI_c, ↓pRII_c, ↓pRIL_c, ↓pRR_c, ↓pV_c, ↓pVV_c, ↓gI_c, ↓gL_c, ↓gR_c, f2_0, f2_1, nk_n, nk_i, nk_r, ↓reduceIte, r32, r64, Nat.reduceAdd, Nat.reduceSub, Nat.reduceEqDiff, Nat.reduceLT, Nat.reduceLeDiff, Nat.reduceBEq, Int.reduceAdd, Int.reduceSub, Int.reduceMul, Int.reduceNeg, Int.reduceToNat, Int.reduceLE, Int.reduceLT, Int.reduceEq, Int.reduceNatCast', Int.reduceNatCast, Int.natCast_zero, Int.toNat_natCast, Int.toNat_zero, Int.toNat_one, List.length_cons, List.length_nil, true_and, and_true, and_self, true_or, or_true, false_or, or_false, Bool.not_true, Bool.not_false, Nat.lt_add_one, Nat.zero_lt_succ, N0, swL_n, swL_c, List.toList_toArray, false_implies, true_implies, implies_true, forall_const, not_false_eq_true, not_true_eq_false, and_false, false_and, hi]
  simp only [hK9]
  clear hK9 K9v
  refine J_sldE (k := i + 5) dL_law_331 (by omega) (by omega) hL (by simp only [N0]; omega) ?_
  rw [e5]
  refine J_callV (ci := 9) GL_fa (hMd M3 hQ) AF_calm dL_law_332 k_10_80 (by omega) (Nat.le_of_ble_eq_true rfl) ⟨by omega, by omega⟩ rfl (by decide +kernel) rfl (by decide) (by simp only [N0]; omega) (by simp) rfl (fun v ν hv => ?_)
  obtain ⟨v6, M4, n9, T9, h1, rfl, hth, h0, hI⟩ := hv
  cases h1
  simp only [Option.toList, List.cons_append, List.nil_append]
  exact tl_job (by omega) (by omega) hc4 hth h0 (J_wd (by omega) (by omega) (K M4 n9 T9 _ _ hI))

set_option maxRecDepth 100000 in
set_option maxHeartbeats 4000000 in
theorem hw_recipe {Q : (Nat → Nat → Int) → Prop} {code dW dM : Nat} {z1 z2 : Int} (e1 : (xs (i + 1)).toInt = z1) (e2 : (xs (i + 2)).toInt = z2) (hi : i + 5 < L) (hL : L ≤ 3072) (hc : ca + 3 ≤ 601024) (hs : sl + 18 ≤ 7293034) (hdW : dW ≤ 1000) (hdM : dM ≤ 1000) (hc4 : code ≤ 3) (hW : OkW l D cy dW 2 12 yL_recipe cL_recipe 5 (some .int) [(0, 10, 13, 28), (0, 10, 17, 13), (0, 10, 21, 15)] [.inr (.inr (some 0)), .inl (z1), .inl (z2), .inr (.inr (some 467))] (N0, R0, M) (fun o ν => o = .inl (some (.inl (code : Int))) ∧ ∃ M3 : Nat → Nat → Int, ν = (N0, R0, M3) ∧ Q M3)) (hMd : ∀ M3, Q M3 → Ok l D cy dM 0 0 yX9_recipe cX9_recipe 3 (some (.int)) [.inr (.inr (some 447)), .inl (z1), .inl (z2)] (N0, R0, M3) (AF code)) (K : NX l D cy b L xs i ca sl) : J l D cy (GL l D cy b L xs) 368 [some (.inr (.inr (some 1000000))), some (.inr (.inr (some 0))), some (.inr (.inr (some 447))), some (.inr (.inr (some 467))), some (.inl (i : Int)), w5, w6] [] (N0, R0, M) ca sl := by
  refine J_rnG GL_fa (by omega) (by omega) (by omega) 5 _ _ _ _ (fun K9v hK9 => ?_)
  simp (maxSteps := 4000000) only [↓(X_aload_n (k := 1) (pc' := 369) dL_law_368 rfl rfl), ↓gR_1, ↓(X_aload_n (k := 0) (pc' := 370) dL_law_369 rfl rfl), ↓gR_0, ↓(X_iload (pc' := 372) dL_law_370 rfl), ↓gI_4, ↓(X_iconst (pc' := 373) dL_law_372 rfl), ↓(X_iadd (pc' := 374) dL_law_373 rfl), rn_0, gV_s, ↓pI_c, ↓pII_c, ↓pL_c, ↓pLL_c, ↓pR_c, ↓pRI_c, ↓pRII_c, ↓pRIL_c, ↓pRR_c, ↓pV_c, ↓pVV_c, ↓gI_c, ↓gL_c, ↓gR_c, f2_0, f2_1, nk_n, nk_i, nk_r, ↓reduceIte, r32, r64, Nat.reduceAdd, Nat.reduceSub, Nat.reduceEqDiff, Nat.reduceLT, Nat.reduceLeDiff, Nat.reduceBEq, Int.reduceAdd, Int.reduceSub, Int.reduceMul, Int.reduceNeg, Int.reduceToNat, Int.reduceLE, Int.reduceLT, Int.reduceEq, Int.reduceNatCast', Int.reduceNatCast, Int.natCast_zero, Int.toNat_natCast, Int.toNat_zero, Int.toNat_one, List.length_cons, List.length_nil, true_and, and_true, and_self, true_or, or_true, false_or, or_false, Bool.not_true, Bool.not_false, Nat.lt_add_one, Nat.zero_lt_succ, N0, swL_n, swL_c, List.toList_toArray, false_implies, true_implies, implies_true, forall_const, not_false_eq_true, not_true_eq_false, and_false, false_and, hi]
  simp only [hK9]
  clear hK9 K9v
  refine J_sldE (k := i + 1) dL_law_374 (by omega) (by omega) hL (by simp only [N0]; omega) ?_
  rw [e1]
  refine J_rnG GL_fa (by omega) (by omega) (by omega) 4 _ _ _ _ (fun K9v hK9 => ?_)
  simp (maxSteps := 4000000) only [↓(X_aload_n (k := 0) (pc' := 376) dL_law_375 rfl rfl), ↓gR_0, ↓(X_iload (pc' := 378) dL_law_376 rfl), ↓gI_4, ↓(X_iconst (pc' := 379) dL_law_378 rfl), ↓(X_iadd (pc' := 380) dL_law_379 rfl), rn_0, gV_s, ↓pI_c, ↓pII_c, ↓pL_c, ↓pLL_c, ↓pR_c, ↓pRI_c, ↓pRII_c, ↓pRIL_c, ↓pRR_c, ↓pV_c, ↓pVV_c, ↓gI_c, ↓gL_c, ↓gR_c, f2_0, f2_1, nk_n, nk_i, nk_r, ↓reduceIte, r32, r64, Nat.reduceAdd, Nat.reduceSub, Nat.reduceEqDiff, Nat.reduceLT, Nat.reduceLeDiff, Nat.reduceBEq, Int.reduceAdd, Int.reduceSub, Int.reduceMul, Int.reduceNeg, Int.reduceToNat, Int.reduceLE, Int.reduceLT, Int.reduceEq, Int.reduceNatCast', Int.reduceNatCast, Int.natCast_zero, Int.toNat_natCast, Int.toNat_zero, Int.toNat_one, List.length_cons, List.length_nil, true_and, and_true, and_self, true_or, or_true, false_or, or_false, Bool.not_true, Bool.not_false, Nat.lt_add_one, Nat.zero_lt_succ, N0, swL_n, swL_c, List.toList_toArray, false_implies, true_implies, implies_true, forall_const, not_false_eq_true, not_true_eq_false, and_false, false_and, hi]
  simp only [hK9]
  clear hK9 K9v
  refine J_sldE (k := i + 2) dL_law_380 (by omega) (by omega) hL (by simp only [N0]; omega) ?_
  rw [e2]
  refine J_rnG GL_fa (by omega) (by omega) (by omega) 1 _ _ _ _ (fun K9v hK9 => ?_)
  simp (maxSteps := 4000000) only [↓(X_aload_n (k := 3) (pc' := 382) dL_law_381 rfl rfl), ↓gR_3, rn_0, gV_s, ↓pI_c, ↓pII_c, ↓pL_c, ↓pLL_c, ↓pR_c, ↓pRI_c, ↓pRII_c, ↓pRIL_c, ↓pRR_c, ↓pV_c, ↓pVV_c, ↓gI_c, ↓gL_c, ↓gR_c, f2_0, f2_1, nk_n, nk_i, nk_r, ↓reduceIte, r32, r64, Nat.reduceAdd, Nat.reduceSub, Nat.reduceEqDiff, Nat.reduceLT, Nat.reduceLeDiff, Nat.reduceBEq, Int.reduceAdd, Int.reduceSub, Int.reduceMul, Int.reduceNeg, Int.reduceToNat, Int.reduceLE, Int.reduceLT, Int.reduceEq, Int.reduceNatCast', Int.reduceNatCast, Int.natCast_zero, Int.toNat_natCast, Int.toNat_zero, Int.toNat_one, List.length_cons, List.length_nil, true_and, and_true, and_self, true_or, or_true, false_or, or_false, Bool.not_true, Bool.not_false, Nat.lt_add_one, Nat.zero_lt_succ, N0, swL_n, swL_c, List.toList_toArray, false_implies, true_implies, implies_true, forall_const, not_false_eq_true, not_true_eq_false, and_false, false_and]
  simp only [hK9]
  clear hK9 K9v
  refine J_callSW hW dL_law_382 kw_81 (by omega) (Nat.le_of_ble_eq_true rfl) ⟨by omega, by omega⟩ rfl (Nat.le_of_ble_eq_true rfl) rfl (fun q ν h => by obtain ⟨h1, M3, h2, -⟩ := h; exact ⟨⟨_, h1⟩, by rw [h2]; rfl⟩) (fun v ν hv => ?_)
  obtain ⟨h1, M3, rfl, hQ⟩ := hv
  cases h1
  simp only [Option.toList, List.cons_append, List.nil_append]
  refine J_rnG GL_fa (by omega) (by omega) (by omega) 6 _ _ _ _ (fun K9v hK9 => ?_)
  simp (maxSteps := 4000000) only [↓(X_istore (pc' := 387) dL_law_385 rfl), ↓sto_5, ↓(X_aload_n (k := 2) (pc' := 388) dL_law_387 rfl rfl), ↓gR_2, ↓(X_aload_n (k := 0) (pc' := 389) dL_law_388 rfl rfl), ↓gR_0, ↓(X_iload (pc' := 391) dL_law_389 rfl), ↓gI_4, ↓(X_iconst (pc' := 392) dL_law_391 rfl), ↓(X_iadd (pc' := 393) dL_law_392 rfl), rn_0, gV_s, ↓pI_c, ↓pII_c, ↓pL_c, ↓pLL_c, ↓pR_c, ↓pRI_c, ↓pRII_c, ↓pRIL_c, ↓pRR_c, ↓pV_c, ↓pVV_c, ↓gI_c, ↓gL_c, ↓gR_c, f2_0, f2_1, nk_n, nk_i, nk_r, ↓reduceIte, r32, r64, Nat.reduceAdd, Nat.reduceSub, Nat.reduceEqDiff, Nat.reduceLT, Nat.reduceLeDiff, Nat.reduceBEq, Int.reduceAdd, Int.reduceSub, Int.reduceMul, Int.reduceNeg, Int.reduceToNat, Int.reduceLE, Int.reduceLT, Int.reduceEq, Int.reduceNatCast', Int.reduceNatCast, Int.natCast_zero, Int.toNat_natCast, Int.toNat_zero, Int.toNat_one, List.length_cons, List.length_nil, true_and, and_true, and_self, true_or, or_true, false_or, or_false, Bool.not_true, Bool.not_false, Nat.lt_add_one, Nat.zero_lt_succ, N0, swL_n, swL_c, List.toList_toArray, false_implies, true_implies, implies_true, forall_const, not_false_eq_true, not_true_eq_false, and_false, false_and, hi]
  simp only [hK9]
  clear hK9 K9v
  refine J_sldE (k := i + 1) dL_law_393 (by omega) (by omega) hL (by simp only [N0]; omega) ?_
  rw [e1]
  refine J_rnG GL_fa (by omega) (by omega) (by omega) 4 _ _ _ _ (fun K9v hK9 => ?_)
  simp (maxSteps := 4000000) only [↓(X_aload_n (k := 0) (pc' := 395) dL_law_394 rfl rfl), ↓gR_0, ↓(X_iload (pc' := 397) dL_law_395 rfl), ↓gI_4, ↓(X_iconst (pc' := 398) dL_law_397 rfl), ↓(X_iadd (pc' := 399) dL_law_398 rfl), rn_0, gV_s, ↓pI_c, ↓pII_c, ↓pL_c, ↓pLL_c, ↓pR_c, ↓pRI_c, ↓pRII_c, ↓pRIL_c, ↓pRR_c, ↓pV_c, ↓pVV_c, ↓gI_c, ↓gL_c, ↓gR_c, f2_0, f2_1, nk_n, nk_i, nk_r, ↓reduceIte, r32, r64, Nat.reduceAdd, Nat.reduceSub, Nat.reduceEqDiff, Nat.reduceLT, Nat.reduceLeDiff, Nat.reduceBEq, Int.reduceAdd, Int.reduceSub, Int.reduceMul, Int.reduceNeg, Int.reduceToNat, Int.reduceLE, Int.reduceLT, Int.reduceEq, Int.reduceNatCast', Int.reduceNatCast, Int.natCast_zero, Int.toNat_natCast, Int.toNat_zero, Int.toNat_one, List.length_cons, List.length_nil, true_and, and_true, and_self, true_or, or_true, false_or, or_false, Bool.not_true, Bool.not_false, Nat.lt_add_one, Nat.zero_lt_succ, N0, swL_n, swL_c, List.toList_toArray, false_implies, true_implies, implies_true, forall_const, not_false_eq_true, not_true_eq_false, and_false, false_and, hi]
  simp only [hK9]
  clear hK9 K9v
  refine J_sldE (k := i + 2) dL_law_399 (by omega) (by omega) hL (by simp only [N0]; omega) ?_
  rw [e2]
  refine J_callV (ci := 9) GL_fa (hMd M3 hQ) AF_calm dL_law_400 k_10_83 (by omega) (Nat.le_of_ble_eq_true rfl) ⟨by omega, by omega⟩ rfl (by decide +kernel) rfl (by decide) (by simp only [N0]; omega) (by simp) rfl (fun v ν hv => ?_)
  obtain ⟨v6, M4, n9, T9, h1, rfl, hth, h0, hI⟩ := hv
  cases h1
  simp only [Option.toList, List.cons_append, List.nil_append]
  exact tl_recipe (by omega) (by omega) hc4 hth h0 (J_wd (by omega) (by omega) (K M4 n9 T9 _ _ hI))

set_option maxRecDepth 100000 in
set_option maxHeartbeats 4000000 in
theorem hw_mix {Q : (Nat → Nat → Int) → Prop} {code dW dM : Nat} {z1 : Int} (e1 : (xs (i + 1)).toInt = z1) (hi : i + 5 < L) (hL : L ≤ 3072) (hc : ca + 3 ≤ 601024) (hs : sl + 18 ≤ 7293034) (hdW : dW ≤ 1000) (hdM : dM ≤ 1000) (hc4 : code ≤ 3) (hW : OkW l D cy dW 2 12 yL_mix cL_mix 4 (some .int) [(0, 9, 12, 28), (0, 9, 15, 15)] [.inr (.inr (some 0)), .inl (z1), .inr (.inr (some 467))] (N0, R0, M) (fun o ν => o = .inl (some (.inl (code : Int))) ∧ ∃ M3 : Nat → Nat → Int, ν = (N0, R0, M3) ∧ Q M3)) (hMd : ∀ M3, Q M3 → Ok l D cy dM 0 0 yX9_mix cX9_mix 4 (some (.int)) [.inr (.inr (some 447)), .inl (z1)] (N0, R0, M3) (AF code)) (K : NX l D cy b L xs i ca sl) : J l D cy (GL l D cy b L xs) 436 [some (.inr (.inr (some 1000000))), some (.inr (.inr (some 0))), some (.inr (.inr (some 447))), some (.inr (.inr (some 467))), some (.inl (i : Int)), w5, w6] [] (N0, R0, M) ca sl := by
  refine J_rnG GL_fa (by omega) (by omega) (by omega) 5 _ _ _ _ (fun K9v hK9 => ?_)
  simp (maxSteps := 4000000) only [↓(X_aload_n (k := 1) (pc' := 437) dL_law_436 rfl rfl), ↓gR_1, ↓(X_aload_n (k := 0) (pc' := 438) dL_law_437 rfl rfl), ↓gR_0, ↓(X_iload (pc' := 440) dL_law_438 rfl), ↓gI_4, ↓(X_iconst (pc' := 441) dL_law_440 rfl), ↓(X_iadd (pc' := 442) dL_law_441 rfl), rn_0, gV_s, ↓pI_c, ↓pII_c, ↓pL_c, ↓pLL_c, ↓pR_c, ↓pRI_c, ↓pRII_c, ↓pRIL_c, ↓pRR_c, ↓pV_c, ↓pVV_c, ↓gI_c, ↓gL_c, ↓gR_c, f2_0, f2_1, nk_n, nk_i, nk_r, ↓reduceIte, r32, r64, Nat.reduceAdd, Nat.reduceSub, Nat.reduceEqDiff, Nat.reduceLT, Nat.reduceLeDiff, Nat.reduceBEq, Int.reduceAdd, Int.reduceSub, Int.reduceMul, Int.reduceNeg, Int.reduceToNat, Int.reduceLE, Int.reduceLT, Int.reduceEq, Int.reduceNatCast', Int.reduceNatCast, Int.natCast_zero, Int.toNat_natCast, Int.toNat_zero, Int.toNat_one, List.length_cons, List.length_nil, true_and, and_true, and_self, true_or, or_true, false_or, or_false, Bool.not_true, Bool.not_false, Nat.lt_add_one, Nat.zero_lt_succ, N0, swL_n, swL_c, List.toList_toArray, false_implies, true_implies, implies_true, forall_const, not_false_eq_true, not_true_eq_false, and_false, false_and, hi]
  simp only [hK9]
  clear hK9 K9v
  refine J_sldE (k := i + 1) dL_law_442 (by omega) (by omega) hL (by simp only [N0]; omega) ?_
  rw [e1]
  refine J_rnG GL_fa (by omega) (by omega) (by omega) 1 _ _ _ _ (fun K9v hK9 => ?_)
  simp (maxSteps := 4000000) only [↓(X_aload_n (k := 3) (pc' := 444) dL_law_443 rfl rfl), ↓gR_3, rn_0, gV_s, ↓pI_c, ↓pII_c, ↓pL_c, ↓pLL_c, ↓pR_c, ↓pRI_c, ↓pRII_c, ↓pRIL_c, ↓pRR_c, ↓pV_c, ↓pVV_c, ↓gI_c, ↓gL_c, ↓gR_c, f2_0, f2_1, nk_n, nk_i, nk_r, ↓reduceIte, r32, r64, Nat.reduceAdd, Nat.reduceSub, Nat.reduceEqDiff, Nat.reduceLT, Nat.reduceLeDiff, Nat.reduceBEq, Int.reduceAdd, Int.reduceSub, Int.reduceMul, Int.reduceNeg, Int.reduceToNat, Int.reduceLE, Int.reduceLT, Int.reduceEq, Int.reduceNatCast', Int.reduceNatCast, Int.natCast_zero, Int.toNat_natCast, Int.toNat_zero, Int.toNat_one, List.length_cons, List.length_nil, true_and, and_true, and_self, true_or, or_true, false_or, or_false, Bool.not_true, Bool.not_false, Nat.lt_add_one, Nat.zero_lt_succ, N0, swL_n, swL_c, List.toList_toArray, false_implies, true_implies, implies_true, forall_const, not_false_eq_true, not_true_eq_false, and_false, false_and]
  simp only [hK9]
  clear hK9 K9v
  refine J_callSW hW dL_law_444 kw_84 (by omega) (Nat.le_of_ble_eq_true rfl) ⟨by omega, by omega⟩ rfl (Nat.le_of_ble_eq_true rfl) rfl (fun q ν h => by obtain ⟨h1, M3, h2, -⟩ := h; exact ⟨⟨_, h1⟩, by rw [h2]; rfl⟩) (fun v ν hv => ?_)
  obtain ⟨h1, M3, rfl, hQ⟩ := hv
  cases h1
  simp only [Option.toList, List.cons_append, List.nil_append]
  refine J_rnG GL_fa (by omega) (by omega) (by omega) 6 _ _ _ _ (fun K9v hK9 => ?_)
  simp (maxSteps := 4000000) only [↓(X_istore (pc' := 449) dL_law_447 rfl), ↓sto_5, ↓(X_aload_n (k := 2) (pc' := 450) dL_law_449 rfl rfl), ↓gR_2, ↓(X_aload_n (k := 0) (pc' := 451) dL_law_450 rfl rfl), ↓gR_0, ↓(X_iload (pc' := 453) dL_law_451 rfl), ↓gI_4, ↓(X_iconst (pc' := 454) dL_law_453 rfl), ↓(X_iadd (pc' := 455) dL_law_454 rfl), rn_0, gV_s, ↓pI_c, ↓pII_c, ↓pL_c, ↓pLL_c, ↓pR_c, ↓pRI_c, ↓pRII_c, ↓pRIL_c, ↓pRR_c, ↓pV_c, ↓pVV_c, ↓gI_c, ↓gL_c, ↓gR_c, f2_0, f2_1, nk_n, nk_i, nk_r, ↓reduceIte, r32, r64, Nat.reduceAdd, Nat.reduceSub, Nat.reduceEqDiff, Nat.reduceLT, Nat.reduceLeDiff, Nat.reduceBEq, Int.reduceAdd, Int.reduceSub, Int.reduceMul, Int.reduceNeg, Int.reduceToNat, Int.reduceLE, Int.reduceLT, Int.reduceEq, Int.reduceNatCast', Int.reduceNatCast, Int.natCast_zero, Int.toNat_natCast, Int.toNat_zero, Int.toNat_one, List.length_cons, List.length_nil, true_and, and_true, and_self, true_or, or_true, false_or, or_false, Bool.not_true, Bool.not_false, Nat.lt_add_one, Nat.zero_lt_succ, N0, swL_n, swL_c, List.toList_toArray, false_implies, true_implies, implies_true, forall_const, not_false_eq_true, not_true_eq_false, and_false, false_and, hi]
  simp only [hK9]
  clear hK9 K9v
  refine J_sldE (k := i + 1) dL_law_455 (by omega) (by omega) hL (by simp only [N0]; omega) ?_
  rw [e1]
  refine J_callV (ci := 9) GL_fa (hMd M3 hQ) AF_calm dL_law_456 k_10_87 (by omega) (Nat.le_of_ble_eq_true rfl) ⟨by omega, by omega⟩ rfl (by decide +kernel) rfl (by decide) (by simp only [N0]; omega) (by simp) rfl (fun v ν hv => ?_)
  obtain ⟨v6, M4, n9, T9, h1, rfl, hth, h0, hI⟩ := hv
  cases h1
  simp only [Option.toList, List.cons_append, List.nil_append]
  exact tl_mix (by omega) (by omega) hc4 hth h0 (J_wd (by omega) (by omega) (K M4 n9 T9 _ _ hI))

set_option maxRecDepth 100000 in
set_option maxHeartbeats 4000000 in
theorem hw_pass {Q : (Nat → Nat → Int) → Prop} {code dW dM : Nat} {z1 : Int} (e1 : (xs (i + 1)).toInt = z1) (hi : i + 5 < L) (hL : L ≤ 3072) (hc : ca + 3 ≤ 601024) (hs : sl + 18 ≤ 7293034) (hdW : dW ≤ 1000) (hdM : dM ≤ 1000) (hc4 : code ≤ 3) (hW : OkW l D cy dW 1 6 yL_pass cL_pass 4 (some .int) [(0, 9, 12, 13), (0, 9, 15, 15)] [.inr (.inr (some 0)), .inl (z1), .inr (.inr (some 467))] (N0, R0, M) (fun o ν => o = .inl (some (.inl (code : Int))) ∧ ∃ M3 : Nat → Nat → Int, ν = (N0, R0, M3) ∧ Q M3)) (hMd : ∀ M3, Q M3 → Ok l D cy dM 0 0 yX9_pass cX9_pass 2 (some (.int)) [.inr (.inr (some 447)), .inl (z1)] (N0, R0, M3) (AF code)) (K : NX l D cy b L xs i ca sl) : J l D cy (GL l D cy b L xs) 588 [some (.inr (.inr (some 1000000))), some (.inr (.inr (some 0))), some (.inr (.inr (some 447))), some (.inr (.inr (some 467))), some (.inl (i : Int)), w5, w6] [] (N0, R0, M) ca sl := by
  refine J_rnG GL_fa (by omega) (by omega) (by omega) 5 _ _ _ _ (fun K9v hK9 => ?_)
  simp (maxSteps := 4000000) only [↓(X_aload_n (k := 1) (pc' := 589) dL_law_588 rfl rfl), ↓gR_1, ↓(X_aload_n (k := 0) (pc' := 590) dL_law_589 rfl rfl), ↓gR_0, ↓(X_iload (pc' := 592) dL_law_590 rfl), ↓gI_4, ↓(X_iconst (pc' := 593) dL_law_592 rfl), ↓(X_iadd (pc' := 594) dL_law_593 rfl), rn_0, gV_s, ↓pI_c, ↓pII_c, ↓pL_c, ↓pLL_c, ↓pR_c, ↓pRI_c, ↓pRII_c, ↓pRIL_c, ↓pRR_c, ↓pV_c, ↓pVV_c, ↓gI_c, ↓gL_c, ↓gR_c, f2_0, f2_1, nk_n, nk_i, nk_r, ↓reduceIte, r32, r64, Nat.reduceAdd, Nat.reduceSub, Nat.reduceEqDiff, Nat.reduceLT, Nat.reduceLeDiff, Nat.reduceBEq, Int.reduceAdd, Int.reduceSub, Int.reduceMul, Int.reduceNeg, Int.reduceToNat, Int.reduceLE, Int.reduceLT, Int.reduceEq, Int.reduceNatCast', Int.reduceNatCast, Int.natCast_zero, Int.toNat_natCast, Int.toNat_zero, Int.toNat_one, List.length_cons, List.length_nil, true_and, and_true, and_self, true_or, or_true, false_or, or_false, Bool.not_true, Bool.not_false, Nat.lt_add_one, Nat.zero_lt_succ, N0, swL_n, swL_c, List.toList_toArray, false_implies, true_implies, implies_true, forall_const, not_false_eq_true, not_true_eq_false, and_false, false_and, hi]
  simp only [hK9]
  clear hK9 K9v
  refine J_sldE (k := i + 1) dL_law_594 (by omega) (by omega) hL (by simp only [N0]; omega) ?_
  rw [e1]
  refine J_rnG GL_fa (by omega) (by omega) (by omega) 1 _ _ _ _ (fun K9v hK9 => ?_)
  simp (maxSteps := 4000000) only [↓(X_aload_n (k := 3) (pc' := 596) dL_law_595 rfl rfl), ↓gR_3, rn_0, gV_s, ↓pI_c, ↓pII_c, ↓pL_c, ↓pLL_c, ↓pR_c, ↓pRI_c, ↓pRII_c, ↓pRIL_c, ↓pRR_c, ↓pV_c, ↓pVV_c, ↓gI_c, ↓gL_c, ↓gR_c, f2_0, f2_1, nk_n, nk_i, nk_r, ↓reduceIte, r32, r64, Nat.reduceAdd, Nat.reduceSub, Nat.reduceEqDiff, Nat.reduceLT, Nat.reduceLeDiff, Nat.reduceBEq, Int.reduceAdd, Int.reduceSub, Int.reduceMul, Int.reduceNeg, Int.reduceToNat, Int.reduceLE, Int.reduceLT, Int.reduceEq, Int.reduceNatCast', Int.reduceNatCast, Int.natCast_zero, Int.toNat_natCast, Int.toNat_zero, Int.toNat_one, List.length_cons, List.length_nil, true_and, and_true, and_self, true_or, or_true, false_or, or_false, Bool.not_true, Bool.not_false, Nat.lt_add_one, Nat.zero_lt_succ, N0, swL_n, swL_c, List.toList_toArray, false_implies, true_implies, implies_true, forall_const, not_false_eq_true, not_true_eq_false, and_false, false_and]
  simp only [hK9]
  clear hK9 K9v
  refine J_callSW hW dL_law_596 kw_92 (by omega) (Nat.le_of_ble_eq_true rfl) ⟨by omega, by omega⟩ rfl (Nat.le_of_ble_eq_true rfl) rfl (fun q ν h => by obtain ⟨h1, M3, h2, -⟩ := h; exact ⟨⟨_, h1⟩, by rw [h2]; rfl⟩) (fun v ν hv => ?_)
  obtain ⟨h1, M3, rfl, hQ⟩ := hv
  cases h1
  simp only [Option.toList, List.cons_append, List.nil_append]
  refine J_rnG GL_fa (by omega) (by omega) (by omega) 6 _ _ _ _ (fun K9v hK9 => ?_)
  simp (maxSteps := 4000000) only [↓(X_istore (pc' := 601) dL_law_599 rfl), ↓sto_5, ↓(X_aload_n (k := 2) (pc' := 602) dL_law_601 rfl rfl), ↓gR_2, ↓(X_aload_n (k := 0) (pc' := 603) dL_law_602 rfl rfl), ↓gR_0, ↓(X_iload (pc' := 605) dL_law_603 rfl), ↓gI_4, ↓(X_iconst (pc' := 606) dL_law_605 rfl), ↓(X_iadd (pc' := 607) dL_law_606 rfl), rn_0, gV_s, ↓pI_c, ↓pII_c, ↓pL_c, ↓pLL_c, ↓pR_c, ↓pRI_c, ↓pRII_c, ↓pRIL_c, ↓pRR_c, ↓pV_c, ↓pVV_c, ↓gI_c, ↓gL_c, ↓gR_c, f2_0, f2_1, nk_n, nk_i, nk_r, ↓reduceIte, r32, r64, Nat.reduceAdd, Nat.reduceSub, Nat.reduceEqDiff, Nat.reduceLT, Nat.reduceLeDiff, Nat.reduceBEq, Int.reduceAdd, Int.reduceSub, Int.reduceMul, Int.reduceNeg, Int.reduceToNat, Int.reduceLE, Int.reduceLT, Int.reduceEq, Int.reduceNatCast', Int.reduceNatCast, Int.natCast_zero, Int.toNat_natCast, Int.toNat_zero, Int.toNat_one, List.length_cons, List.length_nil, true_and, and_true, and_self, true_or, or_true, false_or, or_false, Bool.not_true, Bool.not_false, Nat.lt_add_one, Nat.zero_lt_succ, N0, swL_n, swL_c, List.toList_toArray, false_implies, true_implies, implies_true, forall_const, not_false_eq_true, not_true_eq_false, and_false, false_and, hi]
  simp only [hK9]
  clear hK9 K9v
  refine J_sldE (k := i + 1) dL_law_607 (by omega) (by omega) hL (by simp only [N0]; omega) ?_
  rw [e1]
  refine J_callV (ci := 9) GL_fa (hMd M3 hQ) AF_calm dL_law_608 k_10_94 (by omega) (Nat.le_of_ble_eq_true rfl) ⟨by omega, by omega⟩ rfl (by decide +kernel) rfl (by decide) (by simp only [N0]; omega) (by simp) rfl (fun v ν hv => ?_)
  obtain ⟨v6, M4, n9, T9, h1, rfl, hth, h0, hI⟩ := hv
  cases h1
  simp only [Option.toList, List.cons_append, List.nil_append]
  exact tl_pass (by omega) (by omega) hc4 hth h0 (J_wd (by omega) (by omega) (K M4 n9 T9 _ _ hI))

set_option maxRecDepth 100000 in
set_option maxHeartbeats 4000000 in
theorem hw_state {Q : (Nat → Nat → Int) → Prop} {code dW dM : Nat} {z1 : Int} (e1 : (xs (i + 1)).toInt = z1) (hi : i + 5 < L) (hL : L ≤ 3072) (hc : ca + 3 ≤ 601024) (hs : sl + 18 ≤ 7293034) (hdW : dW ≤ 1000) (hdM : dM ≤ 1000) (hc4 : code ≤ 3) (hW : OkW l D cy dW 1 6 yL_state cL_state 4 (some .int) [(0, 9, 12, 28)] [.inr (.inr (some 0)), .inl (z1), .inr (.inr (some 467))] (N0, R0, M) (fun o ν => o = .inl (some (.inl (code : Int))) ∧ ∃ M3 : Nat → Nat → Int, ν = (N0, R0, M3) ∧ Q M3)) (hMd : ∀ M3, Q M3 → Ok l D cy dM 0 0 yX9_state cX9_state 2 (some (.int)) [.inr (.inr (some 447)), .inl (z1)] (N0, R0, M3) (AF code)) (K : NX l D cy b L xs i ca sl) : J l D cy (GL l D cy b L xs) 644 [some (.inr (.inr (some 1000000))), some (.inr (.inr (some 0))), some (.inr (.inr (some 447))), some (.inr (.inr (some 467))), some (.inl (i : Int)), w5, w6] [] (N0, R0, M) ca sl := by
  refine J_rnG GL_fa (by omega) (by omega) (by omega) 5 _ _ _ _ (fun K9v hK9 => ?_)
  simp (maxSteps := 4000000) only [↓(X_aload_n (k := 1) (pc' := 645) dL_law_644 rfl rfl), ↓gR_1, ↓(X_aload_n (k := 0) (pc' := 646) dL_law_645 rfl rfl), ↓gR_0, ↓(X_iload (pc' := 648) dL_law_646 rfl), ↓gI_4, ↓(X_iconst (pc' := 649) dL_law_648 rfl), ↓(X_iadd (pc' := 650) dL_law_649 rfl), rn_0, gV_s, ↓pI_c, ↓pII_c, ↓pL_c, ↓pLL_c, ↓pR_c, ↓pRI_c, ↓pRII_c, ↓pRIL_c, ↓pRR_c, ↓pV_c, ↓pVV_c, ↓gI_c, ↓gL_c, ↓gR_c, f2_0, f2_1, nk_n, nk_i, nk_r, ↓reduceIte, r32, r64, Nat.reduceAdd, Nat.reduceSub, Nat.reduceEqDiff, Nat.reduceLT, Nat.reduceLeDiff, Nat.reduceBEq, Int.reduceAdd, Int.reduceSub, Int.reduceMul, Int.reduceNeg, Int.reduceToNat, Int.reduceLE, Int.reduceLT, Int.reduceEq, Int.reduceNatCast', Int.reduceNatCast, Int.natCast_zero, Int.toNat_natCast, Int.toNat_zero, Int.toNat_one, List.length_cons, List.length_nil, true_and, and_true, and_self, true_or, or_true, false_or, or_false, Bool.not_true, Bool.not_false, Nat.lt_add_one, Nat.zero_lt_succ, N0, swL_n, swL_c, List.toList_toArray, false_implies, true_implies, implies_true, forall_const, not_false_eq_true, not_true_eq_false, and_false, false_and, hi]
  simp only [hK9]
  clear hK9 K9v
  refine J_sldE (k := i + 1) dL_law_650 (by omega) (by omega) hL (by simp only [N0]; omega) ?_
  rw [e1]
  refine J_rnG GL_fa (by omega) (by omega) (by omega) 1 _ _ _ _ (fun K9v hK9 => ?_)
  simp (maxSteps := 4000000) only [↓(X_aload_n (k := 3) (pc' := 652) dL_law_651 rfl rfl), ↓gR_3, rn_0, gV_s, ↓pI_c, ↓pII_c, ↓pL_c, ↓pLL_c, ↓pR_c, ↓pRI_c, ↓pRII_c, ↓pRIL_c, ↓pRR_c, ↓pV_c, ↓pVV_c, ↓gI_c, ↓gL_c, ↓gR_c, f2_0, f2_1, nk_n, nk_i, nk_r, ↓reduceIte, r32, r64, Nat.reduceAdd, Nat.reduceSub, Nat.reduceEqDiff, Nat.reduceLT, Nat.reduceLeDiff, Nat.reduceBEq, Int.reduceAdd, Int.reduceSub, Int.reduceMul, Int.reduceNeg, Int.reduceToNat, Int.reduceLE, Int.reduceLT, Int.reduceEq, Int.reduceNatCast', Int.reduceNatCast, Int.natCast_zero, Int.toNat_natCast, Int.toNat_zero, Int.toNat_one, List.length_cons, List.length_nil, true_and, and_true, and_self, true_or, or_true, false_or, or_false, Bool.not_true, Bool.not_false, Nat.lt_add_one, Nat.zero_lt_succ, N0, swL_n, swL_c, List.toList_toArray, false_implies, true_implies, implies_true, forall_const, not_false_eq_true, not_true_eq_false, and_false, false_and]
  simp only [hK9]
  clear hK9 K9v
  refine J_callSW hW dL_law_652 kw_95 (by omega) (Nat.le_of_ble_eq_true rfl) ⟨by omega, by omega⟩ rfl (Nat.le_of_ble_eq_true rfl) rfl (fun q ν h => by obtain ⟨h1, M3, h2, -⟩ := h; exact ⟨⟨_, h1⟩, by rw [h2]; rfl⟩) (fun v ν hv => ?_)
  obtain ⟨h1, M3, rfl, hQ⟩ := hv
  cases h1
  simp only [Option.toList, List.cons_append, List.nil_append]
  refine J_rnG GL_fa (by omega) (by omega) (by omega) 6 _ _ _ _ (fun K9v hK9 => ?_)
  simp (maxSteps := 4000000) only [↓(X_istore (pc' := 657) dL_law_655 rfl), ↓sto_5, ↓(X_aload_n (k := 2) (pc' := 658) dL_law_657 rfl rfl), ↓gR_2, ↓(X_aload_n (k := 0) (pc' := 659) dL_law_658 rfl rfl), ↓gR_0, ↓(X_iload (pc' := 661) dL_law_659 rfl), ↓gI_4, ↓(X_iconst (pc' := 662) dL_law_661 rfl), ↓(X_iadd (pc' := 663) dL_law_662 rfl), rn_0, gV_s, ↓pI_c, ↓pII_c, ↓pL_c, ↓pLL_c, ↓pR_c, ↓pRI_c, ↓pRII_c, ↓pRIL_c, ↓pRR_c, ↓pV_c, ↓pVV_c, ↓gI_c, ↓gL_c, ↓gR_c, f2_0, f2_1, nk_n, nk_i, nk_r, ↓reduceIte, r32, r64, Nat.reduceAdd, Nat.reduceSub, Nat.reduceEqDiff, Nat.reduceLT, Nat.reduceLeDiff, Nat.reduceBEq, Int.reduceAdd, Int.reduceSub, Int.reduceMul, Int.reduceNeg, Int.reduceToNat, Int.reduceLE, Int.reduceLT, Int.reduceEq, Int.reduceNatCast', Int.reduceNatCast, Int.natCast_zero, Int.toNat_natCast, Int.toNat_zero, Int.toNat_one, List.length_cons, List.length_nil, true_and, and_true, and_self, true_or, or_true, false_or, or_false, Bool.not_true, Bool.not_false, Nat.lt_add_one, Nat.zero_lt_succ, N0, swL_n, swL_c, List.toList_toArray, false_implies, true_implies, implies_true, forall_const, not_false_eq_true, not_true_eq_false, and_false, false_and, hi]
  simp only [hK9]
  clear hK9 K9v
  refine J_sldE (k := i + 1) dL_law_663 (by omega) (by omega) hL (by simp only [N0]; omega) ?_
  rw [e1]
  refine J_callV (ci := 9) GL_fa (hMd M3 hQ) AF_calm dL_law_664 k_10_97 (by omega) (Nat.le_of_ble_eq_true rfl) ⟨by omega, by omega⟩ rfl (by decide +kernel) rfl (by decide) (by simp only [N0]; omega) (by simp) rfl (fun v ν hv => ?_)
  obtain ⟨v6, M4, n9, T9, h1, rfl, hth, h0, hI⟩ := hv
  cases h1
  simp only [Option.toList, List.cons_append, List.nil_append]
  exact tl_state (by omega) (by omega) hc4 hth h0 (J_wd (by omega) (by omega) (K M4 n9 T9 _ _ hI))

set_option maxRecDepth 100000 in
set_option maxHeartbeats 4000000 in
theorem hw_inTin {Q : (Nat → Nat → Int) → Prop} {code dW dM : Nat} {z1 z2 : Int} (e1 : (xs (i + 1)).toInt = z1) (e2 : (xs (i + 2)).toInt = z2) (hi : i + 5 < L) (hL : L ≤ 3072) (hc : ca + 3 ≤ 601024) (hs : sl + 18 ≤ 7293034) (hdW : dW ≤ 1000) (hdM : dM ≤ 1000) (hc4 : code ≤ 3) (hW : OkW l D cy dW 2 12 yL_inTin cL_inTin 5 (some .int) [(0, 10, 13, 28), (0, 10, 17, 13)] [.inr (.inr (some 0)), .inl (z1), .inl (z2), .inr (.inr (some 467))] (N0, R0, M) (fun o ν => o = .inl (some (.inl (code : Int))) ∧ ∃ M3 : Nat → Nat → Int, ν = (N0, R0, M3) ∧ Q M3)) (hMd : ∀ M3, Q M3 → Ok l D cy dM 0 0 yX9_inTin cX9_inTin 3 (some (.int)) [.inr (.inr (some 447)), .inl (z1), .inl (z2)] (N0, R0, M3) (AF code)) (K : NX l D cy b L xs i ca sl) : J l D cy (GL l D cy b L xs) 713 [some (.inr (.inr (some 1000000))), some (.inr (.inr (some 0))), some (.inr (.inr (some 447))), some (.inr (.inr (some 467))), some (.inl (i : Int)), w5, w6] [] (N0, R0, M) ca sl := by
  refine J_rnG GL_fa (by omega) (by omega) (by omega) 5 _ _ _ _ (fun K9v hK9 => ?_)
  simp (maxSteps := 4000000) only [↓(X_aload_n (k := 1) (pc' := 714) dL_law_713 rfl rfl), ↓gR_1, ↓(X_aload_n (k := 0) (pc' := 715) dL_law_714 rfl rfl), ↓gR_0, ↓(X_iload (pc' := 717) dL_law_715 rfl), ↓gI_4, ↓(X_iconst (pc' := 718) dL_law_717 rfl), ↓(X_iadd (pc' := 719) dL_law_718 rfl), rn_0, gV_s, ↓pI_c, ↓pII_c, ↓pL_c, ↓pLL_c, ↓pR_c, ↓pRI_c, ↓pRII_c, ↓pRIL_c, ↓pRR_c, ↓pV_c, ↓pVV_c, ↓gI_c, ↓gL_c, ↓gR_c, f2_0, f2_1, nk_n, nk_i, nk_r, ↓reduceIte, r32, r64, Nat.reduceAdd, Nat.reduceSub, Nat.reduceEqDiff, Nat.reduceLT, Nat.reduceLeDiff, Nat.reduceBEq, Int.reduceAdd, Int.reduceSub, Int.reduceMul, Int.reduceNeg, Int.reduceToNat, Int.reduceLE, Int.reduceLT, Int.reduceEq, Int.reduceNatCast', Int.reduceNatCast, Int.natCast_zero, Int.toNat_natCast, Int.toNat_zero, Int.toNat_one, List.length_cons, List.length_nil, true_and, and_true, and_self, true_or, or_true, false_or, or_false, Bool.not_true, Bool.not_false, Nat.lt_add_one, Nat.zero_lt_succ, N0, swL_n, swL_c, List.toList_toArray, false_implies, true_implies, implies_true, forall_const, not_false_eq_true, not_true_eq_false, and_false, false_and, hi]
  simp only [hK9]
  clear hK9 K9v
  refine J_sldE (k := i + 1) dL_law_719 (by omega) (by omega) hL (by simp only [N0]; omega) ?_
  rw [e1]
  refine J_rnG GL_fa (by omega) (by omega) (by omega) 4 _ _ _ _ (fun K9v hK9 => ?_)
  simp (maxSteps := 4000000) only [↓(X_aload_n (k := 0) (pc' := 721) dL_law_720 rfl rfl), ↓gR_0, ↓(X_iload (pc' := 723) dL_law_721 rfl), ↓gI_4, ↓(X_iconst (pc' := 724) dL_law_723 rfl), ↓(X_iadd (pc' := 725) dL_law_724 rfl), rn_0, gV_s, ↓pI_c, ↓pII_c, ↓pL_c, ↓pLL_c, ↓pR_c, ↓pRI_c, ↓pRII_c, ↓pRIL_c, ↓pRR_c, ↓pV_c, ↓pVV_c, ↓gI_c, ↓gL_c, ↓gR_c, f2_0, f2_1, nk_n, nk_i, nk_r, ↓reduceIte, r32, r64, Nat.reduceAdd, Nat.reduceSub, Nat.reduceEqDiff, Nat.reduceLT, Nat.reduceLeDiff, Nat.reduceBEq, Int.reduceAdd, Int.reduceSub, Int.reduceMul, Int.reduceNeg, Int.reduceToNat, Int.reduceLE, Int.reduceLT, Int.reduceEq, Int.reduceNatCast', Int.reduceNatCast, Int.natCast_zero, Int.toNat_natCast, Int.toNat_zero, Int.toNat_one, List.length_cons, List.length_nil, true_and, and_true, and_self, true_or, or_true, false_or, or_false, Bool.not_true, Bool.not_false, Nat.lt_add_one, Nat.zero_lt_succ, N0, swL_n, swL_c, List.toList_toArray, false_implies, true_implies, implies_true, forall_const, not_false_eq_true, not_true_eq_false, and_false, false_and, hi]
  simp only [hK9]
  clear hK9 K9v
  refine J_sldE (k := i + 2) dL_law_725 (by omega) (by omega) hL (by simp only [N0]; omega) ?_
  rw [e2]
  refine J_rnG GL_fa (by omega) (by omega) (by omega) 1 _ _ _ _ (fun K9v hK9 => ?_)
  simp (maxSteps := 4000000) only [↓(X_aload_n (k := 3) (pc' := 727) dL_law_726 rfl rfl), ↓gR_3, rn_0, gV_s, ↓pI_c, ↓pII_c, ↓pL_c, ↓pLL_c, ↓pR_c, ↓pRI_c, ↓pRII_c, ↓pRIL_c, ↓pRR_c, ↓pV_c, ↓pVV_c, ↓gI_c, ↓gL_c, ↓gR_c, f2_0, f2_1, nk_n, nk_i, nk_r, ↓reduceIte, r32, r64, Nat.reduceAdd, Nat.reduceSub, Nat.reduceEqDiff, Nat.reduceLT, Nat.reduceLeDiff, Nat.reduceBEq, Int.reduceAdd, Int.reduceSub, Int.reduceMul, Int.reduceNeg, Int.reduceToNat, Int.reduceLE, Int.reduceLT, Int.reduceEq, Int.reduceNatCast', Int.reduceNatCast, Int.natCast_zero, Int.toNat_natCast, Int.toNat_zero, Int.toNat_one, List.length_cons, List.length_nil, true_and, and_true, and_self, true_or, or_true, false_or, or_false, Bool.not_true, Bool.not_false, Nat.lt_add_one, Nat.zero_lt_succ, N0, swL_n, swL_c, List.toList_toArray, false_implies, true_implies, implies_true, forall_const, not_false_eq_true, not_true_eq_false, and_false, false_and]
  simp only [hK9]
  clear hK9 K9v
  refine J_callSW hW dL_law_727 kw_102 (by omega) (Nat.le_of_ble_eq_true rfl) ⟨by omega, by omega⟩ rfl (Nat.le_of_ble_eq_true rfl) rfl (fun q ν h => by obtain ⟨h1, M3, h2, -⟩ := h; exact ⟨⟨_, h1⟩, by rw [h2]; rfl⟩) (fun v ν hv => ?_)
  obtain ⟨h1, M3, rfl, hQ⟩ := hv
  cases h1
  simp only [Option.toList, List.cons_append, List.nil_append]
  refine J_rnG GL_fa (by omega) (by omega) (by omega) 6 _ _ _ _ (fun K9v hK9 => ?_)
  simp (maxSteps := 4000000) only [↓(X_istore (pc' := 732) dL_law_730 rfl), ↓sto_5, ↓(X_aload_n (k := 2) (pc' := 733) dL_law_732 rfl rfl), ↓gR_2, ↓(X_aload_n (k := 0) (pc' := 734) dL_law_733 rfl rfl), ↓gR_0, ↓(X_iload (pc' := 736) dL_law_734 rfl), ↓gI_4, ↓(X_iconst (pc' := 737) dL_law_736 rfl), ↓(X_iadd (pc' := 738) dL_law_737 rfl), rn_0, gV_s, ↓pI_c, ↓pII_c, ↓pL_c, ↓pLL_c, ↓pR_c, ↓pRI_c, ↓pRII_c, ↓pRIL_c, ↓pRR_c, ↓pV_c, ↓pVV_c, ↓gI_c, ↓gL_c, ↓gR_c, f2_0, f2_1, nk_n, nk_i, nk_r, ↓reduceIte, r32, r64, Nat.reduceAdd, Nat.reduceSub, Nat.reduceEqDiff, Nat.reduceLT, Nat.reduceLeDiff, Nat.reduceBEq, Int.reduceAdd, Int.reduceSub, Int.reduceMul, Int.reduceNeg, Int.reduceToNat, Int.reduceLE, Int.reduceLT, Int.reduceEq, Int.reduceNatCast', Int.reduceNatCast, Int.natCast_zero, Int.toNat_natCast, Int.toNat_zero, Int.toNat_one, List.length_cons, List.length_nil, true_and, and_true, and_self, true_or, or_true, false_or, or_false, Bool.not_true, Bool.not_false, Nat.lt_add_one, Nat.zero_lt_succ, N0, swL_n, swL_c, List.toList_toArray, false_implies, true_implies, implies_true, forall_const, not_false_eq_true, not_true_eq_false, and_false, false_and, hi]
  simp only [hK9]
  clear hK9 K9v
  refine J_sldE (k := i + 1) dL_law_738 (by omega) (by omega) hL (by simp only [N0]; omega) ?_
  rw [e1]
  refine J_rnG GL_fa (by omega) (by omega) (by omega) 4 _ _ _ _ (fun K9v hK9 => ?_)
  simp (maxSteps := 4000000) only [↓(X_aload_n (k := 0) (pc' := 740) dL_law_739 rfl rfl), ↓gR_0, ↓(X_iload (pc' := 742) dL_law_740 rfl), ↓gI_4, ↓(X_iconst (pc' := 743) dL_law_742 rfl), ↓(X_iadd (pc' := 744) dL_law_743 rfl), rn_0, gV_s, ↓pI_c, ↓pII_c, ↓pL_c, ↓pLL_c, ↓pR_c, ↓pRI_c, ↓pRII_c, ↓pRIL_c, ↓pRR_c, ↓pV_c, ↓pVV_c, ↓gI_c, ↓gL_c, ↓gR_c, f2_0, f2_1, nk_n, nk_i, nk_r, ↓reduceIte, r32, r64, Nat.reduceAdd, Nat.reduceSub, Nat.reduceEqDiff, Nat.reduceLT, Nat.reduceLeDiff, Nat.reduceBEq, Int.reduceAdd, Int.reduceSub, Int.reduceMul, Int.reduceNeg, Int.reduceToNat, Int.reduceLE, Int.reduceLT, Int.reduceEq, Int.reduceNatCast', Int.reduceNatCast, Int.natCast_zero, Int.toNat_natCast, Int.toNat_zero, Int.toNat_one, List.length_cons, List.length_nil, true_and, and_true, and_self, true_or, or_true, false_or, or_false, Bool.not_true, Bool.not_false, Nat.lt_add_one, Nat.zero_lt_succ, N0, swL_n, swL_c, List.toList_toArray, false_implies, true_implies, implies_true, forall_const, not_false_eq_true, not_true_eq_false, and_false, false_and, hi]
  simp only [hK9]
  clear hK9 K9v
  refine J_sldE (k := i + 2) dL_law_744 (by omega) (by omega) hL (by simp only [N0]; omega) ?_
  rw [e2]
  refine J_callV (ci := 9) GL_fa (hMd M3 hQ) AF_calm dL_law_745 k_10_104 (by omega) (Nat.le_of_ble_eq_true rfl) ⟨by omega, by omega⟩ rfl (by decide +kernel) rfl (by decide) (by simp only [N0]; omega) (by simp) rfl (fun v ν hv => ?_)
  obtain ⟨v6, M4, n9, T9, h1, rfl, hth, h0, hI⟩ := hv
  cases h1
  simp only [Option.toList, List.cons_append, List.nil_append]
  exact tl_inTin (by omega) (by omega) hc4 hth h0 (J_wd (by omega) (by omega) (K M4 n9 T9 _ _ hI))

set_option maxRecDepth 100000 in
set_option maxHeartbeats 4000000 in
theorem hw_shade {Q : (Nat → Nat → Int) → Prop} {code dW dM : Nat} {z1 z2 : Int} (e1 : (xs (i + 1)).toInt = z1) (e2 : (xs (i + 2)).toInt = z2) (hi : i + 5 < L) (hL : L ≤ 3072) (hc : ca + 3 ≤ 601024) (hs : sl + 18 ≤ 7293034) (hdW : dW ≤ 1000) (hdM : dM ≤ 1000) (hc4 : code ≤ 3) (hW : OkW l D cy dW 2 12 yL_shade cL_shade 5 (some .int) [(0, 10, 13, 28), (0, 10, 17, 13), (0, 10, 21, 15)] [.inr (.inr (some 0)), .inl (z1), .inl (z2), .inr (.inr (some 467))] (N0, R0, M) (fun o ν => o = .inl (some (.inl (code : Int))) ∧ ∃ M3 : Nat → Nat → Int, ν = (N0, R0, M3) ∧ Q M3)) (hMd : ∀ M3, Q M3 → Ok l D cy dM 0 0 yX9_shade cX9_shade 3 (some (.int)) [.inr (.inr (some 447)), .inl (z1), .inl (z2)] (N0, R0, M3) (AF code)) (K : NX l D cy b L xs i ca sl) : J l D cy (GL l D cy b L xs) 781 [some (.inr (.inr (some 1000000))), some (.inr (.inr (some 0))), some (.inr (.inr (some 447))), some (.inr (.inr (some 467))), some (.inl (i : Int)), w5, w6] [] (N0, R0, M) ca sl := by
  refine J_rnG GL_fa (by omega) (by omega) (by omega) 5 _ _ _ _ (fun K9v hK9 => ?_)
  simp (maxSteps := 4000000) only [↓(X_aload_n (k := 1) (pc' := 782) dL_law_781 rfl rfl), ↓gR_1, ↓(X_aload_n (k := 0) (pc' := 783) dL_law_782 rfl rfl), ↓gR_0, ↓(X_iload (pc' := 785) dL_law_783 rfl), ↓gI_4, ↓(X_iconst (pc' := 786) dL_law_785 rfl), ↓(X_iadd (pc' := 787) dL_law_786 rfl), rn_0, gV_s, ↓pI_c, ↓pII_c, ↓pL_c, ↓pLL_c, ↓pR_c, ↓pRI_c, ↓pRII_c, ↓pRIL_c, ↓pRR_c, ↓pV_c, ↓pVV_c, ↓gI_c, ↓gL_c, ↓gR_c, f2_0, f2_1, nk_n, nk_i, nk_r, ↓reduceIte, r32, r64, Nat.reduceAdd, Nat.reduceSub, Nat.reduceEqDiff, Nat.reduceLT, Nat.reduceLeDiff, Nat.reduceBEq, Int.reduceAdd, Int.reduceSub, Int.reduceMul, Int.reduceNeg, Int.reduceToNat, Int.reduceLE, Int.reduceLT, Int.reduceEq, Int.reduceNatCast', Int.reduceNatCast, Int.natCast_zero, Int.toNat_natCast, Int.toNat_zero, Int.toNat_one, List.length_cons, List.length_nil, true_and, and_true, and_self, true_or, or_true, false_or, or_false, Bool.not_true, Bool.not_false, Nat.lt_add_one, Nat.zero_lt_succ, N0, swL_n, swL_c, List.toList_toArray, false_implies, true_implies, implies_true, forall_const, not_false_eq_true, not_true_eq_false, and_false, false_and, hi]
  simp only [hK9]
  clear hK9 K9v
  refine J_sldE (k := i + 1) dL_law_787 (by omega) (by omega) hL (by simp only [N0]; omega) ?_
  rw [e1]
  refine J_rnG GL_fa (by omega) (by omega) (by omega) 4 _ _ _ _ (fun K9v hK9 => ?_)
  simp (maxSteps := 4000000) only [↓(X_aload_n (k := 0) (pc' := 789) dL_law_788 rfl rfl), ↓gR_0, ↓(X_iload (pc' := 791) dL_law_789 rfl), ↓gI_4, ↓(X_iconst (pc' := 792) dL_law_791 rfl), ↓(X_iadd (pc' := 793) dL_law_792 rfl), rn_0, gV_s, ↓pI_c, ↓pII_c, ↓pL_c, ↓pLL_c, ↓pR_c, ↓pRI_c, ↓pRII_c, ↓pRIL_c, ↓pRR_c, ↓pV_c, ↓pVV_c, ↓gI_c, ↓gL_c, ↓gR_c, f2_0, f2_1, nk_n, nk_i, nk_r, ↓reduceIte, r32, r64, Nat.reduceAdd, Nat.reduceSub, Nat.reduceEqDiff, Nat.reduceLT, Nat.reduceLeDiff, Nat.reduceBEq, Int.reduceAdd, Int.reduceSub, Int.reduceMul, Int.reduceNeg, Int.reduceToNat, Int.reduceLE, Int.reduceLT, Int.reduceEq, Int.reduceNatCast', Int.reduceNatCast, Int.natCast_zero, Int.toNat_natCast, Int.toNat_zero, Int.toNat_one, List.length_cons, List.length_nil, true_and, and_true, and_self, true_or, or_true, false_or, or_false, Bool.not_true, Bool.not_false, Nat.lt_add_one, Nat.zero_lt_succ, N0, swL_n, swL_c, List.toList_toArray, false_implies, true_implies, implies_true, forall_const, not_false_eq_true, not_true_eq_false, and_false, false_and, hi]
  simp only [hK9]
  clear hK9 K9v
  refine J_sldE (k := i + 2) dL_law_793 (by omega) (by omega) hL (by simp only [N0]; omega) ?_
  rw [e2]
  refine J_rnG GL_fa (by omega) (by omega) (by omega) 1 _ _ _ _ (fun K9v hK9 => ?_)
  simp (maxSteps := 4000000) only [↓(X_aload_n (k := 3) (pc' := 795) dL_law_794 rfl rfl), ↓gR_3, rn_0, gV_s, ↓pI_c, ↓pII_c, ↓pL_c, ↓pLL_c, ↓pR_c, ↓pRI_c, ↓pRII_c, ↓pRIL_c, ↓pRR_c, ↓pV_c, ↓pVV_c, ↓gI_c, ↓gL_c, ↓gR_c, f2_0, f2_1, nk_n, nk_i, nk_r, ↓reduceIte, r32, r64, Nat.reduceAdd, Nat.reduceSub, Nat.reduceEqDiff, Nat.reduceLT, Nat.reduceLeDiff, Nat.reduceBEq, Int.reduceAdd, Int.reduceSub, Int.reduceMul, Int.reduceNeg, Int.reduceToNat, Int.reduceLE, Int.reduceLT, Int.reduceEq, Int.reduceNatCast', Int.reduceNatCast, Int.natCast_zero, Int.toNat_natCast, Int.toNat_zero, Int.toNat_one, List.length_cons, List.length_nil, true_and, and_true, and_self, true_or, or_true, false_or, or_false, Bool.not_true, Bool.not_false, Nat.lt_add_one, Nat.zero_lt_succ, N0, swL_n, swL_c, List.toList_toArray, false_implies, true_implies, implies_true, forall_const, not_false_eq_true, not_true_eq_false, and_false, false_and]
  simp only [hK9]
  clear hK9 K9v
  refine J_callSW hW dL_law_795 kw_105 (by omega) (Nat.le_of_ble_eq_true rfl) ⟨by omega, by omega⟩ rfl (Nat.le_of_ble_eq_true rfl) rfl (fun q ν h => by obtain ⟨h1, M3, h2, -⟩ := h; exact ⟨⟨_, h1⟩, by rw [h2]; rfl⟩) (fun v ν hv => ?_)
  obtain ⟨h1, M3, rfl, hQ⟩ := hv
  cases h1
  simp only [Option.toList, List.cons_append, List.nil_append]
  refine J_rnG GL_fa (by omega) (by omega) (by omega) 6 _ _ _ _ (fun K9v hK9 => ?_)
  simp (maxSteps := 4000000) only [↓(X_istore (pc' := 800) dL_law_798 rfl), ↓sto_5, ↓(X_aload_n (k := 2) (pc' := 801) dL_law_800 rfl rfl), ↓gR_2, ↓(X_aload_n (k := 0) (pc' := 802) dL_law_801 rfl rfl), ↓gR_0, ↓(X_iload (pc' := 804) dL_law_802 rfl), ↓gI_4, ↓(X_iconst (pc' := 805) dL_law_804 rfl), ↓(X_iadd (pc' := 806) dL_law_805 rfl), rn_0, gV_s, ↓pI_c, ↓pII_c, ↓pL_c, ↓pLL_c, ↓pR_c, ↓pRI_c, ↓pRII_c, ↓pRIL_c, ↓pRR_c, ↓pV_c, ↓pVV_c, ↓gI_c, ↓gL_c, ↓gR_c, f2_0, f2_1, nk_n, nk_i, nk_r, ↓reduceIte, r32, r64, Nat.reduceAdd, Nat.reduceSub, Nat.reduceEqDiff, Nat.reduceLT, Nat.reduceLeDiff, Nat.reduceBEq, Int.reduceAdd, Int.reduceSub, Int.reduceMul, Int.reduceNeg, Int.reduceToNat, Int.reduceLE, Int.reduceLT, Int.reduceEq, Int.reduceNatCast', Int.reduceNatCast, Int.natCast_zero, Int.toNat_natCast, Int.toNat_zero, Int.toNat_one, List.length_cons, List.length_nil, true_and, and_true, and_self, true_or, or_true, false_or, or_false, Bool.not_true, Bool.not_false, Nat.lt_add_one, Nat.zero_lt_succ, N0, swL_n, swL_c, List.toList_toArray, false_implies, true_implies, implies_true, forall_const, not_false_eq_true, not_true_eq_false, and_false, false_and, hi]
  simp only [hK9]
  clear hK9 K9v
  refine J_sldE (k := i + 1) dL_law_806 (by omega) (by omega) hL (by simp only [N0]; omega) ?_
  rw [e1]
  refine J_rnG GL_fa (by omega) (by omega) (by omega) 4 _ _ _ _ (fun K9v hK9 => ?_)
  simp (maxSteps := 4000000) only [↓(X_aload_n (k := 0) (pc' := 808) dL_law_807 rfl rfl), ↓gR_0, ↓(X_iload (pc' := 810) dL_law_808 rfl), ↓gI_4, ↓(X_iconst (pc' := 811) dL_law_810 rfl), ↓(X_iadd (pc' := 812) dL_law_811 rfl), rn_0, gV_s, ↓pI_c, ↓pII_c, ↓pL_c, ↓pLL_c, ↓pR_c, ↓pRI_c, ↓pRII_c, ↓pRIL_c, ↓pRR_c, ↓pV_c, ↓pVV_c, ↓gI_c, ↓gL_c, ↓gR_c, f2_0, f2_1, nk_n, nk_i, nk_r, ↓reduceIte, r32, r64, Nat.reduceAdd, Nat.reduceSub, Nat.reduceEqDiff, Nat.reduceLT, Nat.reduceLeDiff, Nat.reduceBEq, Int.reduceAdd, Int.reduceSub, Int.reduceMul, Int.reduceNeg, Int.reduceToNat, Int.reduceLE, Int.reduceLT, Int.reduceEq, Int.reduceNatCast', Int.reduceNatCast, Int.natCast_zero, Int.toNat_natCast, Int.toNat_zero, Int.toNat_one, List.length_cons, List.length_nil, true_and, and_true, and_self, true_or, or_true, false_or, or_false, Bool.not_true, Bool.not_false, Nat.lt_add_one, Nat.zero_lt_succ, N0, swL_n, swL_c, List.toList_toArray, false_implies, true_implies, implies_true, forall_const, not_false_eq_true, not_true_eq_false, and_false, false_and, hi]
  simp only [hK9]
  clear hK9 K9v
  refine J_sldE (k := i + 2) dL_law_812 (by omega) (by omega) hL (by simp only [N0]; omega) ?_
  rw [e2]
  refine J_callV (ci := 9) GL_fa (hMd M3 hQ) AF_calm dL_law_813 k_10_107 (by omega) (Nat.le_of_ble_eq_true rfl) ⟨by omega, by omega⟩ rfl (by decide +kernel) rfl (by decide) (by simp only [N0]; omega) (by simp) rfl (fun v ν hv => ?_)
  obtain ⟨v6, M4, n9, T9, h1, rfl, hth, h0, hI⟩ := hv
  cases h1
  simp only [Option.toList, List.cons_append, List.nil_append]
  exact tl_shade (by omega) (by omega) hc4 hth h0 (J_wd (by omega) (by omega) (K M4 n9 T9 _ _ hI))

set_option maxRecDepth 100000 in
set_option maxHeartbeats 4000000 in
theorem hw_where {Q : (Nat → Nat → Int) → Prop} {code dW dM : Nat} {z1 z2 : Int} (e1 : (xs (i + 1)).toInt = z1) (e2 : (xs (i + 2)).toInt = z2) (hi : i + 5 < L) (hL : L ≤ 3072) (hc : ca + 3 ≤ 601024) (hs : sl + 18 ≤ 7293034) (hdW : dW ≤ 1000) (hdM : dM ≤ 1000) (hc4 : code ≤ 3) (hW : OkW l D cy dW 1 6 yL_where cL_where 5 (some .int) [(0, 10, 13, 13)] [.inr (.inr (some 0)), .inl (z1), .inl (z2), .inr (.inr (some 467))] (N0, R0, M) (fun o ν => o = .inl (some (.inl (code : Int))) ∧ ∃ M3 : Nat → Nat → Int, ν = (N0, R0, M3) ∧ Q M3)) (hMd : ∀ M3, Q M3 → Ok l D cy dM 0 0 yX9_where cX9_where 5 (some (.int)) [.inr (.inr (some 447)), .inl (z1), .inl (z2)] (N0, R0, M3) (AF code)) (K : NX l D cy b L xs i ca sl) : J l D cy (GL l D cy b L xs) 849 [some (.inr (.inr (some 1000000))), some (.inr (.inr (some 0))), some (.inr (.inr (some 447))), some (.inr (.inr (some 467))), some (.inl (i : Int)), w5, w6] [] (N0, R0, M) ca sl := by
  refine J_rnG GL_fa (by omega) (by omega) (by omega) 5 _ _ _ _ (fun K9v hK9 => ?_)
  simp (maxSteps := 4000000) only [↓(X_aload_n (k := 1) (pc' := 850) dL_law_849 rfl rfl), ↓gR_1, ↓(X_aload_n (k := 0) (pc' := 851) dL_law_850 rfl rfl), ↓gR_0, ↓(X_iload (pc' := 853) dL_law_851 rfl), ↓gI_4, ↓(X_iconst (pc' := 854) dL_law_853 rfl), ↓(X_iadd (pc' := 855) dL_law_854 rfl), rn_0, gV_s, ↓pI_c, ↓pII_c, ↓pL_c, ↓pLL_c, ↓pR_c, ↓pRI_c, ↓pRII_c, ↓pRIL_c, ↓pRR_c, ↓pV_c, ↓pVV_c, ↓gI_c, ↓gL_c, ↓gR_c, f2_0, f2_1, nk_n, nk_i, nk_r, ↓reduceIte, r32, r64, Nat.reduceAdd, Nat.reduceSub, Nat.reduceEqDiff, Nat.reduceLT, Nat.reduceLeDiff, Nat.reduceBEq, Int.reduceAdd, Int.reduceSub, Int.reduceMul, Int.reduceNeg, Int.reduceToNat, Int.reduceLE, Int.reduceLT, Int.reduceEq, Int.reduceNatCast', Int.reduceNatCast, Int.natCast_zero, Int.toNat_natCast, Int.toNat_zero, Int.toNat_one, List.length_cons, List.length_nil, true_and, and_true, and_self, true_or, or_true, false_or, or_false, Bool.not_true, Bool.not_false, Nat.lt_add_one, Nat.zero_lt_succ, N0, swL_n, swL_c, List.toList_toArray, false_implies, true_implies, implies_true, forall_const, not_false_eq_true, not_true_eq_false, and_false, false_and, hi]
  simp only [hK9]
  clear hK9 K9v
  refine J_sldE (k := i + 1) dL_law_855 (by omega) (by omega) hL (by simp only [N0]; omega) ?_
  rw [e1]
  refine J_rnG GL_fa (by omega) (by omega) (by omega) 4 _ _ _ _ (fun K9v hK9 => ?_)
  simp (maxSteps := 4000000) only [↓(X_aload_n (k := 0) (pc' := 857) dL_law_856 rfl rfl), ↓gR_0, ↓(X_iload (pc' := 859) dL_law_857 rfl), ↓gI_4, ↓(X_iconst (pc' := 860) dL_law_859 rfl), ↓(X_iadd (pc' := 861) dL_law_860 rfl), rn_0, gV_s, ↓pI_c, ↓pII_c, ↓pL_c, ↓pLL_c, ↓pR_c, ↓pRI_c, ↓pRII_c, ↓pRIL_c, ↓pRR_c, ↓pV_c, ↓pVV_c, ↓gI_c, ↓gL_c, ↓gR_c, f2_0, f2_1, nk_n, nk_i, nk_r, ↓reduceIte, r32, r64, Nat.reduceAdd, Nat.reduceSub, Nat.reduceEqDiff, Nat.reduceLT, Nat.reduceLeDiff, Nat.reduceBEq, Int.reduceAdd, Int.reduceSub, Int.reduceMul, Int.reduceNeg, Int.reduceToNat, Int.reduceLE, Int.reduceLT, Int.reduceEq, Int.reduceNatCast', Int.reduceNatCast, Int.natCast_zero, Int.toNat_natCast, Int.toNat_zero, Int.toNat_one, List.length_cons, List.length_nil, true_and, and_true, and_self, true_or, or_true, false_or, or_false, Bool.not_true, Bool.not_false, Nat.lt_add_one, Nat.zero_lt_succ, N0, swL_n, swL_c, List.toList_toArray, false_implies, true_implies, implies_true, forall_const, not_false_eq_true, not_true_eq_false, and_false, false_and, hi]
  simp only [hK9]
  clear hK9 K9v
  refine J_sldE (k := i + 2) dL_law_861 (by omega) (by omega) hL (by simp only [N0]; omega) ?_
  rw [e2]
  refine J_rnG GL_fa (by omega) (by omega) (by omega) 1 _ _ _ _ (fun K9v hK9 => ?_)
  simp (maxSteps := 4000000) only [↓(X_aload_n (k := 3) (pc' := 863) dL_law_862 rfl rfl), ↓gR_3, rn_0, gV_s, ↓pI_c, ↓pII_c, ↓pL_c, ↓pLL_c, ↓pR_c, ↓pRI_c, ↓pRII_c, ↓pRIL_c, ↓pRR_c, ↓pV_c, ↓pVV_c, ↓gI_c, ↓gL_c, ↓gR_c, f2_0, f2_1, nk_n, nk_i, nk_r, ↓reduceIte, r32, r64, Nat.reduceAdd, Nat.reduceSub, Nat.reduceEqDiff, Nat.reduceLT, Nat.reduceLeDiff, Nat.reduceBEq, Int.reduceAdd, Int.reduceSub, Int.reduceMul, Int.reduceNeg, Int.reduceToNat, Int.reduceLE, Int.reduceLT, Int.reduceEq, Int.reduceNatCast', Int.reduceNatCast, Int.natCast_zero, Int.toNat_natCast, Int.toNat_zero, Int.toNat_one, List.length_cons, List.length_nil, true_and, and_true, and_self, true_or, or_true, false_or, or_false, Bool.not_true, Bool.not_false, Nat.lt_add_one, Nat.zero_lt_succ, N0, swL_n, swL_c, List.toList_toArray, false_implies, true_implies, implies_true, forall_const, not_false_eq_true, not_true_eq_false, and_false, false_and]
  simp only [hK9]
  clear hK9 K9v
  refine J_callSW hW dL_law_863 kw_108 (by omega) (Nat.le_of_ble_eq_true rfl) ⟨by omega, by omega⟩ rfl (Nat.le_of_ble_eq_true rfl) rfl (fun q ν h => by obtain ⟨h1, M3, h2, -⟩ := h; exact ⟨⟨_, h1⟩, by rw [h2]; rfl⟩) (fun v ν hv => ?_)
  obtain ⟨h1, M3, rfl, hQ⟩ := hv
  cases h1
  simp only [Option.toList, List.cons_append, List.nil_append]
  refine J_rnG GL_fa (by omega) (by omega) (by omega) 6 _ _ _ _ (fun K9v hK9 => ?_)
  simp (maxSteps := 4000000) only [↓(X_istore (pc' := 868) dL_law_866 rfl), ↓sto_5, ↓(X_aload_n (k := 2) (pc' := 869) dL_law_868 rfl rfl), ↓gR_2, ↓(X_aload_n (k := 0) (pc' := 870) dL_law_869 rfl rfl), ↓gR_0, ↓(X_iload (pc' := 872) dL_law_870 rfl), ↓gI_4, ↓(X_iconst (pc' := 873) dL_law_872 rfl), ↓(X_iadd (pc' := 874) dL_law_873 rfl), rn_0, gV_s, ↓pI_c, ↓pII_c, ↓pL_c, ↓pLL_c, ↓pR_c, ↓pRI_c, ↓pRII_c, ↓pRIL_c, ↓pRR_c, ↓pV_c, ↓pVV_c, ↓gI_c, ↓gL_c, ↓gR_c, f2_0, f2_1, nk_n, nk_i, nk_r, ↓reduceIte, r32, r64, Nat.reduceAdd, Nat.reduceSub, Nat.reduceEqDiff, Nat.reduceLT, Nat.reduceLeDiff, Nat.reduceBEq, Int.reduceAdd, Int.reduceSub, Int.reduceMul, Int.reduceNeg, Int.reduceToNat, Int.reduceLE, Int.reduceLT, Int.reduceEq, Int.reduceNatCast', Int.reduceNatCast, Int.natCast_zero, Int.toNat_natCast, Int.toNat_zero, Int.toNat_one, List.length_cons, List.length_nil, true_and, and_true, and_self, true_or, or_true, false_or, or_false, Bool.not_true, Bool.not_false, Nat.lt_add_one, Nat.zero_lt_succ, N0, swL_n, swL_c, List.toList_toArray, false_implies, true_implies, implies_true, forall_const, not_false_eq_true, not_true_eq_false, and_false, false_and, hi]
  simp only [hK9]
  clear hK9 K9v
  refine J_sldE (k := i + 1) dL_law_874 (by omega) (by omega) hL (by simp only [N0]; omega) ?_
  rw [e1]
  refine J_rnG GL_fa (by omega) (by omega) (by omega) 4 _ _ _ _ (fun K9v hK9 => ?_)
  simp (maxSteps := 4000000) only [↓(X_aload_n (k := 0) (pc' := 876) dL_law_875 rfl rfl), ↓gR_0, ↓(X_iload (pc' := 878) dL_law_876 rfl), ↓gI_4, ↓(X_iconst (pc' := 879) dL_law_878 rfl), ↓(X_iadd (pc' := 880) dL_law_879 rfl), rn_0, gV_s, ↓pI_c, ↓pII_c, ↓pL_c, ↓pLL_c, ↓pR_c, ↓pRI_c, ↓pRII_c, ↓pRIL_c, ↓pRR_c, ↓pV_c, ↓pVV_c, ↓gI_c, ↓gL_c, ↓gR_c, f2_0, f2_1, nk_n, nk_i, nk_r, ↓reduceIte, r32, r64, Nat.reduceAdd, Nat.reduceSub, Nat.reduceEqDiff, Nat.reduceLT, Nat.reduceLeDiff, Nat.reduceBEq, Int.reduceAdd, Int.reduceSub, Int.reduceMul, Int.reduceNeg, Int.reduceToNat, Int.reduceLE, Int.reduceLT, Int.reduceEq, Int.reduceNatCast', Int.reduceNatCast, Int.natCast_zero, Int.toNat_natCast, Int.toNat_zero, Int.toNat_one, List.length_cons, List.length_nil, true_and, and_true, and_self, true_or, or_true, false_or, or_false, Bool.not_true, Bool.not_false, Nat.lt_add_one, Nat.zero_lt_succ, N0, swL_n, swL_c, List.toList_toArray, false_implies, true_implies, implies_true, forall_const, not_false_eq_true, not_true_eq_false, and_false, false_and, hi]
  simp only [hK9]
  clear hK9 K9v
  refine J_sldE (k := i + 2) dL_law_880 (by omega) (by omega) hL (by simp only [N0]; omega) ?_
  rw [e2]
  refine J_callV (ci := 9) GL_fa (hMd M3 hQ) AF_calm dL_law_881 k_10_110 (by omega) (Nat.le_of_ble_eq_true rfl) ⟨by omega, by omega⟩ rfl (by decide +kernel) rfl (by decide) (by simp only [N0]; omega) (by simp) rfl (fun v ν hv => ?_)
  obtain ⟨v6, M4, n9, T9, h1, rfl, hth, h0, hI⟩ := hv
  cases h1
  simp only [Option.toList, List.cons_append, List.nil_append]
  exact tl_where (by omega) (by omega) hc4 hth h0 (J_wd (by omega) (by omega) (K M4 n9 T9 _ _ hI))

set_option maxRecDepth 100000 in
set_option maxHeartbeats 4000000 in
theorem hw_chipGap {Q : (Nat → Nat → Int) → Prop} {code dW dM : Nat} {z1 z2 : Int} (e1 : (xs (i + 1)).toInt = z1) (e2 : (xs (i + 2)).toInt = z2) (hi : i + 5 < L) (hL : L ≤ 3072) (hc : ca + 3 ≤ 601024) (hs : sl + 18 ≤ 7293034) (hdW : dW ≤ 1000) (hdM : dM ≤ 1000) (hc4 : code ≤ 3) (hW : OkW l D cy dW 3 18 yL_chipGap cL_chipGap 5 (some .int) [(0, 10, 13, 28), (0, 10, 17, 15)] [.inr (.inr (some 0)), .inl (z1), .inl (z2), .inr (.inr (some 467))] (N0, R0, M) (fun o ν => o = .inl (some (.inl (code : Int))) ∧ ∃ M3 : Nat → Nat → Int, ν = (N0, R0, M3) ∧ Q M3)) (hMd : ∀ M3, Q M3 → Ok l D cy dM 0 0 yX9_chipGap cX9_chipGap 6 (some (.int)) [.inr (.inr (some 447)), .inl (z1), .inl (z2)] (N0, R0, M3) (AF code)) (K : NX l D cy b L xs i ca sl) : J l D cy (GL l D cy b L xs) 1000 [some (.inr (.inr (some 1000000))), some (.inr (.inr (some 0))), some (.inr (.inr (some 447))), some (.inr (.inr (some 467))), some (.inl (i : Int)), w5, w6] [] (N0, R0, M) ca sl := by
  refine J_rnG GL_fa (by omega) (by omega) (by omega) 5 _ _ _ _ (fun K9v hK9 => ?_)
  simp (maxSteps := 4000000) only [↓(X_aload_n (k := 1) (pc' := 1001) dL_law_1000 rfl rfl), ↓gR_1, ↓(X_aload_n (k := 0) (pc' := 1002) dL_law_1001 rfl rfl), ↓gR_0, ↓(X_iload (pc' := 1004) dL_law_1002 rfl), ↓gI_4, ↓(X_iconst (pc' := 1005) dL_law_1004 rfl), ↓(X_iadd (pc' := 1006) dL_law_1005 rfl), rn_0, gV_s, ↓pI_c, ↓pII_c, ↓pL_c, ↓pLL_c, ↓pR_c, ↓pRI_c, ↓pRII_c, ↓pRIL_c, ↓pRR_c, ↓pV_c, ↓pVV_c, ↓gI_c, ↓gL_c, ↓gR_c, f2_0, f2_1, nk_n, nk_i, nk_r, ↓reduceIte, r32, r64, Nat.reduceAdd, Nat.reduceSub, Nat.reduceEqDiff, Nat.reduceLT, Nat.reduceLeDiff, Nat.reduceBEq, Int.reduceAdd, Int.reduceSub, Int.reduceMul, Int.reduceNeg, Int.reduceToNat, Int.reduceLE, Int.reduceLT, Int.reduceEq, Int.reduceNatCast', Int.reduceNatCast, Int.natCast_zero, Int.toNat_natCast, Int.toNat_zero, Int.toNat_one, List.length_cons, List.length_nil, true_and, and_true, and_self, true_or, or_true, false_or, or_false, Bool.not_true, Bool.not_false, Nat.lt_add_one, Nat.zero_lt_succ, N0, swL_n, swL_c, List.toList_toArray, false_implies, true_implies, implies_true, forall_const, not_false_eq_true, not_true_eq_false, and_false, false_and, hi]
  simp only [hK9]
  clear hK9 K9v
  refine J_sldE (k := i + 1) dL_law_1006 (by omega) (by omega) hL (by simp only [N0]; omega) ?_
  rw [e1]
  refine J_rnG GL_fa (by omega) (by omega) (by omega) 4 _ _ _ _ (fun K9v hK9 => ?_)
  simp (maxSteps := 4000000) only [↓(X_aload_n (k := 0) (pc' := 1008) dL_law_1007 rfl rfl), ↓gR_0, ↓(X_iload (pc' := 1010) dL_law_1008 rfl), ↓gI_4, ↓(X_iconst (pc' := 1011) dL_law_1010 rfl), ↓(X_iadd (pc' := 1012) dL_law_1011 rfl), rn_0, gV_s, ↓pI_c, ↓pII_c, ↓pL_c, ↓pLL_c, ↓pR_c, ↓pRI_c, ↓pRII_c, ↓pRIL_c, ↓pRR_c, ↓pV_c, ↓pVV_c, ↓gI_c, ↓gL_c, ↓gR_c, f2_0, f2_1, nk_n, nk_i, nk_r, ↓reduceIte, r32, r64, Nat.reduceAdd, Nat.reduceSub, Nat.reduceEqDiff, Nat.reduceLT, Nat.reduceLeDiff, Nat.reduceBEq, Int.reduceAdd, Int.reduceSub, Int.reduceMul, Int.reduceNeg, Int.reduceToNat, Int.reduceLE, Int.reduceLT, Int.reduceEq, Int.reduceNatCast', Int.reduceNatCast, Int.natCast_zero, Int.toNat_natCast, Int.toNat_zero, Int.toNat_one, List.length_cons, List.length_nil, true_and, and_true, and_self, true_or, or_true, false_or, or_false, Bool.not_true, Bool.not_false, Nat.lt_add_one, Nat.zero_lt_succ, N0, swL_n, swL_c, List.toList_toArray, false_implies, true_implies, implies_true, forall_const, not_false_eq_true, not_true_eq_false, and_false, false_and, hi]
  simp only [hK9]
  clear hK9 K9v
  refine J_sldE (k := i + 2) dL_law_1012 (by omega) (by omega) hL (by simp only [N0]; omega) ?_
  rw [e2]
  refine J_rnG GL_fa (by omega) (by omega) (by omega) 1 _ _ _ _ (fun K9v hK9 => ?_)
  simp (maxSteps := 4000000) only [↓(X_aload_n (k := 3) (pc' := 1014) dL_law_1013 rfl rfl), ↓gR_3, rn_0, gV_s, ↓pI_c, ↓pII_c, ↓pL_c, ↓pLL_c, ↓pR_c, ↓pRI_c, ↓pRII_c, ↓pRIL_c, ↓pRR_c, ↓pV_c, ↓pVV_c, ↓gI_c, ↓gL_c, ↓gR_c, f2_0, f2_1, nk_n, nk_i, nk_r, ↓reduceIte, r32, r64, Nat.reduceAdd, Nat.reduceSub, Nat.reduceEqDiff, Nat.reduceLT, Nat.reduceLeDiff, Nat.reduceBEq, Int.reduceAdd, Int.reduceSub, Int.reduceMul, Int.reduceNeg, Int.reduceToNat, Int.reduceLE, Int.reduceLT, Int.reduceEq, Int.reduceNatCast', Int.reduceNatCast, Int.natCast_zero, Int.toNat_natCast, Int.toNat_zero, Int.toNat_one, List.length_cons, List.length_nil, true_and, and_true, and_self, true_or, or_true, false_or, or_false, Bool.not_true, Bool.not_false, Nat.lt_add_one, Nat.zero_lt_succ, N0, swL_n, swL_c, List.toList_toArray, false_implies, true_implies, implies_true, forall_const, not_false_eq_true, not_true_eq_false, and_false, false_and]
  simp only [hK9]
  clear hK9 K9v
  refine J_callSW hW dL_law_1014 kw_127 (by omega) (Nat.le_of_ble_eq_true rfl) ⟨by omega, by omega⟩ rfl (Nat.le_of_ble_eq_true rfl) rfl (fun q ν h => by obtain ⟨h1, M3, h2, -⟩ := h; exact ⟨⟨_, h1⟩, by rw [h2]; rfl⟩) (fun v ν hv => ?_)
  obtain ⟨h1, M3, rfl, hQ⟩ := hv
  cases h1
  simp only [Option.toList, List.cons_append, List.nil_append]
  refine J_rnG GL_fa (by omega) (by omega) (by omega) 6 _ _ _ _ (fun K9v hK9 => ?_)
  simp (maxSteps := 4000000) only [↓(X_istore (pc' := 1019) dL_law_1017 rfl), ↓sto_5, ↓(X_aload_n (k := 2) (pc' := 1020) dL_law_1019 rfl rfl), ↓gR_2, ↓(X_aload_n (k := 0) (pc' := 1021) dL_law_1020 rfl rfl), ↓gR_0, ↓(X_iload (pc' := 1023) dL_law_1021 rfl), ↓gI_4, ↓(X_iconst (pc' := 1024) dL_law_1023 rfl), ↓(X_iadd (pc' := 1025) dL_law_1024 rfl), rn_0, gV_s, ↓pI_c, ↓pII_c, ↓pL_c, ↓pLL_c, ↓pR_c, ↓pRI_c, ↓pRII_c, ↓pRIL_c, ↓pRR_c, ↓pV_c, ↓pVV_c, ↓gI_c, ↓gL_c, ↓gR_c, f2_0, f2_1, nk_n, nk_i, nk_r, ↓reduceIte, r32, r64, Nat.reduceAdd, Nat.reduceSub, Nat.reduceEqDiff, Nat.reduceLT, Nat.reduceLeDiff, Nat.reduceBEq, Int.reduceAdd, Int.reduceSub, Int.reduceMul, Int.reduceNeg, Int.reduceToNat, Int.reduceLE, Int.reduceLT, Int.reduceEq, Int.reduceNatCast', Int.reduceNatCast, Int.natCast_zero, Int.toNat_natCast, Int.toNat_zero, Int.toNat_one, List.length_cons, List.length_nil, true_and, and_true, and_self, true_or, or_true, false_or, or_false, Bool.not_true, Bool.not_false, Nat.lt_add_one, Nat.zero_lt_succ, N0, swL_n, swL_c, List.toList_toArray, false_implies, true_implies, implies_true, forall_const, not_false_eq_true, not_true_eq_false, and_false, false_and, hi]
  simp only [hK9]
  clear hK9 K9v
  refine J_sldE (k := i + 1) dL_law_1025 (by omega) (by omega) hL (by simp only [N0]; omega) ?_
  rw [e1]
  refine J_rnG GL_fa (by omega) (by omega) (by omega) 4 _ _ _ _ (fun K9v hK9 => ?_)
  simp (maxSteps := 4000000) only [↓(X_aload_n (k := 0) (pc' := 1027) dL_law_1026 rfl rfl), ↓gR_0, ↓(X_iload (pc' := 1029) dL_law_1027 rfl), ↓gI_4, ↓(X_iconst (pc' := 1030) dL_law_1029 rfl), ↓(X_iadd (pc' := 1031) dL_law_1030 rfl), rn_0, gV_s, ↓pI_c, ↓pII_c, ↓pL_c, ↓pLL_c, ↓pR_c, ↓pRI_c, ↓pRII_c, ↓pRIL_c, ↓pRR_c, ↓pV_c, ↓pVV_c, ↓gI_c, ↓gL_c, ↓gR_c, f2_0, f2_1, nk_n, nk_i, nk_r, ↓reduceIte, r32, r64, Nat.reduceAdd, Nat.reduceSub, Nat.reduceEqDiff, Nat.reduceLT, Nat.reduceLeDiff, Nat.reduceBEq, Int.reduceAdd, Int.reduceSub, Int.reduceMul, Int.reduceNeg, Int.reduceToNat, Int.reduceLE, Int.reduceLT, Int.reduceEq, Int.reduceNatCast', Int.reduceNatCast, Int.natCast_zero, Int.toNat_natCast, Int.toNat_zero, Int.toNat_one, List.length_cons, List.length_nil, true_and, and_true, and_self, true_or, or_true, false_or, or_false, Bool.not_true, Bool.not_false, Nat.lt_add_one, Nat.zero_lt_succ, N0, swL_n, swL_c, List.toList_toArray, false_implies, true_implies, implies_true, forall_const, not_false_eq_true, not_true_eq_false, and_false, false_and, hi]
  simp only [hK9]
  clear hK9 K9v
  refine J_sldE (k := i + 2) dL_law_1031 (by omega) (by omega) hL (by simp only [N0]; omega) ?_
  rw [e2]
  refine J_callV (ci := 9) GL_fa (hMd M3 hQ) AF_calm dL_law_1032 k_10_129 (by omega) (Nat.le_of_ble_eq_true rfl) ⟨by omega, by omega⟩ rfl (by decide +kernel) rfl (by decide) (by simp only [N0]; omega) (by simp) rfl (fun v ν hv => ?_)
  obtain ⟨v6, M4, n9, T9, h1, rfl, hth, h0, hI⟩ := hv
  cases h1
  simp only [Option.toList, List.cons_append, List.nil_append]
  exact tl_chipGap (by omega) (by omega) hc4 hth h0 (J_wd (by omega) (by omega) (K M4 n9 T9 _ _ hI))

set_option maxRecDepth 100000 in
set_option maxHeartbeats 4000000 in
theorem hw_washesByAll {Q : (Nat → Nat → Int) → Prop} {code dW dM : Nat}  (hi : i + 5 < L) (hL : L ≤ 3072) (hc : ca + 3 ≤ 601024) (hs : sl + 18 ≤ 7293034) (hdW : dW ≤ 1000) (hdM : dM ≤ 1000) (hc4 : code ≤ 3) (hW : OkW l D cy dW 1 6 yL_washesByAll cL_washesByAll 3 (some .int) [(0, 8, 11, 15)] [.inr (.inr (some 0)), .inr (.inr (some 467))] (N0, R0, M) (fun o ν => o = .inl (some (.inl (code : Int))) ∧ ∃ M3 : Nat → Nat → Int, ν = (N0, R0, M3) ∧ Q M3)) (hMd : ∀ M3, Q M3 → Ok l D cy dM 0 0 yX9_washesByAll cX9_washesByAll 1 (some (.int)) [.inr (.inr (some 447))] (N0, R0, M3) (AF code)) (K : NX l D cy b L xs i ca sl) : J l D cy (GL l D cy b L xs) 930 [some (.inr (.inr (some 1000000))), some (.inr (.inr (some 0))), some (.inr (.inr (some 447))), some (.inr (.inr (some 467))), some (.inl (i : Int)), w5, w6] [] (N0, R0, M) ca sl := by
  refine J_rnG GL_fa (by omega) (by omega) (by omega) 2 _ _ _ _ (fun K9v hK9 => ?_)
  simp (maxSteps := 4000000) only [↓(X_aload_n (k := 1) (pc' := 931) dL_law_930 rfl rfl), ↓gR_1, ↓(X_aload_n (k := 3) (pc' := 932) dL_law_931 rfl rfl), ↓gR_3, rn_0, gV_s, ↓pI_c, ↓pII_c, ↓pL_c, ↓pLL_c, ↓pR_c, ↓pRI_c, ↓pRII_c, ↓pRIL_c, ↓pRR_c, ↓pV_c, ↓pVV_c, ↓gI_c, ↓gL_c, ↓gR_c, f2_0, f2_1, nk_n, nk_i, nk_r, ↓reduceIte, r32, r64, Nat.reduceAdd, Nat.reduceSub, Nat.reduceEqDiff, Nat.reduceLT, Nat.reduceLeDiff, Nat.reduceBEq, Int.reduceAdd, Int.reduceSub, Int.reduceMul, Int.reduceNeg, Int.reduceToNat, Int.reduceLE, Int.reduceLT, Int.reduceEq, Int.reduceNatCast', Int.reduceNatCast, Int.natCast_zero, Int.toNat_natCast, Int.toNat_zero, Int.toNat_one, List.length_cons, List.length_nil, true_and, and_true, and_self, true_or, or_true, false_or, or_false, Bool.not_true, Bool.not_false, Nat.lt_add_one, Nat.zero_lt_succ, N0, swL_n, swL_c, List.toList_toArray, false_implies, true_implies, implies_true, forall_const, not_false_eq_true, not_true_eq_false, and_false, false_and]
  simp only [hK9]
  clear hK9 K9v
  refine J_callSW hW dL_law_932 kw_115 (by omega) (Nat.le_of_ble_eq_true rfl) ⟨by omega, by omega⟩ rfl (Nat.le_of_ble_eq_true rfl) rfl (fun q ν h => by obtain ⟨h1, M3, h2, -⟩ := h; exact ⟨⟨_, h1⟩, by rw [h2]; rfl⟩) (fun v ν hv => ?_)
  obtain ⟨h1, M3, rfl, hQ⟩ := hv
  cases h1
  simp only [Option.toList, List.cons_append, List.nil_append]
  refine J_rnG GL_fa (by omega) (by omega) (by omega) 2 _ _ _ _ (fun K9v hK9 => ?_)
  simp (maxSteps := 4000000) only [↓(X_istore (pc' := 937) dL_law_935 rfl), ↓sto_5, ↓(X_aload_n (k := 2) (pc' := 938) dL_law_937 rfl rfl), ↓gR_2, rn_0, gV_s, ↓pI_c, ↓pII_c, ↓pL_c, ↓pLL_c, ↓pR_c, ↓pRI_c, ↓pRII_c, ↓pRIL_c, ↓pRR_c, ↓pV_c, ↓pVV_c, ↓gI_c, ↓gL_c, ↓gR_c, f2_0, f2_1, nk_n, nk_i, nk_r, ↓reduceIte, r32, r64, Nat.reduceAdd, Nat.reduceSub, Nat.reduceEqDiff, Nat.reduceLT, Nat.reduceLeDiff, Nat.reduceBEq, Int.reduceAdd, Int.reduceSub, Int.reduceMul, Int.reduceNeg, Int.reduceToNat, Int.reduceLE, Int.reduceLT, Int.reduceEq, Int.reduceNatCast', Int.reduceNatCast, Int.natCast_zero, Int.toNat_natCast, Int.toNat_zero, Int.toNat_one, List.length_cons, List.length_nil, true_and, and_true, and_self, true_or, or_true, false_or, or_false, Bool.not_true, Bool.not_false, Nat.lt_add_one, Nat.zero_lt_succ, N0, swL_n, swL_c, List.toList_toArray, false_implies, true_implies, implies_true, forall_const, not_false_eq_true, not_true_eq_false, and_false, false_and]
  simp only [hK9]
  clear hK9 K9v
  refine J_callV (ci := 9) GL_fa (hMd M3 hQ) AF_calm dL_law_938 k_10_118 (by omega) (Nat.le_of_ble_eq_true rfl) ⟨by omega, by omega⟩ rfl (by decide +kernel) rfl (by decide) (by simp only [N0]; omega) (by simp) rfl (fun v ν hv => ?_)
  obtain ⟨v6, M4, n9, T9, h1, rfl, hth, h0, hI⟩ := hv
  cases h1
  simp only [Option.toList, List.cons_append, List.nil_append]
  exact tl_washesByAll (by omega) (by omega) hc4 hth h0 (J_wd (by omega) (by omega) (K M4 n9 T9 _ _ hI))

set_option maxRecDepth 100000 in
set_option maxHeartbeats 4000000 in
theorem hw_print {Q : (Nat → Nat → Int) → Prop} {code dW dM : Nat} {z1 z2 z3 : Int} (e1 : (xs (i + 1)).toInt = z1) (e2 : (xs (i + 2)).toInt = z2) (e3 : (xs (i + 3)).toInt = z3) (hz3 : r32 z3) (hi : i + 5 < L) (hL : L ≤ 3072) (hc : ca + 3 ≤ 601024) (hs : sl + 18 ≤ 7293034) (hdW : dW ≤ 1000) (hdM : dM ≤ 1000) (hc4 : code ≤ 3) (hW : OkW l D cy dW 2 12 yL_print cL_print 6 (some .int) [(0, 12, 15, 28), (0, 12, 19, 13), (0, 12, 23, 15)] [.inr (.inr (some 0)), .inl (z1), .inl (z2), .inl (if z3 = 0 then 0 else 1), .inr (.inr (some 467))] (N0, R0, M) (fun o ν => o = .inl (some (.inl (code : Int))) ∧ ∃ M3 : Nat → Nat → Int, ν = (N0, R0, M3) ∧ Q M3)) (hMd : ∀ M3, Q M3 → Ok l D cy dM 0 0 yX9_print cX9_print 6 (some (.int)) [.inr (.inr (some 447)), .inl (z1), .inl (z2), .inl (if z3 = 0 then 0 else 1)] (N0, R0, M3) (AF code)) (K : NX l D cy b L xs i ca sl) : J l D cy (GL l D cy b L xs) 492 [some (.inr (.inr (some 1000000))), some (.inr (.inr (some 0))), some (.inr (.inr (some 447))), some (.inr (.inr (some 467))), some (.inl (i : Int)), w5, w6] [] (N0, R0, M) ca sl := by
  refine J_rnG GL_fa (by omega) (by omega) (by omega) 5 _ _ _ _ (fun K9v hK9 => ?_)
  simp (maxSteps := 4000000) only [↓(X_aload_n (k := 1) (pc' := 493) dL_law_492 rfl rfl), ↓gR_1, ↓(X_aload_n (k := 0) (pc' := 494) dL_law_493 rfl rfl), ↓gR_0, ↓(X_iload (pc' := 496) dL_law_494 rfl), ↓gI_4, ↓(X_iconst (pc' := 497) dL_law_496 rfl), ↓(X_iadd (pc' := 498) dL_law_497 rfl), rn_0, gV_s, ↓pI_c, ↓pII_c, ↓pL_c, ↓pLL_c, ↓pR_c, ↓pRI_c, ↓pRII_c, ↓pRIL_c, ↓pRR_c, ↓pV_c, ↓pVV_c, ↓gI_c, ↓gL_c, ↓gR_c, f2_0, f2_1, nk_n, nk_i, nk_r, ↓reduceIte, r32, r64, Nat.reduceAdd, Nat.reduceSub, Nat.reduceEqDiff, Nat.reduceLT, Nat.reduceLeDiff, Nat.reduceBEq, Int.reduceAdd, Int.reduceSub, Int.reduceMul, Int.reduceNeg, Int.reduceToNat, Int.reduceLE, Int.reduceLT, Int.reduceEq, Int.reduceNatCast', Int.reduceNatCast, Int.natCast_zero, Int.toNat_natCast, Int.toNat_zero, Int.toNat_one, List.length_cons, List.length_nil, true_and, and_true, and_self, true_or, or_true, false_or, or_false, Bool.not_true, Bool.not_false, Nat.lt_add_one, Nat.zero_lt_succ, N0, swL_n, swL_c, List.toList_toArray, false_implies, true_implies, implies_true, forall_const, not_false_eq_true, not_true_eq_false, and_false, false_and, hi]
  simp only [hK9]
  clear hK9 K9v
  refine J_sldE (k := i + 1) dL_law_498 (by omega) (by omega) hL (by simp only [N0]; omega) ?_
  rw [e1]
  refine J_rnG GL_fa (by omega) (by omega) (by omega) 4 _ _ _ _ (fun K9v hK9 => ?_)
  simp (maxSteps := 4000000) only [↓(X_aload_n (k := 0) (pc' := 500) dL_law_499 rfl rfl), ↓gR_0, ↓(X_iload (pc' := 502) dL_law_500 rfl), ↓gI_4, ↓(X_iconst (pc' := 503) dL_law_502 rfl), ↓(X_iadd (pc' := 504) dL_law_503 rfl), rn_0, gV_s, ↓pI_c, ↓pII_c, ↓pL_c, ↓pLL_c, ↓pR_c, ↓pRI_c, ↓pRII_c, ↓pRIL_c, ↓pRR_c, ↓pV_c, ↓pVV_c, ↓gI_c, ↓gL_c, ↓gR_c, f2_0, f2_1, nk_n, nk_i, nk_r, ↓reduceIte, r32, r64, Nat.reduceAdd, Nat.reduceSub, Nat.reduceEqDiff, Nat.reduceLT, Nat.reduceLeDiff, Nat.reduceBEq, Int.reduceAdd, Int.reduceSub, Int.reduceMul, Int.reduceNeg, Int.reduceToNat, Int.reduceLE, Int.reduceLT, Int.reduceEq, Int.reduceNatCast', Int.reduceNatCast, Int.natCast_zero, Int.toNat_natCast, Int.toNat_zero, Int.toNat_one, List.length_cons, List.length_nil, true_and, and_true, and_self, true_or, or_true, false_or, or_false, Bool.not_true, Bool.not_false, Nat.lt_add_one, Nat.zero_lt_succ, N0, swL_n, swL_c, List.toList_toArray, false_implies, true_implies, implies_true, forall_const, not_false_eq_true, not_true_eq_false, and_false, false_and, hi]
  simp only [hK9]
  clear hK9 K9v
  refine J_sldE (k := i + 2) dL_law_504 (by omega) (by omega) hL (by simp only [N0]; omega) ?_
  rw [e2]
  refine J_rnG GL_fa (by omega) (by omega) (by omega) 4 _ _ _ _ (fun K9v hK9 => ?_)
  simp (maxSteps := 4000000) only [↓(X_aload_n (k := 0) (pc' := 506) dL_law_505 rfl rfl), ↓gR_0, ↓(X_iload (pc' := 508) dL_law_506 rfl), ↓gI_4, ↓(X_iconst (pc' := 509) dL_law_508 rfl), ↓(X_iadd (pc' := 510) dL_law_509 rfl), rn_0, gV_s, ↓pI_c, ↓pII_c, ↓pL_c, ↓pLL_c, ↓pR_c, ↓pRI_c, ↓pRII_c, ↓pRIL_c, ↓pRR_c, ↓pV_c, ↓pVV_c, ↓gI_c, ↓gL_c, ↓gR_c, f2_0, f2_1, nk_n, nk_i, nk_r, ↓reduceIte, r32, r64, Nat.reduceAdd, Nat.reduceSub, Nat.reduceEqDiff, Nat.reduceLT, Nat.reduceLeDiff, Nat.reduceBEq, Int.reduceAdd, Int.reduceSub, Int.reduceMul, Int.reduceNeg, Int.reduceToNat, Int.reduceLE, Int.reduceLT, Int.reduceEq, Int.reduceNatCast', Int.reduceNatCast, Int.natCast_zero, Int.toNat_natCast, Int.toNat_zero, Int.toNat_one, List.length_cons, List.length_nil, true_and, and_true, and_self, true_or, or_true, false_or, or_false, Bool.not_true, Bool.not_false, Nat.lt_add_one, Nat.zero_lt_succ, N0, swL_n, swL_c, List.toList_toArray, false_implies, true_implies, implies_true, forall_const, not_false_eq_true, not_true_eq_false, and_false, false_and, hi]
  simp only [hK9]
  clear hK9 K9v
  refine J_sldE (k := i + 3) dL_law_510 (by omega) (by omega) hL (by simp only [N0]; omega) ?_
  rw [e3]
  refine br_511 hz3 (by omega) (by omega) ?_
  refine J_rnG GL_fa (by omega) (by omega) (by omega) 1 _ _ _ _ (fun K9v hK9 => ?_)
  simp (maxSteps := 4000000) only [↓(X_aload_n (k := 3) (pc' := 520) dL_law_519 rfl rfl), ↓gR_3, rn_0, gV_s, ↓pI_c, ↓pII_c, ↓pL_c, ↓pLL_c, ↓pR_c, ↓pRI_c, ↓pRII_c, ↓pRIL_c, ↓pRR_c, ↓pV_c, ↓pVV_c, ↓gI_c, ↓gL_c, ↓gR_c, f2_0, f2_1, nk_n, nk_i, nk_r, ↓reduceIte, r32, r64, Nat.reduceAdd, Nat.reduceSub, Nat.reduceEqDiff, Nat.reduceLT, Nat.reduceLeDiff, Nat.reduceBEq, Int.reduceAdd, Int.reduceSub, Int.reduceMul, Int.reduceNeg, Int.reduceToNat, Int.reduceLE, Int.reduceLT, Int.reduceEq, Int.reduceNatCast', Int.reduceNatCast, Int.natCast_zero, Int.toNat_natCast, Int.toNat_zero, Int.toNat_one, List.length_cons, List.length_nil, true_and, and_true, and_self, true_or, or_true, false_or, or_false, Bool.not_true, Bool.not_false, Nat.lt_add_one, Nat.zero_lt_succ, N0, swL_n, swL_c, List.toList_toArray, false_implies, true_implies, implies_true, forall_const, not_false_eq_true, not_true_eq_false, and_false, false_and]
  simp only [hK9]
  clear hK9 K9v
  refine J_callSW hW dL_law_520 kw_88 (by omega) (Nat.le_of_ble_eq_true rfl) ⟨by omega, by omega⟩ rfl (Nat.le_of_ble_eq_true rfl) rfl (fun q ν h => by obtain ⟨h1, M3, h2, -⟩ := h; exact ⟨⟨_, h1⟩, by rw [h2]; rfl⟩) (fun v ν hv => ?_)
  obtain ⟨h1, M3, rfl, hQ⟩ := hv
  cases h1
  simp only [Option.toList, List.cons_append, List.nil_append]
  refine J_rnG GL_fa (by omega) (by omega) (by omega) 6 _ _ _ _ (fun K9v hK9 => ?_)
  simp (maxSteps := 4000000) only [↓(X_istore (pc' := 525) dL_law_523 rfl), ↓sto_5, ↓(X_aload_n (k := 2) (pc' := 526) dL_law_525 rfl rfl), ↓gR_2, ↓(X_aload_n (k := 0) (pc' := 527) dL_law_526 rfl rfl), ↓gR_0, ↓(X_iload (pc' := 529) dL_law_527 rfl), ↓gI_4, ↓(X_iconst (pc' := 530) dL_law_529 rfl), ↓(X_iadd (pc' := 531) dL_law_530 rfl), rn_0, gV_s, ↓pI_c, ↓pII_c, ↓pL_c, ↓pLL_c, ↓pR_c, ↓pRI_c, ↓pRII_c, ↓pRIL_c, ↓pRR_c, ↓pV_c, ↓pVV_c, ↓gI_c, ↓gL_c, ↓gR_c, f2_0, f2_1, nk_n, nk_i, nk_r, ↓reduceIte, r32, r64, Nat.reduceAdd, Nat.reduceSub, Nat.reduceEqDiff, Nat.reduceLT, Nat.reduceLeDiff, Nat.reduceBEq, Int.reduceAdd, Int.reduceSub, Int.reduceMul, Int.reduceNeg, Int.reduceToNat, Int.reduceLE, Int.reduceLT, Int.reduceEq, Int.reduceNatCast', Int.reduceNatCast, Int.natCast_zero, Int.toNat_natCast, Int.toNat_zero, Int.toNat_one, List.length_cons, List.length_nil, true_and, and_true, and_self, true_or, or_true, false_or, or_false, Bool.not_true, Bool.not_false, Nat.lt_add_one, Nat.zero_lt_succ, N0, swL_n, swL_c, List.toList_toArray, false_implies, true_implies, implies_true, forall_const, not_false_eq_true, not_true_eq_false, and_false, false_and, hi]
  simp only [hK9]
  clear hK9 K9v
  refine J_sldE (k := i + 1) dL_law_531 (by omega) (by omega) hL (by simp only [N0]; omega) ?_
  rw [e1]
  refine J_rnG GL_fa (by omega) (by omega) (by omega) 4 _ _ _ _ (fun K9v hK9 => ?_)
  simp (maxSteps := 4000000) only [↓(X_aload_n (k := 0) (pc' := 533) dL_law_532 rfl rfl), ↓gR_0, ↓(X_iload (pc' := 535) dL_law_533 rfl), ↓gI_4, ↓(X_iconst (pc' := 536) dL_law_535 rfl), ↓(X_iadd (pc' := 537) dL_law_536 rfl), rn_0, gV_s, ↓pI_c, ↓pII_c, ↓pL_c, ↓pLL_c, ↓pR_c, ↓pRI_c, ↓pRII_c, ↓pRIL_c, ↓pRR_c, ↓pV_c, ↓pVV_c, ↓gI_c, ↓gL_c, ↓gR_c, f2_0, f2_1, nk_n, nk_i, nk_r, ↓reduceIte, r32, r64, Nat.reduceAdd, Nat.reduceSub, Nat.reduceEqDiff, Nat.reduceLT, Nat.reduceLeDiff, Nat.reduceBEq, Int.reduceAdd, Int.reduceSub, Int.reduceMul, Int.reduceNeg, Int.reduceToNat, Int.reduceLE, Int.reduceLT, Int.reduceEq, Int.reduceNatCast', Int.reduceNatCast, Int.natCast_zero, Int.toNat_natCast, Int.toNat_zero, Int.toNat_one, List.length_cons, List.length_nil, true_and, and_true, and_self, true_or, or_true, false_or, or_false, Bool.not_true, Bool.not_false, Nat.lt_add_one, Nat.zero_lt_succ, N0, swL_n, swL_c, List.toList_toArray, false_implies, true_implies, implies_true, forall_const, not_false_eq_true, not_true_eq_false, and_false, false_and, hi]
  simp only [hK9]
  clear hK9 K9v
  refine J_sldE (k := i + 2) dL_law_537 (by omega) (by omega) hL (by simp only [N0]; omega) ?_
  rw [e2]
  refine J_rnG GL_fa (by omega) (by omega) (by omega) 4 _ _ _ _ (fun K9v hK9 => ?_)
  simp (maxSteps := 4000000) only [↓(X_aload_n (k := 0) (pc' := 539) dL_law_538 rfl rfl), ↓gR_0, ↓(X_iload (pc' := 541) dL_law_539 rfl), ↓gI_4, ↓(X_iconst (pc' := 542) dL_law_541 rfl), ↓(X_iadd (pc' := 543) dL_law_542 rfl), rn_0, gV_s, ↓pI_c, ↓pII_c, ↓pL_c, ↓pLL_c, ↓pR_c, ↓pRI_c, ↓pRII_c, ↓pRIL_c, ↓pRR_c, ↓pV_c, ↓pVV_c, ↓gI_c, ↓gL_c, ↓gR_c, f2_0, f2_1, nk_n, nk_i, nk_r, ↓reduceIte, r32, r64, Nat.reduceAdd, Nat.reduceSub, Nat.reduceEqDiff, Nat.reduceLT, Nat.reduceLeDiff, Nat.reduceBEq, Int.reduceAdd, Int.reduceSub, Int.reduceMul, Int.reduceNeg, Int.reduceToNat, Int.reduceLE, Int.reduceLT, Int.reduceEq, Int.reduceNatCast', Int.reduceNatCast, Int.natCast_zero, Int.toNat_natCast, Int.toNat_zero, Int.toNat_one, List.length_cons, List.length_nil, true_and, and_true, and_self, true_or, or_true, false_or, or_false, Bool.not_true, Bool.not_false, Nat.lt_add_one, Nat.zero_lt_succ, N0, swL_n, swL_c, List.toList_toArray, false_implies, true_implies, implies_true, forall_const, not_false_eq_true, not_true_eq_false, and_false, false_and, hi]
  simp only [hK9]
  clear hK9 K9v
  refine J_sldE (k := i + 3) dL_law_543 (by omega) (by omega) hL (by simp only [N0]; omega) ?_
  rw [e3]
  refine br_544 hz3 (by omega) (by omega) ?_
  refine J_callV (ci := 9) GL_fa (hMd M3 hQ) AF_calm dL_law_552 k_10_91 (by omega) (Nat.le_of_ble_eq_true rfl) ⟨by omega, by omega⟩ rfl (by decide +kernel) rfl (by decide) (by simp only [N0]; omega) (by simp) rfl (fun v ν hv => ?_)
  obtain ⟨v6, M4, n9, T9, h1, rfl, hth, h0, hI⟩ := hv
  cases h1
  simp only [Option.toList, List.cons_append, List.nil_append]
  exact tl_print (by omega) (by omega) hc4 hth h0 (J_wd (by omega) (by omega) (K M4 n9 T9 _ _ hI))

end HW
