/-! the face: recipes, chips, washes -/
def cRec (n z w : Int) (st fd : Int) : Nat := if 0 ≤ z ∧ z < n then (if 0 ≤ w ∧ w ≤ 6 then (if st = 0 ∧ fd = 1 then 0 else 3) else 2) else 1
def tellS (s : Nat → Int) (z : Int) : Int := if z = 4 then s 2 else if z = 5 then s 3 else if z = 6 then s 4 else s (5 + z.toNat)
theorem tell_RS {M : Nat → Nat → Int} {s : Nat → Int} (h : RS M s) {z : Int} (hz : 0 ≤ z ∧ z ≤ 6) : tellF M z = tellS s z := by
  obtain ⟨h0, h1, h2, h3, h4, h5, h6, h7, h8⟩ := h
  obtain e | e | e | e | e | e | e : z = 0 ∨ z = 1 ∨ z = 2 ∨ z = 3 ∨ z = 4 ∨ z = 5 ∨ z = 6 := by omega
  all_goals subst e; simp [tellF, tellS, h2, h3, h4, h5, h6, h7, h8]
/-- the search's scratch cells -/
def scrF (x : Nat) : Prop := x = 79 ∨ x = 80 ∨ x = 81 ∨ x = 83 ∨ x = 84 ∨ x = 86 ∨ x = 87 ∨ x = 88
def cCG (n z y ch st : Int) : Nat := if (0 ≤ z ∧ z < n) ∧ (0 ≤ y ∧ y < n) then (if ch = 0 ∨ st = 0 then 2 else 0) else 1
def chipF (day pd c : Int) : Int := if c + (day - pd) / 10 < 100 then c + (day - pd) / 10 else 100
section CD
variable {l : Launch} {D : va_G} {cy : Nat → ClassId}
set_option maxRecDepth 100000 in
set_option maxHeartbeats 4000000 in
theorem ok_recipe {M : Nat → Nat → Int} (hl9 : l.stackTraces = false) (d n T : Nat) (z w : Int) (hz : r32 z) (hw : r32 w) (hn : M 0 8 = (n : Int)) (hn2 : n ≤ 16) (hst : ∀ i, i < 16 → 0 ≤ M (367 + 5 * i) 5 ∧ M (367 + 5 * i) 5 ≤ 2) (hK : ∀ i, i < n → kOK M i T) : Ok l D cy (d + 8) 2 12 yX8_recipe cX8_recipe 4 (some (.int)) [.inr (.inr (some (0))), .inl (z), .inl (w)] (N0, R0, M) (fun o ν => o = outF [IOB, IAE, ISE] (cRec (n : Int) z w (M (367 + 5 * z.toNat) 5) (findF M z.toNat T 0)) (some (.inl (tellS (findF M z.toNat T) w))) ∧ ∃ M2 : Nat → Nat → Int, ν = (N0, R0, M2) ∧ ∀ x, ¬ scrF x → M2 x = M x) := by
  refine Ok.intro (o := 8) (ini := false) [some (.inr (.inr (some (0)))), some (.inl (z)), some (.inl (w)), none] (by decide +kernel) rfl (fun h => by cases h) rfl (Nat.le_of_ble_eq_true rfl) rfl ?_
  refine J_rnG GM_fa (by omega) (by omega) (by omega) 2 _ _ _ _ (fun K9v hK9 => ?_)
  simp (maxSteps := 4000000) only [↓(X_aload_n (k := 0) (pc' := 1) dX8_recipe_0 rfl rfl), ↓gR_0, ↓(X_iload_n (k := 1) (pc' := 2) dX8_recipe_1 rfl rfl), ↓gI_1, rn_0, gV_s, ↓pI_c, ↓pII_c, ↓pL_c, ↓pLL_c, ↓pR_c, ↓pRI_c, ↓pRII_c, ↓pRIL_c, ↓pRR_c, ↓pV_c, ↓pVV_c, ↓gI_c, ↓gL_c, ↓gR_c, f2_0, f2_1, nk_n, nk_i, nk_r, ↓reduceIte, r32, r64, Nat.reduceAdd, Nat.reduceSub, Nat.reduceEqDiff, Nat.reduceLT, Nat.reduceLeDiff, Nat.reduceBEq, Int.reduceAdd, Int.reduceSub, Int.reduceMul, Int.reduceNeg, Int.reduceToNat, Int.reduceLE, Int.reduceLT, Int.reduceEq, Int.reduceNatCast', Int.reduceNatCast, Int.natCast_zero, Int.toNat_natCast, Int.toNat_zero, Int.toNat_one, List.length_cons, List.length_nil, true_and, and_true, and_self, true_or, or_true, false_or, or_false, Bool.not_true, Bool.not_false, Nat.lt_add_one, Nat.zero_lt_succ, N0, swL_n, swL_c, List.toList_toArray, false_implies, true_implies, implies_true, forall_const, not_false_eq_true, not_true_eq_false, and_false, false_and]
  simp only [hK9]
  clear hK9 K9v
  refine J_callV0 GM_fa (ok_jobNumbered hl9 (d + 1) n z hz hn hn2) dX8_recipe_2 k_8_114 (by omega) (Nat.le_of_ble_eq_true rfl) ⟨by omega, by omega⟩ rfl (by decide +kernel) (by decide +kernel) (by simp only [N0]; omega) (by simp) rfl (fun q9 ν9 h9 => Or.inl (by simp only [h9.1, N0])) (fun E ν hE => exitsM (by omega) (by omega) ?_) (fun v ν hv _ => ?_)
  · obtain ⟨hν, ⟨h1, h2⟩ | ⟨h1, h2⟩⟩ := hE
    · cases h2
      subst hν
      exact ⟨by rw [cRec, if_neg h1]; rfl, M, rfl, fun _ _ => rfl⟩
    · cases h2
  · obtain ⟨hν, ⟨h1, h2⟩ | ⟨h1, h2⟩⟩ := hv
    · cases h2
    · cases h2
      subst hν
      simp only [Option.toList, List.cons_append, List.nil_append]
      refine J_rnG GM_fa (by omega) (by omega) (by omega) 4 _ _ _ _ (fun K9v hK9 => ?_)
      simp (maxSteps := 4000000) only [↓(X_astore_n (k := 3) (pc' := 6) dX8_recipe_5 rfl rfl), ↓sto_3, ↓(X_iload_n (k := 2) (pc' := 7) dX8_recipe_6 rfl rfl), ↓gI_2, ↓(X_iconst (pc' := 8) dX8_recipe_7 rfl), ↓(X_bipush (pc' := 10) dX8_recipe_8 rfl), rn_0, gV_s, ↓pI_c, ↓pII_c, ↓pL_c, ↓pLL_c, ↓pR_c, ↓pRI_c, ↓pRII_c, ↓pRIL_c, ↓pRR_c, ↓pV_c, ↓pVV_c, ↓gI_c, ↓gL_c, ↓gR_c, f2_0, f2_1, nk_n, nk_i, nk_r, ↓reduceIte, r32, r64, Nat.reduceAdd, Nat.reduceSub, Nat.reduceEqDiff, Nat.reduceLT, Nat.reduceLeDiff, Nat.reduceBEq, Int.reduceAdd, Int.reduceSub, Int.reduceMul, Int.reduceNeg, Int.reduceToNat, Int.reduceLE, Int.reduceLT, Int.reduceEq, Int.reduceNatCast', Int.reduceNatCast, Int.natCast_zero, Int.toNat_natCast, Int.toNat_zero, Int.toNat_one, List.length_cons, List.length_nil, true_and, and_true, and_self, true_or, or_true, false_or, or_false, Bool.not_true, Bool.not_false, Nat.lt_add_one, Nat.zero_lt_succ, N0, swL_n, swL_c, List.toList_toArray, false_implies, true_implies, implies_true, forall_const, not_false_eq_true, not_true_eq_false, and_false, false_and]
      simp only [hK9]
      clear hK9 K9v
      refine J_callSd GM_fa (ok_isWithin (M := M) (d + 6) w 0 6 hw (by simp only [r32]; omega) (by simp only [r32]; omega)) dX8_recipe_10 k_8_88 (by omega) (Nat.le_of_ble_eq_true rfl) ⟨by omega, by omega⟩ rfl (by simp) rfl rfl ?_
      simp only [Option.toList, List.cons_append, List.nil_append]
      obtain ⟨j, rfl⟩ : ∃ j : Nat, z = (j : Int) := ⟨z.toNat, by omega⟩
      rw [Int.toNat_natCast]
      obtain ⟨a1, -⟩ := job_at j (by omega)
      have i2 : 367 + 5 * j < 449 := by omega
      have hs := hst j (by omega)
      have r1 : -2147483648 ≤ M (367 + 5 * j) 5 ∧ M (367 + 5 * j) 5 ≤ 2147483647 := by omega
      rcases (show (0 ≤ w ∧ w ≤ 6) ∨ ¬ (0 ≤ w ∧ w ≤ 6) by omega) with q | q
      · rw [inI_pos q]
        refine J_rnG GM_fa (by omega) (by omega) (by omega) 1 _ _ _ _ (fun K9v hK9 => ?_)
        simp (maxSteps := 4000000) only [↓(X_if_ne (tgt := 24) (pc' := 16) dX8_recipe_13 (by decide) rfl), rn_0, gV_s, ↓pI_c, ↓pII_c, ↓pL_c, ↓pLL_c, ↓pR_c, ↓pRI_c, ↓pRII_c, ↓pRIL_c, ↓pRR_c, ↓pV_c, ↓pVV_c, ↓gI_c, ↓gL_c, ↓gR_c, f2_0, f2_1, nk_n, nk_i, nk_r, ↓reduceIte, r32, r64, Nat.reduceAdd, Nat.reduceSub, Nat.reduceEqDiff, Nat.reduceLT, Nat.reduceLeDiff, Nat.reduceBEq, Int.reduceAdd, Int.reduceSub, Int.reduceMul, Int.reduceNeg, Int.reduceToNat, Int.reduceLE, Int.reduceLT, Int.reduceEq, Int.reduceNatCast', Int.reduceNatCast, Int.natCast_zero, Int.toNat_natCast, Int.toNat_zero, Int.toNat_one, List.length_cons, List.length_nil, true_and, and_true, and_self, true_or, or_true, false_or, or_false, Bool.not_true, Bool.not_false, Nat.lt_add_one, Nat.zero_lt_succ, N0, swL_n, swL_c, List.toList_toArray, false_implies, true_implies, implies_true, forall_const, not_false_eq_true, not_true_eq_false, and_false, false_and]
        simp only [hK9]
        clear hK9 K9v
        rcases (show M (367 + 5 * j) 5 = 0 ∨ ¬ M (367 + 5 * j) 5 = 0 by omega) with q2 | q2
        · refine J_rnG GM_fa (by omega) (by omega) (by omega) 3 _ _ _ _ (fun K9v hK9 => ?_)
          simp (maxSteps := 4000000) only [↓(X_aload_n (k := 3) (pc' := 25) dX8_recipe_24 rfl rfl), ↓gR_3, ↓(X_getI (pc' := 28) fl_8_118 (by decide) dX8_recipe_25 rfl), ↓(X_if_ne (tgt := 46) (pc' := 31) dX8_recipe_28 (by decide) rfl), rn_0, gV_s, ↓pI_c, ↓pII_c, ↓pL_c, ↓pLL_c, ↓pR_c, ↓pRI_c, ↓pRII_c, ↓pRIL_c, ↓pRR_c, ↓pV_c, ↓pVV_c, ↓gI_c, ↓gL_c, ↓gR_c, f2_0, f2_1, nk_n, nk_i, nk_r, ↓reduceIte, r32, r64, Nat.reduceAdd, Nat.reduceSub, Nat.reduceEqDiff, Nat.reduceLT, Nat.reduceLeDiff, Nat.reduceBEq, Int.reduceAdd, Int.reduceSub, Int.reduceMul, Int.reduceNeg, Int.reduceToNat, Int.reduceLE, Int.reduceLT, Int.reduceEq, Int.reduceNatCast', Int.reduceNatCast, Int.natCast_zero, Int.toNat_natCast, Int.toNat_zero, Int.toNat_one, List.length_cons, List.length_nil, true_and, and_true, and_self, true_or, or_true, false_or, or_false, Bool.not_true, Bool.not_false, Nat.lt_add_one, Nat.zero_lt_succ, N0, swL_n, swL_c, List.toList_toArray, false_implies, true_implies, implies_true, forall_const, not_false_eq_true, not_true_eq_false, and_false, false_and, a1, i2, q2]
          simp only [hK9]
          clear hK9 K9v
          refine J_rnG GM_fa (by omega) (by omega) (by omega) 5 _ _ _ _ (fun K9v hK9 => ?_)
          simp (maxSteps := 4000000) only [↓(X_aload_n (k := 0) (pc' := 32) dX8_recipe_31 rfl rfl), ↓gR_0, ↓(X_getR (pc' := 35) fl_8_50 dX8_recipe_32 rfl), kd_0, ↓(gV_c r0_0_6), kd_79, ↓(X_aload_n (k := 3) (pc' := 36) dX8_recipe_35 rfl rfl), ↓gR_3, ↓(X_aload_n (k := 0) (pc' := 37) dX8_recipe_36 rfl rfl), ↓(X_getR (pc' := 40) fl_8_10 dX8_recipe_37 rfl), ↓(gV_c r0_0_0), kd_1, rn_0, gV_s, ↓pI_c, ↓pII_c, ↓pL_c, ↓pLL_c, ↓pR_c, ↓pRI_c, ↓pRII_c, ↓pRIL_c, ↓pRR_c, ↓pV_c, ↓pVV_c, ↓gI_c, ↓gL_c, ↓gR_c, f2_0, f2_1, nk_n, nk_i, nk_r, ↓reduceIte, r32, r64, Nat.reduceAdd, Nat.reduceSub, Nat.reduceEqDiff, Nat.reduceLT, Nat.reduceLeDiff, Nat.reduceBEq, Int.reduceAdd, Int.reduceSub, Int.reduceMul, Int.reduceNeg, Int.reduceToNat, Int.reduceLE, Int.reduceLT, Int.reduceEq, Int.reduceNatCast', Int.reduceNatCast, Int.natCast_zero, Int.toNat_natCast, Int.toNat_zero, Int.toNat_one, List.length_cons, List.length_nil, true_and, and_true, and_self, true_or, or_true, false_or, or_false, Bool.not_true, Bool.not_false, Nat.lt_add_one, Nat.zero_lt_succ, N0, swL_n, swL_c, List.toList_toArray, false_implies, true_implies, implies_true, forall_const, not_false_eq_true, not_true_eq_false, and_false, false_and]
          simp only [hK9]
          clear hK9 K9v
          refine J_callV (ci := 5) GM_fa (ok_find (M := M) (d + 0) j T (hK j (by omega))) (by first | exact calm_det | assumption | (intro q9 ν9 h9; obtain ⟨h8, h6, M9, h7, -⟩ := h9; exact ⟨⟨_, h8⟩, by rw [h7]; rfl⟩) | (intro q9 ν9 h9; obtain ⟨h8, M9, h7, -⟩ := h9; first | exact ⟨⟨_, h8⟩, by rw [h7]; rfl⟩ | exact ⟨⟨_, h7⟩, by rw [h8]; rfl⟩ | exact ⟨⟨_, h7⟩, by rw [h8]⟩)) dX8_recipe_40 k_8_121 (by omega) (Nat.le_of_ble_eq_true rfl) ⟨by omega, by omega⟩ rfl (by decide +kernel) rfl (by decide) (by simp only [N0]; omega) (by simp) rfl (fun v ν hv => ?_)
          obtain ⟨hv0, hf01, M2, rfl, w1, w2, w3⟩ := hv
          cases hv0
          simp only [Option.toList, List.cons_append, List.nil_append]
          have hM2 : ∀ x, ¬ scrF x → M2 x = M x := fun x hx => w1 x (fun e => hx (Or.inl e)) (fun e => hx (Or.inr (Or.inl e))) (fun e => hx (by simp [scrF, e])) (fun e => hx (by simp [scrF, e])) (fun e => hx (by simp [scrF, e])) (fun e => hx (by simp [scrF, e])) (fun e => hx (by simp [scrF, e])) (fun e => hx (by simp [scrF, e]))
          rcases hf01 with f | f
          · have e : cRec (n : Int) (j : Int) w (M (367 + 5 * j) 5) (findF M j T 0) = 3 := by rw [cRec, if_pos h1, if_pos q, if_neg (by omega)]
            rw [e]
            refine J_rnG GM_fa (by omega) (by omega) (by omega) 1 _ _ _ _ (fun K9v hK9 => ?_)
            simp (maxSteps := 4000000) only [↓(X_if_ne (tgt := 54) (pc' := 46) dX8_recipe_43 (by decide) rfl), rn_0, gV_s, ↓pI_c, ↓pII_c, ↓pL_c, ↓pLL_c, ↓pR_c, ↓pRI_c, ↓pRII_c, ↓pRIL_c, ↓pRR_c, ↓pV_c, ↓pVV_c, ↓gI_c, ↓gL_c, ↓gR_c, f2_0, f2_1, nk_n, nk_i, nk_r, ↓reduceIte, r32, r64, Nat.reduceAdd, Nat.reduceSub, Nat.reduceEqDiff, Nat.reduceLT, Nat.reduceLeDiff, Nat.reduceBEq, Int.reduceAdd, Int.reduceSub, Int.reduceMul, Int.reduceNeg, Int.reduceToNat, Int.reduceLE, Int.reduceLT, Int.reduceEq, Int.reduceNatCast', Int.reduceNatCast, Int.natCast_zero, Int.toNat_natCast, Int.toNat_zero, Int.toNat_one, List.length_cons, List.length_nil, true_and, and_true, and_self, true_or, or_true, false_or, or_false, Bool.not_true, Bool.not_false, Nat.lt_add_one, Nat.zero_lt_succ, N0, swL_n, swL_c, List.toList_toArray, false_implies, true_implies, implies_true, forall_const, not_false_eq_true, not_true_eq_false, and_false, false_and, f]
            simp only [hK9]
            clear hK9 K9v
            refine J_throw hl9 tOK_77 dX8_recipe_46 dX8_recipe_49 dX8_recipe_50 dX8_recipe_53 (by omega) (by simp) (by omega) (by omega) (⟨rfl, M2, rfl, hM2⟩)
          · have e : cRec (n : Int) (j : Int) w (M (367 + 5 * j) 5) (findF M j T 0) = 0 := by rw [cRec, if_pos h1, if_pos q, if_pos ⟨q2, f⟩]
            rw [e]
            refine J_rnG GM_fa (by omega) (by omega) (by omega) 1 _ _ _ _ (fun K9v hK9 => ?_)
            simp (maxSteps := 4000000) only [↓(X_if_ne (tgt := 54) (pc' := 46) dX8_recipe_43 (by decide) rfl), rn_0, gV_s, ↓pI_c, ↓pII_c, ↓pL_c, ↓pLL_c, ↓pR_c, ↓pRI_c, ↓pRII_c, ↓pRIL_c, ↓pRR_c, ↓pV_c, ↓pVV_c, ↓gI_c, ↓gL_c, ↓gR_c, f2_0, f2_1, nk_n, nk_i, nk_r, ↓reduceIte, r32, r64, Nat.reduceAdd, Nat.reduceSub, Nat.reduceEqDiff, Nat.reduceLT, Nat.reduceLeDiff, Nat.reduceBEq, Int.reduceAdd, Int.reduceSub, Int.reduceMul, Int.reduceNeg, Int.reduceToNat, Int.reduceLE, Int.reduceLT, Int.reduceEq, Int.reduceNatCast', Int.reduceNatCast, Int.natCast_zero, Int.toNat_natCast, Int.toNat_zero, Int.toNat_one, List.length_cons, List.length_nil, true_and, and_true, and_self, true_or, or_true, false_or, or_false, Bool.not_true, Bool.not_false, Nat.lt_add_one, Nat.zero_lt_succ, N0, swL_n, swL_c, List.toList_toArray, false_implies, true_implies, implies_true, forall_const, not_false_eq_true, not_true_eq_false, and_false, false_and, f]
            simp only [hK9]
            clear hK9 K9v
            refine J_rnG GM_fa (by omega) (by omega) (by omega) 4 _ _ _ _ (fun K9v hK9 => ?_)
            simp (maxSteps := 4000000) only [↓(X_aload_n (k := 0) (pc' := 55) dX8_recipe_54 rfl rfl), ↓gR_0, ↓(X_getR (pc' := 58) fl_8_50 dX8_recipe_55 rfl), kd_0, ↓(gV_c r0_0_6), kd_79, ↓(X_getR (pc' := 61) fl_8_125 dX8_recipe_58 rfl), ↓(gV_c r0_79_0), kd_80, ↓(X_iload_n (k := 2) (pc' := 62) dX8_recipe_61 rfl rfl), ↓gI_2, rn_0, gV_s, ↓pI_c, ↓pII_c, ↓pL_c, ↓pLL_c, ↓pR_c, ↓pRI_c, ↓pRII_c, ↓pRIL_c, ↓pRR_c, ↓pV_c, ↓pVV_c, ↓gI_c, ↓gL_c, ↓gR_c, f2_0, f2_1, nk_n, nk_i, nk_r, ↓reduceIte, r32, r64, Nat.reduceAdd, Nat.reduceSub, Nat.reduceEqDiff, Nat.reduceLT, Nat.reduceLeDiff, Nat.reduceBEq, Int.reduceAdd, Int.reduceSub, Int.reduceMul, Int.reduceNeg, Int.reduceToNat, Int.reduceLE, Int.reduceLT, Int.reduceEq, Int.reduceNatCast', Int.reduceNatCast, Int.natCast_zero, Int.toNat_natCast, Int.toNat_zero, Int.toNat_one, List.length_cons, List.length_nil, true_and, and_true, and_self, true_or, or_true, false_or, or_false, Bool.not_true, Bool.not_false, Nat.lt_add_one, Nat.zero_lt_succ, N0, swL_n, swL_c, List.toList_toArray, false_implies, true_implies, implies_true, forall_const, not_false_eq_true, not_true_eq_false, and_false, false_and]
            simp only [hK9]
            clear hK9 K9v
            refine J_callVd (ci := 4) GM_fa (ok_tell (M := M2) (d + 6) w q) dX8_recipe_62 k_8_129 (by omega) (Nat.le_of_ble_eq_true rfl) ⟨by omega, by omega⟩ rfl (by decide +kernel) rfl (by decide) (by simp only [N0]; omega) (by simp) rfl rfl ?_
            simp only [Option.toList, List.cons_append, List.nil_append]
            rw [tell_RS w3 q]
            refine J_iret dX8_recipe_65 rfl (by omega) (by omega) (⟨rfl, M2, rfl, hM2⟩)
        · have e : cRec (n : Int) (j : Int) w (M (367 + 5 * j) 5) (findF M j T 0) = 3 := by rw [cRec, if_pos h1, if_pos q, if_neg (by omega)]
          rw [e]
          refine J_rnG GM_fa (by omega) (by omega) (by omega) 3 _ _ _ _ (fun K9v hK9 => ?_)
          simp (maxSteps := 4000000) only [↓(X_aload_n (k := 3) (pc' := 25) dX8_recipe_24 rfl rfl), ↓gR_3, ↓(X_getI (pc' := 28) fl_8_118 (by decide) dX8_recipe_25 rfl), ↓(X_if_ne (tgt := 46) (pc' := 31) dX8_recipe_28 (by decide) rfl), rn_0, gV_s, ↓pI_c, ↓pII_c, ↓pL_c, ↓pLL_c, ↓pR_c, ↓pRI_c, ↓pRII_c, ↓pRIL_c, ↓pRR_c, ↓pV_c, ↓pVV_c, ↓gI_c, ↓gL_c, ↓gR_c, f2_0, f2_1, nk_n, nk_i, nk_r, ↓reduceIte, r32, r64, Nat.reduceAdd, Nat.reduceSub, Nat.reduceEqDiff, Nat.reduceLT, Nat.reduceLeDiff, Nat.reduceBEq, Int.reduceAdd, Int.reduceSub, Int.reduceMul, Int.reduceNeg, Int.reduceToNat, Int.reduceLE, Int.reduceLT, Int.reduceEq, Int.reduceNatCast', Int.reduceNatCast, Int.natCast_zero, Int.toNat_natCast, Int.toNat_zero, Int.toNat_one, List.length_cons, List.length_nil, true_and, and_true, and_self, true_or, or_true, false_or, or_false, Bool.not_true, Bool.not_false, Nat.lt_add_one, Nat.zero_lt_succ, N0, swL_n, swL_c, List.toList_toArray, false_implies, true_implies, implies_true, forall_const, not_false_eq_true, not_true_eq_false, and_false, false_and, a1, i2, q2, r1]
          simp only [hK9]
          clear hK9 K9v
          refine J_throw hl9 tOK_77 dX8_recipe_46 dX8_recipe_49 dX8_recipe_50 dX8_recipe_53 (by omega) (by simp) (by omega) (by omega) (⟨rfl, M, rfl, fun _ _ => rfl⟩)
      · have e : cRec (n : Int) (j : Int) w (M (367 + 5 * j) 5) (findF M j T 0) = 2 := by rw [cRec, if_pos h1, if_neg q]
        rw [inI_neg q, e]
        refine J_rnG GM_fa (by omega) (by omega) (by omega) 1 _ _ _ _ (fun K9v hK9 => ?_)
        simp (maxSteps := 4000000) only [↓(X_if_ne (tgt := 24) (pc' := 16) dX8_recipe_13 (by decide) rfl), rn_0, gV_s, ↓pI_c, ↓pII_c, ↓pL_c, ↓pLL_c, ↓pR_c, ↓pRI_c, ↓pRII_c, ↓pRIL_c, ↓pRR_c, ↓pV_c, ↓pVV_c, ↓gI_c, ↓gL_c, ↓gR_c, f2_0, f2_1, nk_n, nk_i, nk_r, ↓reduceIte, r32, r64, Nat.reduceAdd, Nat.reduceSub, Nat.reduceEqDiff, Nat.reduceLT, Nat.reduceLeDiff, Nat.reduceBEq, Int.reduceAdd, Int.reduceSub, Int.reduceMul, Int.reduceNeg, Int.reduceToNat, Int.reduceLE, Int.reduceLT, Int.reduceEq, Int.reduceNatCast', Int.reduceNatCast, Int.natCast_zero, Int.toNat_natCast, Int.toNat_zero, Int.toNat_one, List.length_cons, List.length_nil, true_and, and_true, and_self, true_or, or_true, false_or, or_false, Bool.not_true, Bool.not_false, Nat.lt_add_one, Nat.zero_lt_succ, N0, swL_n, swL_c, List.toList_toArray, false_implies, true_implies, implies_true, forall_const, not_false_eq_true, not_true_eq_false, and_false, false_and]
        simp only [hK9]
        clear hK9 K9v
        refine J_throw hl9 tOK_70 dX8_recipe_16 dX8_recipe_19 dX8_recipe_20 dX8_recipe_23 (by omega) (by simp) (by omega) (by omega) (⟨rfl, M, rfl, fun _ _ => rfl⟩)
set_option maxRecDepth 100000 in
set_option maxHeartbeats 4000000 in
theorem ok_chipGap {M : Nat → Nat → Int} (hl9 : l.stackTraces = false) (d n : Nat) (z y : Int) (hz : r32 z) (hy : r32 y) (hn : M 0 8 = (n : Int)) (hn2 : n ≤ 16) (hst : ∀ i, i < 16 → 0 ≤ M (367 + 5 * i) 5 ∧ M (367 + 5 * i) 5 ≤ 2) (hch : ∀ i, i < 16 → M (367 + 5 * i) 6 = 0 ∨ M (367 + 5 * i) 6 = 1) (hpd : ∀ i, i < 16 → 0 ≤ M 0 10 - M (367 + 5 * i) 7 ∧ M 0 10 - M (367 + 5 * i) 7 ≤ 10000) (hJ : jcOK M) : Ok l D cy (d + 7) 3 18 yX8_chipGap cX8_chipGap 7 (some (.int)) [.inr (.inr (some (0))), .inl (z), .inl (y)] (N0, R0, M) (fun o ν => o = outF [IOB, ISE] (cCG (n : Int) z y (M (367 + 5 * z.toNat) 6) (M (367 + 5 * y.toNat) 5)) (some (.inl (((chipF (M 0 10) (M (367 + 5 * z.toNat) 7) (M (369 + 5 * z.toNat) 0) - M (369 + 5 * y.toNat) 0).natAbs : Int) + (chipF (M 0 10) (M (367 + 5 * z.toNat) 7) (M (369 + 5 * z.toNat) 1) - M (369 + 5 * y.toNat) 1).natAbs + (chipF (M 0 10) (M (367 + 5 * z.toNat) 7) (M (369 + 5 * z.toNat) 2) - M (369 + 5 * y.toNat) 2).natAbs))) ∧ ν = (N0, R0, M)) := by
  refine Ok.intro (o := 8) (ini := false) [some (.inr (.inr (some (0)))), some (.inl (z)), some (.inl (y)), none, none, none, none] (by decide +kernel) rfl (fun h => by cases h) rfl (Nat.le_of_ble_eq_true rfl) rfl ?_
  refine J_rnG GM_fa (by omega) (by omega) (by omega) 2 _ _ _ _ (fun K9v hK9 => ?_)
  simp (maxSteps := 4000000) only [↓(X_aload_n (k := 0) (pc' := 1) dX8_chipGap_0 rfl rfl), ↓gR_0, ↓(X_iload_n (k := 1) (pc' := 2) dX8_chipGap_1 rfl rfl), ↓gI_1, rn_0, gV_s, ↓pI_c, ↓pII_c, ↓pL_c, ↓pLL_c, ↓pR_c, ↓pRI_c, ↓pRII_c, ↓pRIL_c, ↓pRR_c, ↓pV_c, ↓pVV_c, ↓gI_c, ↓gL_c, ↓gR_c, f2_0, f2_1, nk_n, nk_i, nk_r, ↓reduceIte, r32, r64, Nat.reduceAdd, Nat.reduceSub, Nat.reduceEqDiff, Nat.reduceLT, Nat.reduceLeDiff, Nat.reduceBEq, Int.reduceAdd, Int.reduceSub, Int.reduceMul, Int.reduceNeg, Int.reduceToNat, Int.reduceLE, Int.reduceLT, Int.reduceEq, Int.reduceNatCast', Int.reduceNatCast, Int.natCast_zero, Int.toNat_natCast, Int.toNat_zero, Int.toNat_one, List.length_cons, List.length_nil, true_and, and_true, and_self, true_or, or_true, false_or, or_false, Bool.not_true, Bool.not_false, Nat.lt_add_one, Nat.zero_lt_succ, N0, swL_n, swL_c, List.toList_toArray, false_implies, true_implies, implies_true, forall_const, not_false_eq_true, not_true_eq_false, and_false, false_and]
  simp only [hK9]
  clear hK9 K9v
  refine J_callV0 GM_fa (ok_jobNumbered hl9 (d + 0) n z hz hn hn2) dX8_chipGap_2 k_8_114 (by omega) (Nat.le_of_ble_eq_true rfl) ⟨by omega, by omega⟩ rfl (by decide +kernel) (by decide +kernel) (by simp only [N0]; omega) (by simp) rfl (fun q9 ν9 h9 => Or.inl (by simp only [h9.1, N0])) (fun E ν hE => exitsM (by omega) (by omega) ?_) (fun v ν hv _ => ?_)
  · obtain ⟨hν, ⟨h1, h2⟩ | ⟨h1, h2⟩⟩ := hE
    · cases h2
      subst hν
      exact ⟨by rw [cCG, if_neg (fun h => h1 h.1)]; rfl, rfl⟩
    · cases h2
  · obtain ⟨hν, ⟨h1, h2⟩ | ⟨h1, h2⟩⟩ := hv
    · cases h2
    cases h2
    subst hν
    simp only [Option.toList, List.cons_append, List.nil_append]
    refine J_rnG GM_fa (by omega) (by omega) (by omega) 3 _ _ _ _ (fun K9v hK9 => ?_)
    simp (maxSteps := 4000000) only [↓(X_astore_n (k := 3) (pc' := 6) dX8_chipGap_5 rfl rfl), ↓sto_3, ↓(X_aload_n (k := 0) (pc' := 7) dX8_chipGap_6 rfl rfl), ↓gR_0, ↓(X_iload_n (k := 2) (pc' := 8) dX8_chipGap_7 rfl rfl), ↓gI_2, rn_0, gV_s, ↓pI_c, ↓pII_c, ↓pL_c, ↓pLL_c, ↓pR_c, ↓pRI_c, ↓pRII_c, ↓pRIL_c, ↓pRR_c, ↓pV_c, ↓pVV_c, ↓gI_c, ↓gL_c, ↓gR_c, f2_0, f2_1, nk_n, nk_i, nk_r, ↓reduceIte, r32, r64, Nat.reduceAdd, Nat.reduceSub, Nat.reduceEqDiff, Nat.reduceLT, Nat.reduceLeDiff, Nat.reduceBEq, Int.reduceAdd, Int.reduceSub, Int.reduceMul, Int.reduceNeg, Int.reduceToNat, Int.reduceLE, Int.reduceLT, Int.reduceEq, Int.reduceNatCast', Int.reduceNatCast, Int.natCast_zero, Int.toNat_natCast, Int.toNat_zero, Int.toNat_one, List.length_cons, List.length_nil, true_and, and_true, and_self, true_or, or_true, false_or, or_false, Bool.not_true, Bool.not_false, Nat.lt_add_one, Nat.zero_lt_succ, N0, swL_n, swL_c, List.toList_toArray, false_implies, true_implies, implies_true, forall_const, not_false_eq_true, not_true_eq_false, and_false, false_and]
    simp only [hK9]
    clear hK9 K9v
    refine J_callV0 GM_fa (ok_jobNumbered hl9 (d + 0) n y hy hn hn2) dX8_chipGap_8 k_8_114 (by omega) (Nat.le_of_ble_eq_true rfl) ⟨by omega, by omega⟩ rfl (by decide +kernel) (by decide +kernel) (by simp only [N0]; omega) (by simp) rfl (fun q9 ν9 h9 => Or.inl (by simp only [h9.1, N0])) (fun E ν hE => exitsM (by omega) (by omega) ?_) (fun v ν hv _ => ?_)
    · obtain ⟨hν, ⟨g1, g2⟩ | ⟨g1, g2⟩⟩ := hE
      · cases g2
        subst hν
        exact ⟨by rw [cCG, if_neg (fun h => g1 h.2)]; rfl, rfl⟩
      · cases g2
    · obtain ⟨hν, ⟨g1, g2⟩ | ⟨g1, g2⟩⟩ := hv
      · cases g2
      cases g2
      subst hν
      simp only [Option.toList, List.cons_append, List.nil_append]
      obtain ⟨i, rfl⟩ : ∃ i : Nat, z = (i : Int) := ⟨z.toNat, by omega⟩
      obtain ⟨j, rfl⟩ : ∃ j : Nat, y = (j : Int) := ⟨y.toNat, by omega⟩
      rw [Int.toNat_natCast, Int.toNat_natCast]
      obtain ⟨a1, -, -, -⟩ := job_at i (by omega)
      obtain ⟨b1, -, -, b3, b4, -, -, -, -, b5, -⟩ := job_at j (by omega)
      have i2 : 367 + 5 * i < 449 := by omega
      have j2 : 367 + 5 * j < 449 := by omega
      have j3 : 369 + 5 * j < 449 := by omega
      have hs := hst j (by omega)
      have r1 : -2147483648 ≤ M (367 + 5 * j) 5 ∧ M (367 + 5 * j) 5 ≤ 2147483647 := by omega
      have hd := hpd i (by omega)
      have ci := hJ i (by omega)
      have cj := hJ j (by omega)
      have ff : ∀ p, p < 3 → (0 ≤ M (369 + 5 * i) p ∧ M (369 + 5 * i) p ≤ 100) ∧ (0 ≤ M (369 + 5 * j) p ∧ M (369 + 5 * j) p ≤ 100) := by
        intro p hp
        obtain ⟨u0, u1, u2⟩ := ci
        obtain ⟨v0, v1, v2⟩ := cj
        obtain e | e | e : p = 0 ∨ p = 1 ∨ p = 2 := by omega
        all_goals subst e; exact ⟨by assumption, by assumption⟩
      have fc : ∀ p, p < 3 → 0 ≤ chipF (M 0 10) (M (367 + 5 * i) 7) (M (369 + 5 * i) p) ∧ chipF (M 0 10) (M (367 + 5 * i) 7) (M (369 + 5 * i) p) ≤ 100 := by
        intro p hp
        have := ff p hp
        rw [chipF]
        split <;> omega
      rcases hch i (by omega) with c | c
      · have e : cCG (n : Int) (i : Int) (j : Int) (M (367 + 5 * i) 6) (M (367 + 5 * j) 5) = 2 := by rw [cCG, if_pos ⟨h1, g1⟩, if_pos (Or.inl c)]
        rw [e]
        refine J_rnG GM_fa (by omega) (by omega) (by omega) 4 _ _ _ _ (fun K9v hK9 => ?_)
        simp (maxSteps := 4000000) only [↓(X_astore (pc' := 13) dX8_chipGap_11 rfl), ↓sto_4, ↓(X_aload_n (k := 3) (pc' := 14) dX8_chipGap_13 rfl rfl), ↓gR_3, ↓(X_getI (pc' := 17) fl_8_165 (by decide) dX8_chipGap_14 rfl), ↓(X_if_eq (tgt := 28) (pc' := 20) dX8_chipGap_17 (by decide) rfl), rn_0, gV_s, ↓pI_c, ↓pII_c, ↓pL_c, ↓pLL_c, ↓pR_c, ↓pRI_c, ↓pRII_c, ↓pRIL_c, ↓pRR_c, ↓pV_c, ↓pVV_c, ↓gI_c, ↓gL_c, ↓gR_c, f2_0, f2_1, nk_n, nk_i, nk_r, ↓reduceIte, r32, r64, Nat.reduceAdd, Nat.reduceSub, Nat.reduceEqDiff, Nat.reduceLT, Nat.reduceLeDiff, Nat.reduceBEq, Int.reduceAdd, Int.reduceSub, Int.reduceMul, Int.reduceNeg, Int.reduceToNat, Int.reduceLE, Int.reduceLT, Int.reduceEq, Int.reduceNatCast', Int.reduceNatCast, Int.natCast_zero, Int.toNat_natCast, Int.toNat_zero, Int.toNat_one, List.length_cons, List.length_nil, true_and, and_true, and_self, true_or, or_true, false_or, or_false, Bool.not_true, Bool.not_false, Nat.lt_add_one, Nat.zero_lt_succ, N0, swL_n, swL_c, List.toList_toArray, false_implies, true_implies, implies_true, forall_const, not_false_eq_true, not_true_eq_false, and_false, false_and, a1, i2, c]
        simp only [hK9]
        clear hK9 K9v
        refine J_throw hl9 tOK_77 dX8_chipGap_28 dX8_chipGap_31 dX8_chipGap_32 dX8_chipGap_35 (by omega) (by simp) (by omega) (by omega) (⟨rfl, rfl⟩)
      · rcases (show M (367 + 5 * j) 5 = 0 ∨ ¬ M (367 + 5 * j) 5 = 0 by omega) with q2 | q2
        · have e : cCG (n : Int) (i : Int) (j : Int) (M (367 + 5 * i) 6) (M (367 + 5 * j) 5) = 2 := by rw [cCG, if_pos ⟨h1, g1⟩, if_pos (Or.inr q2)]
          rw [e]
          refine J_rnG GM_fa (by omega) (by omega) (by omega) 7 _ _ _ _ (fun K9v hK9 => ?_)
          simp (maxSteps := 4000000) only [↓(X_astore (pc' := 13) dX8_chipGap_11 rfl), ↓sto_4, ↓(X_aload_n (k := 3) (pc' := 14) dX8_chipGap_13 rfl rfl), ↓gR_3, ↓(X_getI (pc' := 17) fl_8_165 (by decide) dX8_chipGap_14 rfl), ↓(X_if_eq (tgt := 28) (pc' := 20) dX8_chipGap_17 (by decide) rfl), ↓(X_aload (pc' := 22) dX8_chipGap_20 rfl), ↓gR_4, ↓(X_getI (pc' := 25) fl_8_118 (by decide) dX8_chipGap_22 rfl), ↓(X_if_ne (tgt := 36) (pc' := 28) dX8_chipGap_25 (by decide) rfl), rn_0, gV_s, ↓pI_c, ↓pII_c, ↓pL_c, ↓pLL_c, ↓pR_c, ↓pRI_c, ↓pRII_c, ↓pRIL_c, ↓pRR_c, ↓pV_c, ↓pVV_c, ↓gI_c, ↓gL_c, ↓gR_c, f2_0, f2_1, nk_n, nk_i, nk_r, ↓reduceIte, r32, r64, Nat.reduceAdd, Nat.reduceSub, Nat.reduceEqDiff, Nat.reduceLT, Nat.reduceLeDiff, Nat.reduceBEq, Int.reduceAdd, Int.reduceSub, Int.reduceMul, Int.reduceNeg, Int.reduceToNat, Int.reduceLE, Int.reduceLT, Int.reduceEq, Int.reduceNatCast', Int.reduceNatCast, Int.natCast_zero, Int.toNat_natCast, Int.toNat_zero, Int.toNat_one, List.length_cons, List.length_nil, true_and, and_true, and_self, true_or, or_true, false_or, or_false, Bool.not_true, Bool.not_false, Nat.lt_add_one, Nat.zero_lt_succ, N0, swL_n, swL_c, List.toList_toArray, false_implies, true_implies, implies_true, forall_const, not_false_eq_true, not_true_eq_false, and_false, false_and, a1, b1, i2, j2, c, q2]
          simp only [hK9]
          clear hK9 K9v
          refine J_throw hl9 tOK_77 dX8_chipGap_28 dX8_chipGap_31 dX8_chipGap_32 dX8_chipGap_35 (by omega) (by simp) (by omega) (by omega) (⟨rfl, rfl⟩)
        · have e : cCG (n : Int) (i : Int) (j : Int) (M (367 + 5 * i) 6) (M (367 + 5 * j) 5) = 0 := by rw [cCG, if_pos ⟨h1, g1⟩, if_neg (by omega)]
          rw [e]
          have f0 := ff 0 (by omega)
          have f1 := ff 1 (by omega)
          have f2 := ff 2 (by omega)
          have k0 := fc 0 (by omega)
          have k1 := fc 1 (by omega)
          have k2 := fc 2 (by omega)
          refine J_rnG GM_fa (by omega) (by omega) (by omega) 7 _ _ _ _ (fun K9v hK9 => ?_)
          simp (maxSteps := 4000000) only [↓(X_astore (pc' := 13) dX8_chipGap_11 rfl), ↓sto_4, ↓(X_aload_n (k := 3) (pc' := 14) dX8_chipGap_13 rfl rfl), ↓gR_3, ↓(X_getI (pc' := 17) fl_8_165 (by decide) dX8_chipGap_14 rfl), ↓(X_if_eq (tgt := 28) (pc' := 20) dX8_chipGap_17 (by decide) rfl), ↓(X_aload (pc' := 22) dX8_chipGap_20 rfl), ↓gR_4, ↓(X_getI (pc' := 25) fl_8_118 (by decide) dX8_chipGap_22 rfl), ↓(X_if_ne (tgt := 36) (pc' := 28) dX8_chipGap_25 (by decide) rfl), rn_0, gV_s, ↓pI_c, ↓pII_c, ↓pL_c, ↓pLL_c, ↓pR_c, ↓pRI_c, ↓pRII_c, ↓pRIL_c, ↓pRR_c, ↓pV_c, ↓pVV_c, ↓gI_c, ↓gL_c, ↓gR_c, f2_0, f2_1, nk_n, nk_i, nk_r, ↓reduceIte, r32, r64, Nat.reduceAdd, Nat.reduceSub, Nat.reduceEqDiff, Nat.reduceLT, Nat.reduceLeDiff, Nat.reduceBEq, Int.reduceAdd, Int.reduceSub, Int.reduceMul, Int.reduceNeg, Int.reduceToNat, Int.reduceLE, Int.reduceLT, Int.reduceEq, Int.reduceNatCast', Int.reduceNatCast, Int.natCast_zero, Int.toNat_natCast, Int.toNat_zero, Int.toNat_one, List.length_cons, List.length_nil, true_and, and_true, and_self, true_or, or_true, false_or, or_false, Bool.not_true, Bool.not_false, Nat.lt_add_one, Nat.zero_lt_succ, N0, swL_n, swL_c, List.toList_toArray, false_implies, true_implies, implies_true, forall_const, not_false_eq_true, not_true_eq_false, and_false, false_and, a1, b1, i2, j2, c, q2, r1]
          simp only [hK9]
          clear hK9 K9v
          refine J_rnG GM_fa (by omega) (by omega) (by omega) 12 _ _ _ _ (fun K9v hK9 => ?_)
          simp (maxSteps := 4000000) only [↓(X_iconst (pc' := 37) dX8_chipGap_36 rfl), ↓(X_istore (pc' := 39) dX8_chipGap_37 rfl), ↓sto_5, ↓(X_iconst (pc' := 40) dX8_chipGap_39 rfl), ↓(X_istore (pc' := 42) dX8_chipGap_40 rfl), ↓sto_6, ↓(X_iload (pc' := 44) dX8_chipGap_42 rfl), ↓gI_6, ↓(X_iconst (pc' := 45) dX8_chipGap_44 rfl), ↓(X_icmp_ge (tgt := 81) (pc' := 48) dX8_chipGap_45 (by decide) rfl), ↓(X_iload (pc' := 50) dX8_chipGap_48 rfl), ↓gI_5, ↓(X_aload_n (k := 3) (pc' := 51) dX8_chipGap_50 rfl rfl), ↓gR_3, ↓(X_iload (pc' := 53) dX8_chipGap_51 rfl), ↓(X_aload_n (k := 0) (pc' := 54) dX8_chipGap_53 rfl rfl), ↓gR_0, ↓(X_getI (pc' := 57) fl_8_168 (by decide) dX8_chipGap_54 rfl), kd_0, rn_0, gV_s, ↓pI_c, ↓pII_c, ↓pL_c, ↓pLL_c, ↓pR_c, ↓pRI_c, ↓pRII_c, ↓pRIL_c, ↓pRR_c, ↓pV_c, ↓pVV_c, ↓gI_c, ↓gL_c, ↓gR_c, f2_0, f2_1, nk_n, nk_i, nk_r, ↓reduceIte, r32, r64, Nat.reduceAdd, Nat.reduceSub, Nat.reduceEqDiff, Nat.reduceLT, Nat.reduceLeDiff, Nat.reduceBEq, Int.reduceAdd, Int.reduceSub, Int.reduceMul, Int.reduceNeg, Int.reduceToNat, Int.reduceLE, Int.reduceLT, Int.reduceEq, Int.reduceNatCast', Int.reduceNatCast, Int.natCast_zero, Int.toNat_natCast, Int.toNat_zero, Int.toNat_one, List.length_cons, List.length_nil, true_and, and_true, and_self, true_or, or_true, false_or, or_false, Bool.not_true, Bool.not_false, Nat.lt_add_one, Nat.zero_lt_succ, N0, swL_n, swL_c, List.toList_toArray, false_implies, true_implies, implies_true, forall_const, not_false_eq_true, not_true_eq_false, and_false, false_and]
          simp only [hK9]
          clear hK9 K9v
          refine J_callVd (ci := 1) GM_fa (ok_chipPart (M := M) (d + 5) i 0 (M 0 10) (by omega) (by omega) hd f0.1) dX8_chipGap_57 k_8_206 (by omega) (Nat.le_of_ble_eq_true rfl) ⟨by omega, by omega⟩ rfl (by exact a1) rfl (by decide) (by simp only [N0]; omega) (by simp) rfl rfl ?_
          simp only [Option.toList, List.cons_append, List.nil_append]
          rw [show (if M (369 + 5 * i) 0 + (M 0 10 - M (367 + 5 * i) 7) / 10 < 100 then M (369 + 5 * i) 0 + (M 0 10 - M (367 + 5 * i) 7) / 10 else 100) = chipF (M 0 10) (M (367 + 5 * i) 7) (M (369 + 5 * i) 0) from rfl]
          refine J_rnG GM_fa (by omega) (by omega) (by omega) 18 _ _ _ _ (fun K9v hK9 => ?_)
          simp (maxSteps := 4000000) only [↓(X_aload (pc' := 62) dX8_chipGap_60 rfl), ↓gR_4, ↓(X_getR (pc' := 65) fl_8_143 dX8_chipGap_62 rfl), ↓(X_iload (pc' := 67) dX8_chipGap_65 rfl), ↓gI_6, ↓(X_iaload (pc' := 68) dX8_chipGap_67 rfl), ↓(X_isub (pc' := 69) dX8_chipGap_68 rfl), ↓(X_abs (pc' := 72) jd_8_210 dX8_chipGap_69 rfl), ↓(X_iadd (pc' := 73) dX8_chipGap_72 rfl), ↓(X_istore (pc' := 75) dX8_chipGap_73 rfl), ↓sto_5, ↓(X_iinc (pc' := 78) dX8_chipGap_75 rfl), ↓sto_6, ↓(X_goto (pc' := 42) dX8_chipGap_78 (by decide)), ↓(X_iload (pc' := 44) dX8_chipGap_42 rfl), ↓(X_iconst (pc' := 45) dX8_chipGap_44 rfl), ↓(X_icmp_ge (tgt := 81) (pc' := 48) dX8_chipGap_45 (by decide) rfl), ↓(X_iload (pc' := 50) dX8_chipGap_48 rfl), ↓gI_5, ↓(X_aload_n (k := 3) (pc' := 51) dX8_chipGap_50 rfl rfl), ↓gR_3, ↓(X_iload (pc' := 53) dX8_chipGap_51 rfl), ↓(X_aload_n (k := 0) (pc' := 54) dX8_chipGap_53 rfl rfl), ↓gR_0, ↓(X_getI (pc' := 57) fl_8_168 (by decide) dX8_chipGap_54 rfl), kd_0, rn_0, gV_s, ↓pI_c, ↓pII_c, ↓pL_c, ↓pLL_c, ↓pR_c, ↓pRI_c, ↓pRII_c, ↓pRIL_c, ↓pRR_c, ↓pV_c, ↓pVV_c, ↓gI_c, ↓gL_c, ↓gR_c, f2_0, f2_1, nk_n, nk_i, nk_r, ↓reduceIte, r32, r64, Nat.reduceAdd, Nat.reduceSub, Nat.reduceEqDiff, Nat.reduceLT, Nat.reduceLeDiff, Nat.reduceBEq, Int.reduceAdd, Int.reduceSub, Int.reduceMul, Int.reduceNeg, Int.reduceToNat, Int.reduceLE, Int.reduceLT, Int.reduceEq, Int.reduceNatCast', Int.reduceNatCast, Int.natCast_zero, Int.toNat_natCast, Int.toNat_zero, Int.toNat_one, List.length_cons, List.length_nil, true_and, and_true, and_self, true_or, or_true, false_or, or_false, Bool.not_true, Bool.not_false, Nat.lt_add_one, Nat.zero_lt_succ, N0, swL_n, swL_c, List.toList_toArray, false_implies, true_implies, implies_true, forall_const, not_false_eq_true, not_true_eq_false, and_false, false_and, b1, b3, b4, ↓(gV_c b5), j2, j3, a1, i2]
          simp only [hK9]
          clear hK9 K9v
          repeat (refine And.intro (by first | omega | assumption | (refine ⟨?_, ?_⟩ <;> omega)) ?_)
          have hc1 := ok_chipPart (l := l) (D := D) (cy := cy) (M := M) (d + 5) i 1 (M 0 10) (by omega) (by omega) hd f1.1
          rw [show ((1 : Nat) : Int) = 1 from rfl] at hc1
          refine J_callVd (ci := 1) GM_fa (hc1) dX8_chipGap_57 k_8_206 (by omega) (Nat.le_of_ble_eq_true rfl) ⟨by omega, by omega⟩ rfl (by exact a1) rfl (by decide) (by simp only [N0]; omega) (by simp) rfl rfl ?_
          simp only [Option.toList, List.cons_append, List.nil_append]
          rw [show (if M (369 + 5 * i) 1 + (M 0 10 - M (367 + 5 * i) 7) / 10 < 100 then M (369 + 5 * i) 1 + (M 0 10 - M (367 + 5 * i) 7) / 10 else 100) = chipF (M 0 10) (M (367 + 5 * i) 7) (M (369 + 5 * i) 1) from rfl]
          refine J_rnG GM_fa (by omega) (by omega) (by omega) 18 _ _ _ _ (fun K9v hK9 => ?_)
          simp (maxSteps := 4000000) only [↓(X_aload (pc' := 62) dX8_chipGap_60 rfl), ↓gR_4, ↓(X_getR (pc' := 65) fl_8_143 dX8_chipGap_62 rfl), ↓(X_iload (pc' := 67) dX8_chipGap_65 rfl), ↓gI_6, ↓(X_iaload (pc' := 68) dX8_chipGap_67 rfl), ↓(X_isub (pc' := 69) dX8_chipGap_68 rfl), ↓(X_abs (pc' := 72) jd_8_210 dX8_chipGap_69 rfl), ↓(X_iadd (pc' := 73) dX8_chipGap_72 rfl), ↓(X_istore (pc' := 75) dX8_chipGap_73 rfl), ↓sto_5, ↓(X_iinc (pc' := 78) dX8_chipGap_75 rfl), ↓sto_6, ↓(X_goto (pc' := 42) dX8_chipGap_78 (by decide)), ↓(X_iload (pc' := 44) dX8_chipGap_42 rfl), ↓(X_iconst (pc' := 45) dX8_chipGap_44 rfl), ↓(X_icmp_ge (tgt := 81) (pc' := 48) dX8_chipGap_45 (by decide) rfl), ↓(X_iload (pc' := 50) dX8_chipGap_48 rfl), ↓gI_5, ↓(X_aload_n (k := 3) (pc' := 51) dX8_chipGap_50 rfl rfl), ↓gR_3, ↓(X_iload (pc' := 53) dX8_chipGap_51 rfl), ↓(X_aload_n (k := 0) (pc' := 54) dX8_chipGap_53 rfl rfl), ↓gR_0, ↓(X_getI (pc' := 57) fl_8_168 (by decide) dX8_chipGap_54 rfl), kd_0, rn_0, gV_s, ↓pI_c, ↓pII_c, ↓pL_c, ↓pLL_c, ↓pR_c, ↓pRI_c, ↓pRII_c, ↓pRIL_c, ↓pRR_c, ↓pV_c, ↓pVV_c, ↓gI_c, ↓gL_c, ↓gR_c, f2_0, f2_1, nk_n, nk_i, nk_r, ↓reduceIte, r32, r64, Nat.reduceAdd, Nat.reduceSub, Nat.reduceEqDiff, Nat.reduceLT, Nat.reduceLeDiff, Nat.reduceBEq, Int.reduceAdd, Int.reduceSub, Int.reduceMul, Int.reduceNeg, Int.reduceToNat, Int.reduceLE, Int.reduceLT, Int.reduceEq, Int.reduceNatCast', Int.reduceNatCast, Int.natCast_zero, Int.toNat_natCast, Int.toNat_zero, Int.toNat_one, List.length_cons, List.length_nil, true_and, and_true, and_self, true_or, or_true, false_or, or_false, Bool.not_true, Bool.not_false, Nat.lt_add_one, Nat.zero_lt_succ, N0, swL_n, swL_c, List.toList_toArray, false_implies, true_implies, implies_true, forall_const, not_false_eq_true, not_true_eq_false, and_false, false_and, b1, b3, b4, ↓(gV_c b5), j2, j3, a1, i2]
          simp only [hK9]
          clear hK9 K9v
          repeat (refine And.intro (by first | omega | assumption | (refine ⟨?_, ?_⟩ <;> omega)) ?_)
          have hc2 := ok_chipPart (l := l) (D := D) (cy := cy) (M := M) (d + 5) i 2 (M 0 10) (by omega) (by omega) hd f2.1
          rw [show ((2 : Nat) : Int) = 2 from rfl] at hc2
          refine J_callVd (ci := 1) GM_fa (hc2) dX8_chipGap_57 k_8_206 (by omega) (Nat.le_of_ble_eq_true rfl) ⟨by omega, by omega⟩ rfl (by exact a1) rfl (by decide) (by simp only [N0]; omega) (by simp) rfl rfl ?_
          simp only [Option.toList, List.cons_append, List.nil_append]
          rw [show (if M (369 + 5 * i) 2 + (M 0 10 - M (367 + 5 * i) 7) / 10 < 100 then M (369 + 5 * i) 2 + (M 0 10 - M (367 + 5 * i) 7) / 10 else 100) = chipF (M 0 10) (M (367 + 5 * i) 7) (M (369 + 5 * i) 2) from rfl]
          refine J_rnG GM_fa (by omega) (by omega) (by omega) 13 _ _ _ _ (fun K9v hK9 => ?_)
          simp (maxSteps := 4000000) only [↓(X_aload (pc' := 62) dX8_chipGap_60 rfl), ↓gR_4, ↓(X_getR (pc' := 65) fl_8_143 dX8_chipGap_62 rfl), ↓(X_iload (pc' := 67) dX8_chipGap_65 rfl), ↓gI_6, ↓(X_iaload (pc' := 68) dX8_chipGap_67 rfl), ↓(X_isub (pc' := 69) dX8_chipGap_68 rfl), ↓(X_abs (pc' := 72) jd_8_210 dX8_chipGap_69 rfl), ↓(X_iadd (pc' := 73) dX8_chipGap_72 rfl), ↓(X_istore (pc' := 75) dX8_chipGap_73 rfl), ↓sto_5, ↓(X_iinc (pc' := 78) dX8_chipGap_75 rfl), ↓sto_6, ↓(X_goto (pc' := 42) dX8_chipGap_78 (by decide)), ↓(X_iload (pc' := 44) dX8_chipGap_42 rfl), ↓(X_iconst (pc' := 45) dX8_chipGap_44 rfl), ↓(X_icmp_ge (tgt := 81) (pc' := 48) dX8_chipGap_45 (by decide) rfl), rn_0, gV_s, ↓pI_c, ↓pII_c, ↓pL_c, ↓pLL_c, ↓pR_c, ↓pRI_c, ↓pRII_c, ↓pRIL_c, ↓pRR_c, ↓pV_c, ↓pVV_c, ↓gI_c, ↓gL_c, ↓gR_c, f2_0, f2_1, nk_n, nk_i, nk_r, ↓reduceIte, r32, r64, Nat.reduceAdd, Nat.reduceSub, Nat.reduceEqDiff, Nat.reduceLT, Nat.reduceLeDiff, Nat.reduceBEq, Int.reduceAdd, Int.reduceSub, Int.reduceMul, Int.reduceNeg, Int.reduceToNat, Int.reduceLE, Int.reduceLT, Int.reduceEq, Int.reduceNatCast', Int.reduceNatCast, Int.natCast_zero, Int.toNat_natCast, Int.toNat_zero, Int.toNat_one, List.length_cons, List.length_nil, true_and, and_true, and_self, true_or, or_true, false_or, or_false, Bool.not_true, Bool.not_false, Nat.lt_add_one, Nat.zero_lt_succ, N0, swL_n, swL_c, List.toList_toArray, false_implies, true_implies, implies_true, forall_const, not_false_eq_true, not_true_eq_false, and_false, false_and, b1, b3, b4, ↓(gV_c b5), j2, j3, a1, i2]
          simp only [hK9]
          clear hK9 K9v
          repeat (refine And.intro (by first | omega | assumption | (refine ⟨?_, ?_⟩ <;> omega)) ?_)
          refine J_rnG GM_fa (by omega) (by omega) (by omega) 1 _ _ _ _ (fun K9v hK9 => ?_)
          simp (maxSteps := 4000000) only [↓(X_iload (pc' := 83) dX8_chipGap_81 rfl), ↓gI_5, rn_0, gV_s, ↓pI_c, ↓pII_c, ↓pL_c, ↓pLL_c, ↓pR_c, ↓pRI_c, ↓pRII_c, ↓pRIL_c, ↓pRR_c, ↓pV_c, ↓pVV_c, ↓gI_c, ↓gL_c, ↓gR_c, f2_0, f2_1, nk_n, nk_i, nk_r, ↓reduceIte, r32, r64, Nat.reduceAdd, Nat.reduceSub, Nat.reduceEqDiff, Nat.reduceLT, Nat.reduceLeDiff, Nat.reduceBEq, Int.reduceAdd, Int.reduceSub, Int.reduceMul, Int.reduceNeg, Int.reduceToNat, Int.reduceLE, Int.reduceLT, Int.reduceEq, Int.reduceNatCast', Int.reduceNatCast, Int.natCast_zero, Int.toNat_natCast, Int.toNat_zero, Int.toNat_one, List.length_cons, List.length_nil, true_and, and_true, and_self, true_or, or_true, false_or, or_false, Bool.not_true, Bool.not_false, Nat.lt_add_one, Nat.zero_lt_succ, N0, swL_n, swL_c, List.toList_toArray, false_implies, true_implies, implies_true, forall_const, not_false_eq_true, not_true_eq_false, and_false, false_and]
          simp only [hK9]
          clear hK9 K9v
          rw [Int.zero_add]
          refine J_iret dX8_chipGap_83 rfl (by omega) (by omega) (⟨rfl, rfl⟩)
end CD
