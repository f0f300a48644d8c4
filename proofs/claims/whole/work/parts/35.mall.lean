/-! the model tries all recipes of some tenths of a tin -/
def wI (M0 M : Nat → Nat → Int) (s : Nat → Int) : Prop := (∀ x, x ≠ 447 → x ≠ 460 → x ≠ 463 → x ≠ 464 → M x = M0 x) ∧ (∀ k, k ≠ 23 → M 447 k = M0 447 k) ∧ RSm M s
theorem bas_pre {gmax tt tin : Int} {mo : Nat → Int} {G : (Nat → Int) → Int} (hG : ∀ m, 0 ≤ G m) {a b c e : Int} {s : Nat → Int} (h : preS gmax tt tin a b c s) (ha : 0 ≤ a ∧ a ≤ 20) (hb : 0 ≤ b ∧ b ≤ 20) (hc : 0 ≤ c ∧ c ≤ 20) (ht : -1 ≤ tin ∧ tin ≤ 40) : preS gmax tt tin a b (c + 1) (candS mo G tt tin a b c e s) := by
  unfold candS
  split
  · exact preS_step h ha hb hc ht (hG _)
  · exact preS_mono h (Or.inr ⟨rfl, Or.inr ⟨rfl, Or.inr ⟨rfl, by omega⟩⟩⟩)
section ME
variable {l : Launch} {D : va_G} {cy : Nat → ClassId}
set_option maxRecDepth 100000 in
set_option maxHeartbeats 4000000 in
theorem jj_t3 {M0 : Nat → Nat → Int} {C : Nat → Nat → Int} {W st tk : Nat → Int} {Φ : Out → Mem → Prop} (d i tt left a b : Nat) (gr gmax tin : Int) (hW : mW M0 i gr gmax C W st) (hl : left + tt = 10) (ha : a + b ≤ left) (htin : -1 ≤ tin ∧ tin ≤ 40) (htk : ∀ b, b < 4 → M0 461 b = tk b ∧ 0 ≤ tk b) (htw : wt tk = gr * tt * 1000) : ∀ (k c : Nat) (M : Nat → Nat → Int) (s : Nat → Int), c + k = left + 1 - a - b → wI M0 M s → preS gmax tt tin a b c s → (∀ (M' : Nat → Nat → Int) (s' : Nat → Int) (e7 : Option AV), nk e7 → s' = loopN (bas3 (candS (fun b => st b / (gr * 1000)) (gapC C W (gr * 1000) (wpC C tk)) tt tin) left a b) k c s → wI M0 M' s' → preS gmax tt tin a (b + 1 : Nat) 0 s' → J l D cy (GM l D cy 9 cX9_triesAll 8 (d + 4) 0 0 false none Φ) 124 [some (.inr (.inr (some 447))), some (.inl (i : Int)), some (.inl (tt : Int)), some (.inl tin), some (.inl (left : Int)), some (.inl (a : Int)), some (.inl (b : Int)), e7] [] (468, R0, M') 0 0) →
    J l D cy (GM l D cy 9 cX9_triesAll 8 (d + 4) 0 0 false none Φ) 81 [some (.inr (.inr (some 447))), some (.inl (i : Int)), some (.inl (tt : Int)), some (.inl tin), some (.inl (left : Int)), some (.inl (a : Int)), some (.inl (b : Int)), some (.inl (c : Int))] [] (468, R0, M) 0 0 := by
  intro k
  induction k with
  | zero =>
    intro c M s hc hI hp hfin
    have q : (left : Int) - (a : Int) - (b : Int) < (c : Int) := by omega
    have r1 : -2147483648 ≤ (c : Int) ∧ (c : Int) ≤ 2147483647 := by omega
    have r2 : -2147483648 ≤ (left : Int) - (a : Int) - (b : Int) ∧ (left : Int) - (a : Int) - (b : Int) ≤ 2147483647 := by omega
    refine J_rnG GM_fa (by omega) (by omega) (by omega) 7 _ _ _ _ (fun K9v hK9 => ?_)
    simp (maxSteps := 4000000) only [↓(X_iload (pc' := 83) dX9_triesAll_81 rfl), ↓gI_7, ↓(X_iload (pc' := 85) dX9_triesAll_83 rfl), ↓gI_4, ↓(X_iload (pc' := 87) dX9_triesAll_85 rfl), ↓gI_5, ↓(X_isub (pc' := 88) dX9_triesAll_87 rfl), ↓(X_iload (pc' := 90) dX9_triesAll_88 rfl), ↓gI_6, ↓(X_isub (pc' := 91) dX9_triesAll_90 rfl), ↓(X_icmp_gt (tgt := 124) (pc' := 94) dX9_triesAll_91 (by decide) rfl), rn_0, gV_s, ↓pI_c, ↓pII_c, ↓pL_c, ↓pLL_c, ↓pR_c, ↓pRI_c, ↓pRII_c, ↓pRIL_c, ↓pRR_c, ↓pV_c, ↓pVV_c, ↓gI_c, ↓gL_c, ↓gR_c, f2_0, f2_1, nk_n, nk_i, nk_r, ↓reduceIte, r32, r64, Nat.reduceAdd, Nat.reduceSub, Nat.reduceEqDiff, Nat.reduceLT, Nat.reduceLeDiff, Nat.reduceBEq, Int.reduceAdd, Int.reduceSub, Int.reduceMul, Int.reduceNeg, Int.reduceToNat, Int.reduceLE, Int.reduceLT, Int.reduceEq, Int.reduceNatCast', Int.reduceNatCast, Int.natCast_zero, Int.toNat_natCast, Int.toNat_zero, Int.toNat_one, List.length_cons, List.length_nil, true_and, and_true, and_self, true_or, or_true, false_or, or_false, Bool.not_true, Bool.not_false, Nat.lt_add_one, Nat.zero_lt_succ, N0, swL_n, swL_c, List.toList_toArray, false_implies, true_implies, implies_true, forall_const, not_false_eq_true, not_true_eq_false, and_false, false_and, q, r1, r2]
    simp only [hK9]
    clear hK9 K9v
    exact hfin M s _ (nk_i.mpr trivial) rfl hI (preS_mono hp (by omega))
  | succ k ih =>
    intro c M s hc hI hp hfin
    have q : ¬ (left : Int) - (a : Int) - (b : Int) < (c : Int) := by omega
    have r1 : -2147483648 ≤ (c : Int) ∧ (c : Int) ≤ 2147483647 := by omega
    have r2 : -2147483648 ≤ (left : Int) - (a : Int) - (b : Int) ∧ (left : Int) - (a : Int) - (b : Int) ≤ 2147483647 := by omega
    refine J_rnG GM_fa (by omega) (by omega) (by omega) 7 _ _ _ _ (fun K9v hK9 => ?_)
    simp (maxSteps := 4000000) only [↓(X_iload (pc' := 83) dX9_triesAll_81 rfl), ↓gI_7, ↓(X_iload (pc' := 85) dX9_triesAll_83 rfl), ↓gI_4, ↓(X_iload (pc' := 87) dX9_triesAll_85 rfl), ↓gI_5, ↓(X_isub (pc' := 88) dX9_triesAll_87 rfl), ↓(X_iload (pc' := 90) dX9_triesAll_88 rfl), ↓gI_6, ↓(X_isub (pc' := 91) dX9_triesAll_90 rfl), ↓(X_icmp_gt (tgt := 124) (pc' := 94) dX9_triesAll_91 (by decide) rfl), rn_0, gV_s, ↓pI_c, ↓pII_c, ↓pL_c, ↓pLL_c, ↓pR_c, ↓pRI_c, ↓pRII_c, ↓pRIL_c, ↓pRR_c, ↓pV_c, ↓pVV_c, ↓gI_c, ↓gL_c, ↓gR_c, f2_0, f2_1, nk_n, nk_i, nk_r, ↓reduceIte, r32, r64, Nat.reduceAdd, Nat.reduceSub, Nat.reduceEqDiff, Nat.reduceLT, Nat.reduceLeDiff, Nat.reduceBEq, Int.reduceAdd, Int.reduceSub, Int.reduceMul, Int.reduceNeg, Int.reduceToNat, Int.reduceLE, Int.reduceLT, Int.reduceEq, Int.reduceNatCast', Int.reduceNatCast, Int.natCast_zero, Int.toNat_natCast, Int.toNat_zero, Int.toNat_one, List.length_cons, List.length_nil, true_and, and_true, and_self, true_or, or_true, false_or, or_false, Bool.not_true, Bool.not_false, Nat.lt_add_one, Nat.zero_lt_succ, N0, swL_n, swL_c, List.toList_toArray, false_implies, true_implies, implies_true, forall_const, not_false_eq_true, not_true_eq_false, and_false, false_and, q, r1, r2]
    simp only [hK9]
    clear hK9 K9v
    refine J_rnG GM_fa (by omega) (by omega) (by omega) 14 _ _ _ _ (fun K9v hK9 => ?_)
    simp (maxSteps := 4000000) only [↓(X_aload_n (k := 0) (pc' := 95) dX9_triesAll_94 rfl rfl), ↓gR_0, ↓(X_iload_n (k := 1) (pc' := 96) dX9_triesAll_95 rfl rfl), ↓gI_1, ↓(X_iload (pc' := 98) dX9_triesAll_96 rfl), ↓gI_5, ↓(X_iload (pc' := 100) dX9_triesAll_98 rfl), ↓gI_6, ↓(X_iload (pc' := 102) dX9_triesAll_100 rfl), ↓gI_7, ↓(X_iload (pc' := 104) dX9_triesAll_102 rfl), ↓gI_4, ↓(X_iload (pc' := 106) dX9_triesAll_104 rfl), ↓(X_isub (pc' := 107) dX9_triesAll_106 rfl), ↓(X_iload (pc' := 109) dX9_triesAll_107 rfl), ↓(X_isub (pc' := 110) dX9_triesAll_109 rfl), ↓(X_iload (pc' := 112) dX9_triesAll_110 rfl), ↓(X_isub (pc' := 113) dX9_triesAll_112 rfl), ↓(X_iload_n (k := 2) (pc' := 114) dX9_triesAll_113 rfl rfl), ↓gI_2, ↓(X_iload_n (k := 3) (pc' := 115) dX9_triesAll_114 rfl rfl), ↓gI_3, rn_0, gV_s, ↓pI_c, ↓pII_c, ↓pL_c, ↓pLL_c, ↓pR_c, ↓pRI_c, ↓pRII_c, ↓pRIL_c, ↓pRR_c, ↓pV_c, ↓pVV_c, ↓gI_c, ↓gL_c, ↓gR_c, f2_0, f2_1, nk_n, nk_i, nk_r, ↓reduceIte, r32, r64, Nat.reduceAdd, Nat.reduceSub, Nat.reduceEqDiff, Nat.reduceLT, Nat.reduceLeDiff, Nat.reduceBEq, Int.reduceAdd, Int.reduceSub, Int.reduceMul, Int.reduceNeg, Int.reduceToNat, Int.reduceLE, Int.reduceLT, Int.reduceEq, Int.reduceNatCast', Int.reduceNatCast, Int.natCast_zero, Int.toNat_natCast, Int.toNat_zero, Int.toNat_one, List.length_cons, List.length_nil, true_and, and_true, and_self, true_or, or_true, false_or, or_false, Bool.not_true, Bool.not_false, Nat.lt_add_one, Nat.zero_lt_succ, N0, swL_n, swL_c, List.toList_toArray, false_implies, true_implies, implies_true, forall_const, not_false_eq_true, not_true_eq_false, and_false, false_and]
    simp only [hK9]
    clear hK9 K9v
    have hWM : mW M i gr gmax C W st := mW_congr hW (hI.1 448 (by decide) (by decide) (by decide) (by decide)) (hI.1 450 (by decide) (by decide) (by decide) (by decide)) (hI.1 453 (by decide) (by decide) (by decide) (by decide)) (hI.1 455 (by decide) (by decide) (by decide) (by decide)) (hI.1 456 (by decide) (by decide) (by decide) (by decide))
    refine J_callV (ci := 9) GM_fa (om_tries (M := M) (C := C) (W := W) (st := st) (tk := tk) (s := s) (d + 0) i gr gmax (a : Int) (b : Int) (c : Int) ((left : Int) - (a : Int) - (b : Int) - (c : Int)) (tt : Int) tin hWM (by omega) (by omega) (by omega) (by omega) (by omega) (by omega) htin (by rw [hI.1 461 (by decide) (by decide) (by decide) (by decide)]; exact htk) htw hI.2.2 hp) (by first | exact calm_det | assumption | (intro q9 ν9 h9; obtain ⟨h8, h6, M9, h7, -⟩ := h9; exact ⟨⟨_, h8⟩, by rw [h7]; rfl⟩) | (intro q9 ν9 h9; obtain ⟨h8, M9, h7, -⟩ := h9; first | exact ⟨⟨_, h8⟩, by rw [h7]; rfl⟩ | exact ⟨⟨_, h7⟩, by rw [h8]; rfl⟩ | exact ⟨⟨_, h7⟩, by rw [h8]⟩)) dX9_triesAll_115 k_9_120 (by omega) (Nat.le_of_ble_eq_true rfl) ⟨by omega, by omega⟩ rfl (by decide +kernel) rfl (by decide) (by simp only [N0]; omega) (by simp) rfl (fun v ν hv => ?_)
    obtain ⟨hv0, M2, rfl, x1, x2, x3⟩ := hv
    cases hv0
    simp only [Option.toList, List.nil_append]
    refine J_rnG GM_fa (by omega) (by omega) (by omega) 2 _ _ _ _ (fun K9v hK9 => ?_)
    simp (maxSteps := 4000000) only [↓(X_iinc (pc' := 121) dX9_triesAll_118 rfl), ↓gI_7, ↓sto_7, ↓(X_goto (pc' := 81) dX9_triesAll_121 (by decide)), rn_0, gV_s, ↓pI_c, ↓pII_c, ↓pL_c, ↓pLL_c, ↓pR_c, ↓pRI_c, ↓pRII_c, ↓pRIL_c, ↓pRR_c, ↓pV_c, ↓pVV_c, ↓gI_c, ↓gL_c, ↓gR_c, f2_0, f2_1, nk_n, nk_i, nk_r, ↓reduceIte, r32, r64, Nat.reduceAdd, Nat.reduceSub, Nat.reduceEqDiff, Nat.reduceLT, Nat.reduceLeDiff, Nat.reduceBEq, Int.reduceAdd, Int.reduceSub, Int.reduceMul, Int.reduceNeg, Int.reduceToNat, Int.reduceLE, Int.reduceLT, Int.reduceEq, Int.reduceNatCast', Int.reduceNatCast, Int.natCast_zero, Int.toNat_natCast, Int.toNat_zero, Int.toNat_one, List.length_cons, List.length_nil, true_and, and_true, and_self, true_or, or_true, false_or, or_false, Bool.not_true, Bool.not_false, Nat.lt_add_one, Nat.zero_lt_succ, N0, swL_n, swL_c, List.toList_toArray, false_implies, true_implies, implies_true, forall_const, not_false_eq_true, not_true_eq_false, and_false, false_and]
    simp only [hK9]
    clear hK9 K9v
    rw [show (c : Int) + 1 = ((c + 1 : Nat) : Int) by omega]
    refine ih (c + 1) M2 _ (by omega) ⟨fun x h1 h2 h3 h4 => by rw [x1 x h1 h2 h3 h4, hI.1 x h1 h2 h3 h4], fun k hk => by rw [x2 k hk, hI.2.1 k hk], x3⟩ ?_ (fun M' s' e7 he7 hs' => hfin M' s' e7 he7 (by rw [loopN]; exact hs'))
    have := bas_pre (mo := fun b => st b / (gr * 1000)) (G := gapC C W (gr * 1000) (wpC C tk)) (e := (left : Int) - (a : Int) - (b : Int) - (c : Int)) (fun _ => gapC_nn) hp (by omega) (by omega) (by omega) htin
    rw [show ((c + 1 : Nat) : Int) = (c : Int) + 1 by omega]
    exact this
set_option maxRecDepth 100000 in
set_option maxHeartbeats 4000000 in
theorem jj_t2 {M0 : Nat → Nat → Int} {C : Nat → Nat → Int} {W st tk : Nat → Int} {Φ : Out → Mem → Prop} (d i tt left a : Nat) (gr gmax tin : Int) (hW : mW M0 i gr gmax C W st) (hl : left + tt = 10) (ha : a ≤ left) (htin : -1 ≤ tin ∧ tin ≤ 40) (htk : ∀ b, b < 4 → M0 461 b = tk b ∧ 0 ≤ tk b) (htw : wt tk = gr * tt * 1000) : ∀ (k b : Nat) (M : Nat → Nat → Int) (s : Nat → Int) (e7 : Option AV), nk e7 → b + k = left + 1 - a → wI M0 M s → preS gmax tt tin a b 0 s → (∀ (M' : Nat → Nat → Int) (s' : Nat → Int) (e6 e7 : Option AV), nk e6 → nk e7 → s' = loopN (bas2 (candS (fun b => st b / (gr * 1000)) (gapC C W (gr * 1000) (wpC C tk)) tt tin) left a) k b s → wI M0 M' s' → preS gmax tt tin (a + 1 : Nat) 0 0 s' → J l D cy (GM l D cy 9 cX9_triesAll 8 (d + 4) 0 0 false none Φ) 130 [some (.inr (.inr (some 447))), some (.inl (i : Int)), some (.inl (tt : Int)), some (.inl tin), some (.inl (left : Int)), some (.inl (a : Int)), e6, e7] [] (468, R0, M') 0 0) →
    J l D cy (GM l D cy 9 cX9_triesAll 8 (d + 4) 0 0 false none Φ) 68 [some (.inr (.inr (some 447))), some (.inl (i : Int)), some (.inl (tt : Int)), some (.inl tin), some (.inl (left : Int)), some (.inl (a : Int)), some (.inl (b : Int)), e7] [] (468, R0, M) 0 0 := by
  intro k
  induction k with
  | zero =>
    intro b M s e7 he7 hb hI hp hfin
    have q : (left : Int) - (a : Int) < (b : Int) := by omega
    have r1 : -2147483648 ≤ (b : Int) ∧ (b : Int) ≤ 2147483647 := by omega
    have r2 : -2147483648 ≤ (left : Int) - (a : Int) ∧ (left : Int) - (a : Int) ≤ 2147483647 := by omega
    refine J_rnG GM_fa (by omega) (by omega) (by omega) 5 _ _ _ _ (fun K9v hK9 => ?_)
    simp (maxSteps := 4000000) only [↓(X_iload (pc' := 70) dX9_triesAll_68 rfl), ↓gI_6, ↓(X_iload (pc' := 72) dX9_triesAll_70 rfl), ↓gI_4, ↓(X_iload (pc' := 74) dX9_triesAll_72 rfl), ↓gI_5, ↓(X_isub (pc' := 75) dX9_triesAll_74 rfl), ↓(X_icmp_gt (tgt := 130) (pc' := 78) dX9_triesAll_75 (by decide) rfl), rn_0, gV_s, ↓pI_c, ↓pII_c, ↓pL_c, ↓pLL_c, ↓pR_c, ↓pRI_c, ↓pRII_c, ↓pRIL_c, ↓pRR_c, ↓pV_c, ↓pVV_c, ↓gI_c, ↓gL_c, ↓gR_c, f2_0, f2_1, nk_n, nk_i, nk_r, ↓reduceIte, r32, r64, Nat.reduceAdd, Nat.reduceSub, Nat.reduceEqDiff, Nat.reduceLT, Nat.reduceLeDiff, Nat.reduceBEq, Int.reduceAdd, Int.reduceSub, Int.reduceMul, Int.reduceNeg, Int.reduceToNat, Int.reduceLE, Int.reduceLT, Int.reduceEq, Int.reduceNatCast', Int.reduceNatCast, Int.natCast_zero, Int.toNat_natCast, Int.toNat_zero, Int.toNat_one, List.length_cons, List.length_nil, true_and, and_true, and_self, true_or, or_true, false_or, or_false, Bool.not_true, Bool.not_false, Nat.lt_add_one, Nat.zero_lt_succ, N0, swL_n, swL_c, List.toList_toArray, false_implies, true_implies, implies_true, forall_const, not_false_eq_true, not_true_eq_false, and_false, false_and, q, r1, r2]
    simp only [hK9]
    clear hK9 K9v
    exact hfin M s _ _ (nk_i.mpr trivial) he7 rfl hI (preS_mono hp (by omega))
  | succ k ih =>
    intro b M s e7 he7 hb hI hp hfin
    have q : ¬ (left : Int) - (a : Int) < (b : Int) := by omega
    have r1 : -2147483648 ≤ (b : Int) ∧ (b : Int) ≤ 2147483647 := by omega
    have r2 : -2147483648 ≤ (left : Int) - (a : Int) ∧ (left : Int) - (a : Int) ≤ 2147483647 := by omega
    refine J_rnG GM_fa (by omega) (by omega) (by omega) 5 _ _ _ _ (fun K9v hK9 => ?_)
    simp (maxSteps := 4000000) only [↓(X_iload (pc' := 70) dX9_triesAll_68 rfl), ↓gI_6, ↓(X_iload (pc' := 72) dX9_triesAll_70 rfl), ↓gI_4, ↓(X_iload (pc' := 74) dX9_triesAll_72 rfl), ↓gI_5, ↓(X_isub (pc' := 75) dX9_triesAll_74 rfl), ↓(X_icmp_gt (tgt := 130) (pc' := 78) dX9_triesAll_75 (by decide) rfl), rn_0, gV_s, ↓pI_c, ↓pII_c, ↓pL_c, ↓pLL_c, ↓pR_c, ↓pRI_c, ↓pRII_c, ↓pRIL_c, ↓pRR_c, ↓pV_c, ↓pVV_c, ↓gI_c, ↓gL_c, ↓gR_c, f2_0, f2_1, nk_n, nk_i, nk_r, ↓reduceIte, r32, r64, Nat.reduceAdd, Nat.reduceSub, Nat.reduceEqDiff, Nat.reduceLT, Nat.reduceLeDiff, Nat.reduceBEq, Int.reduceAdd, Int.reduceSub, Int.reduceMul, Int.reduceNeg, Int.reduceToNat, Int.reduceLE, Int.reduceLT, Int.reduceEq, Int.reduceNatCast', Int.reduceNatCast, Int.natCast_zero, Int.toNat_natCast, Int.toNat_zero, Int.toNat_one, List.length_cons, List.length_nil, true_and, and_true, and_self, true_or, or_true, false_or, or_false, Bool.not_true, Bool.not_false, Nat.lt_add_one, Nat.zero_lt_succ, N0, swL_n, swL_c, List.toList_toArray, false_implies, true_implies, implies_true, forall_const, not_false_eq_true, not_true_eq_false, and_false, false_and, q, r1, r2]
    simp only [hK9]
    clear hK9 K9v
    refine J_rnG GM_fa (by omega) (by omega) (by omega) 2 _ _ _ _ (fun K9v hK9 => ?_)
    simp (maxSteps := 4000000) only [↓(X_iconst (pc' := 79) dX9_triesAll_78 rfl), ↓(X_istore (pc' := 81) dX9_triesAll_79 rfl), ↓sto_7, rn_0, gV_s, ↓pI_c, ↓pII_c, ↓pL_c, ↓pLL_c, ↓pR_c, ↓pRI_c, ↓pRII_c, ↓pRIL_c, ↓pRR_c, ↓pV_c, ↓pVV_c, ↓gI_c, ↓gL_c, ↓gR_c, f2_0, f2_1, nk_n, nk_i, nk_r, ↓reduceIte, r32, r64, Nat.reduceAdd, Nat.reduceSub, Nat.reduceEqDiff, Nat.reduceLT, Nat.reduceLeDiff, Nat.reduceBEq, Int.reduceAdd, Int.reduceSub, Int.reduceMul, Int.reduceNeg, Int.reduceToNat, Int.reduceLE, Int.reduceLT, Int.reduceEq, Int.reduceNatCast', Int.reduceNatCast, Int.natCast_zero, Int.toNat_natCast, Int.toNat_zero, Int.toNat_one, List.length_cons, List.length_nil, true_and, and_true, and_self, true_or, or_true, false_or, or_false, Bool.not_true, Bool.not_false, Nat.lt_add_one, Nat.zero_lt_succ, N0, swL_n, swL_c, List.toList_toArray, false_implies, true_implies, implies_true, forall_const, not_false_eq_true, not_true_eq_false, and_false, false_and]
    simp only [hK9]
    clear hK9 K9v
    refine jj_t3 d i tt left a b gr gmax tin hW hl (by omega) htin htk htw (left + 1 - a - b) 0 M s (by omega) hI hp (fun M' s' e7 he7 hs' hI' hp' => ?_)
    refine J_rnG GM_fa (by omega) (by omega) (by omega) 2 _ _ _ _ (fun K9v hK9 => ?_)
    simp (maxSteps := 4000000) only [↓(X_iinc (pc' := 127) dX9_triesAll_124 rfl), ↓gI_6, ↓sto_6, ↓(X_goto (pc' := 68) dX9_triesAll_127 (by decide)), rn_0, gV_s, ↓pI_c, ↓pII_c, ↓pL_c, ↓pLL_c, ↓pR_c, ↓pRI_c, ↓pRII_c, ↓pRIL_c, ↓pRR_c, ↓pV_c, ↓pVV_c, ↓gI_c, ↓gL_c, ↓gR_c, f2_0, f2_1, nk_n, nk_i, nk_r, ↓reduceIte, r32, r64, Nat.reduceAdd, Nat.reduceSub, Nat.reduceEqDiff, Nat.reduceLT, Nat.reduceLeDiff, Nat.reduceBEq, Int.reduceAdd, Int.reduceSub, Int.reduceMul, Int.reduceNeg, Int.reduceToNat, Int.reduceLE, Int.reduceLT, Int.reduceEq, Int.reduceNatCast', Int.reduceNatCast, Int.natCast_zero, Int.toNat_natCast, Int.toNat_zero, Int.toNat_one, List.length_cons, List.length_nil, true_and, and_true, and_self, true_or, or_true, false_or, or_false, Bool.not_true, Bool.not_false, Nat.lt_add_one, Nat.zero_lt_succ, N0, swL_n, swL_c, List.toList_toArray, false_implies, true_implies, implies_true, forall_const, not_false_eq_true, not_true_eq_false, and_false, false_and]
    simp only [hK9]
    clear hK9 K9v
    rw [show (b : Int) + 1 = ((b + 1 : Nat) : Int) by omega]
    refine ih (b + 1) M' s' e7 he7 (by omega) hI' hp' (fun M' s'' e6 e7 he6 he7 hs'' => hfin M' s'' e6 e7 he6 he7 ?_)
    rw [hs'', hs', loopN]
    rfl
set_option maxRecDepth 100000 in
set_option maxHeartbeats 4000000 in
theorem jj_t1 {M0 : Nat → Nat → Int} {C : Nat → Nat → Int} {W st tk : Nat → Int} {Φ : Out → Mem → Prop} (d i tt left : Nat) (gr gmax tin : Int) (hW : mW M0 i gr gmax C W st) (hl : left + tt = 10) (htin : -1 ≤ tin ∧ tin ≤ 40) (htk : ∀ b, b < 4 → M0 461 b = tk b ∧ 0 ≤ tk b) (htw : wt tk = gr * tt * 1000) : ∀ (k a : Nat) (M : Nat → Nat → Int) (s : Nat → Int) (e6 e7 : Option AV), nk e6 → nk e7 → a + k = left + 1 → wI M0 M s → preS gmax tt tin a 0 0 s → (∀ (M' : Nat → Nat → Int) (s' : Nat → Int), s' = loopN (bas1 (candS (fun b => st b / (gr * 1000)) (gapC C W (gr * 1000) (wpC C tk)) tt tin) left) k a s → wI M0 M' s' → preS gmax tt (tin + 1) 0 0 0 s' → Φ (.inl none) (N0, R0, M')) →
    J l D cy (GM l D cy 9 cX9_triesAll 8 (d + 4) 0 0 false none Φ) 58 [some (.inr (.inr (some 447))), some (.inl (i : Int)), some (.inl (tt : Int)), some (.inl tin), some (.inl (left : Int)), some (.inl (a : Int)), e6, e7] [] (468, R0, M) 0 0 := by
  intro k
  induction k with
  | zero =>
    intro a M s e6 e7 he6 he7 ha hI hp hfin
    have q : (left : Int) < (a : Int) := by omega
    have r1 : -2147483648 ≤ (a : Int) ∧ (a : Int) ≤ 2147483647 := by omega
    have r2 : -2147483648 ≤ (left : Int) ∧ (left : Int) ≤ 2147483647 := by omega
    refine J_rnG GM_fa (by omega) (by omega) (by omega) 3 _ _ _ _ (fun K9v hK9 => ?_)
    simp (maxSteps := 4000000) only [↓(X_iload (pc' := 60) dX9_triesAll_58 rfl), ↓gI_5, ↓(X_iload (pc' := 62) dX9_triesAll_60 rfl), ↓gI_4, ↓(X_icmp_gt (tgt := 136) (pc' := 65) dX9_triesAll_62 (by decide) rfl), rn_0, gV_s, ↓pI_c, ↓pII_c, ↓pL_c, ↓pLL_c, ↓pR_c, ↓pRI_c, ↓pRII_c, ↓pRIL_c, ↓pRR_c, ↓pV_c, ↓pVV_c, ↓gI_c, ↓gL_c, ↓gR_c, f2_0, f2_1, nk_n, nk_i, nk_r, ↓reduceIte, r32, r64, Nat.reduceAdd, Nat.reduceSub, Nat.reduceEqDiff, Nat.reduceLT, Nat.reduceLeDiff, Nat.reduceBEq, Int.reduceAdd, Int.reduceSub, Int.reduceMul, Int.reduceNeg, Int.reduceToNat, Int.reduceLE, Int.reduceLT, Int.reduceEq, Int.reduceNatCast', Int.reduceNatCast, Int.natCast_zero, Int.toNat_natCast, Int.toNat_zero, Int.toNat_one, List.length_cons, List.length_nil, true_and, and_true, and_self, true_or, or_true, false_or, or_false, Bool.not_true, Bool.not_false, Nat.lt_add_one, Nat.zero_lt_succ, N0, swL_n, swL_c, List.toList_toArray, false_implies, true_implies, implies_true, forall_const, not_false_eq_true, not_true_eq_false, and_false, false_and, q, r1, r2]
    simp only [hK9]
    clear hK9 K9v
    refine J_vret dX9_triesAll_136 rfl (by omega) (by omega) (hfin M s rfl hI (preS_mono hp (by omega)))
  | succ k ih =>
    intro a M s e6 e7 he6 he7 ha hI hp hfin
    have q : ¬ (left : Int) < (a : Int) := by omega
    have r1 : -2147483648 ≤ (a : Int) ∧ (a : Int) ≤ 2147483647 := by omega
    have r2 : -2147483648 ≤ (left : Int) ∧ (left : Int) ≤ 2147483647 := by omega
    refine J_rnG GM_fa (by omega) (by omega) (by omega) 3 _ _ _ _ (fun K9v hK9 => ?_)
    simp (maxSteps := 4000000) only [↓(X_iload (pc' := 60) dX9_triesAll_58 rfl), ↓gI_5, ↓(X_iload (pc' := 62) dX9_triesAll_60 rfl), ↓gI_4, ↓(X_icmp_gt (tgt := 136) (pc' := 65) dX9_triesAll_62 (by decide) rfl), rn_0, gV_s, ↓pI_c, ↓pII_c, ↓pL_c, ↓pLL_c, ↓pR_c, ↓pRI_c, ↓pRII_c, ↓pRIL_c, ↓pRR_c, ↓pV_c, ↓pVV_c, ↓gI_c, ↓gL_c, ↓gR_c, f2_0, f2_1, nk_n, nk_i, nk_r, ↓reduceIte, r32, r64, Nat.reduceAdd, Nat.reduceSub, Nat.reduceEqDiff, Nat.reduceLT, Nat.reduceLeDiff, Nat.reduceBEq, Int.reduceAdd, Int.reduceSub, Int.reduceMul, Int.reduceNeg, Int.reduceToNat, Int.reduceLE, Int.reduceLT, Int.reduceEq, Int.reduceNatCast', Int.reduceNatCast, Int.natCast_zero, Int.toNat_natCast, Int.toNat_zero, Int.toNat_one, List.length_cons, List.length_nil, true_and, and_true, and_self, true_or, or_true, false_or, or_false, Bool.not_true, Bool.not_false, Nat.lt_add_one, Nat.zero_lt_succ, N0, swL_n, swL_c, List.toList_toArray, false_implies, true_implies, implies_true, forall_const, not_false_eq_true, not_true_eq_false, and_false, false_and, q, r1, r2]
    simp only [hK9]
    clear hK9 K9v
    refine J_rnG GM_fa (by omega) (by omega) (by omega) 2 _ _ _ _ (fun K9v hK9 => ?_)
    simp (maxSteps := 4000000) only [↓(X_iconst (pc' := 66) dX9_triesAll_65 rfl), ↓(X_istore (pc' := 68) dX9_triesAll_66 rfl), ↓sto_6, rn_0, gV_s, ↓pI_c, ↓pII_c, ↓pL_c, ↓pLL_c, ↓pR_c, ↓pRI_c, ↓pRII_c, ↓pRIL_c, ↓pRR_c, ↓pV_c, ↓pVV_c, ↓gI_c, ↓gL_c, ↓gR_c, f2_0, f2_1, nk_n, nk_i, nk_r, ↓reduceIte, r32, r64, Nat.reduceAdd, Nat.reduceSub, Nat.reduceEqDiff, Nat.reduceLT, Nat.reduceLeDiff, Nat.reduceBEq, Int.reduceAdd, Int.reduceSub, Int.reduceMul, Int.reduceNeg, Int.reduceToNat, Int.reduceLE, Int.reduceLT, Int.reduceEq, Int.reduceNatCast', Int.reduceNatCast, Int.natCast_zero, Int.toNat_natCast, Int.toNat_zero, Int.toNat_one, List.length_cons, List.length_nil, true_and, and_true, and_self, true_or, or_true, false_or, or_false, Bool.not_true, Bool.not_false, Nat.lt_add_one, Nat.zero_lt_succ, N0, swL_n, swL_c, List.toList_toArray, false_implies, true_implies, implies_true, forall_const, not_false_eq_true, not_true_eq_false, and_false, false_and]
    simp only [hK9]
    clear hK9 K9v
    refine jj_t2 d i tt left a gr gmax tin hW hl (by omega) htin htk htw (left + 1 - a) 0 M s e7 he7 (by omega) hI hp (fun M' s' e6 e7 he6 he7 hs' hI' hp' => ?_)
    refine J_rnG GM_fa (by omega) (by omega) (by omega) 2 _ _ _ _ (fun K9v hK9 => ?_)
    simp (maxSteps := 4000000) only [↓(X_iinc (pc' := 133) dX9_triesAll_130 rfl), ↓gI_5, ↓sto_5, ↓(X_goto (pc' := 58) dX9_triesAll_133 (by decide)), rn_0, gV_s, ↓pI_c, ↓pII_c, ↓pL_c, ↓pLL_c, ↓pR_c, ↓pRI_c, ↓pRII_c, ↓pRIL_c, ↓pRR_c, ↓pV_c, ↓pVV_c, ↓gI_c, ↓gL_c, ↓gR_c, f2_0, f2_1, nk_n, nk_i, nk_r, ↓reduceIte, r32, r64, Nat.reduceAdd, Nat.reduceSub, Nat.reduceEqDiff, Nat.reduceLT, Nat.reduceLeDiff, Nat.reduceBEq, Int.reduceAdd, Int.reduceSub, Int.reduceMul, Int.reduceNeg, Int.reduceToNat, Int.reduceLE, Int.reduceLT, Int.reduceEq, Int.reduceNatCast', Int.reduceNatCast, Int.natCast_zero, Int.toNat_natCast, Int.toNat_zero, Int.toNat_one, List.length_cons, List.length_nil, true_and, and_true, and_self, true_or, or_true, false_or, or_false, Bool.not_true, Bool.not_false, Nat.lt_add_one, Nat.zero_lt_succ, N0, swL_n, swL_c, List.toList_toArray, false_implies, true_implies, implies_true, forall_const, not_false_eq_true, not_true_eq_false, and_false, false_and]
    simp only [hK9]
    clear hK9 K9v
    rw [show (a : Int) + 1 = ((a + 1 : Nat) : Int) by omega]
    refine ih (a + 1) M' s' e6 e7 he6 he7 (by omega) hI' hp' (fun M' s'' hs'' => hfin M' s'' ?_)
    rw [hs'', hs', loopN]
    rfl
set_option maxRecDepth 100000 in
set_option maxHeartbeats 4000000 in
theorem om_triesAll {M : Nat → Nat → Int} {C : Nat → Nat → Int} {W st tk s : Nat → Int} (d i tt : Nat) (gr gmax tin : Int) (hW : mW M i gr gmax C W st) (htt : tt ≤ 10) (htk : (tt = 0 ∧ tin = -1 ∧ tk = fun _ => 0) ∨ (1 ≤ tt ∧ ∃ t : Nat, t < 30 ∧ tin = (t : Int) ∧ tin4 (fun b => M 452 (4 * t + b)) ∧ gr * tt * 1000 ≤ wt (fun b => M 452 (4 * t + b)) ∧ tk = takeF (fun b => M 452 (4 * t + b)) (gr * tt * 1000))) (hs : RSm M s) (hpre : preS gmax tt tin 0 0 0 s) : Ok l D cy (d + 4) 0 0 yX9_triesAll cX9_triesAll 8 (none) [.inr (.inr (some (447))), .inl ((i : Int)), .inl ((tt : Int)), .inl (tin)] (N0, R0, M) (fun o ν => o = .inl none ∧ ∃ M2 : Nat → Nat → Int, ν = (N0, R0, M2) ∧ (∀ x, x ≠ 447 → x ≠ 460 → x ≠ 461 → x ≠ 462 → x ≠ 463 → x ≠ 464 → M2 x = M x) ∧ (∀ k, k ≠ 23 → M2 447 k = M 447 k) ∧ RSm M2 (basesS (candS (fun b => st b / (gr * 1000)) (gapC C W (gr * 1000) (wpC C tk)) tt tin) (10 - tt) s) ∧ preS gmax tt (tin + 1) 0 0 0 (basesS (candS (fun b => st b / (gr * 1000)) (gapC C W (gr * 1000) (wpC C tk)) tt tin) (10 - tt) s)) := by
  refine Ok.intro (o := 9) (ini := false) [some (.inr (.inr (some (447)))), some (.inl ((i : Int))), some (.inl ((tt : Int))), some (.inl (tin)), none, none, none, none] (by decide +kernel) rfl (fun h => by cases h) rfl (Nat.le_of_ble_eq_true rfl) rfl ?_
  obtain ⟨hi, hgr, g1, g2, hgm, hC, hWp, hst⟩ := id hW
  have i1 : (0 : Int) ≤ (i : Int) ∧ (i : Int) < 16 := by omega
  refine J_rnG GM_fa (by omega) (by omega) (by omega) 45 _ _ _ _ (fun K9v hK9 => ?_)
  simp (maxSteps := 4000000) only [↓(X_iconst (pc' := 1) dX9_triesAll_0 rfl), ↓(X_istore (pc' := 3) dX9_triesAll_1 rfl), ↓sto_4, ↓(X_iload (pc' := 5) dX9_triesAll_3 rfl), ↓gI_4, ↓(X_iconst (pc' := 6) dX9_triesAll_5 rfl), ↓(X_icmp_ge (tgt := 23) (pc' := 9) dX9_triesAll_6 (by decide) rfl), ↓(X_aload_n (k := 0) (pc' := 10) dX9_triesAll_9 rfl rfl), ↓gR_0, ↓(X_getR (pc' := 13) fl_9_53 dX9_triesAll_10 rfl), kd_447, ↓(gV_c r0_447_19), kd_461, ln_461, ↓(X_iload (pc' := 15) dX9_triesAll_13 rfl), ↓(X_iconst (pc' := 16) dX9_triesAll_15 rfl), ↓(X_iastore (pc' := 17) dX9_triesAll_16 rfl), ↓(X_iinc (pc' := 20) dX9_triesAll_17 rfl), ↓(X_goto (pc' := 3) dX9_triesAll_20 (by decide)), ↓(X_iload_n (k := 2) (pc' := 24) dX9_triesAll_23 rfl rfl), ↓gI_2, ↓(X_if_le (tgt := 49) (pc' := 27) dX9_triesAll_24 (by decide) rfl), ↓(X_aload_n (k := 0) (pc' := 28) dX9_triesAll_27 rfl rfl), ↓(X_aload_n (k := 0) (pc' := 29) dX9_triesAll_28 rfl rfl), ↓(X_getR (pc' := 32) fl_9_22 dX9_triesAll_29 rfl), ↓(gV_c r0_447_6), kd_452, ln_452, ↓(X_iconst (pc' := 33) dX9_triesAll_32 rfl), ↓(X_iload_n (k := 3) (pc' := 34) dX9_triesAll_33 rfl rfl), ↓gI_3, ↓(X_imul (pc' := 35) dX9_triesAll_34 rfl), ↓(X_iload_n (k := 2) (pc' := 36) dX9_triesAll_35 rfl rfl), ↓(X_aload_n (k := 0) (pc' := 37) dX9_triesAll_36 rfl rfl), ↓(X_getR (pc' := 40) fl_9_31 dX9_triesAll_37 rfl), ↓(gV_c r0_447_10), kd_455, ln_455, ↓(X_iload_n (k := 1) (pc' := 41) dX9_triesAll_40 rfl rfl), ↓gI_1, ↓(X_iaload (pc' := 42) dX9_triesAll_41 rfl), ↓(X_imul (pc' := 43) dX9_triesAll_42 rfl), ↓(X_bipush (pc' := 45) dX9_triesAll_43 rfl), ↓(X_idiv (pc' := 46) dX9_triesAll_45 rfl), ↓(X_invokevirtual dX9_triesAll_46), ↓(X_bipush (pc' := 51) dX9_triesAll_49 rfl), ↓(X_iload_n (k := 2) (pc' := 52) dX9_triesAll_51 rfl rfl), ↓(X_isub (pc' := 53) dX9_triesAll_52 rfl), ↓(X_istore (pc' := 55) dX9_triesAll_53 rfl), ↓(X_iconst (pc' := 56) dX9_triesAll_55 rfl), ↓(X_istore (pc' := 58) dX9_triesAll_56 rfl), ↓sto_5, ↓(X_iload (pc' := 60) dX9_triesAll_58 rfl), ↓gI_5, ↓(X_iload (pc' := 62) dX9_triesAll_60 rfl), ↓(X_icmp_gt (tgt := 136) (pc' := 65) dX9_triesAll_62 (by decide) rfl), ↓(X_iconst (pc' := 66) dX9_triesAll_65 rfl), ↓(X_istore (pc' := 68) dX9_triesAll_66 rfl), ↓sto_6, ↓(X_iload (pc' := 70) dX9_triesAll_68 rfl), ↓gI_6, ↓(X_iload (pc' := 72) dX9_triesAll_70 rfl), ↓(X_iload (pc' := 74) dX9_triesAll_72 rfl), ↓(X_isub (pc' := 75) dX9_triesAll_74 rfl), ↓(X_icmp_gt (tgt := 130) (pc' := 78) dX9_triesAll_75 (by decide) rfl), ↓(X_iconst (pc' := 79) dX9_triesAll_78 rfl), ↓(X_istore (pc' := 81) dX9_triesAll_79 rfl), ↓sto_7, ↓(X_iload (pc' := 83) dX9_triesAll_81 rfl), ↓gI_7, ↓(X_iload (pc' := 85) dX9_triesAll_83 rfl), ↓(X_iload (pc' := 87) dX9_triesAll_85 rfl), ↓(X_isub (pc' := 88) dX9_triesAll_87 rfl), ↓(X_iload (pc' := 90) dX9_triesAll_88 rfl), ↓(X_isub (pc' := 91) dX9_triesAll_90 rfl), ↓(X_icmp_gt (tgt := 124) (pc' := 94) dX9_triesAll_91 (by decide) rfl), ↓(X_aload_n (k := 0) (pc' := 95) dX9_triesAll_94 rfl rfl), ↓(X_iload_n (k := 1) (pc' := 96) dX9_triesAll_95 rfl rfl), ↓(X_iload (pc' := 98) dX9_triesAll_96 rfl), ↓(X_iload (pc' := 100) dX9_triesAll_98 rfl), ↓(X_iload (pc' := 102) dX9_triesAll_100 rfl), ↓(X_iload (pc' := 104) dX9_triesAll_102 rfl), ↓(X_iload (pc' := 106) dX9_triesAll_104 rfl), ↓(X_isub (pc' := 107) dX9_triesAll_106 rfl), ↓(X_iload (pc' := 109) dX9_triesAll_107 rfl), ↓(X_isub (pc' := 110) dX9_triesAll_109 rfl), ↓(X_iload (pc' := 112) dX9_triesAll_110 rfl), ↓(X_isub (pc' := 113) dX9_triesAll_112 rfl), ↓(X_iload_n (k := 2) (pc' := 114) dX9_triesAll_113 rfl rfl), ↓(X_iload_n (k := 3) (pc' := 115) dX9_triesAll_114 rfl rfl), ↓(X_invokevirtual dX9_triesAll_115), ↓(X_iinc (pc' := 121) dX9_triesAll_118 rfl), ↓(X_goto (pc' := 81) dX9_triesAll_121 (by decide)), ↓(X_iinc (pc' := 127) dX9_triesAll_124 rfl), ↓(X_goto (pc' := 68) dX9_triesAll_127 (by decide)), ↓(X_iinc (pc' := 133) dX9_triesAll_130 rfl), ↓(X_goto (pc' := 58) dX9_triesAll_133 (by decide)), ↓(X_return_ dX9_triesAll_136), rn_0, gV_s, ↓pI_c, ↓pII_c, ↓pL_c, ↓pLL_c, ↓pR_c, ↓pRI_c, ↓pRII_c, ↓pRIL_c, ↓pRR_c, ↓pV_c, ↓pVV_c, ↓gI_c, ↓gL_c, ↓gR_c, f2_0, f2_1, nk_n, nk_i, nk_r, ↓reduceIte, r32, r64, Nat.reduceAdd, Nat.reduceSub, Nat.reduceEqDiff, Nat.reduceLT, Nat.reduceLeDiff, Nat.reduceBEq, Int.reduceAdd, Int.reduceSub, Int.reduceMul, Int.reduceNeg, Int.reduceToNat, Int.reduceLE, Int.reduceLT, Int.reduceEq, Int.reduceNatCast', Int.reduceNatCast, Int.natCast_zero, Int.toNat_natCast, Int.toNat_zero, Int.toNat_one, List.length_cons, List.length_nil, true_and, and_true, and_self, true_or, or_true, false_or, or_false, Bool.not_true, Bool.not_false, Nat.lt_add_one, Nat.zero_lt_succ, N0, swL_n, swL_c, List.toList_toArray, false_implies, true_implies, implies_true, forall_const, not_false_eq_true, not_true_eq_false, and_false, false_and]
  simp only [hK9]
  clear hK9 K9v
  generalize hM1 : up2 _ _ _ _ = M1
  have hA : ∀ x, x ≠ 461 → M1 x = M x := by
    intro x hx
    subst hM1
    funext k
    simp only [up2_c hx]
  have hB : ∀ b, b < 4 → M1 461 b = 0 := by
    intro b hb
    subst hM1
    rcases (show b = 0 ∨ b = 1 ∨ b = 2 ∨ b = 3 by omega) with rfl | rfl | rfl | rfl <;> simp [up2]
  clear hM1
  obtain ⟨Ψ, hΨ⟩ : ∃ Ψ : Out → Mem → Prop, Ψ = fun o ν => o = .inl none ∧ ∃ M2 : Nat → Nat → Int, ν = (N0, R0, M2) ∧ (∀ x, x ≠ 447 → x ≠ 460 → x ≠ 461 → x ≠ 462 → x ≠ 463 → x ≠ 464 → M2 x = M x) ∧ (∀ k, k ≠ 23 → M2 447 k = M 447 k) ∧ RSm M2 (basesS (candS (fun b => st b / (gr * 1000)) (gapC C W (gr * 1000) (wpC C tk)) tt tin) (10 - tt) s) ∧ preS gmax tt (tin + 1) 0 0 0 (basesS (candS (fun b => st b / (gr * 1000)) (gapC C W (gr * 1000) (wpC C tk)) tt tin) (10 - tt) s) := ⟨_, rfl⟩
  rw [← hΨ]
  have hfin : ∀ Mt : Nat → Nat → Int, (∀ x, x ≠ 461 → x ≠ 462 → Mt x = M x) → (∀ b, b < 4 → Mt 461 b = tk b ∧ 0 ≤ tk b) → wt tk = gr * tt * 1000 → (-1 ≤ tin ∧ tin ≤ 40) → J l D cy (GM l D cy 9 cX9_triesAll 8 (d + 4) 0 0 false none Ψ) 49 [some (.inr (.inr (some 447))), some (.inl (i : Int)), some (.inl (tt : Int)), some (.inl tin), some (.inl 4), none, none, none] [] (468, R0, Mt) 0 0 := by
    intro Mt h1 h2 h3 h4
    refine J_rnG GM_fa (by omega) (by omega) (by omega) 6 _ _ _ _ (fun K9v hK9 => ?_)
    simp (maxSteps := 4000000) only [↓(X_bipush (pc' := 51) dX9_triesAll_49 rfl), ↓(X_iload_n (k := 2) (pc' := 52) dX9_triesAll_51 rfl rfl), ↓gI_2, ↓(X_isub (pc' := 53) dX9_triesAll_52 rfl), ↓(X_istore (pc' := 55) dX9_triesAll_53 rfl), ↓sto_4, ↓(X_iconst (pc' := 56) dX9_triesAll_55 rfl), ↓(X_istore (pc' := 58) dX9_triesAll_56 rfl), ↓sto_5, rn_0, gV_s, ↓pI_c, ↓pII_c, ↓pL_c, ↓pLL_c, ↓pR_c, ↓pRI_c, ↓pRII_c, ↓pRIL_c, ↓pRR_c, ↓pV_c, ↓pVV_c, ↓gI_c, ↓gL_c, ↓gR_c, f2_0, f2_1, nk_n, nk_i, nk_r, ↓reduceIte, r32, r64, Nat.reduceAdd, Nat.reduceSub, Nat.reduceEqDiff, Nat.reduceLT, Nat.reduceLeDiff, Nat.reduceBEq, Int.reduceAdd, Int.reduceSub, Int.reduceMul, Int.reduceNeg, Int.reduceToNat, Int.reduceLE, Int.reduceLT, Int.reduceEq, Int.reduceNatCast', Int.reduceNatCast, Int.natCast_zero, Int.toNat_natCast, Int.toNat_zero, Int.toNat_one, List.length_cons, List.length_nil, true_and, and_true, and_self, true_or, or_true, false_or, or_false, Bool.not_true, Bool.not_false, Nat.lt_add_one, Nat.zero_lt_succ, N0, swL_n, swL_c, List.toList_toArray, false_implies, true_implies, implies_true, forall_const, not_false_eq_true, not_true_eq_false, and_false, false_and]
    simp only [hK9]
    clear hK9 K9v
    rw [show (10 : Int) - (tt : Int) = ((10 - tt : Nat) : Int) by omega]
    have f : ∀ x, x ≠ 461 → x ≠ 462 → Mt x = M x := h1
    refine jj_t1 (M0 := Mt) (C := C) (W := W) (st := st) (tk := tk) d i tt (10 - tt) gr gmax tin (mW_congr hW (f _ (by decide) (by decide)) (f _ (by decide) (by decide)) (f _ (by decide) (by decide)) (f _ (by decide) (by decide)) (f _ (by decide) (by decide))) (by omega) h4 h2 h3 (10 - tt + 1) 0 Mt s _ _ (nk_n.mpr trivial) (nk_n.mpr trivial) (by omega) ⟨fun _ _ _ _ _ => rfl, fun _ _ => rfl, ?_⟩ hpre (fun M' s' hs' hI hp => ?_)
    · unfold RSm
      rw [f 447 (by decide) (by decide), f 464 (by decide) (by decide)]
      exact hs
    · subst hs'
      rw [hΨ]
      exact ⟨rfl, M', rfl, fun x k1 k2 k3 k4 k5 k6 => by rw [hI.1 x k1 k2 k5 k6, f x k3 k4], fun k hk => by rw [hI.2.1 k hk, f 447 (by decide) (by decide)], hI.2.2, hp⟩
  rcases htk with ⟨e1, e2, e3⟩ | ⟨e1, t, ht, e2, e3, e4, e5⟩
  · subst e1
    refine J_rnG GM_fa (by omega) (by omega) (by omega) 2 _ _ _ _ (fun K9v hK9 => ?_)
    simp (maxSteps := 4000000) only [↓(X_iload_n (k := 2) (pc' := 24) dX9_triesAll_23 rfl rfl), ↓gI_2, ↓(X_if_le (tgt := 49) (pc' := 27) dX9_triesAll_24 (by decide) rfl), rn_0, gV_s, ↓pI_c, ↓pII_c, ↓pL_c, ↓pLL_c, ↓pR_c, ↓pRI_c, ↓pRII_c, ↓pRIL_c, ↓pRR_c, ↓pV_c, ↓pVV_c, ↓gI_c, ↓gL_c, ↓gR_c, f2_0, f2_1, nk_n, nk_i, nk_r, ↓reduceIte, r32, r64, Nat.reduceAdd, Nat.reduceSub, Nat.reduceEqDiff, Nat.reduceLT, Nat.reduceLeDiff, Nat.reduceBEq, Int.reduceAdd, Int.reduceSub, Int.reduceMul, Int.reduceNeg, Int.reduceToNat, Int.reduceLE, Int.reduceLT, Int.reduceEq, Int.reduceNatCast', Int.reduceNatCast, Int.natCast_zero, Int.toNat_natCast, Int.toNat_zero, Int.toNat_one, List.length_cons, List.length_nil, true_and, and_true, and_self, true_or, or_true, false_or, or_false, Bool.not_true, Bool.not_false, Nat.lt_add_one, Nat.zero_lt_succ, N0, swL_n, swL_c, List.toList_toArray, false_implies, true_implies, implies_true, forall_const, not_false_eq_true, not_true_eq_false, and_false, false_and]
    simp only [hK9]
    clear hK9 K9v
    refine hfin M1 (fun x h1 h2 => hA x h1) (fun b hb => ?_) ?_ (by omega)
    · rw [hB b hb, e3]
      exact ⟨rfl, Int.le_refl 0⟩
    · rw [e3]
      simp [wt]
  · subst e2
    have q : (0 : Int) < (tt : Int) := by omega
    have r1 : -2147483648 ≤ (tt : Int) ∧ (tt : Int) ≤ 2147483647 := by omega
    have hb := mul_bd (show 0 ≤ (tt : Int) by omega) (show (tt : Int) ≤ 10 by omega) (show 0 ≤ 10 * gr by omega) (show 10 * gr ≤ 500 by omega)
    have r2 : 0 ≤ (tt : Int) * (10 * gr) ∧ (tt : Int) * (10 * gr) ≤ 2147483647 := by omega
    have hgt := mul_bd (show 0 ≤ gr by omega) hgr.2 (show 0 ≤ (tt : Int) by omega) (show (tt : Int) ≤ 10 by omega)
    have hgt1 : 1 ≤ gr * (tt : Int) := Int.mul_le_mul hgr.1 (show (1 : Int) ≤ (tt : Int) by omega) (by omega) (by omega)
    have eg : (tt : Int) * (10 * gr) / 10 = gr * tt := by
      rw [show (tt : Int) * (10 * gr) = gr * tt * 10 by rw [Int.mul_comm 10 gr, ← Int.mul_assoc, Int.mul_comm (tt : Int) gr]]
      exact Int.mul_ediv_cancel _ (by decide)
    have e4t : 4 * (t : Int) = ((4 * t : Nat) : Int) := by omega
    have f455 : M1 455 = M 455 := hA 455 (by decide)
    have f452 : M1 452 = M 452 := hA 452 (by decide)
    refine J_rnG GM_fa (by omega) (by omega) (by omega) 2 _ _ _ _ (fun K9v hK9 => ?_)
    simp (maxSteps := 4000000) only [↓(X_iload_n (k := 2) (pc' := 24) dX9_triesAll_23 rfl rfl), ↓gI_2, ↓(X_if_le (tgt := 49) (pc' := 27) dX9_triesAll_24 (by decide) rfl), rn_0, gV_s, ↓pI_c, ↓pII_c, ↓pL_c, ↓pLL_c, ↓pR_c, ↓pRI_c, ↓pRII_c, ↓pRIL_c, ↓pRR_c, ↓pV_c, ↓pVV_c, ↓gI_c, ↓gL_c, ↓gR_c, f2_0, f2_1, nk_n, nk_i, nk_r, ↓reduceIte, r32, r64, Nat.reduceAdd, Nat.reduceSub, Nat.reduceEqDiff, Nat.reduceLT, Nat.reduceLeDiff, Nat.reduceBEq, Int.reduceAdd, Int.reduceSub, Int.reduceMul, Int.reduceNeg, Int.reduceToNat, Int.reduceLE, Int.reduceLT, Int.reduceEq, Int.reduceNatCast', Int.reduceNatCast, Int.natCast_zero, Int.toNat_natCast, Int.toNat_zero, Int.toNat_one, List.length_cons, List.length_nil, true_and, and_true, and_self, true_or, or_true, false_or, or_false, Bool.not_true, Bool.not_false, Nat.lt_add_one, Nat.zero_lt_succ, N0, swL_n, swL_c, List.toList_toArray, false_implies, true_implies, implies_true, forall_const, not_false_eq_true, not_true_eq_false, and_false, false_and, q, r1]
    simp only [hK9]
    clear hK9 K9v
    refine J_rnG GM_fa (by omega) (by omega) (by omega) 14 _ _ _ _ (fun K9v hK9 => ?_)
    simp (maxSteps := 4000000) only [↓(X_aload_n (k := 0) (pc' := 28) dX9_triesAll_27 rfl rfl), ↓gR_0, ↓(X_aload_n (k := 0) (pc' := 29) dX9_triesAll_28 rfl rfl), ↓(X_getR (pc' := 32) fl_9_22 dX9_triesAll_29 rfl), kd_447, ↓(gV_c r0_447_6), kd_452, ln_452, ↓(X_iconst (pc' := 33) dX9_triesAll_32 rfl), ↓(X_iload_n (k := 3) (pc' := 34) dX9_triesAll_33 rfl rfl), ↓gI_3, ↓(X_imul (pc' := 35) dX9_triesAll_34 rfl), ↓(X_iload_n (k := 2) (pc' := 36) dX9_triesAll_35 rfl rfl), ↓gI_2, ↓(X_aload_n (k := 0) (pc' := 37) dX9_triesAll_36 rfl rfl), ↓(X_getR (pc' := 40) fl_9_31 dX9_triesAll_37 rfl), ↓(gV_c r0_447_10), kd_455, ln_455, ↓(X_iload_n (k := 1) (pc' := 41) dX9_triesAll_40 rfl rfl), ↓gI_1, ↓(X_iaload (pc' := 42) dX9_triesAll_41 rfl), ↓(X_imul (pc' := 43) dX9_triesAll_42 rfl), ↓(X_bipush (pc' := 45) dX9_triesAll_43 rfl), ↓(X_idiv (pc' := 46) dX9_triesAll_45 rfl), rn_0, gV_s, ↓pI_c, ↓pII_c, ↓pL_c, ↓pLL_c, ↓pR_c, ↓pRI_c, ↓pRII_c, ↓pRIL_c, ↓pRR_c, ↓pV_c, ↓pVV_c, ↓gI_c, ↓gL_c, ↓gR_c, f2_0, f2_1, nk_n, nk_i, nk_r, ↓reduceIte, r32, r64, Nat.reduceAdd, Nat.reduceSub, Nat.reduceEqDiff, Nat.reduceLT, Nat.reduceLeDiff, Nat.reduceBEq, Int.reduceAdd, Int.reduceSub, Int.reduceMul, Int.reduceNeg, Int.reduceToNat, Int.reduceLE, Int.reduceLT, Int.reduceEq, Int.reduceNatCast', Int.reduceNatCast, Int.natCast_zero, Int.toNat_natCast, Int.toNat_zero, Int.toNat_one, List.length_cons, List.length_nil, true_and, and_true, and_self, true_or, or_true, false_or, or_false, Bool.not_true, Bool.not_false, Nat.lt_add_one, Nat.zero_lt_succ, N0, swL_n, swL_c, List.toList_toArray, false_implies, true_implies, implies_true, forall_const, not_false_eq_true, not_true_eq_false, and_false, false_and, f455, g1, eg, r2, i1, e4t]
    simp only [hK9]
    clear hK9 K9v
    have hik : ink4 (fun b => M1 452 (4 * t + b)) := by
      rw [f452]
      exact ⟨e3.1, e3.2.1, e3.2.2.1, e3.2.2.2, by omega⟩
    refine J_callV (ci := 9) GM_fa (om_takes (M := M1) (d + 1) 452 (4 * t) (gr * tt) kd_452 (by decide) (by rw [ln_452]; omega) (by rw [ln_452]; decide) (by decide) (by decide) hik (by omega)) (by first | exact calm_det | assumption | (intro q9 ν9 h9; obtain ⟨h8, h6, M9, h7, -⟩ := h9; exact ⟨⟨_, h8⟩, by rw [h7]; rfl⟩) | (intro q9 ν9 h9; obtain ⟨h8, M9, h7, -⟩ := h9; first | exact ⟨⟨_, h8⟩, by rw [h7]; rfl⟩ | exact ⟨⟨_, h7⟩, by rw [h8]; rfl⟩ | exact ⟨⟨_, h7⟩, by rw [h8]⟩)) dX9_triesAll_46 k_9_116 (by omega) (Nat.le_of_ble_eq_true rfl) ⟨by omega, by omega⟩ rfl (by decide +kernel) rfl (by decide) (by simp only [N0]; omega) (by simp) rfl (fun v ν hv => ?_)
    obtain ⟨hv0, M2, rfl, x1, x2⟩ := hv
    cases hv0
    simp only [Option.toList, List.nil_append]
    rw [f452] at x2 hik
    have b1 := take_bd hik (show 0 ≤ gr * (tt : Int) * 1000 by omega) e4
    have b2 := take_sum hik (show 0 ≤ gr * (tt : Int) * 1000 by omega)
    refine hfin M2 (fun x h1 h2 => by rw [x1 x h1 h2, hA x h1]) (fun b hb => ?_) ?_ (by omega)
    · rw [x2 b hb, e5]
      exact ⟨rfl, (b1 b hb).1⟩
    · rw [e5]
      exact b2
end ME
