/-! the whole search for a recipe -/
/-- what stays while a recipe is searched -/
def sM (M0 M : Nat → Nat → Int) (s : Nat → Int) : Prop := (∀ x, x ≠ 79 → x ≠ 80 → x ≠ 81 → x ≠ 83 → x ≠ 84 → x ≠ 87 → x ≠ 88 → M x = M0 x) ∧ (∀ k, k ≠ 6 → k ≠ 7 → M 79 k = M0 79 k) ∧ RS M s ∧ sOK s
/-- a tin's ink as it stands -/
def tin4 (m : Nat → Int) : Prop := (0 ≤ m 0 ∧ m 0 ≤ 500000) ∧ (0 ≤ m 1 ∧ m 1 ≤ 500000) ∧ (0 ≤ m 2 ∧ m 2 ≤ 500000) ∧ (0 ≤ m 3 ∧ m 3 ≤ 500000)
def fOK (M0 : Nat → Nat → Int) (i : Nat) (gr : Int) (T : Nat) : Prop := i < 16 ∧ (10 ≤ M0 (367 + 5 * i) 3 ∧ M0 (367 + 5 * i) 3 ≤ 500) ∧ M0 (367 + 5 * i) 3 / 10 = gr ∧ okC (fun b => M0 (3 + b)) ∧ col3 (M0 (368 + 5 * i)) ∧ (∀ b, b < 4 → 0 ≤ M0 86 b ∧ M0 86 b ≤ 100000000) ∧ M0 1 3 = (T : Int) ∧ T ≤ 30 ∧ ∀ t, t < T → tin4 (M0 (11 + 2 * t))
def candT (C : Nat → Nat → Int) (W mo : Nat → Int) (gr : Int) (m : Nat → Int) (tt tin : Int) : Int → Int → Int → Int → (Nat → Int) → (Nat → Int) := candS mo (gapC C W (gr * 1000) (wpC C m)) tt tin
def tinS (C : Nat → Nat → Int) (W mo : Nat → Int) (gr : Int) (I : Nat → Nat → Int) (tt : Nat) : Nat → (Nat → Int) → (Nat → Int) := fun t s => if wt (I t) < gr * tt * 1000 then s else basesS (candT C W mo gr (takeF (I t) (gr * tt * 1000)) tt t) (10 - tt) s
theorem gapC_tp {C : Nat → Nat → Int} {W : Nat → Int} {u : Int} {TP TP' : Nat → Int} (h : ∀ p, p < 3 → TP p = TP' p) : gapC C W u TP = gapC C W u TP' := by
  funext m
  simp only [gapC, gpC, h 0 (by omega), h 1 (by omega), h 2 (by omega)]
section C6
variable {l : Launch} {D : va_G} {cy : Nat → ClassId}
set_option maxRecDepth 100000 in
set_option maxHeartbeats 4000000 in
theorem ok_tryTin {M0 M : Nat → Nat → Int} (d i t tt T : Nat) (gr : Int) (s : Nat → Int) (hF : fOK M0 i gr T) (hM : sM M0 M s) (ht : t < T) (htt : 1 ≤ tt ∧ tt ≤ 10) : Ok l D cy (d + 6) 0 0 yX5_tryTin cX5_tryTin 7 (none) [.inr (.inr (some (79))), .inr (.inr (some (367 + 5 * i))), .inr (.inr (some (1))), .inl ((t : Int)), .inl ((tt : Int))] (N0, R0, M) (fun o ν => o = .inl none ∧ ∃ M2 : Nat → Nat → Int, ν = (N0, R0, M2) ∧ sM M0 M2 (tinS (fun b => M0 (3 + b)) (M0 (368 + 5 * i)) (M0 86) gr (fun t => M0 (11 + 2 * t)) tt t s)) := by
  refine Ok.intro (o := 5) (ini := false) [some (.inr (.inr (some (79)))), some (.inr (.inr (some (367 + 5 * i)))), some (.inr (.inr (some (1)))), some (.inl ((t : Int))), some (.inl ((tt : Int))), none, none] (by decide +kernel) rfl (fun h => by cases h) rfl (Nat.le_of_ble_eq_true rfl) rfl ?_
  obtain ⟨hi, hg, hgr, hC, hW, hmo, hT, hT30, hI⟩ := id hF
  obtain ⟨m1, m2, m3, m4⟩ := id hM
  obtain ⟨a1, a2, a3, -⟩ := job_at i hi
  obtain ⟨t1, t2, t3, t4, t5⟩ := tin_at t (by omega)
  have c1 : 10 + 2 * t < 449 := by omega
  have p0 : (0 : Int) ≤ (t : Int) := by omega
  have p30 : (t : Int) < 30 := by omega
  have fJ : M (367 + 5 * i) = M0 (367 + 5 * i) := m1 _ (by omega) (by omega) (by omega) (by omega) (by omega) (by omega) (by omega)
  have fI : M (11 + 2 * t) = M0 (11 + 2 * t) := m1 _ (by omega) (by omega) (by omega) (by omega) (by omega) (by omega) (by omega)
  refine J_rnG GM_fa (by omega) (by omega) (by omega) 7 _ _ _ _ (fun K9v hK9 => ?_)
  simp (maxSteps := 4000000) only [↓(X_aload_n (k := 2) (pc' := 1) dX5_tryTin_0 rfl rfl), ↓gR_2, ↓(X_getR (pc' := 4) fl_5_84 dX5_tryTin_1 rfl), kd_1, ↓(gV_c r0_1_2), kd_9, ln_9, ↓(X_iload_n (k := 3) (pc' := 5) dX5_tryTin_4 rfl rfl), ↓gI_3, ↓(X_aaload (pc' := 6) dX5_tryTin_5 rfl), ↓(X_astore (pc' := 8) dX5_tryTin_6 rfl), ↓sto_5, ↓(X_aload_n (k := 1) (pc' := 9) dX5_tryTin_8 rfl rfl), ↓gR_1, ↓(X_iload (pc' := 11) dX5_tryTin_9 rfl), ↓gI_4, rn_0, gV_s, ↓pI_c, ↓pII_c, ↓pL_c, ↓pLL_c, ↓pR_c, ↓pRI_c, ↓pRII_c, ↓pRIL_c, ↓pRR_c, ↓pV_c, ↓pVV_c, ↓gI_c, ↓gL_c, ↓gR_c, f2_0, f2_1, nk_n, nk_i, nk_r, ↓reduceIte, r32, r64, Nat.reduceAdd, Nat.reduceSub, Nat.reduceEqDiff, Nat.reduceLT, Nat.reduceLeDiff, Nat.reduceBEq, Int.reduceAdd, Int.reduceSub, Int.reduceMul, Int.reduceNeg, Int.reduceToNat, Int.reduceLE, Int.reduceLT, Int.reduceEq, Int.reduceNatCast', Int.reduceNatCast, Int.natCast_zero, Int.toNat_natCast, Int.toNat_zero, Int.toNat_one, List.length_cons, List.length_nil, true_and, and_true, and_self, true_or, or_true, false_or, or_false, Bool.not_true, Bool.not_false, Nat.lt_add_one, Nat.zero_lt_succ, N0, swL_n, swL_c, List.toList_toArray, false_implies, true_implies, implies_true, forall_const, not_false_eq_true, not_true_eq_false, and_false, false_and, p0, p30, ↓(gV_c t4), c1, t1]
  simp only [hK9]
  clear hK9 K9v
  refine J_callVd (ci := 1) GM_fa (ok_gramsOfTenths (M := M) (d + 4) i (tt : Int) hi (by rw [fJ]; omega)) dX5_tryTin_11 k_5_88 (by omega) (Nat.le_of_ble_eq_true rfl) ⟨by omega, by omega⟩ rfl (by exact a1) rfl (by decide) (by simp only [N0]; omega) (by simp) rfl rfl ?_
  simp only [Option.toList, List.cons_append, List.nil_append]
  rw [fJ, hgr]
  have hgr2 : 1 ≤ gr ∧ gr ≤ 50 := by omega
  have hgt := mul_bd (show 0 ≤ gr by omega) hgr2.2 (show 0 ≤ (tt : Int) by omega) (show (tt : Int) ≤ 10 by omega)
  have hgt1 : 1 ≤ gr * (tt : Int) := Int.mul_le_mul hgr2.1 (show 1 ≤ (tt : Int) by omega) (by omega) (by omega)
  refine J_rnG GM_fa (by omega) (by omega) (by omega) 2 _ _ _ _ (fun K9v hK9 => ?_)
  simp (maxSteps := 4000000) only [↓(X_istore (pc' := 16) dX5_tryTin_14 rfl), ↓sto_6, ↓(X_aload (pc' := 18) dX5_tryTin_16 rfl), ↓gR_5, rn_0, gV_s, ↓pI_c, ↓pII_c, ↓pL_c, ↓pLL_c, ↓pR_c, ↓pRI_c, ↓pRII_c, ↓pRIL_c, ↓pRR_c, ↓pV_c, ↓pVV_c, ↓gI_c, ↓gL_c, ↓gR_c, f2_0, f2_1, nk_n, nk_i, nk_r, ↓reduceIte, r32, r64, Nat.reduceAdd, Nat.reduceSub, Nat.reduceEqDiff, Nat.reduceLT, Nat.reduceLeDiff, Nat.reduceBEq, Int.reduceAdd, Int.reduceSub, Int.reduceMul, Int.reduceNeg, Int.reduceToNat, Int.reduceLE, Int.reduceLT, Int.reduceEq, Int.reduceNatCast', Int.reduceNatCast, Int.natCast_zero, Int.toNat_natCast, Int.toNat_zero, Int.toNat_one, List.length_cons, List.length_nil, true_and, and_true, and_self, true_or, or_true, false_or, or_false, Bool.not_true, Bool.not_false, Nat.lt_add_one, Nat.zero_lt_succ, N0, swL_n, swL_c, List.toList_toArray, false_implies, true_implies, implies_true, forall_const, not_false_eq_true, not_true_eq_false, and_false, false_and]
  simp only [hK9]
  clear hK9 K9v
  refine J_callVd (ci := 0) GM_fa (ok_weight (M := M) (d + 4) (10 + 2 * t) t1 c1) dX5_tryTin_18 k_5_92 (by omega) (Nat.le_of_ble_eq_true rfl) ⟨by omega, by omega⟩ rfl (by exact t1) rfl (by decide) (by simp only [N0]; omega) (by simp) rfl rfl ?_
  simp only [Option.toList, List.cons_append, List.nil_append]
  rw [show 10 + 2 * t + 1 = 11 + 2 * t by omega, fI]
  have hI4 := hI t ht
  have ew : M0 (11 + 2 * t) 0 + M0 (11 + 2 * t) 1 + M0 (11 + 2 * t) 2 + M0 (11 + 2 * t) 3 = wt (M0 (11 + 2 * t)) := rfl
  rw [ew]
  have hwr : -2147483648 ≤ wt (M0 (11 + 2 * t)) ∧ wt (M0 (11 + 2 * t)) ≤ 2147483647 := by
    obtain ⟨q1, q2, q3, q4⟩ := hI4
    simp only [wt]
    omega
  have hgr3 : -2147483648 ≤ gr * (tt : Int) * 1000 ∧ gr * (tt : Int) * 1000 ≤ 2147483647 := by omega
  refine J_rnG GM_fa (by omega) (by omega) (by omega) 4 _ _ _ _ (fun K9v hK9 => ?_)
  simp (maxSteps := 4000000) only [↓(X_iload (pc' := 23) dX5_tryTin_21 rfl), ↓gI_6, ↓(X_sipush (pc' := 26) dX5_tryTin_23 rfl), ↓(X_imul (pc' := 27) dX5_tryTin_26 rfl), ↓(X_icmp_ge (tgt := 31) (pc' := 30) dX5_tryTin_27 (by decide) rfl), rn_0, gV_s, ↓pI_c, ↓pII_c, ↓pL_c, ↓pLL_c, ↓pR_c, ↓pRI_c, ↓pRII_c, ↓pRIL_c, ↓pRR_c, ↓pV_c, ↓pVV_c, ↓gI_c, ↓gL_c, ↓gR_c, f2_0, f2_1, nk_n, nk_i, nk_r, ↓reduceIte, r32, r64, Nat.reduceAdd, Nat.reduceSub, Nat.reduceEqDiff, Nat.reduceLT, Nat.reduceLeDiff, Nat.reduceBEq, Int.reduceAdd, Int.reduceSub, Int.reduceMul, Int.reduceNeg, Int.reduceToNat, Int.reduceLE, Int.reduceLT, Int.reduceEq, Int.reduceNatCast', Int.reduceNatCast, Int.natCast_zero, Int.toNat_natCast, Int.toNat_zero, Int.toNat_one, List.length_cons, List.length_nil, true_and, and_true, and_self, true_or, or_true, false_or, or_false, Bool.not_true, Bool.not_false, Nat.lt_add_one, Nat.zero_lt_succ, N0, swL_n, swL_c, List.toList_toArray, false_implies, true_implies, implies_true, forall_const, not_false_eq_true, not_true_eq_false, and_false, false_and, hwr, hgr3]
  simp only [hK9]
  clear hK9 K9v
  split
  · rename_i h
    have hnw : wt (M0 (11 + 2 * t)) < gr * (tt : Int) * 1000 := by omega
    refine J_vret dX5_tryTin_30 rfl (by omega) (by omega) (⟨rfl, M, rfl, by rw [tinS, if_pos hnw]; exact hM⟩)
  · rename_i h
    have hnw : ¬ wt (M0 (11 + 2 * t)) < gr * (tt : Int) * 1000 := by omega
    refine J_rnG GM_fa (by omega) (by omega) (by omega) 4 _ _ _ _ (fun K9v hK9 => ?_)
    simp (maxSteps := 4000000) only [↓(X_aload_n (k := 0) (pc' := 32) dX5_tryTin_31 rfl rfl), ↓gR_0, ↓(X_getR (pc' := 35) fl_5_21 dX5_tryTin_32 rfl), kd_79, ↓(gV_c r0_79_1), kd_82, ↓(X_aload (pc' := 37) dX5_tryTin_35 rfl), ↓gR_5, ↓(X_iload (pc' := 39) dX5_tryTin_37 rfl), ↓gI_6, rn_0, gV_s, ↓pI_c, ↓pII_c, ↓pL_c, ↓pLL_c, ↓pR_c, ↓pRI_c, ↓pRII_c, ↓pRIL_c, ↓pRR_c, ↓pV_c, ↓pVV_c, ↓gI_c, ↓gL_c, ↓gR_c, f2_0, f2_1, nk_n, nk_i, nk_r, ↓reduceIte, r32, r64, Nat.reduceAdd, Nat.reduceSub, Nat.reduceEqDiff, Nat.reduceLT, Nat.reduceLeDiff, Nat.reduceBEq, Int.reduceAdd, Int.reduceSub, Int.reduceMul, Int.reduceNeg, Int.reduceToNat, Int.reduceLE, Int.reduceLT, Int.reduceEq, Int.reduceNatCast', Int.reduceNatCast, Int.natCast_zero, Int.toNat_natCast, Int.toNat_zero, Int.toNat_one, List.length_cons, List.length_nil, true_and, and_true, and_self, true_or, or_true, false_or, or_false, Bool.not_true, Bool.not_false, Nat.lt_add_one, Nat.zero_lt_succ, N0, swL_n, swL_c, List.toList_toArray, false_implies, true_implies, implies_true, forall_const, not_false_eq_true, not_true_eq_false, and_false, false_and, t1, c1]
    simp only [hK9]
    clear hK9 K9v
    have hm4 : ink4 (M (10 + 2 * t + 1)) := by
      rw [show 10 + 2 * t + 1 = 11 + 2 * t by omega, fI]
      obtain ⟨q1, q2, q3, q4⟩ := hI4
      exact ⟨q1, q2, q3, q4, by omega⟩
    refine J_callV (ci := 2) GM_fa (ok_measure (M := M) (d + 3) 82 (10 + 2 * t) (gr * (tt : Int)) (Or.inr rfl) t1 c1 ⟨by omega, by omega, by omega⟩ hm4 ⟨by omega, by omega⟩) (by first | exact calm_det | assumption | (intro q9 ν9 h9; obtain ⟨h8, h6, M9, h7, -⟩ := h9; exact ⟨⟨_, h8⟩, by rw [h7]; rfl⟩) | (intro q9 ν9 h9; obtain ⟨h8, M9, h7, -⟩ := h9; first | exact ⟨⟨_, h8⟩, by rw [h7]; rfl⟩ | exact ⟨⟨_, h7⟩, by rw [h8]; rfl⟩ | exact ⟨⟨_, h7⟩, by rw [h8]⟩)) dX5_tryTin_39 k_5_95 (by omega) (Nat.le_of_ble_eq_true rfl) ⟨by omega, by omega⟩ rfl (by decide +kernel) rfl (by decide) (by simp only [N0]; omega) (by simp) rfl (fun v ν hv => ?_)
    obtain ⟨hv0, M2, rfl, w1, w2⟩ := hv
    cases hv0
    simp only [Option.toList, List.nil_append]
    rw [show 10 + 2 * t + 1 = 11 + 2 * t by omega, fI] at w2
    refine J_rnG GM_fa (by omega) (by omega) (by omega) 5 _ _ _ _ (fun K9v hK9 => ?_)
    simp (maxSteps := 4000000) only [↓(X_aload_n (k := 0) (pc' := 43) dX5_tryTin_42 rfl rfl), ↓gR_0, ↓(X_aload_n (k := 2) (pc' := 44) dX5_tryTin_43 rfl rfl), ↓gR_2, ↓(X_aload_n (k := 0) (pc' := 45) dX5_tryTin_44 rfl rfl), ↓(X_getR (pc' := 48) fl_5_21 dX5_tryTin_45 rfl), kd_79, ↓(gV_c r0_79_1), kd_82, ↓(X_getR (pc' := 51) fl_5_99 dX5_tryTin_48 rfl), kd_76, ↓(gV_c r0_76_0), kd_77, ln_77, ↓(gV_c r0_82_0), kd_83, ln_83, rn_0, gV_s, ↓pI_c, ↓pII_c, ↓pL_c, ↓pLL_c, ↓pR_c, ↓pRI_c, ↓pRII_c, ↓pRIL_c, ↓pRR_c, ↓pV_c, ↓pVV_c, ↓gI_c, ↓gL_c, ↓gR_c, f2_0, f2_1, nk_n, nk_i, nk_r, ↓reduceIte, r32, r64, Nat.reduceAdd, Nat.reduceSub, Nat.reduceEqDiff, Nat.reduceLT, Nat.reduceLeDiff, Nat.reduceBEq, Int.reduceAdd, Int.reduceSub, Int.reduceMul, Int.reduceNeg, Int.reduceToNat, Int.reduceLE, Int.reduceLT, Int.reduceEq, Int.reduceNatCast', Int.reduceNatCast, Int.natCast_zero, Int.toNat_natCast, Int.toNat_zero, Int.toNat_one, List.length_cons, List.length_nil, true_and, and_true, and_self, true_or, or_true, false_or, or_false, Bool.not_true, Bool.not_false, Nat.lt_add_one, Nat.zero_lt_succ, N0, swL_n, swL_c, List.toList_toArray, false_implies, true_implies, implies_true, forall_const, not_false_eq_true, not_true_eq_false, and_false, false_and]
    simp only [hK9]
    clear hK9 K9v
    refine J_callV (ci := 5) GM_fa (ok_weighTin (M := M2) (d + 3) 83 (by decide +kernel) (by decide +kernel) (by decide) (by decide)) (by first | exact calm_det | assumption | (intro q9 ν9 h9; obtain ⟨h8, h6, M9, h7, -⟩ := h9; exact ⟨⟨_, h8⟩, by rw [h7]; rfl⟩) | (intro q9 ν9 h9; obtain ⟨h8, M9, h7, -⟩ := h9; first | exact ⟨⟨_, h8⟩, by rw [h7]; rfl⟩ | exact ⟨⟨_, h7⟩, by rw [h8]; rfl⟩ | exact ⟨⟨_, h7⟩, by rw [h8]⟩)) dX5_tryTin_51 k_5_68 (by omega) (Nat.le_of_ble_eq_true rfl) ⟨by omega, by omega⟩ rfl (by decide +kernel) rfl (by decide) (by simp only [N0]; omega) (by simp) rfl (fun v ν hv => ?_)
    obtain ⟨hv0, M3, rfl, y1, y2⟩ := hv
    cases hv0
    simp only [Option.toList, List.nil_append]
    have z1 : ∀ x, x ≠ 79 → x ≠ 80 → x ≠ 81 → x ≠ 83 → x ≠ 84 → x ≠ 87 → x ≠ 88 → M3 x = M0 x := fun x g1 g2 g3 g4 g5 g6 g7 => by rw [y1 x g7, w1 x (by omega) (by omega)]; exact m1 x g1 g2 g3 g4 g5 g6 g7
    have f2 : M3 (368 + 5 * i) = M0 (368 + 5 * i) := z1 _ (by omega) (by omega) (by omega) (by omega) (by omega) (by omega) (by omega)
    have f3 : M3 (367 + 5 * i) = M0 (367 + 5 * i) := z1 _ (by omega) (by omega) (by omega) (by omega) (by omega) (by omega) (by omega)
    have f4 : M3 86 = M0 86 := z1 _ (by omega) (by omega) (by omega) (by omega) (by omega) (by omega) (by omega)
    have f5 : ∀ b, b < 4 → M3 (3 + b) = M0 (3 + b) := fun b hb => z1 _ (by omega) (by omega) (by omega) (by omega) (by omega) (by omega) (by omega)
    have f6 : M3 79 = M 79 := by rw [y1 79 (by decide), w1 79 (by decide) (by decide)]
    have f7 : M3 80 = M 80 := by rw [y1 80 (by decide), w1 80 (by decide) (by decide)]
    have f8 : M3 81 = M 81 := by rw [y1 81 (by decide), w1 81 (by decide) (by decide)]
    have f9 : ∀ p, p < 3 → M3 88 p = wpC (fun b => M0 (3 + b)) (takeF (M0 (11 + 2 * t)) (gr * (tt : Int) * 1000)) p := by
      intro p hp
      rw [y2 p hp, wpart_wpC]
      simp only [wpC, w2 0 (by omega), w2 1 (by omega), w2 2 (by omega), w2 3 (by omega)]
      have k : ∀ b, b < 4 → M2 (3 + b) = M0 (3 + b) := fun b hb => by rw [w1 _ (by omega) (by omega)]; exact m1 _ (by omega) (by omega) (by omega) (by omega) (by omega) (by omega) (by omega)
      rw [k 0 (by omega), k 1 (by omega), k 2 (by omega), k 3 (by omega)]
    have hm5 : ink4 (M0 (11 + 2 * t)) := by rw [← fI, show 11 + 2 * t = 10 + 2 * t + 1 by omega]; exact hm4
    have htk : ∀ b, b < 4 → 0 ≤ takeF (M0 (11 + 2 * t)) (gr * (tt : Int) * 1000) b ∧ takeF (M0 (11 + 2 * t)) (gr * (tt : Int) * 1000) b ≤ M0 (11 + 2 * t) b := take_bd hm5 (by omega) (by omega)
    have htw : wt (takeF (M0 (11 + 2 * t)) (gr * (tt : Int) * 1000)) = gr * (tt : Int) * 1000 := take_sum hm5 (by omega)
    have hB : bOK M3 i (gr * 1000) := by
      refine ⟨hi, by rw [f3, hgr], by rw [f3]; omega, by omega, by omega, ?_, ?_, by rw [f2]; exact hW, by rw [f4]; exact hmo⟩
      · intro p hp
        rw [f9 p hp]
        have b := wpC_bd hC (htk 0 (by omega)).1 (htk 1 (by omega)).1 (htk 2 (by omega)).1 (htk 3 (by omega)).1 hp
        omega
      · intro b hb
        have := hC b hb
        show col3 (M3 (3 + b))
        rw [f5 b hb]
        exact this
    have hRS : RS M3 s := by
      obtain ⟨s0, s1, s2, s3, s4, s5, s6, s7, s8⟩ := m3
      simp only [RS, f6, f7, f8]
      exact ⟨s0, s1, s2, s3, s4, s5, s6, s7, s8⟩
    refine J_rnG GM_fa (by omega) (by omega) (by omega) 5 _ _ _ _ (fun K9v hK9 => ?_)
    simp (maxSteps := 4000000) only [↓(X_aload_n (k := 0) (pc' := 55) dX5_tryTin_54 rfl rfl), ↓gR_0, ↓(X_aload_n (k := 1) (pc' := 56) dX5_tryTin_55 rfl rfl), ↓gR_1, ↓(X_aload_n (k := 2) (pc' := 57) dX5_tryTin_56 rfl rfl), ↓gR_2, ↓(X_iload_n (k := 3) (pc' := 58) dX5_tryTin_57 rfl rfl), ↓gI_3, ↓(X_iload (pc' := 60) dX5_tryTin_58 rfl), ↓gI_4, rn_0, gV_s, ↓pI_c, ↓pII_c, ↓pL_c, ↓pLL_c, ↓pR_c, ↓pRI_c, ↓pRII_c, ↓pRIL_c, ↓pRR_c, ↓pV_c, ↓pVV_c, ↓gI_c, ↓gL_c, ↓gR_c, f2_0, f2_1, nk_n, nk_i, nk_r, ↓reduceIte, r32, r64, Nat.reduceAdd, Nat.reduceSub, Nat.reduceEqDiff, Nat.reduceLT, Nat.reduceLeDiff, Nat.reduceBEq, Int.reduceAdd, Int.reduceSub, Int.reduceMul, Int.reduceNeg, Int.reduceToNat, Int.reduceLE, Int.reduceLT, Int.reduceEq, Int.reduceNatCast', Int.reduceNatCast, Int.natCast_zero, Int.toNat_natCast, Int.toNat_zero, Int.toNat_one, List.length_cons, List.length_nil, true_and, and_true, and_self, true_or, or_true, false_or, or_false, Bool.not_true, Bool.not_false, Nat.lt_add_one, Nat.zero_lt_succ, N0, swL_n, swL_c, List.toList_toArray, false_implies, true_implies, implies_true, forall_const, not_false_eq_true, not_true_eq_false, and_false, false_and]
    simp only [hK9]
    clear hK9 K9v
    refine J_callV (ci := 5) GM_fa (ok_tryBases (M := M3) (d + 0) i tt (gr * 1000) (t : Int) s hB (by omega) hRS m4) (by first | exact calm_det | assumption | (intro q9 ν9 h9; obtain ⟨h8, h6, M9, h7, -⟩ := h9; exact ⟨⟨_, h8⟩, by rw [h7]; rfl⟩) | (intro q9 ν9 h9; obtain ⟨h8, M9, h7, -⟩ := h9; first | exact ⟨⟨_, h8⟩, by rw [h7]; rfl⟩ | exact ⟨⟨_, h7⟩, by rw [h8]; rfl⟩ | exact ⟨⟨_, h7⟩, by rw [h8]⟩)) dX5_tryTin_60 k_5_72 (by omega) (Nat.le_of_ble_eq_true rfl) ⟨by omega, by omega⟩ rfl (by decide +kernel) rfl (by decide) (by simp only [N0]; omega) (by simp) rfl (fun v ν hv => ?_)
    obtain ⟨hv0, M4, rfl, x1, x2, x3, x4⟩ := hv
    cases hv0
    simp only [Option.toList, List.nil_append]
    have eG : cand0 M3 i (gr * 1000) (tt : Int) (t : Int) = candT (fun b => M0 (3 + b)) (M0 (368 + 5 * i)) (M0 86) gr (takeF (M0 (11 + 2 * t)) (gr * (tt : Int) * 1000)) (tt : Int) (t : Int) := by
      simp only [cand0, candT, gf0, f2, f4]
      rw [gapC_tp f9]
      have : ∀ tp m, gapC (fun b => M3 (3 + b)) (M0 (368 + 5 * i)) (gr * 1000) tp m = gapC (fun b => M0 (3 + b)) (M0 (368 + 5 * i)) (gr * 1000) tp m := by
        intro tp m
        simp only [gapC, gpC, wpC, f5 0 (by omega), f5 1 (by omega), f5 2 (by omega), f5 3 (by omega)]
      rw [show gapC (fun b => M3 (3 + b)) (M0 (368 + 5 * i)) (gr * 1000) (wpC (fun b => M0 (3 + b)) (takeF (M0 (11 + 2 * t)) (gr * (tt : Int) * 1000))) = _ from funext (this _)]
    rw [eG] at x3 x4
    refine J_vret dX5_tryTin_63 rfl (by omega) (by omega) (⟨rfl, M4, rfl, fun x g1 g2 g3 g4 g5 g6 g7 => by rw [x1 x g1 g2 g3 g6]; exact z1 x g1 g2 g3 g4 g5 g6 g7, fun k g1 g2 => by rw [x2 k g1 g2, f6]; exact m2 k g1 g2, by rw [tinS, if_neg hnw]; exact x3, by rw [tinS, if_neg hnw]; exact x4⟩)
/-- the tenths of the tins, from the most down, until one is found -/
def tensS (f : Nat → Nat → (Nat → Int) → (Nat → Int)) (T : Nat) : Nat → (Nat → Int) → (Nat → Int)
  | 0, s => s
  | k + 1, s => if s 0 = 0 then tensS f T k (loopN (f (k + 1)) T 0 s) else s
def tinS0 (M0 : Nat → Nat → Int) (i : Nat) (gr : Int) : Nat → Nat → (Nat → Int) → (Nat → Int) := tinS (fun b => M0 (3 + b)) (M0 (368 + 5 * i)) (M0 86) gr (fun t => M0 (11 + 2 * t))
set_option maxRecDepth 100000 in
set_option maxHeartbeats 4000000 in
theorem ok_fi2 {M0 : Nat → Nat → Int} {Φ : Out → Mem → Prop} (d i T tt : Nat) (gr : Int) (hF : fOK M0 i gr T) (htt : 1 ≤ tt ∧ tt ≤ 10) : ∀ (k t : Nat) (M : Nat → Nat → Int) (s : Nat → Int), t + k = T → sM M0 M s →
    (∀ M' : Nat → Nat → Int, sM M0 M' (loopN (tinS0 M0 i gr tt) k t s) → J l D cy (GM l D cy 5 cX5_find 5 (d + 7) 0 0 false (some .boolean) Φ) 63 [some (.inr (.inr (some 79))), some (.inr (.inr (some (367 + 5 * i)))), some (.inr (.inr (some 1))), some (.inl (tt : Int)), some (.inl (T : Int))] [] (449, R0, M') 0 0) →
    J l D cy (GM l D cy 5 cX5_find 5 (d + 7) 0 0 false (some .boolean) Φ) 39 [some (.inr (.inr (some 79))), some (.inr (.inr (some (367 + 5 * i)))), some (.inr (.inr (some 1))), some (.inl (tt : Int)), some (.inl (t : Int))] [] (449, R0, M) 0 0 := by
  obtain ⟨hi, hg, hgr, hC, hW, hmo, hT, hT30, hI⟩ := id hF
  intro k
  induction k with
  | zero =>
    intro t M s hk hM hfin
    have f1 : M 1 = M0 1 := hM.1 1 (by decide) (by decide) (by decide) (by decide) (by decide) (by decide) (by decide)
    have h1 : ¬ (t : Int) < (T : Int) := by omega
    have r1 : -2147483648 ≤ (t : Int) ∧ (t : Int) ≤ 2147483647 := by omega
    have r2 : -2147483648 ≤ (T : Int) ∧ (T : Int) ≤ 2147483647 := by omega
    refine J_rnG GM_fa (by omega) (by omega) (by omega) 4 _ _ _ _ (fun K9v hK9 => ?_)
    simp (maxSteps := 4000000) only [↓(X_iload (pc' := 41) dX5_find_39 rfl), ↓gI_4, ↓(X_aload_n (k := 2) (pc' := 42) dX5_find_41 rfl rfl), ↓gR_2, ↓(X_getI (pc' := 45) fl_5_61 (by decide) dX5_find_42 rfl), kd_1, ↓(X_icmp_ge (tgt := 63) (pc' := 48) dX5_find_45 (by decide) rfl), rn_0, gV_s, ↓pI_c, ↓pII_c, ↓pL_c, ↓pLL_c, ↓pR_c, ↓pRI_c, ↓pRII_c, ↓pRIL_c, ↓pRR_c, ↓pV_c, ↓pVV_c, ↓gI_c, ↓gL_c, ↓gR_c, f2_0, f2_1, nk_n, nk_i, nk_r, ↓reduceIte, r32, r64, Nat.reduceAdd, Nat.reduceSub, Nat.reduceEqDiff, Nat.reduceLT, Nat.reduceLeDiff, Nat.reduceBEq, Int.reduceAdd, Int.reduceSub, Int.reduceMul, Int.reduceNeg, Int.reduceToNat, Int.reduceLE, Int.reduceLT, Int.reduceEq, Int.reduceNatCast', Int.reduceNatCast, Int.natCast_zero, Int.toNat_natCast, Int.toNat_zero, Int.toNat_one, List.length_cons, List.length_nil, true_and, and_true, and_self, true_or, or_true, false_or, or_false, Bool.not_true, Bool.not_false, Nat.lt_add_one, Nat.zero_lt_succ, N0, swL_n, swL_c, List.toList_toArray, false_implies, true_implies, implies_true, forall_const, not_false_eq_true, not_true_eq_false, and_false, false_and, f1, hT, h1, r1, r2]
    simp only [hK9]
    clear hK9 K9v
    rw [show t = T by omega]
    exact hfin M hM
  | succ k ih =>
    intro t M s hk hM hfin
    have f1 : M 1 = M0 1 := hM.1 1 (by decide) (by decide) (by decide) (by decide) (by decide) (by decide) (by decide)
    have h1 : (t : Int) < (T : Int) := by omega
    have r1 : -2147483648 ≤ (t : Int) ∧ (t : Int) ≤ 2147483647 := by omega
    have r2 : -2147483648 ≤ (T : Int) ∧ (T : Int) ≤ 2147483647 := by omega
    refine J_rnG GM_fa (by omega) (by omega) (by omega) 9 _ _ _ _ (fun K9v hK9 => ?_)
    simp (maxSteps := 4000000) only [↓(X_iload (pc' := 41) dX5_find_39 rfl), ↓gI_4, ↓(X_aload_n (k := 2) (pc' := 42) dX5_find_41 rfl rfl), ↓gR_2, ↓(X_getI (pc' := 45) fl_5_61 (by decide) dX5_find_42 rfl), kd_1, ↓(X_icmp_ge (tgt := 63) (pc' := 48) dX5_find_45 (by decide) rfl), ↓(X_aload_n (k := 0) (pc' := 49) dX5_find_48 rfl rfl), ↓gR_0, ↓(X_aload_n (k := 1) (pc' := 50) dX5_find_49 rfl rfl), ↓gR_1, ↓(X_aload_n (k := 2) (pc' := 51) dX5_find_50 rfl rfl), ↓(X_iload (pc' := 53) dX5_find_51 rfl), ↓(X_iload_n (k := 3) (pc' := 54) dX5_find_53 rfl rfl), ↓gI_3, rn_0, gV_s, ↓pI_c, ↓pII_c, ↓pL_c, ↓pLL_c, ↓pR_c, ↓pRI_c, ↓pRII_c, ↓pRIL_c, ↓pRR_c, ↓pV_c, ↓pVV_c, ↓gI_c, ↓gL_c, ↓gR_c, f2_0, f2_1, nk_n, nk_i, nk_r, ↓reduceIte, r32, r64, Nat.reduceAdd, Nat.reduceSub, Nat.reduceEqDiff, Nat.reduceLT, Nat.reduceLeDiff, Nat.reduceBEq, Int.reduceAdd, Int.reduceSub, Int.reduceMul, Int.reduceNeg, Int.reduceToNat, Int.reduceLE, Int.reduceLT, Int.reduceEq, Int.reduceNatCast', Int.reduceNatCast, Int.natCast_zero, Int.toNat_natCast, Int.toNat_zero, Int.toNat_one, List.length_cons, List.length_nil, true_and, and_true, and_self, true_or, or_true, false_or, or_false, Bool.not_true, Bool.not_false, Nat.lt_add_one, Nat.zero_lt_succ, N0, swL_n, swL_c, List.toList_toArray, false_implies, true_implies, implies_true, forall_const, not_false_eq_true, not_true_eq_false, and_false, false_and, f1, hT, h1, r1, r2]
    simp only [hK9]
    clear hK9 K9v
    refine J_callV (ci := 5) GM_fa (ok_tryTin (M0 := M0) (M := M) (d + 0) i t tt T gr s hF hM (by omega) htt) (by first | exact calm_det | assumption | (intro q9 ν9 h9; obtain ⟨h8, h6, M9, h7, -⟩ := h9; exact ⟨⟨_, h8⟩, by rw [h7]; rfl⟩) | (intro q9 ν9 h9; obtain ⟨h8, M9, h7, -⟩ := h9; first | exact ⟨⟨_, h8⟩, by rw [h7]; rfl⟩ | exact ⟨⟨_, h7⟩, by rw [h8]; rfl⟩ | exact ⟨⟨_, h7⟩, by rw [h8]⟩)) dX5_find_54 k_5_64 (by omega) (Nat.le_of_ble_eq_true rfl) ⟨by omega, by omega⟩ rfl (by decide +kernel) rfl (by decide) (by simp only [N0]; omega) (by simp) rfl (fun v ν hv => ?_)
    obtain ⟨hv0, M2, rfl, w1⟩ := hv
    cases hv0
    simp only [Option.toList, List.nil_append]
    refine J_rnG GM_fa (by omega) (by omega) (by omega) 2 _ _ _ _ (fun K9v hK9 => ?_)
    simp (maxSteps := 4000000) only [↓(X_iinc (pc' := 60) dX5_find_57 rfl), ↓gI_4, ↓sto_4, ↓(X_goto (pc' := 39) dX5_find_60 (by decide)), rn_0, gV_s, ↓pI_c, ↓pII_c, ↓pL_c, ↓pLL_c, ↓pR_c, ↓pRI_c, ↓pRII_c, ↓pRIL_c, ↓pRR_c, ↓pV_c, ↓pVV_c, ↓gI_c, ↓gL_c, ↓gR_c, f2_0, f2_1, nk_n, nk_i, nk_r, ↓reduceIte, r32, r64, Nat.reduceAdd, Nat.reduceSub, Nat.reduceEqDiff, Nat.reduceLT, Nat.reduceLeDiff, Nat.reduceBEq, Int.reduceAdd, Int.reduceSub, Int.reduceMul, Int.reduceNeg, Int.reduceToNat, Int.reduceLE, Int.reduceLT, Int.reduceEq, Int.reduceNatCast', Int.reduceNatCast, Int.natCast_zero, Int.toNat_natCast, Int.toNat_zero, Int.toNat_one, List.length_cons, List.length_nil, true_and, and_true, and_self, true_or, or_true, false_or, or_false, Bool.not_true, Bool.not_false, Nat.lt_add_one, Nat.zero_lt_succ, N0, swL_n, swL_c, List.toList_toArray, false_implies, true_implies, implies_true, forall_const, not_false_eq_true, not_true_eq_false, and_false, false_and]
    simp only [hK9]
    clear hK9 K9v
    rw [show (t : Int) + 1 = ((t + 1 : Nat) : Int) by omega]
    exact ih (t + 1) M2 _ (by omega) w1 hfin
set_option maxRecDepth 100000 in
set_option maxHeartbeats 4000000 in
theorem ok_fi1 {M0 : Nat → Nat → Int} {Φ : Out → Mem → Prop} (d i T : Nat) (gr : Int) (hF : fOK M0 i gr T) : ∀ (tt : Nat) (M : Nat → Nat → Int) (s : Nat → Int) (w4 : Option AV), tt ≤ 10 → nk w4 → sM M0 M s →
    (∀ (M' : Nat → Nat → Int) (w3 w4 : Option AV), sM M0 M' (tensS (tinS0 M0 i gr) T tt s) → J l D cy (GM l D cy 5 cX5_find 5 (d + 7) 0 0 false (some .boolean) Φ) 69 [some (.inr (.inr (some 79))), some (.inr (.inr (some (367 + 5 * i)))), some (.inr (.inr (some 1))), w3, w4] [] (449, R0, M') 0 0) →
    J l D cy (GM l D cy 5 cX5_find 5 (d + 7) 0 0 false (some .boolean) Φ) 25 [some (.inr (.inr (some 79))), some (.inr (.inr (some (367 + 5 * i)))), some (.inr (.inr (some 1))), some (.inl (tt : Int)), w4] [] (449, R0, M) 0 0 := by
  intro tt
  induction tt with
  | zero =>
    intro M s w4 htt hw4 hM hfin
    refine J_rnG GM_fa (by omega) (by omega) (by omega) 2 _ _ _ _ (fun K9v hK9 => ?_)
    simp (maxSteps := 4000000) only [↓(X_iload_n (k := 3) (pc' := 26) dX5_find_25 rfl rfl), ↓gI_3, ↓(X_if_le (tgt := 69) (pc' := 29) dX5_find_26 (by decide) rfl), rn_0, gV_s, ↓pI_c, ↓pII_c, ↓pL_c, ↓pLL_c, ↓pR_c, ↓pRI_c, ↓pRII_c, ↓pRIL_c, ↓pRR_c, ↓pV_c, ↓pVV_c, ↓gI_c, ↓gL_c, ↓gR_c, f2_0, f2_1, nk_n, nk_i, nk_r, ↓reduceIte, r32, r64, Nat.reduceAdd, Nat.reduceSub, Nat.reduceEqDiff, Nat.reduceLT, Nat.reduceLeDiff, Nat.reduceBEq, Int.reduceAdd, Int.reduceSub, Int.reduceMul, Int.reduceNeg, Int.reduceToNat, Int.reduceLE, Int.reduceLT, Int.reduceEq, Int.reduceNatCast', Int.reduceNatCast, Int.natCast_zero, Int.toNat_natCast, Int.toNat_zero, Int.toNat_one, List.length_cons, List.length_nil, true_and, and_true, and_self, true_or, or_true, false_or, or_false, Bool.not_true, Bool.not_false, Nat.lt_add_one, Nat.zero_lt_succ, N0, swL_n, swL_c, List.toList_toArray, false_implies, true_implies, implies_true, forall_const, not_false_eq_true, not_true_eq_false, and_false, false_and]
    simp only [hK9]
    clear hK9 K9v
    exact hfin M _ _ hM
  | succ k ih =>
    intro M s w4 htt hw4 hM hfin
    obtain ⟨m1, m2, m3, m4⟩ := id hM
    have hs0 : M 79 6 = s 0 := m3.1
    have h1 : 0 < ((k + 1 : Nat) : Int) := by omega
    have r1 : -2147483648 ≤ ((k + 1 : Nat) : Int) ∧ ((k + 1 : Nat) : Int) ≤ 2147483647 := by omega
    have r0 : -2147483648 ≤ s 0 ∧ s 0 ≤ 2147483647 := by obtain ⟨-, -, q⟩ := m4; omega
    rcases (show s 0 = 0 ∨ ¬ s 0 = 0 by omega) with q | q
    · refine J_rnG GM_fa (by omega) (by omega) (by omega) 7 _ _ _ _ (fun K9v hK9 => ?_)
      simp (maxSteps := 4000000) only [↓(X_iload_n (k := 3) (pc' := 26) dX5_find_25 rfl rfl), ↓gI_3, ↓(X_if_le (tgt := 69) (pc' := 29) dX5_find_26 (by decide) rfl), ↓(X_aload_n (k := 0) (pc' := 30) dX5_find_29 rfl rfl), ↓gR_0, ↓(X_getI (pc' := 33) fl_5_38 (by decide) dX5_find_30 rfl), kd_79, ↓(X_if_ne (tgt := 69) (pc' := 36) dX5_find_33 (by decide) rfl), ↓(X_iconst (pc' := 37) dX5_find_36 rfl), ↓(X_istore (pc' := 39) dX5_find_37 rfl), ↓sto_4, rn_0, gV_s, ↓pI_c, ↓pII_c, ↓pL_c, ↓pLL_c, ↓pR_c, ↓pRI_c, ↓pRII_c, ↓pRIL_c, ↓pRR_c, ↓pV_c, ↓pVV_c, ↓gI_c, ↓gL_c, ↓gR_c, f2_0, f2_1, nk_n, nk_i, nk_r, ↓reduceIte, r32, r64, Nat.reduceAdd, Nat.reduceSub, Nat.reduceEqDiff, Nat.reduceLT, Nat.reduceLeDiff, Nat.reduceBEq, Int.reduceAdd, Int.reduceSub, Int.reduceMul, Int.reduceNeg, Int.reduceToNat, Int.reduceLE, Int.reduceLT, Int.reduceEq, Int.reduceNatCast', Int.reduceNatCast, Int.natCast_zero, Int.toNat_natCast, Int.toNat_zero, Int.toNat_one, List.length_cons, List.length_nil, true_and, and_true, and_self, true_or, or_true, false_or, or_false, Bool.not_true, Bool.not_false, Nat.lt_add_one, Nat.zero_lt_succ, N0, swL_n, swL_c, List.toList_toArray, false_implies, true_implies, implies_true, forall_const, not_false_eq_true, not_true_eq_false, and_false, false_and, h1, r1, hs0, q, hw4]
      simp only [hK9]
      clear hK9 K9v
      have := ok_fi2 (D := D) (cy := cy) (l := l) (Φ := Φ) d i T (k + 1) gr hF (by omega) T 0 M s (by omega) hM (fun M' hM' => ?_)
      · exact this
      · refine J_rnG GM_fa (by omega) (by omega) (by omega) 2 _ _ _ _ (fun K9v hK9 => ?_)
        simp (maxSteps := 4000000) only [↓(X_iinc (pc' := 66) dX5_find_63 rfl), ↓gI_3, ↓sto_3, ↓(X_goto (pc' := 25) dX5_find_66 (by decide)), rn_0, gV_s, ↓pI_c, ↓pII_c, ↓pL_c, ↓pLL_c, ↓pR_c, ↓pRI_c, ↓pRII_c, ↓pRIL_c, ↓pRR_c, ↓pV_c, ↓pVV_c, ↓gI_c, ↓gL_c, ↓gR_c, f2_0, f2_1, nk_n, nk_i, nk_r, ↓reduceIte, r32, r64, Nat.reduceAdd, Nat.reduceSub, Nat.reduceEqDiff, Nat.reduceLT, Nat.reduceLeDiff, Nat.reduceBEq, Int.reduceAdd, Int.reduceSub, Int.reduceMul, Int.reduceNeg, Int.reduceToNat, Int.reduceLE, Int.reduceLT, Int.reduceEq, Int.reduceNatCast', Int.reduceNatCast, Int.natCast_zero, Int.toNat_natCast, Int.toNat_zero, Int.toNat_one, List.length_cons, List.length_nil, true_and, and_true, and_self, true_or, or_true, false_or, or_false, Bool.not_true, Bool.not_false, Nat.lt_add_one, Nat.zero_lt_succ, N0, swL_n, swL_c, List.toList_toArray, false_implies, true_implies, implies_true, forall_const, not_false_eq_true, not_true_eq_false, and_false, false_and]
        simp only [hK9]
        clear hK9 K9v
        rw [show ((k + 1 : Nat) : Int) + -1 = (k : Int) by omega]
        refine ih M' _ _ (by omega) (nk_i.mpr trivial) hM' (fun M' w3 w4 h => hfin M' w3 w4 ?_)
        rw [tensS, if_pos q]
        exact h
    · refine J_rnG GM_fa (by omega) (by omega) (by omega) 5 _ _ _ _ (fun K9v hK9 => ?_)
      simp (maxSteps := 4000000) only [↓(X_iload_n (k := 3) (pc' := 26) dX5_find_25 rfl rfl), ↓gI_3, ↓(X_if_le (tgt := 69) (pc' := 29) dX5_find_26 (by decide) rfl), ↓(X_aload_n (k := 0) (pc' := 30) dX5_find_29 rfl rfl), ↓gR_0, ↓(X_getI (pc' := 33) fl_5_38 (by decide) dX5_find_30 rfl), kd_79, ↓(X_if_ne (tgt := 69) (pc' := 36) dX5_find_33 (by decide) rfl), rn_0, gV_s, ↓pI_c, ↓pII_c, ↓pL_c, ↓pLL_c, ↓pR_c, ↓pRI_c, ↓pRII_c, ↓pRIL_c, ↓pRR_c, ↓pV_c, ↓pVV_c, ↓gI_c, ↓gL_c, ↓gR_c, f2_0, f2_1, nk_n, nk_i, nk_r, ↓reduceIte, r32, r64, Nat.reduceAdd, Nat.reduceSub, Nat.reduceEqDiff, Nat.reduceLT, Nat.reduceLeDiff, Nat.reduceBEq, Int.reduceAdd, Int.reduceSub, Int.reduceMul, Int.reduceNeg, Int.reduceToNat, Int.reduceLE, Int.reduceLT, Int.reduceEq, Int.reduceNatCast', Int.reduceNatCast, Int.natCast_zero, Int.toNat_natCast, Int.toNat_zero, Int.toNat_one, List.length_cons, List.length_nil, true_and, and_true, and_self, true_or, or_true, false_or, or_false, Bool.not_true, Bool.not_false, Nat.lt_add_one, Nat.zero_lt_succ, N0, swL_n, swL_c, List.toList_toArray, false_implies, true_implies, implies_true, forall_const, not_false_eq_true, not_true_eq_false, and_false, false_and, h1, r1, hs0, q, r0]
      simp only [hK9]
      clear hK9 K9v
      refine hfin M _ _ ?_
      rw [tensS, if_neg q]
      exact hM
/-- what a search finds -/
def findS (C : Nat → Nat → Int) (W mo : Nat → Int) (gr : Int) (I : Nat → Nat → Int) (T : Nat) (s : Nat → Int) : Nat → Int :=
  if tensS (tinS C W mo gr I) T 10 s 0 = 0 then basesS (candS mo (gapC C W (gr * 1000) (fun _ => 0)) 0 (-1)) 10 (tensS (tinS C W mo gr I) T 10 s) else tensS (tinS C W mo gr I) T 10 s
/-- how a search starts, over what is left of the one before -/
def st0 (M : Nat → Nat → Int) (gap : Int) : Nat → Int := fun k => if k = 0 then 0 else if k = 1 then gap else if k = 2 then M 80 1 else if k = 3 then M 80 2 else if k = 4 then M 80 3 else M 81 (k - 5)
def findF (M : Nat → Nat → Int) (i T : Nat) : Nat → Int := findS (fun b => M (3 + b)) (M (368 + 5 * i)) (fun b => M 8 b / (M (367 + 5 * i) 3 / 10 * 1000)) (M (367 + 5 * i) 3 / 10) (fun t => M (11 + 2 * t)) T (st0 M (M (367 + 5 * i) 4))
def kOK (M : Nat → Nat → Int) (i T : Nat) : Prop := i < 16 ∧ (10 ≤ M (367 + 5 * i) 3 ∧ M (367 + 5 * i) 3 ≤ 500) ∧ (0 ≤ M (367 + 5 * i) 4 ∧ M (367 + 5 * i) 4 ≤ 300) ∧ okC (fun b => M (3 + b)) ∧ col3 (M (368 + 5 * i)) ∧ (∀ b, b < 4 → 0 ≤ M 8 b ∧ M 8 b ≤ 100000000) ∧ (∀ b, b < 4 → M 85 b = 0) ∧ M 1 3 = (T : Int) ∧ T ≤ 30 ∧ ∀ t, t < T → tin4 (M (11 + 2 * t))
theorem candS_congr {mo mo' : Nat → Int} {G : (Nat → Int) → Int} {tt tin : Int} (h : ∀ b, b < 4 → mo b = mo' b) : candS mo G tt tin = candS mo' G tt tin := by
  funext a b c e s
  simp only [candS, h 0 (by omega), h 1 (by omega), h 2 (by omega), h 3 (by omega)]
theorem tinS_mo {C : Nat → Nat → Int} {W mo mo' : Nat → Int} {gr : Int} {I : Nat → Nat → Int} (h : ∀ b, b < 4 → mo b = mo' b) : tinS C W mo gr I = tinS C W mo' gr I := by
  funext tt t s
  simp only [tinS, candT, candS_congr h]
theorem loopN_congr {σ : Type} {f f' : Nat → σ → σ} {T : Nat} (h : ∀ t, t < T → ∀ s, f t s = f' t s) : ∀ (k i : Nat) (s : σ), i + k ≤ T → loopN f k i s = loopN f' k i s
  | 0, _, _, _ => rfl
  | k + 1, i, s, hk => by
    rw [loopN, loopN, h i (by omega)]
    exact loopN_congr h k (i + 1) _ (by omega)
theorem tensS_congr {f f' : Nat → Nat → (Nat → Int) → (Nat → Int)} {T : Nat} (h : ∀ tt t, t < T → ∀ s, f tt t s = f' tt t s) : ∀ (k : Nat) (s : Nat → Int), tensS f T k s = tensS f' T k s
  | 0, _ => rfl
  | k + 1, s => by
    rw [tensS, tensS, loopN_congr (h (k + 1)) T 0 s (by omega), tensS_congr h k]
set_option maxRecDepth 100000 in
set_option maxHeartbeats 4000000 in
theorem ok_find {M : Nat → Nat → Int} (d i T : Nat) (hK : kOK M i T) : Ok l D cy (d + 7) 0 0 yX5_find cX5_find 5 (some (.boolean)) [.inr (.inr (some (79))), .inr (.inr (some (367 + 5 * i))), .inr (.inr (some (1)))] (N0, R0, M) (fun o ν => o = .inl (some (.inl (findF M i T 0))) ∧ (findF M i T 0 = 0 ∨ findF M i T 0 = 1) ∧ ∃ M2 : Nat → Nat → Int, ν = (N0, R0, M2) ∧ (∀ x, x ≠ 79 → x ≠ 80 → x ≠ 81 → x ≠ 83 → x ≠ 84 → x ≠ 86 → x ≠ 87 → x ≠ 88 → M2 x = M x) ∧ (∀ k, k ≠ 6 → k ≠ 7 → M2 79 k = M 79 k) ∧ RS M2 (findF M i T)) := by
  refine Ok.intro (o := 5) (ini := false) [some (.inr (.inr (some (79)))), some (.inr (.inr (some (367 + 5 * i)))), some (.inr (.inr (some (1)))), none, none] (by decide +kernel) rfl (fun h => by cases h) rfl (Nat.le_of_ble_eq_true rfl) rfl ?_
  obtain ⟨hi, hg, hgap, hC, hW, hst, h85, hT, hT30, hI⟩ := id hK
  obtain ⟨a1, -⟩ := job_at i hi
  have c1 : 367 + 5 * i < 449 := by omega
  have n79 : (367 + 5 * i = 79) = False := eq_false (by omega)
  refine J_rnG GM_fa (by omega) (by omega) (by omega) 11 _ _ _ _ (fun K9v hK9 => ?_)
  simp (maxSteps := 4000000) only [↓(X_aload_n (k := 0) (pc' := 1) dX5_find_0 rfl rfl), ↓gR_0, ↓(X_iconst (pc' := 2) dX5_find_1 rfl), ↓(X_putI (pc' := 5) fl_5_38 (by decide) dX5_find_2 rfl), Nat.one_ne_zero, Nat.reduceEqDiff, kd_79, ↓(X_aload_n (k := 0) (pc' := 6) dX5_find_5 rfl rfl), ↓(X_aload_n (k := 1) (pc' := 7) dX5_find_6 rfl rfl), ↓gR_1, ↓(X_getI (pc' := 10) fl_5_42 (by decide) dX5_find_7 rfl), ↓(X_putI (pc' := 13) fl_5_48 (by decide) dX5_find_10 rfl), ↓(X_aload_n (k := 0) (pc' := 14) dX5_find_13 rfl rfl), ↓(X_aload_n (k := 1) (pc' := 15) dX5_find_14 rfl rfl), ↓(X_aload_n (k := 2) (pc' := 16) dX5_find_15 rfl rfl), ↓gR_2, ↓(X_getR (pc' := 19) fl_5_51 dX5_find_16 rfl), kd_1, ↓(gV_c r0_1_1), kd_7, rn_0, gV_s, ↓pI_c, ↓pII_c, ↓pL_c, ↓pLL_c, ↓pR_c, ↓pRI_c, ↓pRII_c, ↓pRIL_c, ↓pRR_c, ↓pV_c, ↓pVV_c, ↓gI_c, ↓gL_c, ↓gR_c, f2_0, f2_1, nk_n, nk_i, nk_r, ↓reduceIte, r32, r64, Nat.reduceAdd, Nat.reduceSub, Nat.reduceEqDiff, Nat.reduceLT, Nat.reduceLeDiff, Nat.reduceBEq, Int.reduceAdd, Int.reduceSub, Int.reduceMul, Int.reduceNeg, Int.reduceToNat, Int.reduceLE, Int.reduceLT, Int.reduceEq, Int.reduceNatCast', Int.reduceNatCast, Int.natCast_zero, Int.toNat_natCast, Int.toNat_zero, Int.toNat_one, List.length_cons, List.length_nil, true_and, and_true, and_self, true_or, or_true, false_or, or_false, Bool.not_true, Bool.not_false, Nat.lt_add_one, Nat.zero_lt_succ, N0, swL_n, swL_c, List.toList_toArray, false_implies, true_implies, implies_true, forall_const, not_false_eq_true, not_true_eq_false, and_false, false_and, a1, c1, up2_c (show 367 + 5 * i ≠ 79 by omega)]
  simp only [hK9]
  clear hK9 K9v
  have q0 : ∀ x, x ≠ 79 → up2 (up2 M 79 6 0) 79 7 (M (367 + 5 * i) 4) x = M x := fun x hx => by funext k; simp [up2, hx]
  have q1 : ∀ k, k ≠ 6 → k ≠ 7 → up2 (up2 M 79 6 0) 79 7 (M (367 + 5 * i) 4) 79 k = M 79 k := fun k h1 h2 => by simp [up2, h1, h2]
  have q2 : up2 (up2 M 79 6 0) 79 7 (M (367 + 5 * i) 4) 79 6 = 0 ∧ up2 (up2 M 79 6 0) 79 7 (M (367 + 5 * i) 4) 79 7 = M (367 + 5 * i) 4 := by simp [up2]
  generalize up2 (up2 M 79 6 0) 79 7 (M (367 + 5 * i) 4) = M1 at q0 q1 q2 ⊢
  have fJ : M1 (367 + 5 * i) = M (367 + 5 * i) := q0 _ (by omega)
  refine J_callV (ci := 5) GM_fa (ok_countTenths (M := M1) (d + 3) i hi (by rw [fJ]; exact hg) (by rw [q0 8 (by decide)]; exact hst)) (by first | exact calm_det | assumption | (intro q9 ν9 h9; obtain ⟨h8, h6, M9, h7, -⟩ := h9; exact ⟨⟨_, h8⟩, by rw [h7]; rfl⟩) | (intro q9 ν9 h9; obtain ⟨h8, M9, h7, -⟩ := h9; first | exact ⟨⟨_, h8⟩, by rw [h7]; rfl⟩ | exact ⟨⟨_, h7⟩, by rw [h8]; rfl⟩ | exact ⟨⟨_, h7⟩, by rw [h8]⟩)) dX5_find_19 k_5_57 (by omega) (Nat.le_of_ble_eq_true rfl) ⟨by omega, by omega⟩ rfl (by decide +kernel) rfl (by decide) (by simp only [N0]; omega) (by simp) rfl (fun v ν hv => ?_)
  obtain ⟨hv0, M2, rfl, w1, w2⟩ := hv
  cases hv0
  simp only [Option.toList, List.nil_append]
  rw [fJ, q0 8 (by decide)] at w2
  have z1 : ∀ x, x ≠ 79 → x ≠ 86 → M2 x = M x := fun x h1 h2 => by rw [w1 x h2, q0 x h1]
  have e79 : M2 79 = M1 79 := w1 79 (by decide)
  have g3 : M2 (367 + 5 * i) = M (367 + 5 * i) := z1 _ (by omega) (by omega)
  have g4 : M2 (368 + 5 * i) = M (368 + 5 * i) := z1 _ (by omega) (by omega)
  have g5 : ∀ b, b < 4 → M2 (3 + b) = M (3 + b) := fun b hb => z1 _ (by omega) (by omega)
  have g6 : ∀ t, t < T → M2 (11 + 2 * t) = M (11 + 2 * t) := fun t ht => z1 _ (by omega) (by omega)
  have g7 : M2 1 = M 1 := z1 _ (by omega) (by omega)
  have hu : 1000 ≤ M (367 + 5 * i) 3 / 10 * 1000 := by omega
  have hF : fOK M2 i (M (367 + 5 * i) 3 / 10) T := by
    refine ⟨hi, by rw [g3]; exact hg, by rw [g3], ?_, by rw [g4]; exact hW, ?_, by rw [g7]; exact hT, hT30, fun t ht => by rw [g6 t ht]; exact hI t ht⟩
    · intro b hb
      show col3 (M2 (3 + b))
      rw [g5 b hb]
      exact hC b hb
    · intro b hb
      rw [w2 b hb]
      obtain ⟨x1, x2⟩ := hst b hb
      exact ⟨Int.ediv_nonneg x1 (by omega), Int.le_trans (Int.ediv_le_self _ x1) x2⟩
  have hM : sM M2 M2 (st0 M (M (367 + 5 * i) 4)) := by
    refine ⟨fun _ _ _ _ _ _ _ _ => rfl, fun _ _ _ => rfl, ?_, ?_⟩
    · have k80 : M2 80 = M 80 := z1 _ (by decide) (by decide)
      have k81 : M2 81 = M 81 := z1 _ (by decide) (by decide)
      simp [RS, st0, e79, q2.1, q2.2, k80, k81]
    · simp [sOK, st0]
      omega
  refine J_rnG GM_fa (by omega) (by omega) (by omega) 2 _ _ _ _ (fun K9v hK9 => ?_)
  simp (maxSteps := 4000000) only [↓(X_bipush (pc' := 24) dX5_find_22 rfl), ↓(X_istore_n (k := 3) (pc' := 25) dX5_find_24 rfl rfl), ↓sto_3, rn_0, gV_s, ↓pI_c, ↓pII_c, ↓pL_c, ↓pLL_c, ↓pR_c, ↓pRI_c, ↓pRII_c, ↓pRIL_c, ↓pRR_c, ↓pV_c, ↓pVV_c, ↓gI_c, ↓gL_c, ↓gR_c, f2_0, f2_1, nk_n, nk_i, nk_r, ↓reduceIte, r32, r64, Nat.reduceAdd, Nat.reduceSub, Nat.reduceEqDiff, Nat.reduceLT, Nat.reduceLeDiff, Nat.reduceBEq, Int.reduceAdd, Int.reduceSub, Int.reduceMul, Int.reduceNeg, Int.reduceToNat, Int.reduceLE, Int.reduceLT, Int.reduceEq, Int.reduceNatCast', Int.reduceNatCast, Int.natCast_zero, Int.toNat_natCast, Int.toNat_zero, Int.toNat_one, List.length_cons, List.length_nil, true_and, and_true, and_self, true_or, or_true, false_or, or_false, Bool.not_true, Bool.not_false, Nat.lt_add_one, Nat.zero_lt_succ, N0, swL_n, swL_c, List.toList_toArray, false_implies, true_implies, implies_true, forall_const, not_false_eq_true, not_true_eq_false, and_false, false_and]
  simp only [hK9]
  clear hK9 K9v
  have eT : tensS (tinS0 M2 i (M (367 + 5 * i) 3 / 10)) T 10 (st0 M (M (367 + 5 * i) 4)) = tensS (tinS (fun b => M (3 + b)) (M (368 + 5 * i)) (fun b => M 8 b / (M (367 + 5 * i) 3 / 10 * 1000)) (M (367 + 5 * i) 3 / 10) (fun t => M (11 + 2 * t))) T 10 (st0 M (M (367 + 5 * i) 4)) := by
    have h1 : tinS0 M2 i (M (367 + 5 * i) 3 / 10) = tinS (fun b => M2 (3 + b)) (M (368 + 5 * i)) (fun b => M 8 b / (M (367 + 5 * i) 3 / 10 * 1000)) (M (367 + 5 * i) 3 / 10) (fun t => M2 (11 + 2 * t)) := by
      rw [tinS0, g4]
      exact tinS_mo w2
    rw [h1]
    refine tensS_congr (fun tt t ht s => ?_) 10 _
    simp only [tinS, g6 t ht, candT]
    have e : ∀ m, gapC (fun b => M2 (3 + b)) (M (368 + 5 * i)) (M (367 + 5 * i) 3 / 10 * 1000) (wpC (fun b => M2 (3 + b)) m) = gapC (fun b => M (3 + b)) (M (368 + 5 * i)) (M (367 + 5 * i) 3 / 10 * 1000) (wpC (fun b => M (3 + b)) m) := by
      intro m
      funext x
      simp only [gapC, gpC, wpC, g5 0 (by omega), g5 1 (by omega), g5 2 (by omega), g5 3 (by omega)]
    simp only [e]
  have := ok_fi1 (D := D) (cy := cy) (l := l) (Φ := fun o ν => o = .inl (some (.inl (findF M i T 0))) ∧ (findF M i T 0 = 0 ∨ findF M i T 0 = 1) ∧ ∃ M2 : Nat → Nat → Int, ν = (N0, R0, M2) ∧ (∀ x, x ≠ 79 → x ≠ 80 → x ≠ 81 → x ≠ 83 → x ≠ 84 → x ≠ 86 → x ≠ 87 → x ≠ 88 → M2 x = M x) ∧ (∀ k, k ≠ 6 → k ≠ 7 → M2 79 k = M 79 k) ∧ RS M2 (findF M i T)) d i T _ hF 10 M2 (st0 M (M (367 + 5 * i) 4)) none (by omega) (nk_n.mpr trivial) hM (fun M3 w3 w4 hM3 => ?_)
  · exact this
  · rw [eT] at hM3
    obtain ⟨m1, m2, m3, m4⟩ := id hM3
    have x79 : M3 79 6 = _ := m3.1
    have y1 : ∀ x, x ≠ 79 → x ≠ 80 → x ≠ 81 → x ≠ 83 → x ≠ 84 → x ≠ 86 → x ≠ 87 → x ≠ 88 → M3 x = M x := fun x k1 k2 k3 k4 k5 k6 k7 k8 => by rw [m1 x k1 k2 k3 k4 k5 k7 k8, z1 x k1 k6]
    have y2 : ∀ k, k ≠ 6 → k ≠ 7 → M3 79 k = M 79 k := fun k k1 k2 => by rw [m2 k k1 k2, e79, q1 k k1 k2]
    have eF : findF M i T = findS (fun b => M (3 + b)) (M (368 + 5 * i)) (fun b => M 8 b / (M (367 + 5 * i) 3 / 10 * 1000)) (M (367 + 5 * i) 3 / 10) (fun t => M (11 + 2 * t)) T (st0 M (M (367 + 5 * i) 4)) := rfl
    rw [findS] at eF
    generalize tensS (tinS (fun b => M (3 + b)) (M (368 + 5 * i)) (fun b => M 8 b / (M (367 + 5 * i) 3 / 10 * 1000)) (M (367 + 5 * i) 3 / 10) (fun t => M (11 + 2 * t))) T 10 (st0 M (M (367 + 5 * i) 4)) = s1 at *
    have r0 : -2147483648 ≤ s1 0 ∧ s1 0 ≤ 2147483647 := by obtain ⟨-, -, q⟩ := m4; omega
    rcases (show s1 0 = 0 ∨ ¬ s1 0 = 0 by omega) with q | q
    · rw [if_pos q] at eF
      refine J_rnG GM_fa (by omega) (by omega) (by omega) 7 _ _ _ _ (fun K9v hK9 => ?_)
      simp (maxSteps := 4000000) only [↓(X_aload_n (k := 0) (pc' := 70) dX5_find_69 rfl rfl), ↓gR_0, ↓(X_getI (pc' := 73) fl_5_38 (by decide) dX5_find_70 rfl), kd_79, ↓(X_if_ne (tgt := 93) (pc' := 76) dX5_find_73 (by decide) rfl), ↓(X_aload_n (k := 0) (pc' := 77) dX5_find_76 rfl rfl), ↓(X_aload_n (k := 2) (pc' := 78) dX5_find_77 rfl rfl), ↓gR_2, ↓(X_aload_n (k := 0) (pc' := 79) dX5_find_78 rfl rfl), ↓(X_getR (pc' := 82) fl_5_25 dX5_find_79 rfl), ↓(gV_c r0_79_2), kd_85, ln_85, rn_0, gV_s, ↓pI_c, ↓pII_c, ↓pL_c, ↓pLL_c, ↓pR_c, ↓pRI_c, ↓pRII_c, ↓pRIL_c, ↓pRR_c, ↓pV_c, ↓pVV_c, ↓gI_c, ↓gL_c, ↓gR_c, f2_0, f2_1, nk_n, nk_i, nk_r, ↓reduceIte, r32, r64, Nat.reduceAdd, Nat.reduceSub, Nat.reduceEqDiff, Nat.reduceLT, Nat.reduceLeDiff, Nat.reduceBEq, Int.reduceAdd, Int.reduceSub, Int.reduceMul, Int.reduceNeg, Int.reduceToNat, Int.reduceLE, Int.reduceLT, Int.reduceEq, Int.reduceNatCast', Int.reduceNatCast, Int.natCast_zero, Int.toNat_natCast, Int.toNat_zero, Int.toNat_one, List.length_cons, List.length_nil, true_and, and_true, and_self, true_or, or_true, false_or, or_false, Bool.not_true, Bool.not_false, Nat.lt_add_one, Nat.zero_lt_succ, N0, swL_n, swL_c, List.toList_toArray, false_implies, true_implies, implies_true, forall_const, not_false_eq_true, not_true_eq_false, and_false, false_and, x79, q]
      simp only [hK9]
      clear hK9 K9v
      refine J_callV (ci := 5) GM_fa (ok_weighTin (M := M3) (d + 4) 85 (by decide +kernel) (by decide +kernel) (by decide) (by decide)) (by first | exact calm_det | assumption | (intro q9 ν9 h9; obtain ⟨h8, h6, M9, h7, -⟩ := h9; exact ⟨⟨_, h8⟩, by rw [h7]; rfl⟩) | (intro q9 ν9 h9; obtain ⟨h8, M9, h7, -⟩ := h9; first | exact ⟨⟨_, h8⟩, by rw [h7]; rfl⟩ | exact ⟨⟨_, h7⟩, by rw [h8]; rfl⟩ | exact ⟨⟨_, h7⟩, by rw [h8]⟩)) dX5_find_82 k_5_68 (by omega) (Nat.le_of_ble_eq_true rfl) ⟨by omega, by omega⟩ rfl (by decide +kernel) rfl (by decide) (by simp only [N0]; omega) (by simp) rfl (fun v ν hv => ?_)
      obtain ⟨hv0, M4, rfl, v1, v2⟩ := hv
      cases hv0
      simp only [Option.toList, List.nil_append]
      refine J_rnG GM_fa (by omega) (by omega) (by omega) 5 _ _ _ _ (fun K9v hK9 => ?_)
      simp (maxSteps := 4000000) only [↓(X_aload_n (k := 0) (pc' := 86) dX5_find_85 rfl rfl), ↓gR_0, ↓(X_aload_n (k := 1) (pc' := 87) dX5_find_86 rfl rfl), ↓gR_1, ↓(X_aload_n (k := 2) (pc' := 88) dX5_find_87 rfl rfl), ↓gR_2, ↓(X_iconst (pc' := 89) dX5_find_88 rfl), ↓(X_iconst (pc' := 90) dX5_find_89 rfl), rn_0, gV_s, ↓pI_c, ↓pII_c, ↓pL_c, ↓pLL_c, ↓pR_c, ↓pRI_c, ↓pRII_c, ↓pRIL_c, ↓pRR_c, ↓pV_c, ↓pVV_c, ↓gI_c, ↓gL_c, ↓gR_c, f2_0, f2_1, nk_n, nk_i, nk_r, ↓reduceIte, r32, r64, Nat.reduceAdd, Nat.reduceSub, Nat.reduceEqDiff, Nat.reduceLT, Nat.reduceLeDiff, Nat.reduceBEq, Int.reduceAdd, Int.reduceSub, Int.reduceMul, Int.reduceNeg, Int.reduceToNat, Int.reduceLE, Int.reduceLT, Int.reduceEq, Int.reduceNatCast', Int.reduceNatCast, Int.natCast_zero, Int.toNat_natCast, Int.toNat_zero, Int.toNat_one, List.length_cons, List.length_nil, true_and, and_true, and_self, true_or, or_true, false_or, or_false, Bool.not_true, Bool.not_false, Nat.lt_add_one, Nat.zero_lt_succ, N0, swL_n, swL_c, List.toList_toArray, false_implies, true_implies, implies_true, forall_const, not_false_eq_true, not_true_eq_false, and_false, false_and]
      simp only [hK9]
      clear hK9 K9v
      have f3 : M4 (367 + 5 * i) = M (367 + 5 * i) := by rw [v1 _ (by omega)]; exact y1 _ (by omega) (by omega) (by omega) (by omega) (by omega) (by omega) (by omega) (by omega)
      have f2 : M4 (368 + 5 * i) = M (368 + 5 * i) := by rw [v1 _ (by omega)]; exact y1 _ (by omega) (by omega) (by omega) (by omega) (by omega) (by omega) (by omega) (by omega)
      have f5 : ∀ b, b < 4 → M4 (3 + b) = M (3 + b) := fun b hb => by rw [v1 _ (by omega)]; exact y1 _ (by omega) (by omega) (by omega) (by omega) (by omega) (by omega) (by omega) (by omega)
      have f4 : ∀ b, b < 4 → M4 86 b = M 8 b / (M (367 + 5 * i) 3 / 10 * 1000) := fun b hb => by rw [v1 _ (by decide), m1 86 (by decide) (by decide) (by decide) (by decide) (by decide) (by decide) (by decide)]; exact w2 b hb
      have f0 : ∀ p, p < 3 → M4 88 p = 0 := by
        intro p hp
        rw [v2 p hp, wpart_wpC, y1 85 (by decide) (by decide) (by decide) (by decide) (by decide) (by decide) (by decide) (by decide)]
        simp only [wpC, h85 0 (by omega), h85 1 (by omega), h85 2 (by omega), h85 3 (by omega)]
        omega
      have hB : bOK M4 i (M (367 + 5 * i) 3 / 10 * 1000) := by
        refine ⟨hi, by rw [f3], by rw [f3]; omega, by omega, by omega, fun p hp => by rw [f0 p hp]; decide, ?_, by rw [f2]; exact hW, ?_⟩
        · intro b hb
          show col3 (M4 (3 + b))
          rw [f5 b hb]
          exact hC b hb
        · intro b hb
          rw [f4 b hb]
          obtain ⟨x1, x2⟩ := hst b hb
          exact ⟨Int.ediv_nonneg x1 (by omega), Int.le_trans (Int.ediv_le_self _ x1) x2⟩
      have hRS : RS M4 s1 := by
        obtain ⟨s0, s1, s2, s3, s4, s5, s6, s7, s8⟩ := m3
        simp only [RS, v1 79 (by decide), v1 80 (by decide), v1 81 (by decide)]
        exact ⟨s0, s1, s2, s3, s4, s5, s6, s7, s8⟩
      refine J_callV (ci := 5) GM_fa (ok_tryBases (M := M4) (d + 1) i 0 (M (367 + 5 * i) 3 / 10 * 1000) (-1) s1 hB (by omega) hRS m4) (by first | exact calm_det | assumption | (intro q9 ν9 h9; obtain ⟨h8, h6, M9, h7, -⟩ := h9; exact ⟨⟨_, h8⟩, by rw [h7]; rfl⟩) | (intro q9 ν9 h9; obtain ⟨h8, M9, h7, -⟩ := h9; first | exact ⟨⟨_, h8⟩, by rw [h7]; rfl⟩ | exact ⟨⟨_, h7⟩, by rw [h8]; rfl⟩ | exact ⟨⟨_, h7⟩, by rw [h8]⟩)) dX5_find_90 k_5_72 (by omega) (Nat.le_of_ble_eq_true rfl) ⟨by omega, by omega⟩ rfl (by decide +kernel) rfl (by decide) (by simp only [N0]; omega) (by simp) rfl (fun v ν hv => ?_)
      obtain ⟨hv0, M5, rfl, u1, u2, u3, u4⟩ := hv
      cases hv0
      simp only [Option.toList, List.nil_append]
      have eG : cand0 M4 i (M (367 + 5 * i) 3 / 10 * 1000) ((0 : Nat) : Int) (-1) = candS (fun b => M 8 b / (M (367 + 5 * i) 3 / 10 * 1000)) (gapC (fun b => M (3 + b)) (M (368 + 5 * i)) (M (367 + 5 * i) 3 / 10 * 1000) (fun _ => 0)) 0 (-1) := by
        simp only [cand0, gf0, f2]
        rw [gapC_tp f0, candS_congr f4]
        have : gapC (fun b => M4 (3 + b)) (M (368 + 5 * i)) (M (367 + 5 * i) 3 / 10 * 1000) (fun _ => 0) = gapC (fun b => M (3 + b)) (M (368 + 5 * i)) (M (367 + 5 * i) 3 / 10 * 1000) (fun _ => 0) := by
          funext m
          simp only [gapC, gpC, wpC, f5 0 (by omega), f5 1 (by omega), f5 2 (by omega), f5 3 (by omega)]
        rw [this]
        rfl
      rw [eG] at u3 u4
      rw [← eF] at u3 u4
      refine J_rnG GM_fa (by omega) (by omega) (by omega) 2 _ _ _ _ (fun K9v hK9 => ?_)
      simp (maxSteps := 4000000) only [↓(X_aload_n (k := 0) (pc' := 94) dX5_find_93 rfl rfl), ↓gR_0, ↓(X_getI (pc' := 97) fl_5_38 (by decide) dX5_find_94 rfl), kd_79, rn_0, gV_s, ↓pI_c, ↓pII_c, ↓pL_c, ↓pLL_c, ↓pR_c, ↓pRI_c, ↓pRII_c, ↓pRIL_c, ↓pRR_c, ↓pV_c, ↓pVV_c, ↓gI_c, ↓gL_c, ↓gR_c, f2_0, f2_1, nk_n, nk_i, nk_r, ↓reduceIte, r32, r64, Nat.reduceAdd, Nat.reduceSub, Nat.reduceEqDiff, Nat.reduceLT, Nat.reduceLeDiff, Nat.reduceBEq, Int.reduceAdd, Int.reduceSub, Int.reduceMul, Int.reduceNeg, Int.reduceToNat, Int.reduceLE, Int.reduceLT, Int.reduceEq, Int.reduceNatCast', Int.reduceNatCast, Int.natCast_zero, Int.toNat_natCast, Int.toNat_zero, Int.toNat_one, List.length_cons, List.length_nil, true_and, and_true, and_self, true_or, or_true, false_or, or_false, Bool.not_true, Bool.not_false, Nat.lt_add_one, Nat.zero_lt_succ, N0, swL_n, swL_c, List.toList_toArray, false_implies, true_implies, implies_true, forall_const, not_false_eq_true, not_true_eq_false, and_false, false_and, show M5 79 6 = _ from u3.1]
      simp only [hK9]
      clear hK9 K9v
      have hb01 := u4.2.2
      refine J_zret dX5_find_97 rfl (by first | exact Or.inl rfl | exact Or.inr rfl | omega) (by omega) (by omega) (⟨rfl, u4.2.2, M5, rfl, fun x k1 k2 k3 k4 k5 k6 k7 k8 => by rw [u1 x k1 k2 k3 k7, v1 x k8]; exact y1 x k1 k2 k3 k4 k5 k6 k7 k8, fun k k1 k2 => by rw [u2 k k1 k2, v1 79 (by decide)]; exact y2 k k1 k2, u3⟩)
    · rw [if_neg q] at eF
      refine J_rnG GM_fa (by omega) (by omega) (by omega) 3 _ _ _ _ (fun K9v hK9 => ?_)
      simp (maxSteps := 4000000) only [↓(X_aload_n (k := 0) (pc' := 70) dX5_find_69 rfl rfl), ↓gR_0, ↓(X_getI (pc' := 73) fl_5_38 (by decide) dX5_find_70 rfl), kd_79, ↓(X_if_ne (tgt := 93) (pc' := 76) dX5_find_73 (by decide) rfl), rn_0, gV_s, ↓pI_c, ↓pII_c, ↓pL_c, ↓pLL_c, ↓pR_c, ↓pRI_c, ↓pRII_c, ↓pRIL_c, ↓pRR_c, ↓pV_c, ↓pVV_c, ↓gI_c, ↓gL_c, ↓gR_c, f2_0, f2_1, nk_n, nk_i, nk_r, ↓reduceIte, r32, r64, Nat.reduceAdd, Nat.reduceSub, Nat.reduceEqDiff, Nat.reduceLT, Nat.reduceLeDiff, Nat.reduceBEq, Int.reduceAdd, Int.reduceSub, Int.reduceMul, Int.reduceNeg, Int.reduceToNat, Int.reduceLE, Int.reduceLT, Int.reduceEq, Int.reduceNatCast', Int.reduceNatCast, Int.natCast_zero, Int.toNat_natCast, Int.toNat_zero, Int.toNat_one, List.length_cons, List.length_nil, true_and, and_true, and_self, true_or, or_true, false_or, or_false, Bool.not_true, Bool.not_false, Nat.lt_add_one, Nat.zero_lt_succ, N0, swL_n, swL_c, List.toList_toArray, false_implies, true_implies, implies_true, forall_const, not_false_eq_true, not_true_eq_false, and_false, false_and, x79, q, r0]
      simp only [hK9]
      clear hK9 K9v
      refine J_rnG GM_fa (by omega) (by omega) (by omega) 2 _ _ _ _ (fun K9v hK9 => ?_)
      simp (maxSteps := 4000000) only [↓(X_aload_n (k := 0) (pc' := 94) dX5_find_93 rfl rfl), ↓gR_0, ↓(X_getI (pc' := 97) fl_5_38 (by decide) dX5_find_94 rfl), kd_79, rn_0, gV_s, ↓pI_c, ↓pII_c, ↓pL_c, ↓pLL_c, ↓pR_c, ↓pRI_c, ↓pRII_c, ↓pRIL_c, ↓pRR_c, ↓pV_c, ↓pVV_c, ↓gI_c, ↓gL_c, ↓gR_c, f2_0, f2_1, nk_n, nk_i, nk_r, ↓reduceIte, r32, r64, Nat.reduceAdd, Nat.reduceSub, Nat.reduceEqDiff, Nat.reduceLT, Nat.reduceLeDiff, Nat.reduceBEq, Int.reduceAdd, Int.reduceSub, Int.reduceMul, Int.reduceNeg, Int.reduceToNat, Int.reduceLE, Int.reduceLT, Int.reduceEq, Int.reduceNatCast', Int.reduceNatCast, Int.natCast_zero, Int.toNat_natCast, Int.toNat_zero, Int.toNat_one, List.length_cons, List.length_nil, true_and, and_true, and_self, true_or, or_true, false_or, or_false, Bool.not_true, Bool.not_false, Nat.lt_add_one, Nat.zero_lt_succ, N0, swL_n, swL_c, List.toList_toArray, false_implies, true_implies, implies_true, forall_const, not_false_eq_true, not_true_eq_false, and_false, false_and, x79]
      simp only [hK9]
      clear hK9 K9v
      have hb01 := m4.2.2
      refine J_zret dX5_find_97 rfl (by first | exact Or.inl rfl | exact Or.inr rfl | omega) (by omega) (by omega) (⟨by rw [eF], by rw [eF]; exact m4.2.2, M3, rfl, y1, y2, by rw [eF]; exact m3⟩)
end C6
