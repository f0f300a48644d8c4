/-! the whole search for a recipe -/
/-- what stays while a recipe is searched -/
def sM (M0 M : Nat → Nat → Int) (s : Nat → Int) : Prop := (∀ x, x ≠ 79 → x ≠ 80 → x ≠ 81 → x ≠ 83 → x ≠ 84 → x ≠ 87 → x ≠ 88 → M x = M0 x) ∧ (∀ k, k ≠ 6 → k ≠ 7 → M 79 k = M0 79 k) ∧ RS M s ∧ sOK s
/-- a tin's ink as it stands -/
def tin4 (m : Nat → Int) : Prop := (0 ≤ m 0 ∧ m 0 ≤ 500000) ∧ (0 ≤ m 1 ∧ m 1 ≤ 500000) ∧ (0 ≤ m 2 ∧ m 2 ≤ 500000) ∧ (0 ≤ m 3 ∧ m 3 ≤ 500000)
def fOK (M0 : Nat → Nat → Int) (i : Nat) (gr : Int) (T : Nat) : Prop := i < 16 ∧ (10 ≤ M0 (367 + 5 * i) 3 ∧ M0 (367 + 5 * i) 3 ≤ 500) ∧ M0 (367 + 5 * i) 3 / 10 = gr ∧ okC (fun b => M0 (3 + b)) ∧ col3 (M0 (368 + 5 * i)) ∧ (∀ b, b < 4 → 0 ≤ M0 86 b ∧ M0 86 b ≤ 100000000) ∧ M0 1 3 = (T : Int) ∧ T ≤ 30 ∧ ∀ t, t < T → tin4 (M0 (11 + 2 * t))
def candT (C : Nat → Nat → Int) (W mo : Nat → Int) (gr : Int) (m : Nat → Int) (tt tin : Int) : Int → Int → Int → Int → (Nat → Int) → (Nat → Int) := candS mo (gapC C W (gr * 1000) (wpC C m)) tt tin
def tinS (C : Nat → Nat → Int) (W mo : Nat → Int) (gr : Int) (I : Nat → Nat → Int) (tt : Nat) : Nat → (Nat → Int) → (Nat → Int) := fun t s => if wt (I t) < gr * tt * 1000 then s else basesS (candT C W mo gr (takeF (I t) (gr * tt * 1000)) tt t) (10 - tt) s
theorem gapC_tp {C : Nat → Nat → Int} {W : Nat → Int} {u : Int} {TP TP' : Nat → Int} (h : ∀ p, p < 3 → TP p = TP' p) : gapC C W u TP = gapC C W u TP' := by
  funext m
  simp only [gapC, gpC, h 0 (by omega), h 1 (by omega), h 2 (by omega)]
section C6
variable {l : Launch} {D : va_G} {cy : Nat → ClassId}
set_option maxRecDepth 100000 in
set_option maxHeartbeats 4000000 in
theorem ok_tryTin {M0 M : Nat → Nat → Int} (d i t tt T : Nat) (gr : Int) (s : Nat → Int) (hF : fOK M0 i gr T) (hM : sM M0 M s) (ht : t < T) (htt : 1 ≤ tt ∧ tt ≤ 10) : Ok l D cy (d + 6) 0 0 yX5_tryTin cX5_tryTin 7 (none) [.inr (.inr (some (79))), .inr (.inr (some (367 + 5 * i))), .inr (.inr (some (1))), .inl ((t : Int)), .inl ((tt : Int))] (N0, R0, M) (fun o ν => o = .inl none ∧ ∃ M2 : Nat → Nat → Int, ν = (N0, R0, M2) ∧ sM M0 M2 (tinS (fun b => M0 (3 + b)) (M0 (368 + 5 * i)) (M0 86) gr (fun t => M0 (11 + 2 * t)) tt t s)) := by
  refine Ok.intro (o := 5) (ini := false) [some (.inr (.inr (some (79)))), some (.inr (.inr (some (367 + 5 * i)))), some (.inr (.inr (some (1)))), some (.inl ((t : Int))), some (.inl ((tt : Int))), none, none] (by decide +kernel) rfl (fun h => by cases h) rfl (Nat.le_of_ble_eq_true rfl) rfl ?_
  obtain ⟨hi, hg, hgr, hC, hW, hmo, hT, hT30, hI⟩ := id hF
  obtain ⟨m1, m2, m3, m4⟩ := id hM
  obtain ⟨a1, a2, a3, -⟩ := job_at i hi
  obtain ⟨t1, t2, t3, t4, t5⟩ := tin_at t (by omega)
  have c1 : 10 + 2 * t < 468 := by omega
  have p0 : (0 : Int) ≤ (t : Int) := by omega
  have p30 : (t : Int) < 30 := by omega
  have fJ : M (367 + 5 * i) = M0 (367 + 5 * i) := m1 _ (by omega) (by omega) (by omega) (by omega) (by omega) (by omega) (by omega)
  have fI : M (11 + 2 * t) = M0 (11 + 2 * t) := m1 _ (by omega) (by omega) (by omega) (by omega) (by omega) (by omega) (by omega)
  refine J_rnG GM_fa (by omega) (by omega) (by omega) 7 _ _ _ _ (fun K9v hK9 => ?_)
  simp (maxSteps := 4000000) only [↓(X_aload_n (k := 2) (pc' := 1) dX5_tryTin_0 rfl rfl), ↓gR_2, ↓(X_getR (pc' := 4) fl_5_84 dX5_tryTin_1 rfl), kd_1, ↓(gV_c r0_1_2), kd_9, ln_9, ↓(X_iload_n (k := 3) (pc' := 5) dX5_tryTin_4 rfl rfl), ↓gI_3, ↓(X_aaload (pc' := 6) dX5_tryTin_5 rfl), ↓(X_astore (pc' := 8) dX5_tryTin_6 rfl), ↓sto_5, ↓(X_aload_n (k := 1) (pc' := 9) dX5_tryTin_8 rfl rfl), ↓gR_1, ↓(X_iload (pc' := 11) dX5_tryTin_9 rfl), ↓gI_4, rn_0, gV_s, ↓pI_c, ↓pII_c, ↓pL_c, ↓pLL_c, ↓pR_c, ↓pRI_c, ↓pRII_c, ↓pRIL_c, ↓pRR_c, ↓pV_c, ↓pVV_c, ↓gI_c, ↓gL_c, ↓gR_c, f2_0, f2_1, nk_n, nk_i, nk_r, ↓reduceIte, r32, r64, Nat.reduceAdd, Nat.reduceSub, Nat.reduceEqDiff, Nat.reduceLT, Nat.reduceLeDiff, Nat.reduceBEq, Int.reduceAdd, Int.reduceSub, Int.reduceMul, Int.reduceNeg, Int.reduceToNat, Int.reduceLE, Int.reduceLT, Int.reduceEq, Int.reduceNatCast', Int.reduceNatCast, Int.natCast_zero, Int.toNat_natCast, Int.toNat_zero, Int.toNat_one, List.length_cons, List.length_nil, true_and, and_true, and_self, true_or, or_true, false_or, or_false, Bool.not_true, Bool.not_false, Nat.lt_add_one, Nat.zero_lt_succ, N0, swL_n, swL_c, List.toList_toArray, false_implies, true_implies, implies_true, forall_const, not_false_eq_true, not_true_eq_false, and_false, false_and, p0, p30, ↓(gV_c t4), c1, t1]
  simp only [hK9]
  clear hK9 K9v
  refine J_callVd (ci := 1) GM_fa (ok_gramsOfTenths (M := M) (d + 4) i (tt : Int) hi (by rw [fJ]; omega)) dX5_tryTin_11 k_5_88 (by omega) (Nat.le_of_ble_eq_true rfl) ⟨by omega, by omega⟩ rfl (by exact a1) rfl (by decide) (by simp only [N0]; omega) (by simp) rfl rfl ?_
  simp only [Option.toList, List.cons_append, List.nil_append]
  rw [fJ, hgr]
  have hgr2 : 1 ≤ gr ∧ gr ≤ 50 := by omega
  have hgt := mul_bd (show 0 ≤ gr by omega) hgr2.2 (show 0 ≤ (tt : Int) by omega) (show (tt : Int) ≤ 10 by omega)
  have hgt1 : 1 ≤ gr * (tt : Int) := Int.mul_le_mul hgr2.1 (show 1 ≤ (tt : Int) by omega) (by omega) (by omega)
  refine J_rnG GM_fa (by omega) (by omega) (by omega) 2 _ _ _ _ (fun K9v hK9 => ?_)
  simp (maxSteps := 4000000) only [↓(X_istore (pc' := 16) dX5_tryTin_14 rfl), ↓sto_6, ↓(X_aload (pc' := 18) dX5_tryTin_16 rfl), ↓gR_5, rn_0, gV_s, ↓pI_c, ↓pII_c, ↓pL_c, ↓pLL_c, ↓pR_c, ↓pRI_c, ↓pRII_c, ↓pRIL_c, ↓pRR_c, ↓pV_c, ↓pVV_c, ↓gI_c, ↓gL_c, ↓gR_c, f2_0, f2_1, nk_n, nk_i, nk_r, ↓reduceIte, r32, r64, Nat.reduceAdd, Nat.reduceSub, Nat.reduceEqDiff, Nat.reduceLT, Nat.reduceLeDiff, Nat.reduceBEq, Int.reduceAdd, Int.reduceSub, Int.reduceMul, Int.reduceNeg, Int.reduceToNat, Int.reduceLE, Int.reduceLT, Int.reduceEq, Int.reduceNatCast', Int.reduceNatCast, Int.natCast_zero, Int.toNat_natCast, Int.toNat_zero, Int.toNat_one, List.length_cons, List.length_nil, true_and, and_true, and_self, true_or, or_true, false_or, or_false, Bool.not_true, Bool.not_false, Nat.lt_add_one, Nat.zero_lt_succ, N0, swL_n, swL_c, List.toList_toArray, false_implies, true_implies, implies_true, forall_const, not_false_eq_true, not_true_eq_false, and_false, false_and]
  simp only [hK9]
  clear hK9 K9v
  refine J_callVd (ci := 0) GM_fa (ok_weight (M := M) (d + 4) (10 + 2 * t) t1 c1) dX5_tryTin_18 k_5_92 (by omega) (Nat.le_of_ble_eq_true rfl) ⟨by omega, by omega⟩ rfl (by exact t1) rfl (by decide) (by simp only [N0]; omega) (by simp) rfl rfl ?_
  simp only [Option.toList, List.cons_append, List.nil_append]
  rw [show 10 + 2 * t + 1 = 11 + 2 * t by omega, fI]
  have hI4 := hI t ht
  have ew : M0 (11 + 2 * t) 0 + M0 (11 + 2 * t) 1 + M0 (11 + 2 * t) 2 + M0 (11 + 2 * t) 3 = wt (M0 (11 + 2 * t)) := rfl
  rw [ew]
  have hwr : -2147483648 ≤ wt (M0 (11 + 2 * t)) ∧ wt (M0 (11 + 2 * t)) ≤ 2147483647 := by
    obtain ⟨q1, q2, q3, q4⟩ := hI4
    simp only [wt]
    omega
  have hgr3 : -2147483648 ≤ gr * (tt : Int) * 1000 ∧ gr * (tt : Int) * 1000 ≤ 2147483647 := by omega
  refine J_rnG GM_fa (by omega) (by omega) (by omega) 4 _ _ _ _ (fun K9v hK9 => ?_)
  simp (maxSteps := 4000000) only [↓(X_iload (pc' := 23) dX5_tryTin_21 rfl), ↓gI_6, ↓(X_sipush (pc' := 26) dX5_tryTin_23 rfl), ↓(X_imul (pc' := 27) dX5_tryTin_26 rfl), ↓(X_icmp_ge (tgt := 31) (pc' := 30) dX5_tryTin_27 (by decide) rfl), rn_0, gV_s, ↓pI_c, ↓pII_c, ↓pL_c, ↓pLL_c, ↓pR_c, ↓pRI_c, ↓pRII_c, ↓pRIL_c, ↓pRR_c, ↓pV_c, ↓pVV_c, ↓gI_c, ↓gL_c, ↓gR_c, f2_0, f2_1, nk_n, nk_i, nk_r, ↓reduceIte, r32, r64, Nat.reduceAdd, Nat.reduceSub, Nat.reduceEqDiff, Nat.reduceLT, Nat.reduceLeDiff, Nat.reduceBEq, Int.reduceAdd, Int.reduceSub, Int.reduceMul, Int.reduceNeg, Int.reduceToNat, Int.reduceLE, Int.reduceLT, Int.reduceEq, Int.reduceNatCast', Int.reduceNatCast, Int.natCast_zero, Int.toNat_natCast, Int.toNat_zero, Int.toNat_one, List.length_cons, List.length_nil, true_and, and_true, and_self, true_or, or_true, false_or, or_false, Bool.not_true, Bool.not_false, Nat.lt_add_one, Nat.zero_lt_succ, N0, swL_n, swL_c, List.toList_toArray, false_implies, true_implies, implies_true, forall_const, not_false_eq_true, not_true_eq_false, and_false, false_and, hwr, hgr3]
  simp only [hK9]
  clear hK9 K9v
  split
  · rename_i h
    have hnw : wt (M0 (11 + 2 * t)) < gr * (tt : Int) * 1000 := by omega
    refine J_vret dX5_tryTin_30 rfl (by omega) (by omega) (⟨rfl, M, rfl, by rw [tinS, if_pos hnw]; exact hM⟩)
  · rename_i h
    have hnw : ¬ wt (M0 (11 + 2 * t)) < gr * (tt : Int) * 1000 := by omega
    refine J_rnG GM_fa (by omega) (by omega) (by omega) 4 _ _ _ _ (fun K9v hK9 => ?_)
    simp (maxSteps := 4000000) only [↓(X_aload_n (k := 0) (pc' := 32) dX5_tryTin_31 rfl rfl), ↓gR_0, ↓(X_getR (pc' := 35) fl_5_21 dX5_tryTin_32 rfl), kd_79, ↓(gV_c r0_79_1), kd_82, ↓(X_aload (pc' := 37) dX5_tryTin_35 rfl), ↓gR_5, ↓(X_iload (pc' := 39) dX5_tryTin_37 rfl), ↓gI_6, rn_0, gV_s, ↓pI_c, ↓pII_c, ↓pL_c, ↓pLL_c, ↓pR_c, ↓pRI_c, ↓pRII_c, ↓pRIL_c, ↓pRR_c, ↓pV_c, ↓pVV_c, ↓gI_c, ↓gL_c, ↓gR_c, f2_0, f2_1, nk_n, nk_i, nk_r, ↓reduceIte, r32, r64, Nat.reduceAdd, Nat.reduceSub, Nat.reduceEqDiff, Nat.reduceLT, Nat.reduceLeDiff, Nat.reduceBEq, Int.reduceAdd, Int.reduceSub, Int.reduceMul, Int.reduceNeg, Int.reduceToNat, Int.reduceLE, Int.reduceLT, Int.reduceEq, Int.reduceNatCast', Int.reduceNatCast, Int.natCast_zero, Int.toNat_natCast, Int.toNat_zero, Int.toNat_one, List.length_cons, List.length_nil, true_and, and_true, and_self, true_or, or_true, false_or, or_false, Bool.not_true, Bool.not_false, Nat.lt_add_one, Nat.zero_lt_succ, N0, swL_n, swL_c, List.toList_toArray, false_implies, true_implies, implies_true, forall_const, not_false_eq_true, not_true_eq_false, and_false, false_and, t1, c1]
    simp only [hK9]
    clear hK9 K9v
    have hm4 : ink4 (M (10 + 2 * t + 1)) := by
      rw [show 10 + 2 * t + 1 = 11 + 2 * t by omega, fI]
      obtain ⟨q1, q2, q3, q4⟩ := hI4
      exact ⟨q1, q2, q3, q4, by omega⟩
    refine J_callV (ci := 2) GM_fa (ok_measure (M := M) (d + 3) 82 (10 + 2 * t) (gr * (tt : Int)) (Or.inr rfl) t1 c1 ⟨by omega, by omega, by omega⟩ hm4 ⟨by omega, by omega⟩) (by first | exact calm_det | assumption | (intro q9 ν9 h9; obtain ⟨h8, M9, h7, -⟩ := h9; first | exact ⟨⟨_, h8⟩, by rw [h7]; rfl⟩ | exact ⟨⟨_, h7⟩, by rw [h8]; rfl⟩ | exact ⟨⟨_, h7⟩, by rw [h8]⟩)) dX5_tryTin_39 k_5_95 (by omega) (Nat.le_of_ble_eq_true rfl) ⟨by omega, by omega⟩ rfl (by decide +kernel) rfl (by decide) (by simp only [N0]; omega) (by simp) rfl (fun v ν hv => ?_)
    obtain ⟨hv0, M2, rfl, w1, w2⟩ := hv
    cases hv0
    simp only [Option.toList, List.nil_append]
    rw [show 10 + 2 * t + 1 = 11 + 2 * t by omega, fI] at w2
    refine J_rnG GM_fa (by omega) (by omega) (by omega) 5 _ _ _ _ (fun K9v hK9 => ?_)
    simp (maxSteps := 4000000) only [↓(X_aload_n (k := 0) (pc' := 43) dX5_tryTin_42 rfl rfl), ↓gR_0, ↓(X_aload_n (k := 2) (pc' := 44) dX5_tryTin_43 rfl rfl), ↓gR_2, ↓(X_aload_n (k := 0) (pc' := 45) dX5_tryTin_44 rfl rfl), ↓(X_getR (pc' := 48) fl_5_21 dX5_tryTin_45 rfl), kd_79, ↓(gV_c r0_79_1), kd_82, ↓(X_getR (pc' := 51) fl_5_99 dX5_tryTin_48 rfl), kd_76, ↓(gV_c r0_76_0), kd_77, ln_77, ↓(gV_c r0_82_0), kd_83, ln_83, rn_0, gV_s, ↓pI_c, ↓pII_c, ↓pL_c, ↓pLL_c, ↓pR_c, ↓pRI_c, ↓pRII_c, ↓pRIL_c, ↓pRR_c, ↓pV_c, ↓pVV_c, ↓gI_c, ↓gL_c, ↓gR_c, f2_0, f2_1, nk_n, nk_i, nk_r, ↓reduceIte, r32, r64, Nat.reduceAdd, Nat.reduceSub, Nat.reduceEqDiff, Nat.reduceLT, Nat.reduceLeDiff, Nat.reduceBEq, Int.reduceAdd, Int.reduceSub, Int.reduceMul, Int.reduceNeg, Int.reduceToNat, Int.reduceLE, Int.reduceLT, Int.reduceEq, Int.reduceNatCast', Int.reduceNatCast, Int.natCast_zero, Int.toNat_natCast, Int.toNat_zero, Int.toNat_one, List.length_cons, List.length_nil, true_and, and_true, and_self, true_or, or_true, false_or, or_false, Bool.not_true, Bool.not_false, Nat.lt_add_one, Nat.zero_lt_succ, N0, swL_n, swL_c, List.toList_toArray, false_implies, true_implies, implies_true, forall_const, not_false_eq_true, not_true_eq_false, and_false, false_and]
    simp only [hK9]
    clear hK9 K9v
    refine J_callV (ci := 5) GM_fa (ok_weighTin (M := M2) (d + 3) 83 (by decide +kernel) (by decide +kernel) (by decide) (by decide)) (by first | exact calm_det | assumption | (intro q9 ν9 h9; obtain ⟨h8, M9, h7, -⟩ := h9; first | exact ⟨⟨_, h8⟩, by rw [h7]; rfl⟩ | exact ⟨⟨_, h7⟩, by rw [h8]; rfl⟩ | exact ⟨⟨_, h7⟩, by rw [h8]⟩)) dX5_tryTin_51 k_5_68 (by omega) (Nat.le_of_ble_eq_true rfl) ⟨by omega, by omega⟩ rfl (by decide +kernel) rfl (by decide) (by simp only [N0]; omega) (by simp) rfl (fun v ν hv => ?_)
    obtain ⟨hv0, M3, rfl, y1, y2⟩ := hv
    cases hv0
    simp only [Option.toList, List.nil_append]
    have z1 : ∀ x, x ≠ 79 → x ≠ 80 → x ≠ 81 → x ≠ 83 → x ≠ 84 → x ≠ 87 → x ≠ 88 → M3 x = M0 x := fun x g1 g2 g3 g4 g5 g6 g7 => by rw [y1 x g7, w1 x (by omega) (by omega)]; exact m1 x g1 g2 g3 g4 g5 g6 g7
    have f2 : M3 (368 + 5 * i) = M0 (368 + 5 * i) := z1 _ (by omega) (by omega) (by omega) (by omega) (by omega) (by omega) (by omega)
    have f3 : M3 (367 + 5 * i) = M0 (367 + 5 * i) := z1 _ (by omega) (by omega) (by omega) (by omega) (by omega) (by omega) (by omega)
    have f4 : M3 86 = M0 86 := z1 _ (by omega) (by omega) (by omega) (by omega) (by omega) (by omega) (by omega)
    have f5 : ∀ b, b < 4 → M3 (3 + b) = M0 (3 + b) := fun b hb => z1 _ (by omega) (by omega) (by omega) (by omega) (by omega) (by omega) (by omega)
    have f6 : M3 79 = M 79 := by rw [y1 79 (by decide), w1 79 (by decide) (by decide)]
    have f7 : M3 80 = M 80 := by rw [y1 80 (by decide), w1 80 (by decide) (by decide)]
    have f8 : M3 81 = M 81 := by rw [y1 81 (by decide), w1 81 (by decide) (by decide)]
    have f9 : ∀ p, p < 3 → M3 88 p = wpC (fun b => M0 (3 + b)) (takeF (M0 (11 + 2 * t)) (gr * (tt : Int) * 1000)) p := by
      intro p hp
      rw [y2 p hp, wpart_wpC]
      simp only [wpC, w2 0 (by omega), w2 1 (by omega), w2 2 (by omega), w2 3 (by omega)]
      have k : ∀ b, b < 4 → M2 (3 + b) = M0 (3 + b) := fun b hb => by rw [w1 _ (by omega) (by omega)]; exact m1 _ (by omega) (by omega) (by omega) (by omega) (by omega) (by omega) (by omega)
      rw [k 0 (by omega), k 1 (by omega), k 2 (by omega), k 3 (by omega)]
    have hm5 : ink4 (M0 (11 + 2 * t)) := by rw [← fI, show 11 + 2 * t = 10 + 2 * t + 1 by omega]; exact hm4
    have htk : ∀ b, b < 4 → 0 ≤ takeF (M0 (11 + 2 * t)) (gr * (tt : Int) * 1000) b ∧ takeF (M0 (11 + 2 * t)) (gr * (tt : Int) * 1000) b ≤ M0 (11 + 2 * t) b := take_bd hm5 (by omega) (by omega)
    have htw : wt (takeF (M0 (11 + 2 * t)) (gr * (tt : Int) * 1000)) = gr * (tt : Int) * 1000 := take_sum hm5 (by omega)
    have hB : bOK M3 i (gr * 1000) := by
      refine ⟨hi, by rw [f3, hgr], by rw [f3]; omega, by omega, by omega, ?_, ?_, by rw [f2]; exact hW, by rw [f4]; exact hmo⟩
      · intro p hp
        rw [f9 p hp]
        have b := wpC_bd hC (htk 0 (by omega)).1 (htk 1 (by omega)).1 (htk 2 (by omega)).1 (htk 3 (by omega)).1 hp
        omega
      · intro b hb
        have := hC b hb
        show col3 (M3 (3 + b))
        rw [f5 b hb]
        exact this
    have hRS : RS M3 s := by
      obtain ⟨s0, s1, s2, s3, s4, s5, s6, s7, s8⟩ := m3
      simp only [RS, f6, f7, f8]
      exact ⟨s0, s1, s2, s3, s4, s5, s6, s7, s8⟩
    refine J_rnG GM_fa (by omega) (by omega) (by omega) 5 _ _ _ _ (fun K9v hK9 => ?_)
    simp (maxSteps := 4000000) only [↓(X_aload_n (k := 0) (pc' := 55) dX5_tryTin_54 rfl rfl), ↓gR_0, ↓(X_aload_n (k := 1) (pc' := 56) dX5_tryTin_55 rfl rfl), ↓gR_1, ↓(X_aload_n (k := 2) (pc' := 57) dX5_tryTin_56 rfl rfl), ↓gR_2, ↓(X_iload_n (k := 3) (pc' := 58) dX5_tryTin_57 rfl rfl), ↓gI_3, ↓(X_iload (pc' := 60) dX5_tryTin_58 rfl), ↓gI_4, rn_0, gV_s, ↓pI_c, ↓pII_c, ↓pL_c, ↓pLL_c, ↓pR_c, ↓pRI_c, ↓pRII_c, ↓pRIL_c, ↓pRR_c, ↓pV_c, ↓pVV_c, ↓gI_c, ↓gL_c, ↓gR_c, f2_0, f2_1, nk_n, nk_i, nk_r, ↓reduceIte, r32, r64, Nat.reduceAdd, Nat.reduceSub, Nat.reduceEqDiff, Nat.reduceLT, Nat.reduceLeDiff, Nat.reduceBEq, Int.reduceAdd, Int.reduceSub, Int.reduceMul, Int.reduceNeg, Int.reduceToNat, Int.reduceLE, Int.reduceLT, Int.reduceEq, Int.reduceNatCast', Int.reduceNatCast, Int.natCast_zero, Int.toNat_natCast, Int.toNat_zero, Int.toNat_one, List.length_cons, List.length_nil, true_and, and_true, and_self, true_or, or_true, false_or, or_false, Bool.not_true, Bool.not_false, Nat.lt_add_one, Nat.zero_lt_succ, N0, swL_n, swL_c, List.toList_toArray, false_implies, true_implies, implies_true, forall_const, not_false_eq_true, not_true_eq_false, and_false, false_and]
    simp only [hK9]
    clear hK9 K9v
    refine J_callV (ci := 5) GM_fa (ok_tryBases (M := M3) (d + 0) i tt (gr * 1000) (t : Int) s hB (by omega) hRS m4) (by first | exact calm_det | assumption | (intro q9 ν9 h9; obtain ⟨h8, M9, h7, -⟩ := h9; first | exact ⟨⟨_, h8⟩, by rw [h7]; rfl⟩ | exact ⟨⟨_, h7⟩, by rw [h8]; rfl⟩ | exact ⟨⟨_, h7⟩, by rw [h8]⟩)) dX5_tryTin_60 k_5_72 (by omega) (Nat.le_of_ble_eq_true rfl) ⟨by omega, by omega⟩ rfl (by decide +kernel) rfl (by decide) (by simp only [N0]; omega) (by simp) rfl (fun v ν hv => ?_)
    obtain ⟨hv0, M4, rfl, x1, x2, x3, x4⟩ := hv
    cases hv0
    simp only [Option.toList, List.nil_append]
    have eG : cand0 M3 i (gr * 1000) (tt : Int) (t : Int) = candT (fun b => M0 (3 + b)) (M0 (368 + 5 * i)) (M0 86) gr (takeF (M0 (11 + 2 * t)) (gr * (tt : Int) * 1000)) (tt : Int) (t : Int) := by
      simp only [cand0, candT, gf0, f2, f4]
      rw [gapC_tp f9]
      have : ∀ tp m, gapC (fun b => M3 (3 + b)) (M0 (368 + 5 * i)) (gr * 1000) tp m = gapC (fun b => M0 (3 + b)) (M0 (368 + 5 * i)) (gr * 1000) tp m := by
        intro tp m
        simp only [gapC, gpC, wpC, f5 0 (by omega), f5 1 (by omega), f5 2 (by omega), f5 3 (by omega)]
      rw [show gapC (fun b => M3 (3 + b)) (M0 (368 + 5 * i)) (gr * 1000) (wpC (fun b => M0 (3 + b)) (takeF (M0 (11 + 2 * t)) (gr * (tt : Int) * 1000))) = _ from funext (this _)]
    rw [eG] at x3 x4
    refine J_vret dX5_tryTin_63 rfl (by omega) (by omega) (⟨rfl, M4, rfl, fun x g1 g2 g3 g4 g5 g6 g7 => by rw [x1 x g1 g2 g3 g6]; exact z1 x g1 g2 g3 g4 g5 g6 g7, fun k g1 g2 => by rw [x2 k g1 g2, f6]; exact m2 k g1 g2, by rw [tinS, if_neg hnw]; exact x3, by rw [tinS, if_neg hnw]; exact x4⟩)
end C6
