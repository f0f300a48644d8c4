/-! the model's recipe; what is known of a found recipe's ink -/
def mS (M M2 : Nat → Nat → Int) (c : Nat) : Prop := (∀ x, x ≠ 447 → x ≠ 460 → x ≠ 461 → x ≠ 462 → x ≠ 463 → x ≠ 464 → M2 x = M x) ∧ (∀ k, k ≠ 23 → k ≠ 26 → M2 447 k = M 447 k) ∧ M2 447 26 = (c : Int)
def mAll (M : Nat → Nat → Int) (n T : Nat) (C I : Nat → Nat → Int) (W : Nat → Nat → Int) (st : Nat → Int) (gr gap : Nat → Int) : Prop := mT M T I ∧ ∀ j, j < n → mW M j (gr j) (gap j) C (W j) st
theorem mW_th {M : Nat → Nat → Int} {i : Nat} {gr gmax : Int} {C : Nat → Nat → Int} {W st : Nat → Int} {k : Nat} {z : Int} (h : mW M i gr gmax C W st) : mW (up2 M 447 k z) i gr gmax C W st := mW_congr h (up2_r (by decide)) (up2_r (by decide)) (up2_r (by decide)) (up2_r (by decide)) (up2_r (by decide))
theorem mT_th {M : Nat → Nat → Int} {T : Nat} {I : Nat → Nat → Int} {k : Nat} {z : Int} (hk : k ≠ 5) (h : mT M T I) : mT (up2 M 447 k z) T I := by
  unfold mT at *
  rw [up2_k (fun e => hk e.symm), up2_r (show (452 : Nat) ≠ 447 by decide)]
  exact h
theorem mS_of {M M' M2 : Nat → Nat → Int} {s : Nat → Int} {c : Nat} (h : fI M' M2 s) (h1 : ∀ x, x ≠ 447 → M' x = M x) (h2 : ∀ k, k ≠ 23 → k ≠ 26 → M' 447 k = M 447 k) (h3 : M' 447 26 = (c : Int)) : mS M M2 c := ⟨fun x k1 k2 k3 k4 k5 k6 => by rw [h.1 x k1 k2 k3 k4 k5 k6, h1 x k1], fun k k1 k2 => by rw [h.2.1 k k1, h2 k k1 k2], by rw [h.2.1 26 (by decide), h3]⟩
theorem tell_m {M : Nat → Nat → Int} {s : Nat → Int} (h : RSm M s) (h1 : s 0 = 1) {w : Nat} (hw : w ≤ 6) : M 464 w = tellS s (w : Int) := by
  obtain ⟨h0, h1, h2, h3, h4, h5, h6⟩ := h.2 h1
  obtain e | e | e | e | e | e | e : w = 0 ∨ w = 1 ∨ w = 2 ∨ w = 3 ∨ w = 4 ∨ w = 5 ∨ w = 6 := by omega
  all_goals subst e; simp [tellS, h0, h1, h2, h3, h4, h5, h6]
def tkI (I : Nat → Nat → Int) (gr : Int) (s : Nat → Int) (b : Nat) : Int := if 0 ≤ s 3 then takeF (I (s 3).toNat) (gr * s 2 * 1000) b else 0
def inkI (I : Nat → Nat → Int) (gr : Int) (s : Nat → Int) : Nat → Int := fun b => s (5 + b) * (gr * 1000) + tkI I gr s b
theorem inkI_ok {I : Nat → Nat → Int} {st : Nat → Int} {T : Nat} {gr gap : Int} {s : Nat → Int} (hgr1 : 1 ≤ gr ∧ gr ≤ 50) (hI : ∀ t, t < T → tin4 (I t)) (hg : goodS (fun b => st b / (gr * 1000)) gr gap I T s) (hs : s 0 = 1) : ((s 3 = -1 ∧ s 2 = 0) ∨ ∃ t tt : Nat, t < T ∧ 1 ≤ tt ∧ tt ≤ 10 ∧ s 3 = (t : Int) ∧ s 2 = (tt : Int) ∧ gr * tt * 1000 ≤ wt (I t) ∧ ink4 (I t)) ∧ (∀ b, b < 4 → 0 ≤ tkI I gr s b ∧ (0 ≤ s 3 → tkI I gr s b ≤ I (s 3).toNat b)) ∧ tin4 (inkI I gr s) ∧ wt (inkI I gr s) = 10000 * gr ∧ (∀ b, b < 4 → 0 ≤ s (5 + b) * (gr * 1000) ∧ s (5 + b) * (gr * 1000) ≤ st b) ∧ (∀ b, b < 4 → 0 ≤ s (5 + b) ∧ s (5 + b) ≤ 10) ∧ 0 ≤ s 4 ∧ s 4 ≤ gap := by
  obtain ⟨-, -, hg⟩ := hg
  obtain ⟨htin, k5, k6, k7, k8, hsum, hs4⟩ := hg hs
  dsimp only at k5 k6 k7 k8 htin
  have hu : 0 < gr * 1000 := by omega
  have hmo : ∀ b, b < 4 → 0 ≤ s (5 + b) * (gr * 1000) ∧ s (5 + b) * (gr * 1000) ≤ st b ∧ 0 ≤ s (5 + b) := by
    intro b hb
    have key : ∀ x y : Int, 0 ≤ x → x ≤ y / (gr * 1000) → 0 ≤ x * (gr * 1000) ∧ x * (gr * 1000) ≤ y := fun x y h1 h2 => ⟨Int.mul_nonneg h1 (by omega), Int.le_trans (Int.mul_le_mul_of_nonneg_right h2 (by omega)) (Int.ediv_mul_le y (by omega))⟩
    obtain e | e | e | e : b = 0 ∨ b = 1 ∨ b = 2 ∨ b = 3 := by omega
    · subst e; exact ⟨(key _ _ k5.1 k5.2).1, (key _ _ k5.1 k5.2).2, k5.1⟩
    · subst e; exact ⟨(key _ _ k6.1 k6.2).1, (key _ _ k6.1 k6.2).2, k6.1⟩
    · subst e; exact ⟨(key _ _ k7.1 k7.2).1, (key _ _ k7.1 k7.2).2, k7.1⟩
    · subst e; exact ⟨(key _ _ k8.1 k8.2).1, (key _ _ k8.1 k8.2).2, k8.1⟩
  have htk : ((s 3 = -1 ∧ s 2 = 0) ∨ ∃ t tt : Nat, t < T ∧ 1 ≤ tt ∧ tt ≤ 10 ∧ s 3 = (t : Int) ∧ s 2 = (tt : Int) ∧ gr * tt * 1000 ≤ wt (I t) ∧ ink4 (I t)) ∧ (∀ b, b < 4 → 0 ≤ tkI I gr s b ∧ (0 ≤ s 3 → tkI I gr s b ≤ I (s 3).toNat b)) ∧ tkI I gr s 0 + tkI I gr s 1 + tkI I gr s 2 + tkI I gr s 3 = gr * s 2 * 1000 ∧ 0 ≤ s 2 := by
    rcases htin with ⟨e3, e2⟩ | ⟨t, tt, ht, h1, h2, e3, e2, hw⟩
    · refine ⟨Or.inl ⟨e3, e2⟩, fun b _ => ?_, ?_, by omega⟩
      · rw [tkI, if_neg (by omega)]
        exact ⟨by omega, fun h => by omega⟩
      · simp only [tkI]
        rw [if_neg (by omega), if_neg (by omega), if_neg (by omega), if_neg (by omega), e2]
        omega
    · have hp : 0 ≤ s 3 := by omega
      have et : (s 3).toNat = t := by omega
      have h4 := hI t ht
      have hG : 1 ≤ gr * (tt : Int) := Int.mul_le_mul hgr1.1 (show (1 : Int) ≤ (tt : Int) by omega) (by omega) (by omega)
      have hik : ink4 (I t) := ⟨h4.1, h4.2.1, h4.2.2.1, h4.2.2.2, by omega⟩
      have b1 := take_bd hik (show 0 ≤ gr * (tt : Int) * 1000 by omega) hw
      have b2 := take_sum hik (show 0 ≤ gr * (tt : Int) * 1000 by omega)
      refine ⟨Or.inr ⟨t, tt, ht, h1, h2, e3, e2, hw, hik⟩, fun b hb => ?_, ?_, by omega⟩
      · rw [tkI, if_pos hp, et, e2]
        exact ⟨(b1 b hb).1, fun _ => (b1 b hb).2⟩
      · simp only [tkI, if_pos hp, et, e2]
        exact b2
  obtain ⟨t1, t2, t3, t4⟩ := htk
  have m0 := hmo 0 (by omega)
  have m1 := hmo 1 (by omega)
  have m2 := hmo 2 (by omega)
  have m3 := hmo 3 (by omega)
  have v0 := t2 0 (by omega)
  have v1 := t2 1 (by omega)
  have v2 := t2 2 (by omega)
  have v3 := t2 3 (by omega)
  have hwt : wt (inkI I gr s) = 10000 * gr := by
    simp only [wt, inkI]
    have e1 : s (5 + 0) * (gr * 1000) + s (5 + 1) * (gr * 1000) + s (5 + 2) * (gr * 1000) + s (5 + 3) * (gr * 1000) = (10 - s 2) * (gr * 1000) := by
      rw [← Int.add_mul, ← Int.add_mul, ← Int.add_mul]
      exact congrArg (· * (gr * 1000)) hsum
    have e2 : (10 - s 2) * (gr * 1000) = 10 * (gr * 1000) - gr * s 2 * 1000 := by
      rw [Int.sub_mul, Int.mul_comm gr (s 2), Int.mul_assoc (s 2) gr 1000]
    omega
  refine ⟨t1, t2, ?_, hwt, fun b hb => ⟨(hmo b hb).1, (hmo b hb).2.1⟩, fun b hb => ?_, hs4⟩
  · have q : ∀ b, inkI I gr s b = s (5 + b) * (gr * 1000) + tkI I gr s b := fun b => by simp only [inkI]
    rw [wt] at hwt
    simp only [tin4]
    have q0 := q 0
    have q1 := q 1
    have q2 := q 2
    have q3 := q 3
    omega
  · obtain e | e | e | e : b = 0 ∨ b = 1 ∨ b = 2 ∨ b = 3 := by omega
    · subst e; show 0 ≤ s 5 ∧ s 5 ≤ 10; omega
    · subst e; show 0 ≤ s 6 ∧ s 6 ≤ 10; omega
    · subst e; show 0 ≤ s 7 ∧ s 7 ≤ 10; omega
    · subst e; show 0 ≤ s 8 ∧ s 8 ≤ 10; omega
theorem find01 {C I : Nat → Nat → Int} {W mo s : Nat → Int} {gr gap : Int} {T : Nat} (h0 : s 0 = 0) (h1 : s 1 = gap) : goodS mo gr gap I T (findS C W mo gr I T s) := findS_good ⟨Or.inl h0, by omega, fun h => by omega⟩
section MK
variable {l : Launch} {D : va_G} {cy : Nat → ClassId}
set_option maxRecDepth 100000 in
set_option maxHeartbeats 4000000 in
theorem om_recipe {M : Nat → Nat → Int} {C I W : Nat → Nat → Int} {st : Nat → Int} {gr gap : Nat → Int} {s : Nat → Nat → Int} (d n T : Nat) (z w : Int) (hz : r32 z) (hw : r32 w) (hn : M 447 7 = (n : Int)) (hn2 : n ≤ 16) (hst : ∀ i, i < 16 → 0 ≤ M 457 i ∧ M 457 i ≤ 2) (hA : mAll M n T C I W st gr gap) (hs : ∀ j, s j 0 = 0 ∧ s j 1 = gap j) : Ok l D cy (d + 6) 0 0 yX9_recipe cX9_recipe 3 (some (.int)) [.inr (.inr (some (447))), .inl (z), .inl (w)] (N0, R0, M) (fun o ν => o = .inl (some (.inl (if cRec (n : Int) z w (M 457 z.toNat) (findS C (W z.toNat) (fun b => st b / (gr z.toNat * 1000)) (gr z.toNat) I T (s z.toNat) 0) = 0 then tellS (findS C (W z.toNat) (fun b => st b / (gr z.toNat * 1000)) (gr z.toNat) I T (s z.toNat)) w else 0))) ∧ ∃ M2 : Nat → Nat → Int, ν = (N0, R0, M2) ∧ mS M M2 (cRec (n : Int) z w (M 457 z.toNat) (findS C (W z.toNat) (fun b => st b / (gr z.toNat * 1000)) (gr z.toNat) I T (s z.toNat) 0))) := by
  refine Ok.intro (o := 9) (ini := false) [some (.inr (.inr (some (447)))), some (.inl (z)), some (.inl (w))] (by decide +kernel) rfl (fun h => by cases h) rfl (Nat.le_of_ble_eq_true rfl) rfl ?_
  refine J_rnG GM_fa (by omega) (by omega) (by omega) 2 _ _ _ _ (fun K9v hK9 => ?_)
  simp (maxSteps := 4000000) only [↓(X_aload_n (k := 0) (pc' := 1) dX9_recipe_0 rfl rfl), ↓gR_0, ↓(X_iload_n (k := 1) (pc' := 2) dX9_recipe_1 rfl rfl), ↓gI_1, rn_0, gV_s, ↓pI_c, ↓pII_c, ↓pL_c, ↓pLL_c, ↓pR_c, ↓pRI_c, ↓pRII_c, ↓pRIL_c, ↓pRR_c, ↓pV_c, ↓pVV_c, ↓gI_c, ↓gL_c, ↓gR_c, f2_0, f2_1, nk_n, nk_i, nk_r, ↓reduceIte, r32, r64, Nat.reduceAdd, Nat.reduceSub, Nat.reduceEqDiff, Nat.reduceLT, Nat.reduceLeDiff, Nat.reduceBEq, Int.reduceAdd, Int.reduceSub, Int.reduceMul, Int.reduceNeg, Int.reduceToNat, Int.reduceLE, Int.reduceLT, Int.reduceEq, Int.reduceNatCast', Int.reduceNatCast, Int.natCast_zero, Int.toNat_natCast, Int.toNat_zero, Int.toNat_one, List.length_cons, List.length_nil, true_and, and_true, and_self, true_or, or_true, false_or, or_false, Bool.not_true, Bool.not_false, Nat.lt_add_one, Nat.zero_lt_succ, N0, swL_n, swL_c, List.toList_toArray, false_implies, true_implies, implies_true, forall_const, not_false_eq_true, not_true_eq_false, and_false, false_and]
  simp only [hK9]
  clear hK9 K9v
  refine J_callVd (ci := 9) GM_fa (om_isJob (M := M) (d + 3) n z hz hn hn2) dX9_recipe_2 k_9_131 (by omega) (Nat.le_of_ble_eq_true rfl) ⟨by omega, by omega⟩ rfl (by decide +kernel) rfl (by decide) (by simp only [N0]; omega) (by simp) rfl rfl ?_
  simp only [Option.toList, List.cons_append, List.nil_append]
  rcases (show (0 ≤ z ∧ z < (n : Int)) ∨ ¬ (0 ≤ z ∧ z < (n : Int)) by omega) with q | q
  · rw [if_pos q, if_pos q]
    obtain ⟨j, rfl⟩ : ∃ j : Nat, z = (j : Int) := ⟨z.toNat, by omega⟩
    rw [Int.toNat_natCast]
    have i1 : (0 : Int) ≤ (j : Int) ∧ (j : Int) < 16 := by omega
    refine J_rnG GM_fa (by omega) (by omega) (by omega) 1 _ _ _ _ (fun K9v hK9 => ?_)
    simp (maxSteps := 4000000) only [↓(X_if_ne (tgt := 10) (pc' := 8) dX9_recipe_5 (by decide) rfl), rn_0, gV_s, ↓pI_c, ↓pII_c, ↓pL_c, ↓pLL_c, ↓pR_c, ↓pRI_c, ↓pRII_c, ↓pRIL_c, ↓pRR_c, ↓pV_c, ↓pVV_c, ↓gI_c, ↓gL_c, ↓gR_c, f2_0, f2_1, nk_n, nk_i, nk_r, ↓reduceIte, r32, r64, Nat.reduceAdd, Nat.reduceSub, Nat.reduceEqDiff, Nat.reduceLT, Nat.reduceLeDiff, Nat.reduceBEq, Int.reduceAdd, Int.reduceSub, Int.reduceMul, Int.reduceNeg, Int.reduceToNat, Int.reduceLE, Int.reduceLT, Int.reduceEq, Int.reduceNatCast', Int.reduceNatCast, Int.natCast_zero, Int.toNat_natCast, Int.toNat_zero, Int.toNat_one, List.length_cons, List.length_nil, true_and, and_true, and_self, true_or, or_true, false_or, or_false, Bool.not_true, Bool.not_false, Nat.lt_add_one, Nat.zero_lt_succ, N0, swL_n, swL_c, List.toList_toArray, false_implies, true_implies, implies_true, forall_const, not_false_eq_true, not_true_eq_false, and_false, false_and]
    simp only [hK9]
    clear hK9 K9v
    refine J_rnG GM_fa (by omega) (by omega) (by omega) 3 _ _ _ _ (fun K9v hK9 => ?_)
    simp (maxSteps := 4000000) only [↓(X_iload_n (k := 2) (pc' := 11) dX9_recipe_10 rfl rfl), ↓gI_2, ↓(X_iconst (pc' := 12) dX9_recipe_11 rfl), ↓(X_bipush (pc' := 14) dX9_recipe_12 rfl), rn_0, gV_s, ↓pI_c, ↓pII_c, ↓pL_c, ↓pLL_c, ↓pR_c, ↓pRI_c, ↓pRII_c, ↓pRIL_c, ↓pRR_c, ↓pV_c, ↓pVV_c, ↓gI_c, ↓gL_c, ↓gR_c, f2_0, f2_1, nk_n, nk_i, nk_r, ↓reduceIte, r32, r64, Nat.reduceAdd, Nat.reduceSub, Nat.reduceEqDiff, Nat.reduceLT, Nat.reduceLeDiff, Nat.reduceBEq, Int.reduceAdd, Int.reduceSub, Int.reduceMul, Int.reduceNeg, Int.reduceToNat, Int.reduceLE, Int.reduceLT, Int.reduceEq, Int.reduceNatCast', Int.reduceNatCast, Int.natCast_zero, Int.toNat_natCast, Int.toNat_zero, Int.toNat_one, List.length_cons, List.length_nil, true_and, and_true, and_self, true_or, or_true, false_or, or_false, Bool.not_true, Bool.not_false, Nat.lt_add_one, Nat.zero_lt_succ, N0, swL_n, swL_c, List.toList_toArray, false_implies, true_implies, implies_true, forall_const, not_false_eq_true, not_true_eq_false, and_false, false_and]
    simp only [hK9]
    clear hK9 K9v
    refine J_callSd GM_fa (om_in (M := up2 M 447 26 0) (d + 4) w 0 6 hw (by simp only [r32]; omega) (by simp only [r32]; omega)) dX9_recipe_14 k_9_78 (by omega) (Nat.le_of_ble_eq_true rfl) ⟨by omega, by omega⟩ rfl (by simp) rfl rfl ?_
    simp only [Option.toList, List.cons_append, List.nil_append]
    rcases (show (0 ≤ w ∧ w ≤ 6) ∨ ¬ (0 ≤ w ∧ w ≤ 6) by omega) with q2 | q2
    · rw [inI_pos q2]
      refine J_rnG GM_fa (by omega) (by omega) (by omega) 1 _ _ _ _ (fun K9v hK9 => ?_)
      simp (maxSteps := 4000000) only [↓(X_if_ne (tgt := 26) (pc' := 20) dX9_recipe_17 (by decide) rfl), rn_0, gV_s, ↓pI_c, ↓pII_c, ↓pL_c, ↓pLL_c, ↓pR_c, ↓pRI_c, ↓pRII_c, ↓pRIL_c, ↓pRR_c, ↓pV_c, ↓pVV_c, ↓gI_c, ↓gL_c, ↓gR_c, f2_0, f2_1, nk_n, nk_i, nk_r, ↓reduceIte, r32, r64, Nat.reduceAdd, Nat.reduceSub, Nat.reduceEqDiff, Nat.reduceLT, Nat.reduceLeDiff, Nat.reduceBEq, Int.reduceAdd, Int.reduceSub, Int.reduceMul, Int.reduceNeg, Int.reduceToNat, Int.reduceLE, Int.reduceLT, Int.reduceEq, Int.reduceNatCast', Int.reduceNatCast, Int.natCast_zero, Int.toNat_natCast, Int.toNat_zero, Int.toNat_one, List.length_cons, List.length_nil, true_and, and_true, and_self, true_or, or_true, false_or, or_false, Bool.not_true, Bool.not_false, Nat.lt_add_one, Nat.zero_lt_succ, N0, swL_n, swL_c, List.toList_toArray, false_implies, true_implies, implies_true, forall_const, not_false_eq_true, not_true_eq_false, and_false, false_and]
      simp only [hK9]
      clear hK9 K9v
      have hsj := hst j (by omega)
      have r1 : -2147483648 ≤ M 457 j ∧ M 457 j ≤ 2147483647 := by omega
      rcases (show M 457 j = 0 ∨ ¬ M 457 j = 0 by omega) with q3 | q3
      · refine J_rnG GM_fa (by omega) (by omega) (by omega) 8 _ _ _ _ (fun K9v hK9 => ?_)
        simp (maxSteps := 4000000) only [↓(X_aload_n (k := 0) (pc' := 27) dX9_recipe_26 rfl rfl), ↓gR_0, ↓(X_iconst (pc' := 28) dX9_recipe_27 rfl), ↓(X_putI (pc' := 31) fl_9_109 (by decide) dX9_recipe_28 rfl), Nat.one_ne_zero, Nat.reduceEqDiff, kd_447, ↓(X_aload_n (k := 0) (pc' := 32) dX9_recipe_31 rfl rfl), ↓(X_getR (pc' := 35) fl_9_37 dX9_recipe_32 rfl), ↓(gV_c r0_447_12), kd_457, ln_457, ↓(X_iload_n (k := 1) (pc' := 36) dX9_recipe_35 rfl rfl), ↓gI_1, ↓(X_iaload (pc' := 37) dX9_recipe_36 rfl), ↓(X_if_ne (tgt := 45) (pc' := 40) dX9_recipe_37 (by decide) rfl), rn_0, gV_s, ↓pI_c, ↓pII_c, ↓pL_c, ↓pLL_c, ↓pR_c, ↓pRI_c, ↓pRII_c, ↓pRIL_c, ↓pRR_c, ↓pV_c, ↓pVV_c, ↓gI_c, ↓gL_c, ↓gR_c, f2_0, f2_1, nk_n, nk_i, nk_r, ↓reduceIte, r32, r64, Nat.reduceAdd, Nat.reduceSub, Nat.reduceEqDiff, Nat.reduceLT, Nat.reduceLeDiff, Nat.reduceBEq, Int.reduceAdd, Int.reduceSub, Int.reduceMul, Int.reduceNeg, Int.reduceToNat, Int.reduceLE, Int.reduceLT, Int.reduceEq, Int.reduceNatCast', Int.reduceNatCast, Int.natCast_zero, Int.toNat_natCast, Int.toNat_zero, Int.toNat_one, List.length_cons, List.length_nil, true_and, and_true, and_self, true_or, or_true, false_or, or_false, Bool.not_true, Bool.not_false, Nat.lt_add_one, Nat.zero_lt_succ, N0, swL_n, swL_c, List.toList_toArray, false_implies, true_implies, implies_true, forall_const, not_false_eq_true, not_true_eq_false, and_false, false_and, i1, q3, up2_c (show (457 : Nat) ≠ 447 by decide)]
        simp only [hK9]
        clear hK9 K9v
        refine J_rnG GM_fa (by omega) (by omega) (by omega) 2 _ _ _ _ (fun K9v hK9 => ?_)
        simp (maxSteps := 4000000) only [↓(X_aload_n (k := 0) (pc' := 41) dX9_recipe_40 rfl rfl), ↓gR_0, ↓(X_iload_n (k := 1) (pc' := 42) dX9_recipe_41 rfl rfl), ↓gI_1, rn_0, gV_s, ↓pI_c, ↓pII_c, ↓pL_c, ↓pLL_c, ↓pR_c, ↓pRI_c, ↓pRII_c, ↓pRIL_c, ↓pRR_c, ↓pV_c, ↓pVV_c, ↓gI_c, ↓gL_c, ↓gR_c, f2_0, f2_1, nk_n, nk_i, nk_r, ↓reduceIte, r32, r64, Nat.reduceAdd, Nat.reduceSub, Nat.reduceEqDiff, Nat.reduceLT, Nat.reduceLeDiff, Nat.reduceBEq, Int.reduceAdd, Int.reduceSub, Int.reduceMul, Int.reduceNeg, Int.reduceToNat, Int.reduceLE, Int.reduceLT, Int.reduceEq, Int.reduceNatCast', Int.reduceNatCast, Int.natCast_zero, Int.toNat_natCast, Int.toNat_zero, Int.toNat_one, List.length_cons, List.length_nil, true_and, and_true, and_self, true_or, or_true, false_or, or_false, Bool.not_true, Bool.not_false, Nat.lt_add_one, Nat.zero_lt_succ, N0, swL_n, swL_c, List.toList_toArray, false_implies, true_implies, implies_true, forall_const, not_false_eq_true, not_true_eq_false, and_false, false_and]
        simp only [hK9]
        clear hK9 K9v
        refine J_callV (ci := 9) GM_fa (om_finds (M := up2 (up2 M 447 26 0) 447 23 0) (C := C) (I := I) (W := W j) (st := st) (s := s j) (d + 0) j T (gr j) (gap j) (mW_th (mW_th (hA.2 j (by omega)))) (mT_th (by decide) (mT_th (by decide) hA.1)) (hs j).1 (hs j).2) (by first | exact calm_det | assumption | (intro q9 ν9 h9; obtain ⟨h8, h6, M9, h7, -⟩ := h9; exact ⟨⟨_, h8⟩, by rw [h7]; rfl⟩) | (intro q9 ν9 h9; obtain ⟨h8, M9, h7, -⟩ := h9; first | exact ⟨⟨_, h8⟩, by rw [h7]; rfl⟩ | exact ⟨⟨_, h7⟩, by rw [h8]; rfl⟩ | exact ⟨⟨_, h7⟩, by rw [h8]⟩)) dX9_recipe_42 k_9_138 (by omega) (Nat.le_of_ble_eq_true rfl) ⟨by omega, by omega⟩ rfl (by decide +kernel) rfl (by decide) (by simp only [N0]; omega) (by simp) rfl (fun v ν hv => ?_)
        obtain ⟨hv0, M2, rfl, x1⟩ := hv
        cases hv0
        simp only [Option.toList, List.nil_append]
        have h01 := find01 (C := C) (W := W j) (I := I) (T := T) (gr := gr j) (mo := fun b => st b / (gr j * 1000)) (hs j).1 (hs j).2
        have hm : ∀ c : Nat, c = 0 → mS M M2 c := fun c hc => mS_of x1 (fun x hx => by rw [up2_r hx, up2_r hx]) (fun k k1 k2 => by rw [up2_k k1, up2_k k2]) (by rw [hc, up2_k (by decide), up2_s]; rfl)
        generalize findS C (W j) (fun b => st b / (gr j * 1000)) (gr j) I T (s j) = f at *
        have hf := x1.2.2.1
        rcases h01.1 with g | g
        · have e : cRec (n : Int) (j : Int) w (M 457 j) (f 0) = 3 := by rw [cRec, if_pos q, if_pos q2, if_neg (by omega)]
          rw [g] at hf
          rw [e]
          refine J_rnG GM_fa (by omega) (by omega) (by omega) 3 _ _ _ _ (fun K9v hK9 => ?_)
          simp (maxSteps := 4000000) only [↓(X_aload_n (k := 0) (pc' := 46) dX9_recipe_45 rfl rfl), ↓gR_0, ↓(X_getI (pc' := 49) fl_9_109 (by decide) dX9_recipe_46 rfl), kd_447, ↓(X_if_eq (tgt := 61) (pc' := 52) dX9_recipe_49 (by decide) rfl), rn_0, gV_s, ↓pI_c, ↓pII_c, ↓pL_c, ↓pLL_c, ↓pR_c, ↓pRI_c, ↓pRII_c, ↓pRIL_c, ↓pRR_c, ↓pV_c, ↓pVV_c, ↓gI_c, ↓gL_c, ↓gR_c, f2_0, f2_1, nk_n, nk_i, nk_r, ↓reduceIte, r32, r64, Nat.reduceAdd, Nat.reduceSub, Nat.reduceEqDiff, Nat.reduceLT, Nat.reduceLeDiff, Nat.reduceBEq, Int.reduceAdd, Int.reduceSub, Int.reduceMul, Int.reduceNeg, Int.reduceToNat, Int.reduceLE, Int.reduceLT, Int.reduceEq, Int.reduceNatCast', Int.reduceNatCast, Int.natCast_zero, Int.toNat_natCast, Int.toNat_zero, Int.toNat_one, List.length_cons, List.length_nil, true_and, and_true, and_self, true_or, or_true, false_or, or_false, Bool.not_true, Bool.not_false, Nat.lt_add_one, Nat.zero_lt_succ, N0, swL_n, swL_c, List.toList_toArray, false_implies, true_implies, implies_true, forall_const, not_false_eq_true, not_true_eq_false, and_false, false_and, hf]
          simp only [hK9]
          clear hK9 K9v
          refine J_rnG GM_fa (by omega) (by omega) (by omega) 2 _ _ _ _ (fun K9v hK9 => ?_)
          simp (maxSteps := 4000000) only [↓(X_aload_n (k := 0) (pc' := 62) dX9_recipe_61 rfl rfl), ↓gR_0, ↓(X_iconst (pc' := 63) dX9_recipe_62 rfl), rn_0, gV_s, ↓pI_c, ↓pII_c, ↓pL_c, ↓pLL_c, ↓pR_c, ↓pRI_c, ↓pRII_c, ↓pRIL_c, ↓pRR_c, ↓pV_c, ↓pVV_c, ↓gI_c, ↓gL_c, ↓gR_c, f2_0, f2_1, nk_n, nk_i, nk_r, ↓reduceIte, r32, r64, Nat.reduceAdd, Nat.reduceSub, Nat.reduceEqDiff, Nat.reduceLT, Nat.reduceLeDiff, Nat.reduceBEq, Int.reduceAdd, Int.reduceSub, Int.reduceMul, Int.reduceNeg, Int.reduceToNat, Int.reduceLE, Int.reduceLT, Int.reduceEq, Int.reduceNatCast', Int.reduceNatCast, Int.natCast_zero, Int.toNat_natCast, Int.toNat_zero, Int.toNat_one, List.length_cons, List.length_nil, true_and, and_true, and_self, true_or, or_true, false_or, or_false, Bool.not_true, Bool.not_false, Nat.lt_add_one, Nat.zero_lt_succ, N0, swL_n, swL_c, List.toList_toArray, false_implies, true_implies, implies_true, forall_const, not_false_eq_true, not_true_eq_false, and_false, false_and]
          simp only [hK9]
          clear hK9 K9v
          refine J_callVd (ci := 9) GM_fa (om_fails (M := M2) (d + 4) 3) dX9_recipe_63 k_9_135 (by omega) (Nat.le_of_ble_eq_true rfl) ⟨by omega, by omega⟩ rfl (by decide +kernel) rfl (by decide) (by simp only [N0]; omega) (by simp) rfl rfl ?_
          simp only [Option.toList, List.cons_append, List.nil_append]
          have := hm 0 rfl
          refine J_iret dX9_recipe_66 rfl (by omega) (by omega) (⟨rfl, _, rfl, fun x k1 k2 k3 k4 k5 k6 => by rw [up2_r k1]; exact this.1 x k1 k2 k3 k4 k5 k6, fun k k1 k2 => by rw [up2_k k2]; exact this.2.1 k k1 k2, up2_s⟩)
        · have e : cRec (n : Int) (j : Int) w (M 457 j) (f 0) = 0 := by rw [cRec, if_pos q, if_pos q2, if_pos ⟨q3, g⟩]
          obtain ⟨k, rfl⟩ : ∃ k : Nat, w = (k : Int) := ⟨w.toNat, by omega⟩
          have i2 : (0 : Int) ≤ (k : Int) ∧ (k : Int) < 7 := by omega
          have et := tell_m x1.2.2 g (show k ≤ 6 by omega)
          rw [g] at hf
          rw [e, if_pos rfl, ← et]
          refine J_rnG GM_fa (by omega) (by omega) (by omega) 8 _ _ _ _ (fun K9v hK9 => ?_)
          simp (maxSteps := 4000000) only [↓(X_aload_n (k := 0) (pc' := 46) dX9_recipe_45 rfl rfl), ↓gR_0, ↓(X_getI (pc' := 49) fl_9_109 (by decide) dX9_recipe_46 rfl), kd_447, ↓(X_if_eq (tgt := 61) (pc' := 52) dX9_recipe_49 (by decide) rfl), ↓(X_aload_n (k := 0) (pc' := 53) dX9_recipe_52 rfl rfl), ↓(X_getR (pc' := 56) fl_9_63 dX9_recipe_53 rfl), ↓(gV_c r0_447_22), kd_464, ln_464, ↓(X_iload_n (k := 2) (pc' := 57) dX9_recipe_56 rfl rfl), ↓gI_2, ↓(X_iaload (pc' := 58) dX9_recipe_57 rfl), ↓(X_goto (pc' := 66) dX9_recipe_58 (by decide)), rn_0, gV_s, ↓pI_c, ↓pII_c, ↓pL_c, ↓pLL_c, ↓pR_c, ↓pRI_c, ↓pRII_c, ↓pRIL_c, ↓pRR_c, ↓pV_c, ↓pVV_c, ↓gI_c, ↓gL_c, ↓gR_c, f2_0, f2_1, nk_n, nk_i, nk_r, ↓reduceIte, r32, r64, Nat.reduceAdd, Nat.reduceSub, Nat.reduceEqDiff, Nat.reduceLT, Nat.reduceLeDiff, Nat.reduceBEq, Int.reduceAdd, Int.reduceSub, Int.reduceMul, Int.reduceNeg, Int.reduceToNat, Int.reduceLE, Int.reduceLT, Int.reduceEq, Int.reduceNatCast', Int.reduceNatCast, Int.natCast_zero, Int.toNat_natCast, Int.toNat_zero, Int.toNat_one, List.length_cons, List.length_nil, true_and, and_true, and_self, true_or, or_true, false_or, or_false, Bool.not_true, Bool.not_false, Nat.lt_add_one, Nat.zero_lt_succ, N0, swL_n, swL_c, List.toList_toArray, false_implies, true_implies, implies_true, forall_const, not_false_eq_true, not_true_eq_false, and_false, false_and, hf, i2]
          simp only [hK9]
          clear hK9 K9v
          refine J_iret dX9_recipe_66 rfl (by omega) (by omega) (⟨rfl, M2, rfl, hm 0 rfl⟩)
      · have e : ∀ f, cRec (n : Int) (j : Int) w (M 457 j) f = 3 := fun f => by rw [cRec, if_pos q, if_pos q2, if_neg (fun h => q3 h.1)]
        rw [e]
        refine J_rnG GM_fa (by omega) (by omega) (by omega) 8 _ _ _ _ (fun K9v hK9 => ?_)
        simp (maxSteps := 4000000) only [↓(X_aload_n (k := 0) (pc' := 27) dX9_recipe_26 rfl rfl), ↓gR_0, ↓(X_iconst (pc' := 28) dX9_recipe_27 rfl), ↓(X_putI (pc' := 31) fl_9_109 (by decide) dX9_recipe_28 rfl), Nat.one_ne_zero, Nat.reduceEqDiff, kd_447, ↓(X_aload_n (k := 0) (pc' := 32) dX9_recipe_31 rfl rfl), ↓(X_getR (pc' := 35) fl_9_37 dX9_recipe_32 rfl), ↓(gV_c r0_447_12), kd_457, ln_457, ↓(X_iload_n (k := 1) (pc' := 36) dX9_recipe_35 rfl rfl), ↓gI_1, ↓(X_iaload (pc' := 37) dX9_recipe_36 rfl), ↓(X_if_ne (tgt := 45) (pc' := 40) dX9_recipe_37 (by decide) rfl), rn_0, gV_s, ↓pI_c, ↓pII_c, ↓pL_c, ↓pLL_c, ↓pR_c, ↓pRI_c, ↓pRII_c, ↓pRIL_c, ↓pRR_c, ↓pV_c, ↓pVV_c, ↓gI_c, ↓gL_c, ↓gR_c, f2_0, f2_1, nk_n, nk_i, nk_r, ↓reduceIte, r32, r64, Nat.reduceAdd, Nat.reduceSub, Nat.reduceEqDiff, Nat.reduceLT, Nat.reduceLeDiff, Nat.reduceBEq, Int.reduceAdd, Int.reduceSub, Int.reduceMul, Int.reduceNeg, Int.reduceToNat, Int.reduceLE, Int.reduceLT, Int.reduceEq, Int.reduceNatCast', Int.reduceNatCast, Int.natCast_zero, Int.toNat_natCast, Int.toNat_zero, Int.toNat_one, List.length_cons, List.length_nil, true_and, and_true, and_self, true_or, or_true, false_or, or_false, Bool.not_true, Bool.not_false, Nat.lt_add_one, Nat.zero_lt_succ, N0, swL_n, swL_c, List.toList_toArray, false_implies, true_implies, implies_true, forall_const, not_false_eq_true, not_true_eq_false, and_false, false_and, i1, q3, r1, up2_c (show (457 : Nat) ≠ 447 by decide)]
        simp only [hK9]
        clear hK9 K9v
        refine J_rnG GM_fa (by omega) (by omega) (by omega) 3 _ _ _ _ (fun K9v hK9 => ?_)
        simp (maxSteps := 4000000) only [↓(X_aload_n (k := 0) (pc' := 46) dX9_recipe_45 rfl rfl), ↓gR_0, ↓(X_getI (pc' := 49) fl_9_109 (by decide) dX9_recipe_46 rfl), kd_447, ↓(X_if_eq (tgt := 61) (pc' := 52) dX9_recipe_49 (by decide) rfl), rn_0, gV_s, ↓pI_c, ↓pII_c, ↓pL_c, ↓pLL_c, ↓pR_c, ↓pRI_c, ↓pRII_c, ↓pRIL_c, ↓pRR_c, ↓pV_c, ↓pVV_c, ↓gI_c, ↓gL_c, ↓gR_c, f2_0, f2_1, nk_n, nk_i, nk_r, ↓reduceIte, r32, r64, Nat.reduceAdd, Nat.reduceSub, Nat.reduceEqDiff, Nat.reduceLT, Nat.reduceLeDiff, Nat.reduceBEq, Int.reduceAdd, Int.reduceSub, Int.reduceMul, Int.reduceNeg, Int.reduceToNat, Int.reduceLE, Int.reduceLT, Int.reduceEq, Int.reduceNatCast', Int.reduceNatCast, Int.natCast_zero, Int.toNat_natCast, Int.toNat_zero, Int.toNat_one, List.length_cons, List.length_nil, true_and, and_true, and_self, true_or, or_true, false_or, or_false, Bool.not_true, Bool.not_false, Nat.lt_add_one, Nat.zero_lt_succ, N0, swL_n, swL_c, List.toList_toArray, false_implies, true_implies, implies_true, forall_const, not_false_eq_true, not_true_eq_false, and_false, false_and, up2_s]
        simp only [hK9]
        clear hK9 K9v
        refine J_rnG GM_fa (by omega) (by omega) (by omega) 2 _ _ _ _ (fun K9v hK9 => ?_)
        simp (maxSteps := 4000000) only [↓(X_aload_n (k := 0) (pc' := 62) dX9_recipe_61 rfl rfl), ↓gR_0, ↓(X_iconst (pc' := 63) dX9_recipe_62 rfl), rn_0, gV_s, ↓pI_c, ↓pII_c, ↓pL_c, ↓pLL_c, ↓pR_c, ↓pRI_c, ↓pRII_c, ↓pRIL_c, ↓pRR_c, ↓pV_c, ↓pVV_c, ↓gI_c, ↓gL_c, ↓gR_c, f2_0, f2_1, nk_n, nk_i, nk_r, ↓reduceIte, r32, r64, Nat.reduceAdd, Nat.reduceSub, Nat.reduceEqDiff, Nat.reduceLT, Nat.reduceLeDiff, Nat.reduceBEq, Int.reduceAdd, Int.reduceSub, Int.reduceMul, Int.reduceNeg, Int.reduceToNat, Int.reduceLE, Int.reduceLT, Int.reduceEq, Int.reduceNatCast', Int.reduceNatCast, Int.natCast_zero, Int.toNat_natCast, Int.toNat_zero, Int.toNat_one, List.length_cons, List.length_nil, true_and, and_true, and_self, true_or, or_true, false_or, or_false, Bool.not_true, Bool.not_false, Nat.lt_add_one, Nat.zero_lt_succ, N0, swL_n, swL_c, List.toList_toArray, false_implies, true_implies, implies_true, forall_const, not_false_eq_true, not_true_eq_false, and_false, false_and]
        simp only [hK9]
        clear hK9 K9v
        refine J_callVd (ci := 9) GM_fa (om_fails (M := up2 (up2 M 447 26 0) 447 23 0) (d + 4) 3) dX9_recipe_63 k_9_135 (by omega) (Nat.le_of_ble_eq_true rfl) ⟨by omega, by omega⟩ rfl (by decide +kernel) rfl (by decide) (by simp only [N0]; omega) (by simp) rfl rfl ?_
        simp only [Option.toList, List.cons_append, List.nil_append]
        refine J_iret dX9_recipe_66 rfl (by omega) (by omega) (⟨rfl, _, rfl, fun x k1 k2 k3 k4 k5 k6 => by rw [up2_r k1, up2_r k1, up2_r k1], fun k k1 k2 => by rw [up2_k k2, up2_k k1, up2_k k2], up2_s⟩)
    · have e : ∀ f, cRec (n : Int) (j : Int) w (M 457 j) f = 2 := fun f => by rw [cRec, if_pos q, if_neg q2]
      rw [inI_neg q2, e]
      refine J_rnG GM_fa (by omega) (by omega) (by omega) 3 _ _ _ _ (fun K9v hK9 => ?_)
      simp (maxSteps := 4000000) only [↓(X_if_ne (tgt := 26) (pc' := 20) dX9_recipe_17 (by decide) rfl), ↓(X_aload_n (k := 0) (pc' := 21) dX9_recipe_20 rfl rfl), ↓gR_0, ↓(X_iconst (pc' := 22) dX9_recipe_21 rfl), rn_0, gV_s, ↓pI_c, ↓pII_c, ↓pL_c, ↓pLL_c, ↓pR_c, ↓pRI_c, ↓pRII_c, ↓pRIL_c, ↓pRR_c, ↓pV_c, ↓pVV_c, ↓gI_c, ↓gL_c, ↓gR_c, f2_0, f2_1, nk_n, nk_i, nk_r, ↓reduceIte, r32, r64, Nat.reduceAdd, Nat.reduceSub, Nat.reduceEqDiff, Nat.reduceLT, Nat.reduceLeDiff, Nat.reduceBEq, Int.reduceAdd, Int.reduceSub, Int.reduceMul, Int.reduceNeg, Int.reduceToNat, Int.reduceLE, Int.reduceLT, Int.reduceEq, Int.reduceNatCast', Int.reduceNatCast, Int.natCast_zero, Int.toNat_natCast, Int.toNat_zero, Int.toNat_one, List.length_cons, List.length_nil, true_and, and_true, and_self, true_or, or_true, false_or, or_false, Bool.not_true, Bool.not_false, Nat.lt_add_one, Nat.zero_lt_succ, N0, swL_n, swL_c, List.toList_toArray, false_implies, true_implies, implies_true, forall_const, not_false_eq_true, not_true_eq_false, and_false, false_and]
      simp only [hK9]
      clear hK9 K9v
      refine J_callVd (ci := 9) GM_fa (om_fails (M := up2 M 447 26 0) (d + 4) 2) dX9_recipe_22 k_9_135 (by omega) (Nat.le_of_ble_eq_true rfl) ⟨by omega, by omega⟩ rfl (by decide +kernel) rfl (by decide) (by simp only [N0]; omega) (by simp) rfl rfl ?_
      simp only [Option.toList, List.cons_append, List.nil_append]
      refine J_iret dX9_recipe_25 rfl (by omega) (by omega) (⟨rfl, _, rfl, fun x k1 k2 k3 k4 k5 k6 => by rw [up2_r k1, up2_r k1], fun k k1 k2 => by rw [up2_k k2, up2_k k2], up2_s⟩)
  · have e : ∀ g f, cRec (n : Int) z w g f = 1 := fun g f => by rw [cRec, if_neg q]
    rw [if_neg q, if_neg q, e]
    refine J_rnG GM_fa (by omega) (by omega) (by omega) 2 _ _ _ _ (fun K9v hK9 => ?_)
    simp (maxSteps := 4000000) only [↓(X_if_ne (tgt := 10) (pc' := 8) dX9_recipe_5 (by decide) rfl), ↓(X_iconst (pc' := 9) dX9_recipe_8 rfl), rn_0, gV_s, ↓pI_c, ↓pII_c, ↓pL_c, ↓pLL_c, ↓pR_c, ↓pRI_c, ↓pRII_c, ↓pRIL_c, ↓pRR_c, ↓pV_c, ↓pVV_c, ↓gI_c, ↓gL_c, ↓gR_c, f2_0, f2_1, nk_n, nk_i, nk_r, ↓reduceIte, r32, r64, Nat.reduceAdd, Nat.reduceSub, Nat.reduceEqDiff, Nat.reduceLT, Nat.reduceLeDiff, Nat.reduceBEq, Int.reduceAdd, Int.reduceSub, Int.reduceMul, Int.reduceNeg, Int.reduceToNat, Int.reduceLE, Int.reduceLT, Int.reduceEq, Int.reduceNatCast', Int.reduceNatCast, Int.natCast_zero, Int.toNat_natCast, Int.toNat_zero, Int.toNat_one, List.length_cons, List.length_nil, true_and, and_true, and_self, true_or, or_true, false_or, or_false, Bool.not_true, Bool.not_false, Nat.lt_add_one, Nat.zero_lt_succ, N0, swL_n, swL_c, List.toList_toArray, false_implies, true_implies, implies_true, forall_const, not_false_eq_true, not_true_eq_false, and_false, false_and]
    simp only [hK9]
    clear hK9 K9v
    refine J_iret dX9_recipe_9 rfl (by omega) (by omega) (⟨rfl, _, rfl, fun x k1 k2 k3 k4 k5 k6 => by rw [up2_r k1], fun k k1 k2 => by rw [up2_k k2], up2_s⟩)
end MK
