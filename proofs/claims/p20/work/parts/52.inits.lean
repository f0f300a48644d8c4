/-! the constructors: each fills the cells that it makes -/
/-- the numbers with which the cells begin -/
def M0 (c k : Nat) : Int :=
  if c = 4 then [100, 10, 20].getD k 0
  else if c = 5 then [20, 100, 10].getD k 0
  else if c = 6 then [90, 90, 90].getD k 0
  else if c = 74 then (if k = 1 then 1 else 0)
  else 0
theorem k10_ne : ∀ c, c < 449 → (kd c = 10 ∨ kd c = 11) → c ≠ 2 ∧ c ≠ 91 ∧ c ≠ 100 ∧ c ≠ 110 := by decide +kernel
theorem R0_arr {c k : Nat} (hc : c < 449) (h : kd c = 10 ∨ kd c = 11) : R0 c k = none := by
  obtain ⟨h1, h2, h3, h4⟩ := k10_ne c hc h
  unfold R0
  rcases h with h | h <;> simp [h, h1, h2, h3, h4]
theorem R0_1 {c k : Nat} (h : kd c = 1) : R0 c k = if k = 0 then some (c + 1) else if k = 1 then some (c + 2) else if k = 2 then some (c + 3) else none := by
  unfold R0
  simp [h]
section MK1
variable {l : Launch} {D : va_G} {cy : Nat → ClassId}
set_option maxRecDepth 100000 in
set_option maxHeartbeats 4000000 in
theorem on_Ink {Rf : Nat → Nat → Option Nat} {M : Nat → Nat → Int} (d c : Nat) (hc : c + 1 < 449) (hk : kd c = 0) (hW9 : W0 c Rf M) : Ok l D cy (d + 2) 1 4 yX0_init cX0_init 1 (none) [.inr (.inr (some (c)))] ((c + 1, Rf, M)) (det none (c + 2, rng c (c + 2) R0 Rf, M)) := by
  refine Ok.intro (o := 0) (ini := true) [some (.inr (.inr (some (c))))] (by decide +kernel) rfl (fun _ => rfl) rfl (Nat.le_of_ble_eq_true rfl) rfl ?_
  obtain ⟨b1, b2, b3, b4⟩ := ink_at c (by omega) hk
  have hW := W0.new hW9
  refine J_rnG GM_fa (by omega) (by omega) (by omega) 4 _ _ _ _ (fun K9v hK9 => ?_)
  simp (maxSteps := 4000000) only [↓(X_aload_n (k := 0) (pc' := 1) dX0_init_0 rfl rfl), ↓gR_0, ↓(X_obj (pc' := 4) jd_0_3 dX0_init_1 rfl), ↓(X_aload_n (k := 0) (pc' := 5) dX0_init_4 rfl rfl), ↓(X_iconst (pc' := 6) dX0_init_5 rfl), rn_0, gV_s, ↓pI_c, ↓pII_c, ↓pL_c, ↓pLL_c, ↓pR_c, ↓pRI_c, ↓pRII_c, ↓pRIL_c, ↓pRR_c, ↓pV_c, ↓pVV_c, ↓gI_c, ↓gL_c, ↓gR_c, f2_0, f2_1, nk_n, nk_i, nk_r, ↓reduceIte, r32, r64, Nat.reduceAdd, Nat.reduceSub, Nat.reduceEqDiff, Nat.reduceLT, Nat.reduceLeDiff, Nat.reduceBEq, Int.reduceAdd, Int.reduceSub, Int.reduceMul, Int.reduceNeg, Int.reduceToNat, Int.reduceLE, Int.reduceLT, Int.reduceEq, Int.reduceNatCast', Int.reduceNatCast, Int.natCast_zero, Int.toNat_natCast, Int.toNat_zero, Int.toNat_one, List.length_cons, List.length_nil, true_and, and_true, and_self, true_or, or_true, false_or, or_false, Bool.not_true, Bool.not_false, Nat.lt_add_one, Nat.zero_lt_succ, N0, swL_n, swL_c, List.toList_toArray, false_implies, true_implies, implies_true, forall_const, not_false_eq_true, not_true_eq_false, and_false, false_and]
  simp only [hK9]
  clear hK9 K9v
  refine J_newI (N := 4) GM_fa dX0_init_6 b2 b3 (by decide) ?_ ?_ ?_ ?_ ?_
  · repeat (first | exact hW | with_reducible refine W0.up ?_ (by omega) | with_reducible refine W0.ur ?_ (by omega) (by omega) | with_reducible refine W0.mn ?_ (by omega) | with_reducible refine W0.new ?_)
  · omega
  · exact (inW_of (by simp [refs] <;> omega) (by simp [refs] <;> omega))
  · exact ⟨by omega, by omega⟩
  refine J_rnG GM_fa (by omega) (by omega) (by omega) 1 _ _ _ _ (fun K9v hK9 => ?_)
  simp (maxSteps := 4000000) only [↓(X_putR (pc' := 11) fl_0_9 dX0_init_8 rfl), kd_7, ↓(gV_c r0_7_0), kd_8, ln_8, kd_71, ↓(gV_c r0_71_0), kd_72, ln_72, rn_0, gV_s, ↓pI_c, ↓pII_c, ↓pL_c, ↓pLL_c, ↓pR_c, ↓pRI_c, ↓pRII_c, ↓pRIL_c, ↓pRR_c, ↓pV_c, ↓pVV_c, ↓gI_c, ↓gL_c, ↓gR_c, f2_0, f2_1, nk_n, nk_i, nk_r, ↓reduceIte, r32, r64, Nat.reduceAdd, Nat.reduceSub, Nat.reduceEqDiff, Nat.reduceLT, Nat.reduceLeDiff, Nat.reduceBEq, Int.reduceAdd, Int.reduceSub, Int.reduceMul, Int.reduceNeg, Int.reduceToNat, Int.reduceLE, Int.reduceLT, Int.reduceEq, Int.reduceNatCast', Int.reduceNatCast, Int.natCast_zero, Int.toNat_natCast, Int.toNat_zero, Int.toNat_one, List.length_cons, List.length_nil, true_and, and_true, and_self, true_or, or_true, false_or, or_false, Bool.not_true, Bool.not_false, Nat.lt_add_one, Nat.zero_lt_succ, N0, swL_n, swL_c, List.toList_toArray, false_implies, true_implies, implies_true, forall_const, not_false_eq_true, not_true_eq_false, and_false, false_and, hk, b2, show c < c + 2 by omega]
  simp only [hK9]
  clear hK9 K9v
  have e : upR Rf c 0 (some (c + 1)) = rng c (c + 2) R0 Rf := by
    funext x k
    rcases (show x = c ∨ x = c + 1 ∨ ¬ (c ≤ x ∧ x < c + 2) by omega) with q | q | q
    · subst q
      rw [rng_in (by omega)]
      unfold R0 upR
      rw [if_pos hk]
      by_cases h : k = 0
      · simp [h]
      · simp [h, (hW9.1 x k (Nat.le_refl x)).1]
    · subst q
      rw [rng_in (by omega), R0_arr hc (Or.inl b2)]
      unfold upR
      rw [if_neg (by omega), (hW9.1 (c + 1) k (by omega)).1]
    · rw [rng_out q]
      unfold upR
      rw [if_neg (by omega)]
  rw [e]
  refine J_vret dX0_init_11 rfl (by omega) (by omega) (⟨rfl, rfl⟩)
set_option maxRecDepth 100000 in
set_option maxHeartbeats 4000000 in
theorem on_Ladle {Rf : Nat → Nat → Option Nat} {M : Nat → Nat → Int} (d c : Nat) (hq : c = 76 ∨ c = 82) (hW9 : W0 c Rf M) : Ok l D cy (d + 2) 2 8 yX2_init cX2_init 1 (none) [.inr (.inr (some (c)))] ((c + 1, Rf, M)) (det none (c + 3, rng c (c + 3) R0 Rf, M)) := by
  refine Ok.intro (o := 2) (ini := true) [some (.inr (.inr (some (c))))] (by decide +kernel) rfl (fun _ => rfl) rfl (Nat.le_of_ble_eq_true rfl) rfl ?_
  obtain ⟨a1, a2, a3, a4, a5, a6, a7, a8, a9, a10⟩ := lad_at hq
  have hW := W0.new hW9
  refine J_rnG GM_fa (by omega) (by omega) (by omega) 4 _ _ _ _ (fun K9v hK9 => ?_)
  simp (maxSteps := 4000000) only [↓(X_aload_n (k := 0) (pc' := 1) dX2_init_0 rfl rfl), ↓gR_0, ↓(X_obj (pc' := 4) jd_2_3 dX2_init_1 rfl), ↓(X_aload_n (k := 0) (pc' := 5) dX2_init_4 rfl rfl), ↓(X_iconst (pc' := 6) dX2_init_5 rfl), rn_0, gV_s, ↓pI_c, ↓pII_c, ↓pL_c, ↓pLL_c, ↓pR_c, ↓pRI_c, ↓pRII_c, ↓pRIL_c, ↓pRR_c, ↓pV_c, ↓pVV_c, ↓gI_c, ↓gL_c, ↓gR_c, f2_0, f2_1, nk_n, nk_i, nk_r, ↓reduceIte, r32, r64, Nat.reduceAdd, Nat.reduceSub, Nat.reduceEqDiff, Nat.reduceLT, Nat.reduceLeDiff, Nat.reduceBEq, Int.reduceAdd, Int.reduceSub, Int.reduceMul, Int.reduceNeg, Int.reduceToNat, Int.reduceLE, Int.reduceLT, Int.reduceEq, Int.reduceNatCast', Int.reduceNatCast, Int.natCast_zero, Int.toNat_natCast, Int.toNat_zero, Int.toNat_one, List.length_cons, List.length_nil, true_and, and_true, and_self, true_or, or_true, false_or, or_false, Bool.not_true, Bool.not_false, Nat.lt_add_one, Nat.zero_lt_succ, N0, swL_n, swL_c, List.toList_toArray, false_implies, true_implies, implies_true, forall_const, not_false_eq_true, not_true_eq_false, and_false, false_and]
  simp only [hK9]
  clear hK9 K9v
  refine J_newI (N := 4) GM_fa dX2_init_6 a4 a6 (by decide) ?_ ?_ ?_ ?_ ?_
  · repeat (first | exact hW | with_reducible refine W0.up ?_ (by omega) | with_reducible refine W0.ur ?_ (by omega) (by omega) | with_reducible refine W0.mn ?_ (by omega) | with_reducible refine W0.new ?_)
  · omega
  · exact (inW_of (by simp [refs] <;> omega) (by simp [refs] <;> omega))
  · exact ⟨by omega, by omega⟩
  refine J_rnG GM_fa (by omega) (by omega) (by omega) 3 _ _ _ _ (fun K9v hK9 => ?_)
  simp (maxSteps := 4000000) only [↓(X_putR (pc' := 11) fl_2_9 dX2_init_8 rfl), kd_76, ↓(gV_c r0_76_0), kd_77, ln_77, kd_82, ↓(gV_c r0_82_0), kd_83, ln_83, ↓(X_aload_n (k := 0) (pc' := 12) dX2_init_11 rfl rfl), ↓gR_0, ↓(X_iconst (pc' := 13) dX2_init_12 rfl), rn_0, gV_s, ↓pI_c, ↓pII_c, ↓pL_c, ↓pLL_c, ↓pR_c, ↓pRI_c, ↓pRII_c, ↓pRIL_c, ↓pRR_c, ↓pV_c, ↓pVV_c, ↓gI_c, ↓gL_c, ↓gR_c, f2_0, f2_1, nk_n, nk_i, nk_r, ↓reduceIte, r32, r64, Nat.reduceAdd, Nat.reduceSub, Nat.reduceEqDiff, Nat.reduceLT, Nat.reduceLeDiff, Nat.reduceBEq, Int.reduceAdd, Int.reduceSub, Int.reduceMul, Int.reduceNeg, Int.reduceToNat, Int.reduceLE, Int.reduceLT, Int.reduceEq, Int.reduceNatCast', Int.reduceNatCast, Int.natCast_zero, Int.toNat_natCast, Int.toNat_zero, Int.toNat_one, List.length_cons, List.length_nil, true_and, and_true, and_self, true_or, or_true, false_or, or_false, Bool.not_true, Bool.not_false, Nat.lt_add_one, Nat.zero_lt_succ, N0, swL_n, swL_c, List.toList_toArray, false_implies, true_implies, implies_true, forall_const, not_false_eq_true, not_true_eq_false, and_false, false_and, a1, show c < c + 2 by omega]
  simp only [hK9]
  clear hK9 K9v
  refine J_newI (N := 4) GM_fa dX2_init_13 a5 a7 (by decide) ?_ ?_ ?_ ?_ ?_
  · repeat (first | exact hW | with_reducible refine W0.up ?_ (by omega) | with_reducible refine W0.ur ?_ (by omega) (by omega) | with_reducible refine W0.mn ?_ (by omega) | with_reducible refine W0.new ?_)
  · omega
  · exact (inW_of (by simp [refs] <;> omega) (by simp [refs] <;> omega))
  · exact ⟨by omega, by omega⟩
  refine J_rnG GM_fa (by omega) (by omega) (by omega) 1 _ _ _ _ (fun K9v hK9 => ?_)
  simp (maxSteps := 4000000) only [↓(X_putR (pc' := 18) fl_2_15 dX2_init_15 rfl), kd_76, ↓(gV_c r0_76_1), kd_78, ln_78, kd_82, ↓(gV_c r0_82_1), kd_84, ln_84, rn_0, gV_s, ↓pI_c, ↓pII_c, ↓pL_c, ↓pLL_c, ↓pR_c, ↓pRI_c, ↓pRII_c, ↓pRIL_c, ↓pRR_c, ↓pV_c, ↓pVV_c, ↓gI_c, ↓gL_c, ↓gR_c, f2_0, f2_1, nk_n, nk_i, nk_r, ↓reduceIte, r32, r64, Nat.reduceAdd, Nat.reduceSub, Nat.reduceEqDiff, Nat.reduceLT, Nat.reduceLeDiff, Nat.reduceBEq, Int.reduceAdd, Int.reduceSub, Int.reduceMul, Int.reduceNeg, Int.reduceToNat, Int.reduceLE, Int.reduceLT, Int.reduceEq, Int.reduceNatCast', Int.reduceNatCast, Int.natCast_zero, Int.toNat_natCast, Int.toNat_zero, Int.toNat_one, List.length_cons, List.length_nil, true_and, and_true, and_self, true_or, or_true, false_or, or_false, Bool.not_true, Bool.not_false, Nat.lt_add_one, Nat.zero_lt_succ, N0, swL_n, swL_c, List.toList_toArray, false_implies, true_implies, implies_true, forall_const, not_false_eq_true, not_true_eq_false, and_false, false_and, a1, show c < c + 3 by omega]
  simp only [hK9]
  clear hK9 K9v
  have e : upR (upR Rf c 0 (some (c + 1))) c 1 (some (c + 2)) = rng c (c + 3) R0 Rf := by
    funext x k
    rcases (show x = c ∨ x = c + 1 ∨ x = c + 2 ∨ ¬ (c ≤ x ∧ x < c + 3) by omega) with q | q | q | q
    · subst q
      rw [rng_in (by omega)]
      unfold R0 upR
      simp only [a1]
      by_cases h : k = 0
      · simp [h]
      · by_cases h1 : k = 1
        · simp [h1]
        · simp [h, h1, (hW9.1 x k (Nat.le_refl x)).1]
    · subst q
      rw [rng_in (by omega), R0_arr a9 (Or.inl a4)]
      unfold upR
      rw [if_neg (by omega), if_neg (by omega), (hW9.1 (c + 1) k (by omega)).1]
    · subst q
      rw [rng_in (by omega), R0_arr a10 (Or.inl a5)]
      unfold upR
      rw [if_neg (by omega), if_neg (by omega), (hW9.1 (c + 2) k (by omega)).1]
    · rw [rng_out q]
      unfold upR
      rw [if_neg (by omega), if_neg (by omega)]
  rw [e]
  refine J_vret dX2_init_18 rfl (by omega) (by omega) (⟨rfl, rfl⟩)
set_option maxRecDepth 100000 in
set_option maxHeartbeats 4000000 in
theorem on_Press {Rf : Nat → Nat → Option Nat} {M : Nat → Nat → Int} (d : Nat) (hW9 : W0 74 Rf M) : Ok l D cy (d + 2) 1 3 yX3_init cX3_init 1 (none) [.inr (.inr (some (74)))] ((75, Rf, M)) (det none (76, rng 74 76 R0 Rf, up2 M 74 1 1)) := by
  refine Ok.intro (o := 3) (ini := true) [some (.inr (.inr (some (74))))] (by decide +kernel) rfl (fun _ => rfl) rfl (Nat.le_of_ble_eq_true rfl) rfl ?_
  have hW := W0.new hW9
  refine J_rnG GM_fa (by omega) (by omega) (by omega) 4 _ _ _ _ (fun K9v hK9 => ?_)
  simp (maxSteps := 4000000) only [↓(X_aload_n (k := 0) (pc' := 1) dX3_init_0 rfl rfl), ↓gR_0, ↓(X_obj (pc' := 4) jd_3_3 dX3_init_1 rfl), ↓(X_aload_n (k := 0) (pc' := 5) dX3_init_4 rfl rfl), ↓(X_iconst (pc' := 6) dX3_init_5 rfl), rn_0, gV_s, ↓pI_c, ↓pII_c, ↓pL_c, ↓pLL_c, ↓pR_c, ↓pRI_c, ↓pRII_c, ↓pRIL_c, ↓pRR_c, ↓pV_c, ↓pVV_c, ↓gI_c, ↓gL_c, ↓gR_c, f2_0, f2_1, nk_n, nk_i, nk_r, ↓reduceIte, r32, r64, Nat.reduceAdd, Nat.reduceSub, Nat.reduceEqDiff, Nat.reduceLT, Nat.reduceLeDiff, Nat.reduceBEq, Int.reduceAdd, Int.reduceSub, Int.reduceMul, Int.reduceNeg, Int.reduceToNat, Int.reduceLE, Int.reduceLT, Int.reduceEq, Int.reduceNatCast', Int.reduceNatCast, Int.natCast_zero, Int.toNat_natCast, Int.toNat_zero, Int.toNat_one, List.length_cons, List.length_nil, true_and, and_true, and_self, true_or, or_true, false_or, or_false, Bool.not_true, Bool.not_false, Nat.lt_add_one, Nat.zero_lt_succ, N0, swL_n, swL_c, List.toList_toArray, false_implies, true_implies, implies_true, forall_const, not_false_eq_true, not_true_eq_false, and_false, false_and]
  simp only [hK9]
  clear hK9 K9v
  refine J_newI (N := 3) GM_fa dX3_init_6 (by decide +kernel) (by decide +kernel) (by decide) ?_ ?_ ?_ ?_ ?_
  · repeat (first | exact hW | with_reducible refine W0.up ?_ (by omega) | with_reducible refine W0.ur ?_ (by omega) (by omega) | with_reducible refine W0.mn ?_ (by omega) | with_reducible refine W0.new ?_)
  · omega
  · exact (inW_of (by simp [refs] <;> omega) (by simp [refs] <;> omega))
  · exact ⟨by omega, by omega⟩
  refine J_rnG GM_fa (by omega) (by omega) (by omega) 4 _ _ _ _ (fun K9v hK9 => ?_)
  simp (maxSteps := 4000000) only [↓(X_putR (pc' := 11) fl_3_9 dX3_init_8 rfl), kd_74, ↓(gV_c r0_74_0), kd_75, ln_75, ↓(X_aload_n (k := 0) (pc' := 12) dX3_init_11 rfl rfl), ↓gR_0, ↓(X_iconst (pc' := 13) dX3_init_12 rfl), ↓(X_putI (pc' := 16) fl_3_15 (by decide) dX3_init_13 rfl), Nat.one_ne_zero, Nat.reduceEqDiff, rn_0, gV_s, ↓pI_c, ↓pII_c, ↓pL_c, ↓pLL_c, ↓pR_c, ↓pRI_c, ↓pRII_c, ↓pRIL_c, ↓pRR_c, ↓pV_c, ↓pVV_c, ↓gI_c, ↓gL_c, ↓gR_c, f2_0, f2_1, nk_n, nk_i, nk_r, ↓reduceIte, r32, r64, Nat.reduceAdd, Nat.reduceSub, Nat.reduceEqDiff, Nat.reduceLT, Nat.reduceLeDiff, Nat.reduceBEq, Int.reduceAdd, Int.reduceSub, Int.reduceMul, Int.reduceNeg, Int.reduceToNat, Int.reduceLE, Int.reduceLT, Int.reduceEq, Int.reduceNatCast', Int.reduceNatCast, Int.natCast_zero, Int.toNat_natCast, Int.toNat_zero, Int.toNat_one, List.length_cons, List.length_nil, true_and, and_true, and_self, true_or, or_true, false_or, or_false, Bool.not_true, Bool.not_false, Nat.lt_add_one, Nat.zero_lt_succ, N0, swL_n, swL_c, List.toList_toArray, false_implies, true_implies, implies_true, forall_const, not_false_eq_true, not_true_eq_false, and_false, false_and, kd_74]
  simp only [hK9]
  clear hK9 K9v
  have e : upR Rf 74 0 (some 75) = rng 74 76 R0 Rf := by
    funext x k
    rcases (show x = 74 ∨ x = 75 ∨ ¬ (74 ≤ x ∧ x < 76) by omega) with q | q | q
    · subst q
      rw [rng_in (by omega)]
      unfold R0 upR
      simp only [kd_74]
      by_cases h : k = 0
      · simp [h]
      · simp [h, (hW9.1 74 k (Nat.le_refl _)).1]
    · subst q
      rw [rng_in (by omega), R0_arr (by decide) (Or.inl kd_75)]
      unfold upR
      rw [if_neg (by omega), (hW9.1 75 k (by omega)).1]
    · rw [rng_out q]
      unfold upR
      rw [if_neg (by omega)]
  rw [e]
  refine J_vret dX3_init_16 rfl (by omega) (by omega) (⟨rfl, rfl⟩)
set_option maxRecDepth 100000 in
set_option maxHeartbeats 4000000 in
theorem on_Recipe {Rf : Nat → Nat → Option Nat} {M : Nat → Nat → Int} (d : Nat) (hW9 : W0 80 Rf M) : Ok l D cy (d + 2) 1 4 yX4_init cX4_init 1 (none) [.inr (.inr (some (80)))] ((81, Rf, M)) (det none (82, rng 80 82 R0 Rf, M)) := by
  refine Ok.intro (o := 4) (ini := true) [some (.inr (.inr (some (80))))] (by decide +kernel) rfl (fun _ => rfl) rfl (Nat.le_of_ble_eq_true rfl) rfl ?_
  have hW := W0.new hW9
  refine J_rnG GM_fa (by omega) (by omega) (by omega) 4 _ _ _ _ (fun K9v hK9 => ?_)
  simp (maxSteps := 4000000) only [↓(X_aload_n (k := 0) (pc' := 1) dX4_init_0 rfl rfl), ↓gR_0, ↓(X_obj (pc' := 4) jd_4_3 dX4_init_1 rfl), ↓(X_aload_n (k := 0) (pc' := 5) dX4_init_4 rfl rfl), ↓(X_iconst (pc' := 6) dX4_init_5 rfl), rn_0, gV_s, ↓pI_c, ↓pII_c, ↓pL_c, ↓pLL_c, ↓pR_c, ↓pRI_c, ↓pRII_c, ↓pRIL_c, ↓pRR_c, ↓pV_c, ↓pVV_c, ↓gI_c, ↓gL_c, ↓gR_c, f2_0, f2_1, nk_n, nk_i, nk_r, ↓reduceIte, r32, r64, Nat.reduceAdd, Nat.reduceSub, Nat.reduceEqDiff, Nat.reduceLT, Nat.reduceLeDiff, Nat.reduceBEq, Int.reduceAdd, Int.reduceSub, Int.reduceMul, Int.reduceNeg, Int.reduceToNat, Int.reduceLE, Int.reduceLT, Int.reduceEq, Int.reduceNatCast', Int.reduceNatCast, Int.natCast_zero, Int.toNat_natCast, Int.toNat_zero, Int.toNat_one, List.length_cons, List.length_nil, true_and, and_true, and_self, true_or, or_true, false_or, or_false, Bool.not_true, Bool.not_false, Nat.lt_add_one, Nat.zero_lt_succ, N0, swL_n, swL_c, List.toList_toArray, false_implies, true_implies, implies_true, forall_const, not_false_eq_true, not_true_eq_false, and_false, false_and]
  simp only [hK9]
  clear hK9 K9v
  refine J_newI (N := 4) GM_fa dX4_init_6 (by decide +kernel) (by decide +kernel) (by decide) ?_ ?_ ?_ ?_ ?_
  · repeat (first | exact hW | with_reducible refine W0.up ?_ (by omega) | with_reducible refine W0.ur ?_ (by omega) (by omega) | with_reducible refine W0.mn ?_ (by omega) | with_reducible refine W0.new ?_)
  · omega
  · exact (inW_of (by simp [refs] <;> omega) (by simp [refs] <;> omega))
  · exact ⟨by omega, by omega⟩
  refine J_rnG GM_fa (by omega) (by omega) (by omega) 1 _ _ _ _ (fun K9v hK9 => ?_)
  simp (maxSteps := 4000000) only [↓(X_putR (pc' := 11) fl_4_9 dX4_init_8 rfl), kd_80, ↓(gV_c r0_80_0), kd_81, ln_81, rn_0, gV_s, ↓pI_c, ↓pII_c, ↓pL_c, ↓pLL_c, ↓pR_c, ↓pRI_c, ↓pRII_c, ↓pRIL_c, ↓pRR_c, ↓pV_c, ↓pVV_c, ↓gI_c, ↓gL_c, ↓gR_c, f2_0, f2_1, nk_n, nk_i, nk_r, ↓reduceIte, r32, r64, Nat.reduceAdd, Nat.reduceSub, Nat.reduceEqDiff, Nat.reduceLT, Nat.reduceLeDiff, Nat.reduceBEq, Int.reduceAdd, Int.reduceSub, Int.reduceMul, Int.reduceNeg, Int.reduceToNat, Int.reduceLE, Int.reduceLT, Int.reduceEq, Int.reduceNatCast', Int.reduceNatCast, Int.natCast_zero, Int.toNat_natCast, Int.toNat_zero, Int.toNat_one, List.length_cons, List.length_nil, true_and, and_true, and_self, true_or, or_true, false_or, or_false, Bool.not_true, Bool.not_false, Nat.lt_add_one, Nat.zero_lt_succ, N0, swL_n, swL_c, List.toList_toArray, false_implies, true_implies, implies_true, forall_const, not_false_eq_true, not_true_eq_false, and_false, false_and, kd_80]
  simp only [hK9]
  clear hK9 K9v
  have e : upR Rf 80 0 (some 81) = rng 80 82 R0 Rf := by
    funext x k
    rcases (show x = 80 ∨ x = 81 ∨ ¬ (80 ≤ x ∧ x < 82) by omega) with q | q | q
    · subst q
      rw [rng_in (by omega)]
      unfold R0 upR
      simp only [kd_80]
      by_cases h : k = 0
      · simp [h]
      · simp [h, (hW9.1 80 k (Nat.le_refl _)).1]
    · subst q
      rw [rng_in (by omega), R0_arr (by decide) (Or.inl kd_81)]
      unfold upR
      rw [if_neg (by omega), (hW9.1 81 k (by omega)).1]
    · rw [rng_out q]
      unfold upR
      rw [if_neg (by omega)]
  rw [e]
  refine J_vret dX4_init_11 rfl (by omega) (by omega) (⟨rfl, rfl⟩)
set_option maxRecDepth 100000 in
set_option maxHeartbeats 4000000 in
theorem on_Job {Rf : Nat → Nat → Option Nat} {M : Nat → Nat → Int} (d i c : Nat) (hi : i < 16) (hc9 : c = 367 + 5 * i) (hW9 : W0 c Rf M) : Ok l D cy (d + 3) 4 11 yX1_init cX1_init 1 (none) [.inr (.inr (some (c)))] ((c + 1, Rf, M)) (det none (c + 5, rng c (c + 5) R0 Rf, M)) := by
  refine Ok.intro (o := 1) (ini := true) [some (.inr (.inr (some (c))))] (by decide +kernel) rfl (fun _ => rfl) rfl (Nat.le_of_ble_eq_true rfl) rfl ?_
  obtain ⟨a1, a2, a3, a4, a5, a6, a7, a8, r1, r2, r3, -, -⟩ := job_at i hi
  have k0 : kd c = 1 := by rw [hc9]; exact a1
  have k1 : kd (c + 1) = 10 := by rw [hc9, show 367 + 5 * i + 1 = 368 + 5 * i by omega]; exact a2
  have l1 : ln (c + 1) = 3 := by rw [hc9, show 367 + 5 * i + 1 = 368 + 5 * i by omega]; exact a3
  have k2 : kd (c + 2) = 10 := by rw [hc9, show 367 + 5 * i + 2 = 369 + 5 * i by omega]; exact a4
  have l2 : ln (c + 2) = 3 := by rw [hc9, show 367 + 5 * i + 2 = 369 + 5 * i by omega]; exact a5
  have k3 : kd (c + 3) = 0 := by rw [hc9, show 367 + 5 * i + 3 = 370 + 5 * i by omega]; exact a6
  have k4 : kd (c + 4) = 10 := by rw [hc9, show 367 + 5 * i + 4 = 371 + 5 * i by omega]; exact a7
  have hW := W0.new hW9
  refine J_rnG GM_fa (by omega) (by omega) (by omega) 4 _ _ _ _ (fun K9v hK9 => ?_)
  simp (maxSteps := 4000000) only [↓(X_aload_n (k := 0) (pc' := 1) dX1_init_0 rfl rfl), ↓gR_0, ↓(X_obj (pc' := 4) jd_1_3 dX1_init_1 rfl), ↓(X_aload_n (k := 0) (pc' := 5) dX1_init_4 rfl rfl), ↓(X_iconst (pc' := 6) dX1_init_5 rfl), rn_0, gV_s, ↓pI_c, ↓pII_c, ↓pL_c, ↓pLL_c, ↓pR_c, ↓pRI_c, ↓pRII_c, ↓pRIL_c, ↓pRR_c, ↓pV_c, ↓pVV_c, ↓gI_c, ↓gL_c, ↓gR_c, f2_0, f2_1, nk_n, nk_i, nk_r, ↓reduceIte, r32, r64, Nat.reduceAdd, Nat.reduceSub, Nat.reduceEqDiff, Nat.reduceLT, Nat.reduceLeDiff, Nat.reduceBEq, Int.reduceAdd, Int.reduceSub, Int.reduceMul, Int.reduceNeg, Int.reduceToNat, Int.reduceLE, Int.reduceLT, Int.reduceEq, Int.reduceNatCast', Int.reduceNatCast, Int.natCast_zero, Int.toNat_natCast, Int.toNat_zero, Int.toNat_one, List.length_cons, List.length_nil, true_and, and_true, and_self, true_or, or_true, false_or, or_false, Bool.not_true, Bool.not_false, Nat.lt_add_one, Nat.zero_lt_succ, N0, swL_n, swL_c, List.toList_toArray, false_implies, true_implies, implies_true, forall_const, not_false_eq_true, not_true_eq_false, and_false, false_and]
  simp only [hK9]
  clear hK9 K9v
  refine J_newI (N := 3) GM_fa dX1_init_6 k1 l1 (by decide) ?_ ?_ ?_ ?_ ?_
  · repeat (first | exact hW | with_reducible refine W0.up ?_ (by omega) | with_reducible refine W0.ur ?_ (by omega) (by omega) | with_reducible refine W0.mn ?_ (by omega) | with_reducible refine W0.new ?_)
  · omega
  · exact (inW_of (by simp [refs] <;> omega) (by simp [refs] <;> omega))
  · exact ⟨by omega, by omega⟩
  refine J_rnG GM_fa (by omega) (by omega) (by omega) 3 _ _ _ _ (fun K9v hK9 => ?_)
  simp (maxSteps := 4000000) only [↓(X_putR (pc' := 11) fl_1_9 dX1_init_8 rfl), ↓(X_aload_n (k := 0) (pc' := 12) dX1_init_11 rfl rfl), ↓gR_0, ↓(X_iconst (pc' := 13) dX1_init_12 rfl), rn_0, gV_s, ↓pI_c, ↓pII_c, ↓pL_c, ↓pLL_c, ↓pR_c, ↓pRI_c, ↓pRII_c, ↓pRIL_c, ↓pRR_c, ↓pV_c, ↓pVV_c, ↓gI_c, ↓gL_c, ↓gR_c, f2_0, f2_1, nk_n, nk_i, nk_r, ↓reduceIte, r32, r64, Nat.reduceAdd, Nat.reduceSub, Nat.reduceEqDiff, Nat.reduceLT, Nat.reduceLeDiff, Nat.reduceBEq, Int.reduceAdd, Int.reduceSub, Int.reduceMul, Int.reduceNeg, Int.reduceToNat, Int.reduceLE, Int.reduceLT, Int.reduceEq, Int.reduceNatCast', Int.reduceNatCast, Int.natCast_zero, Int.toNat_natCast, Int.toNat_zero, Int.toNat_one, List.length_cons, List.length_nil, true_and, and_true, and_self, true_or, or_true, false_or, or_false, Bool.not_true, Bool.not_false, Nat.lt_add_one, Nat.zero_lt_succ, N0, swL_n, swL_c, List.toList_toArray, false_implies, true_implies, implies_true, forall_const, not_false_eq_true, not_true_eq_false, and_false, false_and, k0, show c < c + 2 by omega]
  simp only [hK9]
  clear hK9 K9v
  refine J_newI (N := 3) GM_fa dX1_init_13 k2 l2 (by decide) ?_ ?_ ?_ ?_ ?_
  · repeat (first | exact hW | with_reducible refine W0.up ?_ (by omega) | with_reducible refine W0.ur ?_ (by omega) (by omega) | with_reducible refine W0.mn ?_ (by omega) | with_reducible refine W0.new ?_)
  · omega
  · exact (inW_of (by simp [refs] <;> omega) (by simp [refs] <;> omega))
  · exact ⟨by omega, by omega⟩
  refine J_rnG GM_fa (by omega) (by omega) (by omega) 2 _ _ _ _ (fun K9v hK9 => ?_)
  simp (maxSteps := 4000000) only [↓(X_putR (pc' := 18) fl_1_15 dX1_init_15 rfl), ↓(X_aload_n (k := 0) (pc' := 19) dX1_init_18 rfl rfl), ↓gR_0, rn_0, gV_s, ↓pI_c, ↓pII_c, ↓pL_c, ↓pLL_c, ↓pR_c, ↓pRI_c, ↓pRII_c, ↓pRIL_c, ↓pRR_c, ↓pV_c, ↓pVV_c, ↓gI_c, ↓gL_c, ↓gR_c, f2_0, f2_1, nk_n, nk_i, nk_r, ↓reduceIte, r32, r64, Nat.reduceAdd, Nat.reduceSub, Nat.reduceEqDiff, Nat.reduceLT, Nat.reduceLeDiff, Nat.reduceBEq, Int.reduceAdd, Int.reduceSub, Int.reduceMul, Int.reduceNeg, Int.reduceToNat, Int.reduceLE, Int.reduceLT, Int.reduceEq, Int.reduceNatCast', Int.reduceNatCast, Int.natCast_zero, Int.toNat_natCast, Int.toNat_zero, Int.toNat_one, List.length_cons, List.length_nil, true_and, and_true, and_self, true_or, or_true, false_or, or_false, Bool.not_true, Bool.not_false, Nat.lt_add_one, Nat.zero_lt_succ, N0, swL_n, swL_c, List.toList_toArray, false_implies, true_implies, implies_true, forall_const, not_false_eq_true, not_true_eq_false, and_false, false_and, k0, show c < c + 3 by omega]
  simp only [hK9]
  clear hK9 K9v
  refine J_newc (w := 1) GM_fa dX1_init_19 nk_1_18 (k3) rfl ?_ ?_ ?_ ?_ ?_
  · repeat (first | exact hW | with_reducible refine W0.up ?_ (by omega) | with_reducible refine W0.ur ?_ (by omega) (by omega) | with_reducible refine W0.mn ?_ (by omega) | with_reducible refine W0.new ?_)
  · omega
  · exact (inW_of (by simp [refs] <;> omega) (by simp [refs] <;> omega))
  · exact ⟨by omega, by omega⟩
  refine J_rnG GM_fa (by omega) (by omega) (by omega) 1 _ _ _ _ (fun K9v hK9 => ?_)
  simp (maxSteps := 4000000) only [↓(X_dup (pc' := 23) dX1_init_22 rfl), rn_0, gV_s, ↓pI_c, ↓pII_c, ↓pL_c, ↓pLL_c, ↓pR_c, ↓pRI_c, ↓pRII_c, ↓pRIL_c, ↓pRR_c, ↓pV_c, ↓pVV_c, ↓gI_c, ↓gL_c, ↓gR_c, f2_0, f2_1, nk_n, nk_i, nk_r, ↓reduceIte, r32, r64, Nat.reduceAdd, Nat.reduceSub, Nat.reduceEqDiff, Nat.reduceLT, Nat.reduceLeDiff, Nat.reduceBEq, Int.reduceAdd, Int.reduceSub, Int.reduceMul, Int.reduceNeg, Int.reduceToNat, Int.reduceLE, Int.reduceLT, Int.reduceEq, Int.reduceNatCast', Int.reduceNatCast, Int.natCast_zero, Int.toNat_natCast, Int.toNat_zero, Int.toNat_one, List.length_cons, List.length_nil, true_and, and_true, and_self, true_or, or_true, false_or, or_false, Bool.not_true, Bool.not_false, Nat.lt_add_one, Nat.zero_lt_succ, N0, swL_n, swL_c, List.toList_toArray, false_implies, true_implies, implies_true, forall_const, not_false_eq_true, not_true_eq_false, and_false, false_and]
  simp only [hK9]
  clear hK9 K9v
  have hWI : W0 (c + 3) (upR (upR Rf c 0 (some (c + 1))) c 1 (some (c + 2))) M := by repeat (first | exact hW | with_reducible refine W0.up ?_ (by omega) | with_reducible refine W0.ur ?_ (by omega) (by omega) | with_reducible refine W0.mn ?_ (by omega) | with_reducible refine W0.new ?_)
  refine J_callId GM_fa (on_Ink d (c + 3) (by omega) k3 hWI) dX1_init_23 k_1_20 (by omega) (Nat.le_of_ble_eq_true rfl) ⟨by omega, by omega⟩ rfl (by simp) rfl ?_ ?_ ?_
  · exact (inW_of (by simp [refs] <;> omega) (by simp [refs] <;> omega))
  · first | decide | (show _ ≤ 1000000; omega)
  refine J_rnG GM_fa (by omega) (by omega) (by omega) 4 _ _ _ _ (fun K9v hK9 => ?_)
  simp (maxSteps := 4000000) only [↓(X_putR (pc' := 29) fl_1_21 dX1_init_26 rfl), ↓(X_aload_n (k := 0) (pc' := 30) dX1_init_29 rfl rfl), ↓gR_0, ↓(X_iconst (pc' := 31) dX1_init_30 rfl), ↓(X_putI (pc' := 34) fl_1_25 (by decide) dX1_init_31 rfl), Nat.one_ne_zero, Nat.reduceEqDiff, rn_0, gV_s, ↓pI_c, ↓pII_c, ↓pL_c, ↓pLL_c, ↓pR_c, ↓pRI_c, ↓pRII_c, ↓pRIL_c, ↓pRR_c, ↓pV_c, ↓pVV_c, ↓gI_c, ↓gL_c, ↓gR_c, f2_0, f2_1, nk_n, nk_i, nk_r, ↓reduceIte, r32, r64, Nat.reduceAdd, Nat.reduceSub, Nat.reduceEqDiff, Nat.reduceLT, Nat.reduceLeDiff, Nat.reduceBEq, Int.reduceAdd, Int.reduceSub, Int.reduceMul, Int.reduceNeg, Int.reduceToNat, Int.reduceLE, Int.reduceLT, Int.reduceEq, Int.reduceNatCast', Int.reduceNatCast, Int.natCast_zero, Int.toNat_natCast, Int.toNat_zero, Int.toNat_one, List.length_cons, List.length_nil, true_and, and_true, and_self, true_or, or_true, false_or, or_false, Bool.not_true, Bool.not_false, Nat.lt_add_one, Nat.zero_lt_succ, N0, swL_n, swL_c, List.toList_toArray, false_implies, true_implies, implies_true, forall_const, not_false_eq_true, not_true_eq_false, and_false, false_and, k0, show c < c + 5 by omega]
  simp only [hK9]
  clear hK9 K9v
  have eM : up2 M c 5 0 = M := up2_id (hW9.1 c 5 (Nat.le_refl c)).2
  have e : upR (rng (c + 3) (c + 3 + 2) R0 (upR (upR Rf c 0 (some (c + 1))) c 1 (some (c + 2)))) c 2 (some (c + 3)) = rng c (c + 5) R0 Rf := by
    funext x k
    rcases (show x = c ∨ x = c + 1 ∨ x = c + 2 ∨ (c + 3 ≤ x ∧ x < c + 5) ∨ ¬ (c ≤ x ∧ x < c + 5) by omega) with q | q | q | q | q
    · subst q
      rw [rng_in (by omega), R0_1 k0]
      by_cases h : k = 2
      · subst h
        simp [upR]
      · have e1 : upR (rng (x + 3) (x + 3 + 2) R0 (upR (upR Rf x 0 (some (x + 1))) x 1 (some (x + 2)))) x 2 (some (x + 3)) x k = upR (upR Rf x 0 (some (x + 1))) x 1 (some (x + 2)) x k := by
          unfold upR
          rw [if_neg (fun z => h z.2), rng_out (by omega)]
        rw [e1]
        by_cases h0 : k = 0
        · subst h0
          simp [upR]
        · by_cases h1 : k = 1
          · subst h1
            simp [upR]
          · simp [upR, h, h0, h1, (hW9.1 x k (Nat.le_refl x)).1]
    · subst q
      rw [rng_in (by omega), R0_arr (by omega) (Or.inl k1)]
      unfold upR
      rw [if_neg (by omega), rng_out (by omega), if_neg (by omega), if_neg (by omega), (hW9.1 (c + 1) k (by omega)).1]
    · subst q
      rw [rng_in (by omega), R0_arr (by omega) (Or.inl k2)]
      unfold upR
      rw [if_neg (by omega), rng_out (by omega), if_neg (by omega), if_neg (by omega), (hW9.1 (c + 2) k (by omega)).1]
    · rw [rng_in (by omega)]
      unfold upR
      rw [if_neg (by omega), rng_in (by omega)]
    · rw [rng_out (by omega)]
      unfold upR
      rw [if_neg (by omega), rng_out (by omega), if_neg (by omega), if_neg (by omega)]
  rw [eM, e]
  refine J_vret dX1_init_34 rfl (by omega) (by omega) (⟨rfl, rfl⟩)
end MK1
