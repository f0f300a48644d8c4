/-! the constructors of the search and of the plan -/
theorem R0_5 {c k : Nat} (h : kd c = 5) : R0 c k = if k = 0 then some 80 else if k = 1 then some 82 else if k = 2 then some 85 else if k = 3 then some 86 else if k = 4 then some 87 else if k = 5 then some 88 else none := by
  unfold R0
  simp only [h]
  rcases k with _ | _ | _ | _ | _ | _ | k <;> simp
theorem R0_7 {c k : Nat} (h : kd c = 7) : R0 c k = if k = 0 then some 90 else if k = 1 then some 91 else if k = 2 then some 100 else if k = 3 then some 110 else none := by
  unfold R0
  simp only [h]
  rcases k with _ | _ | _ | _ | k <;> simp
theorem R0_91 {k : Nat} : R0 91 k = if k < 8 then some (92 + k) else none := by
  unfold R0
  simp [kd_91]
theorem R0_100 {k : Nat} : R0 100 k = if k < 9 then some (101 + k) else none := by
  unfold R0
  simp [kd_100]
theorem R0_110 {k : Nat} : R0 110 k = if k < 256 then some (111 + k) else none := by
  unfold R0
  simp [kd_110]
theorem R0_0 {c k : Nat} (h : kd c = 0) : R0 c k = if k = 0 then some (c + 1) else none := by
  unfold R0
  simp [h]
theorem R0_2 {c k : Nat} (h : kd c = 2) : R0 c k = if k = 0 then some (c + 1) else if k = 1 then some (c + 2) else none := by
  unfold R0
  simp [h]
theorem R0_3 {c k : Nat} (h : kd c = 3) : R0 c k = if k = 0 then some (c + 1) else none := by
  unfold R0
  simp [h]
theorem R0_4 {c k : Nat} (h : kd c = 4) : R0 c k = if k = 0 then some (c + 1) else none := by
  unfold R0
  simp [h]
theorem some_if {p : Prop} [Decidable p] {a r : Nat} {o : Option Nat} (h : (if p then some a else o) = some r) : r = a ∨ o = some r := by
  split at h
  · cases h
    exact Or.inl rfl
  · exact Or.inr h
theorem rg_ink {c : Nat} (hc : c + 1 < 449) (hk : kd c = 0) : ∀ x k r, c ≤ x → x < c + 2 → R0 x k = some r → r < c + 2 := by
  intro x k r h1 h2 h
  rcases (show x = c ∨ x = c + 1 by omega) with q | q
  · rw [q, R0_0 hk] at h
    rcases some_if h with e | e
    · omega
    · cases e
  · obtain ⟨-, b2, -⟩ := ink_at c (by omega) hk
    rw [q, R0_arr hc (Or.inl b2)] at h
    cases h
theorem rg_lad {c : Nat} (hq : c = 76 ∨ c = 82) : ∀ x k r, c ≤ x → x < c + 3 → R0 x k = some r → r < c + 3 := by
  intro x k r h1 h2 h
  obtain ⟨a1, a2, a3, a4, a5, a6, a7, a8, a9, a10⟩ := lad_at hq
  rcases (show x = c ∨ x = c + 1 ∨ x = c + 2 by omega) with q | q | q
  · rw [q, R0_2 a1] at h
    rcases some_if h with e | e
    · omega
    · rcases some_if e with e | e
      · omega
      · cases e
  · rw [q, R0_arr a9 (Or.inl a4)] at h
    cases h
  · rw [q, R0_arr a10 (Or.inl a5)] at h
    cases h
theorem rg_rec : ∀ x k r, 80 ≤ x → x < 82 → R0 x k = some r → r < 82 := by
  intro x k r h1 h2 h
  rcases (show x = 80 ∨ x = 81 by omega) with q | q
  · rw [q, R0_4 kd_80] at h
    rcases some_if h with e | e
    · omega
    · cases e
  · rw [q, R0_arr (by decide) (Or.inl kd_81)] at h
    cases h
theorem rg_press : ∀ x k r, 74 ≤ x → x < 76 → R0 x k = some r → r < 76 := by
  intro x k r h1 h2 h
  rcases (show x = 74 ∨ x = 75 by omega) with q | q
  · rw [q, R0_3 kd_74] at h
    rcases some_if h with e | e
    · omega
    · cases e
  · rw [q, R0_arr (by decide) (Or.inl kd_75)] at h
    cases h
theorem rng_same {α : Type} {c n' : Nat} {f : Nat → Nat → α} : rng c n' f f = f := by
  funext x k
  unfold rng
  split <;> rfl
theorem k10_pl : ∀ x, x < 367 → 90 ≤ x → x ≠ 91 → x ≠ 100 → x ≠ 110 → kd x = 10 := by decide +kernel
section MK2
variable {l : Launch} {D : va_G} {cy : Nat → ClassId}
set_option maxRecDepth 100000 in
set_option maxHeartbeats 4000000 in
theorem on_Search {Rf : Nat → Nat → Option Nat} {M : Nat → Nat → Int} (d : Nat) (hW9 : W0 79 Rf M) : Ok l D cy (d + 4) 9 37 yX5_init cX5_init 1 (none) [.inr (.inr (some (79)))] ((80, Rf, M)) (det none (89, rng 79 89 R0 Rf, M)) := by
  refine Ok.intro (o := 5) (ini := true) [some (.inr (.inr (some (79))))] (by decide +kernel) rfl (fun _ => rfl) rfl (Nat.le_of_ble_eq_true rfl) rfl ?_
  have hW := W0.new hW9
  refine J_rnG GM_fa (by omega) (by omega) (by omega) 3 _ _ _ _ (fun K9v hK9 => ?_)
  simp (maxSteps := 4000000) only [↓(X_aload_n (k := 0) (pc' := 1) dX5_init_0 rfl rfl), ↓gR_0, ↓(X_obj (pc' := 4) jd_5_3 dX5_init_1 rfl), ↓(X_aload_n (k := 0) (pc' := 5) dX5_init_4 rfl rfl), rn_0, gV_s, ↓pI_c, ↓pII_c, ↓pL_c, ↓pLL_c, ↓pR_c, ↓pRI_c, ↓pRII_c, ↓pRIL_c, ↓pRR_c, ↓pV_c, ↓pVV_c, ↓gI_c, ↓gL_c, ↓gR_c, f2_0, f2_1, nk_n, nk_i, nk_r, ↓reduceIte, r32, r64, Nat.reduceAdd, Nat.reduceSub, Nat.reduceEqDiff, Nat.reduceLT, Nat.reduceLeDiff, Nat.reduceBEq, Int.reduceAdd, Int.reduceSub, Int.reduceMul, Int.reduceNeg, Int.reduceToNat, Int.reduceLE, Int.reduceLT, Int.reduceEq, Int.reduceNatCast', Int.reduceNatCast, Int.natCast_zero, Int.toNat_natCast, Int.toNat_zero, Int.toNat_one, List.length_cons, List.length_nil, true_and, and_true, and_self, true_or, or_true, false_or, or_false, Bool.not_true, Bool.not_false, Nat.lt_add_one, Nat.zero_lt_succ, N0, swL_n, swL_c, List.toList_toArray, false_implies, true_implies, implies_true, forall_const, not_false_eq_true, not_true_eq_false, and_false, false_and]
  simp only [hK9]
  clear hK9 K9v
  refine J_newc (w := 4) GM_fa dX5_init_5 nk_5_9 (by decide +kernel) rfl ?_ ?_ ?_ ?_ ?_
  · repeat (first | exact hW | with_reducible refine W0.up ?_ (by omega) | with_reducible refine W0.ur ?_ (by omega) (by omega) | with_reducible refine W0.mn ?_ (by omega) | with_reducible refine W0.new ?_)
  · omega
  · exact (inW_of (by simp [refs] <;> omega) (by simp [refs] <;> omega))
  · exact ⟨by omega, by omega⟩
  refine J_rnG GM_fa (by omega) (by omega) (by omega) 1 _ _ _ _ (fun K9v hK9 => ?_)
  simp (maxSteps := 4000000) only [↓(X_dup (pc' := 9) dX5_init_8 rfl), rn_0, gV_s, ↓pI_c, ↓pII_c, ↓pL_c, ↓pLL_c, ↓pR_c, ↓pRI_c, ↓pRII_c, ↓pRIL_c, ↓pRR_c, ↓pV_c, ↓pVV_c, ↓gI_c, ↓gL_c, ↓gR_c, f2_0, f2_1, nk_n, nk_i, nk_r, ↓reduceIte, r32, r64, Nat.reduceAdd, Nat.reduceSub, Nat.reduceEqDiff, Nat.reduceLT, Nat.reduceLeDiff, Nat.reduceBEq, Int.reduceAdd, Int.reduceSub, Int.reduceMul, Int.reduceNeg, Int.reduceToNat, Int.reduceLE, Int.reduceLT, Int.reduceEq, Int.reduceNatCast', Int.reduceNatCast, Int.natCast_zero, Int.toNat_natCast, Int.toNat_zero, Int.toNat_one, List.length_cons, List.length_nil, true_and, and_true, and_self, true_or, or_true, false_or, or_false, Bool.not_true, Bool.not_false, Nat.lt_add_one, Nat.zero_lt_succ, N0, swL_n, swL_c, List.toList_toArray, false_implies, true_implies, implies_true, forall_const, not_false_eq_true, not_true_eq_false, and_false, false_and]
  simp only [hK9]
  clear hK9 K9v
  refine J_callId GM_fa (on_Recipe (d + 1) hW) dX5_init_9 k_5_11 (by omega) (Nat.le_of_ble_eq_true rfl) ⟨by omega, by omega⟩ rfl (by simp) rfl ?_ ?_ ?_
  · exact (inW_of (by simp [refs] <;> omega) (by simp [refs] <;> omega))
  · first | decide | (show _ ≤ 1000000; omega)
  refine J_rnG GM_fa (by omega) (by omega) (by omega) 2 _ _ _ _ (fun K9v hK9 => ?_)
  simp (maxSteps := 4000000) only [↓(X_putR (pc' := 15) fl_5_12 dX5_init_12 rfl), kd_79, ↓(gV_c r0_79_0), kd_80, ↓(X_aload_n (k := 0) (pc' := 16) dX5_init_15 rfl rfl), ↓gR_0, rn_0, gV_s, ↓pI_c, ↓pII_c, ↓pL_c, ↓pLL_c, ↓pR_c, ↓pRI_c, ↓pRII_c, ↓pRIL_c, ↓pRR_c, ↓pV_c, ↓pVV_c, ↓gI_c, ↓gL_c, ↓gR_c, f2_0, f2_1, nk_n, nk_i, nk_r, ↓reduceIte, r32, r64, Nat.reduceAdd, Nat.reduceSub, Nat.reduceEqDiff, Nat.reduceLT, Nat.reduceLeDiff, Nat.reduceBEq, Int.reduceAdd, Int.reduceSub, Int.reduceMul, Int.reduceNeg, Int.reduceToNat, Int.reduceLE, Int.reduceLT, Int.reduceEq, Int.reduceNatCast', Int.reduceNatCast, Int.natCast_zero, Int.toNat_natCast, Int.toNat_zero, Int.toNat_one, List.length_cons, List.length_nil, true_and, and_true, and_self, true_or, or_true, false_or, or_false, Bool.not_true, Bool.not_false, Nat.lt_add_one, Nat.zero_lt_succ, N0, swL_n, swL_c, List.toList_toArray, false_implies, true_implies, implies_true, forall_const, not_false_eq_true, not_true_eq_false, and_false, false_and, kd_79]
  simp only [hK9]
  clear hK9 K9v
  have hW : W0 82 (rng 80 82 R0 Rf) M := by
    have := W0.rg (c := 80) (n' := 82) (f := M) hW (by omega) rg_rec
    rwa [rng_same] at this
  refine J_newc (w := 2) GM_fa dX5_init_16 nk_5_18 (by decide +kernel) rfl ?_ ?_ ?_ ?_ ?_
  · repeat (first | exact hW | with_reducible refine W0.up ?_ (by omega) | with_reducible refine W0.ur ?_ (by omega) (by omega) | with_reducible refine W0.mn ?_ (by omega) | with_reducible refine W0.new ?_)
  · omega
  · exact (inW_of (by simp [refs] <;> omega) (by simp [refs] <;> omega))
  · exact ⟨by omega, by omega⟩
  refine J_rnG GM_fa (by omega) (by omega) (by omega) 1 _ _ _ _ (fun K9v hK9 => ?_)
  simp (maxSteps := 4000000) only [↓(X_dup (pc' := 20) dX5_init_19 rfl), rn_0, gV_s, ↓pI_c, ↓pII_c, ↓pL_c, ↓pLL_c, ↓pR_c, ↓pRI_c, ↓pRII_c, ↓pRIL_c, ↓pRR_c, ↓pV_c, ↓pVV_c, ↓gI_c, ↓gL_c, ↓gR_c, f2_0, f2_1, nk_n, nk_i, nk_r, ↓reduceIte, r32, r64, Nat.reduceAdd, Nat.reduceSub, Nat.reduceEqDiff, Nat.reduceLT, Nat.reduceLeDiff, Nat.reduceBEq, Int.reduceAdd, Int.reduceSub, Int.reduceMul, Int.reduceNeg, Int.reduceToNat, Int.reduceLE, Int.reduceLT, Int.reduceEq, Int.reduceNatCast', Int.reduceNatCast, Int.natCast_zero, Int.toNat_natCast, Int.toNat_zero, Int.toNat_one, List.length_cons, List.length_nil, true_and, and_true, and_self, true_or, or_true, false_or, or_false, Bool.not_true, Bool.not_false, Nat.lt_add_one, Nat.zero_lt_succ, N0, swL_n, swL_c, List.toList_toArray, false_implies, true_implies, implies_true, forall_const, not_false_eq_true, not_true_eq_false, and_false, false_and]
  simp only [hK9]
  clear hK9 K9v
  have hWb : W0 82 (upR (rng 80 82 R0 Rf) 79 0 (some 80)) M := by repeat (first | exact hW | with_reducible refine W0.up ?_ (by omega) | with_reducible refine W0.ur ?_ (by omega) (by omega) | with_reducible refine W0.mn ?_ (by omega) | with_reducible refine W0.new ?_)
  refine J_callId GM_fa (on_Ladle (d + 1) 82 (Or.inr rfl) hWb) dX5_init_20 k_5_20 (by omega) (Nat.le_of_ble_eq_true rfl) ⟨by omega, by omega⟩ rfl (by simp) rfl ?_ ?_ ?_
  · exact (inW_of (by simp [refs] <;> omega) (by simp [refs] <;> omega))
  · first | decide | (show _ ≤ 1000000; omega)
  have hW : W0 85 (rng 82 85 R0 (upR (rng 80 82 R0 Rf) 79 0 (some 80))) M := by
    have := W0.rg (c := 82) (n' := 85) (f := M) hWb (by omega) (rg_lad (Or.inr rfl))
    rwa [rng_same] at this
  refine J_rnG GM_fa (by omega) (by omega) (by omega) 3 _ _ _ _ (fun K9v hK9 => ?_)
  simp (maxSteps := 4000000) only [↓(X_putR (pc' := 26) fl_5_21 dX5_init_23 rfl), kd_79, ↓(gV_c r0_79_1), kd_82, ↓(X_aload_n (k := 0) (pc' := 27) dX5_init_26 rfl rfl), ↓gR_0, ↓(X_iconst (pc' := 28) dX5_init_27 rfl), rn_0, gV_s, ↓pI_c, ↓pII_c, ↓pL_c, ↓pLL_c, ↓pR_c, ↓pRI_c, ↓pRII_c, ↓pRIL_c, ↓pRR_c, ↓pV_c, ↓pVV_c, ↓gI_c, ↓gL_c, ↓gR_c, f2_0, f2_1, nk_n, nk_i, nk_r, ↓reduceIte, r32, r64, Nat.reduceAdd, Nat.reduceSub, Nat.reduceEqDiff, Nat.reduceLT, Nat.reduceLeDiff, Nat.reduceBEq, Int.reduceAdd, Int.reduceSub, Int.reduceMul, Int.reduceNeg, Int.reduceToNat, Int.reduceLE, Int.reduceLT, Int.reduceEq, Int.reduceNatCast', Int.reduceNatCast, Int.natCast_zero, Int.toNat_natCast, Int.toNat_zero, Int.toNat_one, List.length_cons, List.length_nil, true_and, and_true, and_self, true_or, or_true, false_or, or_false, Bool.not_true, Bool.not_false, Nat.lt_add_one, Nat.zero_lt_succ, N0, swL_n, swL_c, List.toList_toArray, false_implies, true_implies, implies_true, forall_const, not_false_eq_true, not_true_eq_false, and_false, false_and, kd_79]
  simp only [hK9]
  clear hK9 K9v
  refine J_newI (N := 4) GM_fa dX5_init_28 (by decide +kernel) (by decide +kernel) (by decide) ?_ ?_ ?_ ?_ ?_
  · repeat (first | exact hW | with_reducible refine W0.up ?_ (by omega) | with_reducible refine W0.ur ?_ (by omega) (by omega) | with_reducible refine W0.mn ?_ (by omega) | with_reducible refine W0.new ?_)
  · omega
  · exact (inW_of (by simp [refs] <;> omega) (by simp [refs] <;> omega))
  · exact ⟨by omega, by omega⟩
  refine J_rnG GM_fa (by omega) (by omega) (by omega) 3 _ _ _ _ (fun K9v hK9 => ?_)
  simp (maxSteps := 4000000) only [↓(X_putR (pc' := 33) fl_5_25 dX5_init_30 rfl), kd_79, ↓(gV_c r0_79_2), kd_85, ln_85, ↓(X_aload_n (k := 0) (pc' := 34) dX5_init_33 rfl rfl), ↓gR_0, ↓(X_iconst (pc' := 35) dX5_init_34 rfl), rn_0, gV_s, ↓pI_c, ↓pII_c, ↓pL_c, ↓pLL_c, ↓pR_c, ↓pRI_c, ↓pRII_c, ↓pRIL_c, ↓pRR_c, ↓pV_c, ↓pVV_c, ↓gI_c, ↓gL_c, ↓gR_c, f2_0, f2_1, nk_n, nk_i, nk_r, ↓reduceIte, r32, r64, Nat.reduceAdd, Nat.reduceSub, Nat.reduceEqDiff, Nat.reduceLT, Nat.reduceLeDiff, Nat.reduceBEq, Int.reduceAdd, Int.reduceSub, Int.reduceMul, Int.reduceNeg, Int.reduceToNat, Int.reduceLE, Int.reduceLT, Int.reduceEq, Int.reduceNatCast', Int.reduceNatCast, Int.natCast_zero, Int.toNat_natCast, Int.toNat_zero, Int.toNat_one, List.length_cons, List.length_nil, true_and, and_true, and_self, true_or, or_true, false_or, or_false, Bool.not_true, Bool.not_false, Nat.lt_add_one, Nat.zero_lt_succ, N0, swL_n, swL_c, List.toList_toArray, false_implies, true_implies, implies_true, forall_const, not_false_eq_true, not_true_eq_false, and_false, false_and, kd_79]
  simp only [hK9]
  clear hK9 K9v
  refine J_newI (N := 4) GM_fa dX5_init_35 (by decide +kernel) (by decide +kernel) (by decide) ?_ ?_ ?_ ?_ ?_
  · repeat (first | exact hW | with_reducible refine W0.up ?_ (by omega) | with_reducible refine W0.ur ?_ (by omega) (by omega) | with_reducible refine W0.mn ?_ (by omega) | with_reducible refine W0.new ?_)
  · omega
  · exact (inW_of (by simp [refs] <;> omega) (by simp [refs] <;> omega))
  · exact ⟨by omega, by omega⟩
  refine J_rnG GM_fa (by omega) (by omega) (by omega) 3 _ _ _ _ (fun K9v hK9 => ?_)
  simp (maxSteps := 4000000) only [↓(X_putR (pc' := 40) fl_5_29 dX5_init_37 rfl), kd_79, ↓(gV_c r0_79_3), kd_86, ln_86, ↓(X_aload_n (k := 0) (pc' := 41) dX5_init_40 rfl rfl), ↓gR_0, ↓(X_iconst (pc' := 42) dX5_init_41 rfl), rn_0, gV_s, ↓pI_c, ↓pII_c, ↓pL_c, ↓pLL_c, ↓pR_c, ↓pRI_c, ↓pRII_c, ↓pRIL_c, ↓pRR_c, ↓pV_c, ↓pVV_c, ↓gI_c, ↓gL_c, ↓gR_c, f2_0, f2_1, nk_n, nk_i, nk_r, ↓reduceIte, r32, r64, Nat.reduceAdd, Nat.reduceSub, Nat.reduceEqDiff, Nat.reduceLT, Nat.reduceLeDiff, Nat.reduceBEq, Int.reduceAdd, Int.reduceSub, Int.reduceMul, Int.reduceNeg, Int.reduceToNat, Int.reduceLE, Int.reduceLT, Int.reduceEq, Int.reduceNatCast', Int.reduceNatCast, Int.natCast_zero, Int.toNat_natCast, Int.toNat_zero, Int.toNat_one, List.length_cons, List.length_nil, true_and, and_true, and_self, true_or, or_true, false_or, or_false, Bool.not_true, Bool.not_false, Nat.lt_add_one, Nat.zero_lt_succ, N0, swL_n, swL_c, List.toList_toArray, false_implies, true_implies, implies_true, forall_const, not_false_eq_true, not_true_eq_false, and_false, false_and, kd_79]
  simp only [hK9]
  clear hK9 K9v
  refine J_newI (N := 4) GM_fa dX5_init_42 (by decide +kernel) (by decide +kernel) (by decide) ?_ ?_ ?_ ?_ ?_
  · repeat (first | exact hW | with_reducible refine W0.up ?_ (by omega) | with_reducible refine W0.ur ?_ (by omega) (by omega) | with_reducible refine W0.mn ?_ (by omega) | with_reducible refine W0.new ?_)
  · omega
  · exact (inW_of (by simp [refs] <;> omega) (by simp [refs] <;> omega))
  · exact ⟨by omega, by omega⟩
  refine J_rnG GM_fa (by omega) (by omega) (by omega) 3 _ _ _ _ (fun K9v hK9 => ?_)
  simp (maxSteps := 4000000) only [↓(X_putR (pc' := 47) fl_5_32 dX5_init_44 rfl), kd_79, ↓(gV_c r0_79_4), kd_87, ln_87, ↓(X_aload_n (k := 0) (pc' := 48) dX5_init_47 rfl rfl), ↓gR_0, ↓(X_iconst (pc' := 49) dX5_init_48 rfl), rn_0, gV_s, ↓pI_c, ↓pII_c, ↓pL_c, ↓pLL_c, ↓pR_c, ↓pRI_c, ↓pRII_c, ↓pRIL_c, ↓pRR_c, ↓pV_c, ↓pVV_c, ↓gI_c, ↓gL_c, ↓gR_c, f2_0, f2_1, nk_n, nk_i, nk_r, ↓reduceIte, r32, r64, Nat.reduceAdd, Nat.reduceSub, Nat.reduceEqDiff, Nat.reduceLT, Nat.reduceLeDiff, Nat.reduceBEq, Int.reduceAdd, Int.reduceSub, Int.reduceMul, Int.reduceNeg, Int.reduceToNat, Int.reduceLE, Int.reduceLT, Int.reduceEq, Int.reduceNatCast', Int.reduceNatCast, Int.natCast_zero, Int.toNat_natCast, Int.toNat_zero, Int.toNat_one, List.length_cons, List.length_nil, true_and, and_true, and_self, true_or, or_true, false_or, or_false, Bool.not_true, Bool.not_false, Nat.lt_add_one, Nat.zero_lt_succ, N0, swL_n, swL_c, List.toList_toArray, false_implies, true_implies, implies_true, forall_const, not_false_eq_true, not_true_eq_false, and_false, false_and, kd_79]
  simp only [hK9]
  clear hK9 K9v
  refine J_newI (N := 3) GM_fa dX5_init_49 (by decide +kernel) (by decide +kernel) (by decide) ?_ ?_ ?_ ?_ ?_
  · repeat (first | exact hW | with_reducible refine W0.up ?_ (by omega) | with_reducible refine W0.ur ?_ (by omega) (by omega) | with_reducible refine W0.mn ?_ (by omega) | with_reducible refine W0.new ?_)
  · omega
  · exact (inW_of (by simp [refs] <;> omega) (by simp [refs] <;> omega))
  · exact ⟨by omega, by omega⟩
  refine J_rnG GM_fa (by omega) (by omega) (by omega) 1 _ _ _ _ (fun K9v hK9 => ?_)
  simp (maxSteps := 4000000) only [↓(X_putR (pc' := 54) fl_5_35 dX5_init_51 rfl), kd_79, ↓(gV_c r0_79_5), kd_88, ln_88, rn_0, gV_s, ↓pI_c, ↓pII_c, ↓pL_c, ↓pLL_c, ↓pR_c, ↓pRI_c, ↓pRII_c, ↓pRIL_c, ↓pRR_c, ↓pV_c, ↓pVV_c, ↓gI_c, ↓gL_c, ↓gR_c, f2_0, f2_1, nk_n, nk_i, nk_r, ↓reduceIte, r32, r64, Nat.reduceAdd, Nat.reduceSub, Nat.reduceEqDiff, Nat.reduceLT, Nat.reduceLeDiff, Nat.reduceBEq, Int.reduceAdd, Int.reduceSub, Int.reduceMul, Int.reduceNeg, Int.reduceToNat, Int.reduceLE, Int.reduceLT, Int.reduceEq, Int.reduceNatCast', Int.reduceNatCast, Int.natCast_zero, Int.toNat_natCast, Int.toNat_zero, Int.toNat_one, List.length_cons, List.length_nil, true_and, and_true, and_self, true_or, or_true, false_or, or_false, Bool.not_true, Bool.not_false, Nat.lt_add_one, Nat.zero_lt_succ, N0, swL_n, swL_c, List.toList_toArray, false_implies, true_implies, implies_true, forall_const, not_false_eq_true, not_true_eq_false, and_false, false_and, kd_79]
  simp only [hK9]
  clear hK9 K9v
  have e : upR (upR (upR (upR (upR (rng 82 85 R0 (upR (rng 80 82 R0 Rf) 79 0 (some 80))) 79 1 (some 82)) 79 2 (some 85)) 79 3 (some 86)) 79 4 (some 87)) 79 5 (some 88) = rng 79 89 R0 Rf := by
    funext x k
    rcases (show x = 79 ∨ (80 ≤ x ∧ x < 82) ∨ (82 ≤ x ∧ x < 85) ∨ (85 ≤ x ∧ x < 89) ∨ ¬ (79 ≤ x ∧ x < 89) by omega) with q | q | q | q | q
    · subst q
      rw [rng_in (by omega), R0_5 kd_79]
      have hz := (hW9.1 79 k (Nat.le_refl _)).1
      rcases (show k = 0 ∨ k = 1 ∨ k = 2 ∨ k = 3 ∨ k = 4 ∨ k = 5 ∨ 5 < k by omega) with h | h | h | h | h | h | h
      · subst h; simp [upR, rng]
      · subst h; simp [upR, rng]
      · subst h; simp [upR, rng]
      · subst h; simp [upR, rng]
      · subst h; simp [upR, rng]
      · subst h; simp [upR, rng]
      · simp [upR, rng, hz, show k ≠ 0 by omega, show k ≠ 1 by omega, show k ≠ 2 by omega, show k ≠ 3 by omega, show k ≠ 4 by omega, show k ≠ 5 by omega]
    · rw [rng_in (by omega)]
      simp [upR, rng, q.1, q.2, show x ≠ 79 by omega, show ¬ 82 ≤ x by omega]
    · rw [rng_in (by omega)]
      simp [upR, rng, q.1, q.2, show x ≠ 79 by omega]
    · have hk : kd x = 10 := by
        rcases (show x = 85 ∨ x = 86 ∨ x = 87 ∨ x = 88 by omega) with h | h | h | h <;> subst h <;> decide +kernel
      rw [rng_in (by omega), R0_arr (by omega) (Or.inl hk)]
      simp [upR, rng, show x ≠ 79 by omega, show ¬ x < 85 by omega, show ¬ x < 82 by omega, (hW9.1 x k (by omega)).1]
    · rw [rng_out q]
      simp [upR, rng, show x ≠ 79 by omega, show ¬ (82 ≤ x ∧ x < 85) by omega, show ¬ (80 ≤ x ∧ x < 82) by omega]
  rw [e]
  refine J_vret dX5_init_54 rfl (by omega) (by omega) (⟨rfl, rfl⟩)
set_option maxRecDepth 100000 in
set_option maxHeartbeats 4000000 in
theorem on_Plan {Rf : Nat → Nat → Option Nat} {M : Nat → Nat → Int} (d : Nat) (hW9 : W0 89 Rf M) : Ok l D cy (d + 4) 300 3000 yX7_init cX7_init 1 (none) [.inr (.inr (some (89)))] ((90, Rf, M)) (det none (367, rng 89 367 R0 Rf, M)) := by
  refine Ok.intro (o := 7) (ini := true) [some (.inr (.inr (some (89))))] (by decide +kernel) rfl (fun _ => rfl) rfl (Nat.le_of_ble_eq_true rfl) rfl ?_
  have hW := W0.new hW9
  refine J_rnG GM_fa (by omega) (by omega) (by omega) 4 _ _ _ _ (fun K9v hK9 => ?_)
  simp (maxSteps := 4000000) only [↓(X_aload_n (k := 0) (pc' := 1) dX7_init_0 rfl rfl), ↓gR_0, ↓(X_obj (pc' := 4) jd_7_3 dX7_init_1 rfl), ↓(X_aload_n (k := 0) (pc' := 5) dX7_init_4 rfl rfl), ↓(X_bipush (pc' := 7) dX7_init_5 rfl), rn_0, gV_s, ↓pI_c, ↓pII_c, ↓pL_c, ↓pLL_c, ↓pR_c, ↓pRI_c, ↓pRII_c, ↓pRIL_c, ↓pRR_c, ↓pV_c, ↓pVV_c, ↓gI_c, ↓gL_c, ↓gR_c, f2_0, f2_1, nk_n, nk_i, nk_r, ↓reduceIte, r32, r64, Nat.reduceAdd, Nat.reduceSub, Nat.reduceEqDiff, Nat.reduceLT, Nat.reduceLeDiff, Nat.reduceBEq, Int.reduceAdd, Int.reduceSub, Int.reduceMul, Int.reduceNeg, Int.reduceToNat, Int.reduceLE, Int.reduceLT, Int.reduceEq, Int.reduceNatCast', Int.reduceNatCast, Int.natCast_zero, Int.toNat_natCast, Int.toNat_zero, Int.toNat_one, List.length_cons, List.length_nil, true_and, and_true, and_self, true_or, or_true, false_or, or_false, Bool.not_true, Bool.not_false, Nat.lt_add_one, Nat.zero_lt_succ, N0, swL_n, swL_c, List.toList_toArray, false_implies, true_implies, implies_true, forall_const, not_false_eq_true, not_true_eq_false, and_false, false_and]
  simp only [hK9]
  clear hK9 K9v
  refine J_newI (N := 8) GM_fa dX7_init_7 (by decide +kernel) (by decide +kernel) (by decide) ?_ ?_ ?_ ?_ ?_
  · repeat (first | exact hW | with_reducible refine W0.up ?_ (by omega) | with_reducible refine W0.ur ?_ (by omega) (by omega) | with_reducible refine W0.mn ?_ (by omega) | with_reducible refine W0.new ?_)
  · omega
  · exact (inW_of (by simp [refs] <;> omega) (by simp [refs] <;> omega))
  · exact ⟨by omega, by omega⟩
  refine J_rnG GM_fa (by omega) (by omega) (by omega) 4 _ _ _ _ (fun K9v hK9 => ?_)
  simp (maxSteps := 4000000) only [↓(X_putR (pc' := 12) fl_7_9 dX7_init_9 rfl), kd_89, ↓(gV_c r0_89_0), kd_90, ln_90, ↓(X_aload_n (k := 0) (pc' := 13) dX7_init_12 rfl rfl), ↓gR_0, ↓(X_bipush (pc' := 15) dX7_init_13 rfl), ↓(X_iconst (pc' := 16) dX7_init_15 rfl), rn_0, gV_s, ↓pI_c, ↓pII_c, ↓pL_c, ↓pLL_c, ↓pR_c, ↓pRI_c, ↓pRII_c, ↓pRIL_c, ↓pRR_c, ↓pV_c, ↓pVV_c, ↓gI_c, ↓gL_c, ↓gR_c, f2_0, f2_1, nk_n, nk_i, nk_r, ↓reduceIte, r32, r64, Nat.reduceAdd, Nat.reduceSub, Nat.reduceEqDiff, Nat.reduceLT, Nat.reduceLeDiff, Nat.reduceBEq, Int.reduceAdd, Int.reduceSub, Int.reduceMul, Int.reduceNeg, Int.reduceToNat, Int.reduceLE, Int.reduceLT, Int.reduceEq, Int.reduceNatCast', Int.reduceNatCast, Int.natCast_zero, Int.toNat_natCast, Int.toNat_zero, Int.toNat_one, List.length_cons, List.length_nil, true_and, and_true, and_self, true_or, or_true, false_or, or_false, Bool.not_true, Bool.not_false, Nat.lt_add_one, Nat.zero_lt_succ, N0, swL_n, swL_c, List.toList_toArray, false_implies, true_implies, implies_true, forall_const, not_false_eq_true, not_true_eq_false, and_false, false_and, kd_89]
  simp only [hK9]
  clear hK9 K9v
  refine J_mna (N := 8) (K := 3) GM_fa dX7_init_16 mk_7_15 (by decide +kernel) (by decide +kernel) (by decide +kernel) (by decide) (by decide) ?_ ?_ ?_ ?_ ?_
  · repeat (first | exact hW | with_reducible refine W0.up ?_ (by omega) | with_reducible refine W0.ur ?_ (by omega) (by omega) | with_reducible refine W0.mn ?_ (by omega) | with_reducible refine W0.new ?_)
  · omega
  · exact (inW_of (by simp [refs] <;> omega) (by simp [refs] <;> omega))
  · exact ⟨by omega, by omega⟩
  refine J_rnG GM_fa (by omega) (by omega) (by omega) 4 _ _ _ _ (fun K9v hK9 => ?_)
  simp (maxSteps := 4000000) only [↓(X_putR (pc' := 23) fl_7_17 dX7_init_20 rfl), kd_89, ↓(gV_c r0_89_1), kd_91, ln_91, ↓(X_aload_n (k := 0) (pc' := 24) dX7_init_23 rfl rfl), ↓gR_0, ↓(X_bipush (pc' := 26) dX7_init_24 rfl), ↓(X_bipush (pc' := 28) dX7_init_26 rfl), rn_0, gV_s, ↓pI_c, ↓pII_c, ↓pL_c, ↓pLL_c, ↓pR_c, ↓pRI_c, ↓pRII_c, ↓pRIL_c, ↓pRR_c, ↓pV_c, ↓pVV_c, ↓gI_c, ↓gL_c, ↓gR_c, f2_0, f2_1, nk_n, nk_i, nk_r, ↓reduceIte, r32, r64, Nat.reduceAdd, Nat.reduceSub, Nat.reduceEqDiff, Nat.reduceLT, Nat.reduceLeDiff, Nat.reduceBEq, Int.reduceAdd, Int.reduceSub, Int.reduceMul, Int.reduceNeg, Int.reduceToNat, Int.reduceLE, Int.reduceLT, Int.reduceEq, Int.reduceNatCast', Int.reduceNatCast, Int.natCast_zero, Int.toNat_natCast, Int.toNat_zero, Int.toNat_one, List.length_cons, List.length_nil, true_and, and_true, and_self, true_or, or_true, false_or, or_false, Bool.not_true, Bool.not_false, Nat.lt_add_one, Nat.zero_lt_succ, N0, swL_n, swL_c, List.toList_toArray, false_implies, true_implies, implies_true, forall_const, not_false_eq_true, not_true_eq_false, and_false, false_and, kd_89]
  simp only [hK9]
  clear hK9 K9v
  refine J_mna (N := 9) (K := 8) GM_fa dX7_init_28 mk_7_15 (by decide +kernel) (by decide +kernel) (by decide +kernel) (by decide) (by decide) ?_ ?_ ?_ ?_ ?_
  · repeat (first | exact hW | with_reducible refine W0.up ?_ (by omega) | with_reducible refine W0.ur ?_ (by omega) (by omega) | with_reducible refine W0.mn ?_ (by omega) | with_reducible refine W0.new ?_)
  · omega
  · exact (inW_of (by simp [refs] <;> omega) (by simp [refs] <;> omega))
  · exact ⟨by omega, by omega⟩
  refine J_rnG GM_fa (by omega) (by omega) (by omega) 4 _ _ _ _ (fun K9v hK9 => ?_)
  simp (maxSteps := 4000000) only [↓(X_putR (pc' := 35) fl_7_20 dX7_init_32 rfl), kd_89, ↓(gV_c r0_89_2), kd_100, ln_100, ↓(X_aload_n (k := 0) (pc' := 36) dX7_init_35 rfl rfl), ↓gR_0, ↓(X_sipush (pc' := 39) dX7_init_36 rfl), ↓(X_bipush (pc' := 41) dX7_init_39 rfl), rn_0, gV_s, ↓pI_c, ↓pII_c, ↓pL_c, ↓pLL_c, ↓pR_c, ↓pRI_c, ↓pRII_c, ↓pRIL_c, ↓pRR_c, ↓pV_c, ↓pVV_c, ↓gI_c, ↓gL_c, ↓gR_c, f2_0, f2_1, nk_n, nk_i, nk_r, ↓reduceIte, r32, r64, Nat.reduceAdd, Nat.reduceSub, Nat.reduceEqDiff, Nat.reduceLT, Nat.reduceLeDiff, Nat.reduceBEq, Int.reduceAdd, Int.reduceSub, Int.reduceMul, Int.reduceNeg, Int.reduceToNat, Int.reduceLE, Int.reduceLT, Int.reduceEq, Int.reduceNatCast', Int.reduceNatCast, Int.natCast_zero, Int.toNat_natCast, Int.toNat_zero, Int.toNat_one, List.length_cons, List.length_nil, true_and, and_true, and_self, true_or, or_true, false_or, or_false, Bool.not_true, Bool.not_false, Nat.lt_add_one, Nat.zero_lt_succ, N0, swL_n, swL_c, List.toList_toArray, false_implies, true_implies, implies_true, forall_const, not_false_eq_true, not_true_eq_false, and_false, false_and, kd_89]
  simp only [hK9]
  clear hK9 K9v
  refine J_mna (N := 256) (K := 9) GM_fa dX7_init_41 mk_7_15 (by decide +kernel) (by decide +kernel) (by decide +kernel) (by decide) (by decide) ?_ ?_ ?_ ?_ ?_
  · repeat (first | exact hW | with_reducible refine W0.up ?_ (by omega) | with_reducible refine W0.ur ?_ (by omega) (by omega) | with_reducible refine W0.mn ?_ (by omega) | with_reducible refine W0.new ?_)
  · omega
  · exact (inW_of (by simp [refs] <;> omega) (by simp [refs] <;> omega))
  · exact ⟨by omega, by omega⟩
  refine J_rnG GM_fa (by omega) (by omega) (by omega) 1 _ _ _ _ (fun K9v hK9 => ?_)
  simp (maxSteps := 4000000) only [↓(X_putR (pc' := 48) fl_7_23 dX7_init_45 rfl), kd_89, ↓(gV_c r0_89_3), kd_110, ln_110, rn_0, gV_s, ↓pI_c, ↓pII_c, ↓pL_c, ↓pLL_c, ↓pR_c, ↓pRI_c, ↓pRII_c, ↓pRIL_c, ↓pRR_c, ↓pV_c, ↓pVV_c, ↓gI_c, ↓gL_c, ↓gR_c, f2_0, f2_1, nk_n, nk_i, nk_r, ↓reduceIte, r32, r64, Nat.reduceAdd, Nat.reduceSub, Nat.reduceEqDiff, Nat.reduceLT, Nat.reduceLeDiff, Nat.reduceBEq, Int.reduceAdd, Int.reduceSub, Int.reduceMul, Int.reduceNeg, Int.reduceToNat, Int.reduceLE, Int.reduceLT, Int.reduceEq, Int.reduceNatCast', Int.reduceNatCast, Int.natCast_zero, Int.toNat_natCast, Int.toNat_zero, Int.toNat_one, List.length_cons, List.length_nil, true_and, and_true, and_self, true_or, or_true, false_or, or_false, Bool.not_true, Bool.not_false, Nat.lt_add_one, Nat.zero_lt_succ, N0, swL_n, swL_c, List.toList_toArray, false_implies, true_implies, implies_true, forall_const, not_false_eq_true, not_true_eq_false, and_false, false_and, kd_89]
  simp only [hK9]
  clear hK9 K9v
  have e : upR (upM (upR (upM (upR (upM (upR Rf 89 0 (some 90)) 91 8) 89 1 (some 91)) 100 9) 89 2 (some 100)) 110 256) 89 3 (some 110) = rng 89 367 R0 Rf := by
    funext x k
    rcases (show x = 89 ∨ x = 91 ∨ x = 100 ∨ x = 110 ∨ (90 ≤ x ∧ x < 367 ∧ x ≠ 91 ∧ x ≠ 100 ∧ x ≠ 110) ∨ ¬ (89 ≤ x ∧ x < 367) by omega) with q | q | q | q | q | q
    · subst q
      rw [rng_in (by omega), R0_7 kd_89]
      have hz := (hW9.1 89 k (Nat.le_refl _)).1
      rcases (show k = 0 ∨ k = 1 ∨ k = 2 ∨ k = 3 ∨ 3 < k by omega) with h | h | h | h | h
      · subst h; simp [upR, upM]
      · subst h; simp [upR, upM]
      · subst h; simp [upR, upM]
      · subst h; simp [upR, upM]
      · simp [upR, upM, hz, show k ≠ 0 by omega, show k ≠ 1 by omega, show k ≠ 2 by omega, show k ≠ 3 by omega]
    · subst q
      rw [rng_in (by omega), R0_91]
      simp [upR, upM, (hW9.1 91 k (by omega)).1]
    · subst q
      rw [rng_in (by omega), R0_100]
      simp [upR, upM, (hW9.1 100 k (by omega)).1]
    · subst q
      rw [rng_in (by omega), R0_110]
      simp [upR, upM, (hW9.1 110 k (by omega)).1]
    · obtain ⟨q1, q2, q3, q4, q5⟩ := q
      rw [rng_in (by omega), R0_arr (by omega) (Or.inl (k10_pl x q2 q1 q3 q4 q5))]
      simp [upR, upM, q3, q4, q5, show x ≠ 89 by omega, (hW9.1 x k (by omega)).1]
    · rw [rng_out q]
      simp [upR, upM, show x ≠ 89 by omega, show x ≠ 91 by omega, show x ≠ 100 by omega, show x ≠ 110 by omega]
  rw [e]
  refine J_vret dX7_init_48 rfl (by omega) (by omega) (⟨rfl, rfl⟩)
end MK2
