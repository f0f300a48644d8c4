/-! THE LAW'S START: the class and the model are made -/
theorem getD_b {B : Nat} : ∀ (l : List (Option Nat)) (k r : Nat), (∀ o ∈ l, o.all (fun q => decide (q < B)) = true) → l.getD k none = some r → r < B
  | [], k, r, _, h => by simp at h
  | o :: t, 0, r, h, e => by
    have e2 : o = some r := e
    have := h o List.mem_cons_self
    rw [e2] at this
    simpa using this
  | o :: t, k + 1, r, h, e => getD_b t k r (fun o ho => h o (List.mem_cons_of_mem _ ho)) e
theorem kd_hi {x : Nat} (hx : 448 ≤ x) : kd x = 10 ∨ kd x = 11 := by
  unfold kd
  rw [if_neg (by omega), if_neg (by omega), if_neg (by omega), if_neg (by omega), if_neg (by omega), if_neg (by omega)]
  split
  · exact Or.inr rfl
  · exact Or.inl rfl
theorem R0_hi {x k : Nat} (hx : 448 ≤ x) : R0 x k = none := by
  have n2 : x ≠ 2 := by omega
  have n3 : x ≠ 91 := by omega
  have n4 : x ≠ 100 := by omega
  have n5 : x ≠ 110 := by omega
  rcases kd_hi hx with h | h <;> simp [R0, h, n2, n3, n4, n5]
theorem rg_k : ∀ x, x < 447 → (kd x = 0 → x + 1 < 447) ∧ (kd x = 1 → x + 3 < 447) ∧ (kd x = 2 → x + 2 < 447) ∧ (kd x = 3 → x + 1 < 447) ∧ (kd x = 4 → x + 1 < 447) ∧ kd x ≠ 9 := by decide +kernel
theorem rg_all : ∀ x k r, 0 ≤ x → x < 447 → R0 x k = some r → r < 447 := by
  intro x k r _ hx h
  obtain ⟨k0, k1, k2, k3, k4, k9⟩ := rg_k x hx
  unfold R0 at h
  by_cases q : kd x = 0
  · rw [if_pos q] at h
    have := k0 q
    by_cases y : k = 0
    · rw [if_pos y] at h; cases h; omega
    rw [if_neg y] at h
    clear y
    cases h
  rw [if_neg q] at h
  clear q
  by_cases q : kd x = 1
  · rw [if_pos q] at h
    have := k1 q
    by_cases y : k = 0
    · rw [if_pos y] at h; cases h; omega
    rw [if_neg y] at h
    clear y
    by_cases y : k = 1
    · rw [if_pos y] at h; cases h; omega
    rw [if_neg y] at h
    clear y
    by_cases y : k = 2
    · rw [if_pos y] at h; cases h; omega
    rw [if_neg y] at h
    clear y
    cases h
  rw [if_neg q] at h
  clear q
  by_cases q : kd x = 2
  · rw [if_pos q] at h
    have := k2 q
    by_cases y : k = 0
    · rw [if_pos y] at h; cases h; omega
    rw [if_neg y] at h
    clear y
    by_cases y : k = 1
    · rw [if_pos y] at h; cases h; omega
    rw [if_neg y] at h
    clear y
    cases h
  rw [if_neg q] at h
  clear q
  by_cases q : kd x = 3
  · rw [if_pos q] at h
    have := k3 q
    by_cases y : k = 0
    · rw [if_pos y] at h; cases h; omega
    rw [if_neg y] at h
    clear y
    cases h
  rw [if_neg q] at h
  clear q
  by_cases q : kd x = 4
  · rw [if_pos q] at h
    have := k4 q
    by_cases y : k = 0
    · rw [if_pos y] at h; cases h; omega
    rw [if_neg y] at h
    clear y
    cases h
  rw [if_neg q] at h
  clear q
  by_cases q : kd x = 5
  · rw [if_pos q] at h
    exact getD_b _ k r (by decide) h
  rw [if_neg q] at h
  clear q
  by_cases q : kd x = 6
  · rw [if_pos q] at h
    exact getD_b _ k r (by decide) h
  rw [if_neg q] at h
  clear q
  by_cases q : kd x = 7
  · rw [if_pos q] at h
    exact getD_b _ k r (by decide) h
  rw [if_neg q] at h
  clear q
  by_cases q : kd x = 8
  · rw [if_pos q] at h
    exact getD_b _ k r (by decide) h
  rw [if_neg q] at h
  clear q
  by_cases q : kd x = 9
  · rw [if_pos q] at h
    exact absurd q k9
  rw [if_neg q] at h
  clear q
  by_cases q : kd x = 12
  · rw [if_pos q] at h
    by_cases y : k < 30
    · rw [if_pos y] at h; cases h; omega
    · rw [if_neg y] at h; cases h
  rw [if_neg q] at h
  clear q
  by_cases q : kd x = 13
  · rw [if_pos q] at h
    by_cases y : k < 16
    · rw [if_pos y] at h; cases h; omega
    · rw [if_neg y] at h; cases h
  rw [if_neg q] at h
  clear q
  by_cases q : x = 2
  · rw [if_pos q] at h
    by_cases y : k < 4
    · rw [if_pos y] at h; cases h; omega
    · rw [if_neg y] at h; cases h
  rw [if_neg q] at h
  clear q
  by_cases q : x = 91
  · rw [if_pos q] at h
    by_cases y : k < 8
    · rw [if_pos y] at h; cases h; omega
    · rw [if_neg y] at h; cases h
  rw [if_neg q] at h
  clear q
  by_cases q : x = 100
  · rw [if_pos q] at h
    by_cases y : k < 9
    · rw [if_pos y] at h; cases h; omega
    · rw [if_neg y] at h; cases h
  rw [if_neg q] at h
  clear q
  by_cases q : x = 110
  · rw [if_pos q] at h
    by_cases y : k < 256
    · rw [if_pos y] at h; cases h; omega
    · rw [if_neg y] at h; cases h
  rw [if_neg q] at h
  clear q
  cases h
theorem rg_mod : ∀ x k r, 447 ≤ x → x < 467 → R0 x k = some r → r < 467 := by
  intro x k r h1 h2 h
  rcases (show x = 447 ∨ 448 ≤ x by omega) with e | e
  · rw [e, R0_447] at h
    exact getD_b _ k r (by decide) h
  · rw [R0_hi e] at h
    cases h
section START
variable {l : Launch} {D : va_G} {cy : Nat → ClassId} {b L : Nat} {xs : Nat → Int32}
theorem W0_0 : W0 0 (fun _ _ => none) (fun _ _ => 0) := ⟨fun _ _ _ => ⟨rfl, rfl⟩, fun c k r hc => by omega⟩
theorem W0_1 : W0 447 (rng 0 447 R0 (fun _ _ => none)) (rng 0 447 M0 (fun _ _ => 0)) := W0.rg W0_0 (by omega) rg_all
theorem W0_2 : W0 467 (rng 447 467 R0 (rng 0 447 R0 (fun _ _ => none))) (rng 447 467 M0 (rng 0 447 M0 (fun _ _ => 0))) := W0.rg W0_1 (by omega) rg_mod
theorem R0_made : rng 447 467 R0 (rng 0 447 R0 (fun _ _ => none)) = R0 := by
  funext x k
  unfold rng
  split
  · rfl
  · split
    · rfl
    · exact (R0_hi (by omega)).symm
theorem M0_made : rng 447 467 M0 (rng 0 447 M0 (fun _ _ => 0)) = M0 := by
  funext x k
  unfold rng
  split
  · rfl
  · split
    · rfl
    · exact (M0_z (by omega)).symm
set_option maxRecDepth 100000 in
set_option maxHeartbeats 4000000 in
theorem J_start (hl9 : l.stackTraces = false) (hL : L ≤ 3072) : J l D cy (GL l D cy b L xs) 0 [some (.inr (.inr (some 1000000))), none, none, none, none, none, none] [] (0, fun _ _ => none, fun _ _ => 0) 0 0 := by
  have hW := W0_0
  refine J_newc (w := 11) GL_fa dL_law_0 nk_10_8 (by decide +kernel) rfl ?_ ?_ ?_ ?_ ?_
  · repeat (first | exact hW | with_reducible refine W0.up ?_ (by omega) | with_reducible refine W0.ur ?_ (by omega) (by omega) | with_reducible refine W0.mn ?_ (by omega) | with_reducible refine W0.new ?_)
  · omega
  · exact (inW_of (by simp [refs] <;> omega) (by simp [refs] <;> omega))
  · exact ⟨by omega, by omega⟩
  refine J_rnG GL_fa (by omega) (by omega) (by omega) 1 _ _ _ _ (fun K9v hK9 => ?_)
  simp (maxSteps := 4000000) only [↓(X_dup (pc' := 4) dL_law_3 rfl), rn_0, gV_s, ↓pI_c, ↓pII_c, ↓pL_c, ↓pLL_c, ↓pR_c, ↓pRI_c, ↓pRII_c, ↓pRIL_c, ↓pRR_c, ↓pV_c, ↓pVV_c, ↓gI_c, ↓gL_c, ↓gR_c, f2_0, f2_1, nk_n, nk_i, nk_r, ↓reduceIte, r32, r64, Nat.reduceAdd, Nat.reduceSub, Nat.reduceEqDiff, Nat.reduceLT, Nat.reduceLeDiff, Nat.reduceBEq, Int.reduceAdd, Int.reduceSub, Int.reduceMul, Int.reduceNeg, Int.reduceToNat, Int.reduceLE, Int.reduceLT, Int.reduceEq, Int.reduceNatCast', Int.reduceNatCast, Int.natCast_zero, Int.toNat_natCast, Int.toNat_zero, Int.toNat_one, List.length_cons, List.length_nil, true_and, and_true, and_self, true_or, or_true, false_or, or_false, Bool.not_true, Bool.not_false, Nat.lt_add_one, Nat.zero_lt_succ, N0, swL_n, swL_c, List.toList_toArray, false_implies, true_implies, implies_true, forall_const, not_false_eq_true, not_true_eq_false, and_false, false_and]
  simp only [hK9]
  clear hK9 K9v
  refine J_callId GL_fa (on_Kitchen 0 hW) dL_law_4 k_10_60 (by omega) (Nat.le_of_ble_eq_true rfl) ⟨by omega, by omega⟩ rfl (by simp) rfl ?_ ?_ ?_
  · exact (inW_of (by simp [refs] <;> omega) (by simp [refs] <;> omega))
  · first | decide | (show _ ≤ 1000000; omega)
  refine J_rnG GL_fa (by omega) (by omega) (by omega) 1 _ _ _ _ (fun K9v hK9 => ?_)
  simp (maxSteps := 4000000) only [↓(X_astore_n (k := 1) (pc' := 8) dL_law_7 rfl rfl), ↓sto_1, rn_0, gV_s, ↓pI_c, ↓pII_c, ↓pL_c, ↓pLL_c, ↓pR_c, ↓pRI_c, ↓pRII_c, ↓pRIL_c, ↓pRR_c, ↓pV_c, ↓pVV_c, ↓gI_c, ↓gL_c, ↓gR_c, f2_0, f2_1, nk_n, nk_i, nk_r, ↓reduceIte, r32, r64, Nat.reduceAdd, Nat.reduceSub, Nat.reduceEqDiff, Nat.reduceLT, Nat.reduceLeDiff, Nat.reduceBEq, Int.reduceAdd, Int.reduceSub, Int.reduceMul, Int.reduceNeg, Int.reduceToNat, Int.reduceLE, Int.reduceLT, Int.reduceEq, Int.reduceNatCast', Int.reduceNatCast, Int.natCast_zero, Int.toNat_natCast, Int.toNat_zero, Int.toNat_one, List.length_cons, List.length_nil, true_and, and_true, and_self, true_or, or_true, false_or, or_false, Bool.not_true, Bool.not_false, Nat.lt_add_one, Nat.zero_lt_succ, N0, swL_n, swL_c, List.toList_toArray, false_implies, true_implies, implies_true, forall_const, not_false_eq_true, not_true_eq_false, and_false, false_and]
  simp only [hK9]
  clear hK9 K9v
  clear hW
  have hW := W0_1
  refine J_newc (w := 27) GL_fa dL_law_8 nk_10_61 (by decide +kernel) rfl ?_ ?_ ?_ ?_ ?_
  · repeat (first | exact hW | with_reducible refine W0.up ?_ (by omega) | with_reducible refine W0.ur ?_ (by omega) (by omega) | with_reducible refine W0.mn ?_ (by omega) | with_reducible refine W0.new ?_)
  · omega
  · exact (inW_of (by simp [refs] <;> omega) (by simp [refs] <;> omega))
  · exact ⟨by omega, by omega⟩
  refine J_rnG GL_fa (by omega) (by omega) (by omega) 1 _ _ _ _ (fun K9v hK9 => ?_)
  simp (maxSteps := 4000000) only [↓(X_dup (pc' := 12) dL_law_11 rfl), rn_0, gV_s, ↓pI_c, ↓pII_c, ↓pL_c, ↓pLL_c, ↓pR_c, ↓pRI_c, ↓pRII_c, ↓pRIL_c, ↓pRR_c, ↓pV_c, ↓pVV_c, ↓gI_c, ↓gL_c, ↓gR_c, f2_0, f2_1, nk_n, nk_i, nk_r, ↓reduceIte, r32, r64, Nat.reduceAdd, Nat.reduceSub, Nat.reduceEqDiff, Nat.reduceLT, Nat.reduceLeDiff, Nat.reduceBEq, Int.reduceAdd, Int.reduceSub, Int.reduceMul, Int.reduceNeg, Int.reduceToNat, Int.reduceLE, Int.reduceLT, Int.reduceEq, Int.reduceNatCast', Int.reduceNatCast, Int.natCast_zero, Int.toNat_natCast, Int.toNat_zero, Int.toNat_one, List.length_cons, List.length_nil, true_and, and_true, and_self, true_or, or_true, false_or, or_false, Bool.not_true, Bool.not_false, Nat.lt_add_one, Nat.zero_lt_succ, N0, swL_n, swL_c, List.toList_toArray, false_implies, true_implies, implies_true, forall_const, not_false_eq_true, not_true_eq_false, and_false, false_and]
  simp only [hK9]
  clear hK9 K9v
  refine J_callId GL_fa (on_Model 0 hW) dL_law_12 k_10_63 (by omega) (Nat.le_of_ble_eq_true rfl) ⟨by omega, by omega⟩ rfl (by simp) rfl ?_ ?_ ?_
  · exact (inW_of (by simp [refs] <;> omega) (by simp [refs] <;> omega))
  · first | decide | (show _ ≤ 1000000; omega)
  refine J_rnG GL_fa (by omega) (by omega) (by omega) 2 _ _ _ _ (fun K9v hK9 => ?_)
  simp (maxSteps := 4000000) only [↓(X_astore_n (k := 2) (pc' := 16) dL_law_15 rfl rfl), ↓sto_2, ↓(X_iconst (pc' := 17) dL_law_16 rfl), rn_0, gV_s, ↓pI_c, ↓pII_c, ↓pL_c, ↓pLL_c, ↓pR_c, ↓pRI_c, ↓pRII_c, ↓pRIL_c, ↓pRR_c, ↓pV_c, ↓pVV_c, ↓gI_c, ↓gL_c, ↓gR_c, f2_0, f2_1, nk_n, nk_i, nk_r, ↓reduceIte, r32, r64, Nat.reduceAdd, Nat.reduceSub, Nat.reduceEqDiff, Nat.reduceLT, Nat.reduceLeDiff, Nat.reduceBEq, Int.reduceAdd, Int.reduceSub, Int.reduceMul, Int.reduceNeg, Int.reduceToNat, Int.reduceLE, Int.reduceLT, Int.reduceEq, Int.reduceNatCast', Int.reduceNatCast, Int.natCast_zero, Int.toNat_natCast, Int.toNat_zero, Int.toNat_one, List.length_cons, List.length_nil, true_and, and_true, and_self, true_or, or_true, false_or, or_false, Bool.not_true, Bool.not_false, Nat.lt_add_one, Nat.zero_lt_succ, N0, swL_n, swL_c, List.toList_toArray, false_implies, true_implies, implies_true, forall_const, not_false_eq_true, not_true_eq_false, and_false, false_and]
  simp only [hK9]
  clear hK9 K9v
  clear hW
  have hW := W0_2
  refine J_newL (N := 1) GL_fa dL_law_17 (by decide +kernel) (by decide +kernel) (by decide) ?_ ?_ ?_ ?_ ?_
  · repeat (first | exact hW | with_reducible refine W0.up ?_ (by omega) | with_reducible refine W0.ur ?_ (by omega) (by omega) | with_reducible refine W0.mn ?_ (by omega) | with_reducible refine W0.new ?_)
  · omega
  · exact (inW_of (by simp [refs] <;> omega) (by simp [refs] <;> omega))
  · exact ⟨by omega, by omega⟩
  rw [R0_made, M0_made]
  refine J_rnG GL_fa (by omega) (by omega) (by omega) 3 _ _ _ _ (fun K9v hK9 => ?_)
  simp (maxSteps := 4000000) only [↓(X_astore_n (k := 3) (pc' := 20) dL_law_19 rfl rfl), ↓sto_3, ↓(X_iconst (pc' := 21) dL_law_20 rfl), ↓(X_istore (pc' := 23) dL_law_21 rfl), ↓sto_4, rn_0, gV_s, ↓pI_c, ↓pII_c, ↓pL_c, ↓pLL_c, ↓pR_c, ↓pRI_c, ↓pRII_c, ↓pRIL_c, ↓pRR_c, ↓pV_c, ↓pVV_c, ↓gI_c, ↓gL_c, ↓gR_c, f2_0, f2_1, nk_n, nk_i, nk_r, ↓reduceIte, r32, r64, Nat.reduceAdd, Nat.reduceSub, Nat.reduceEqDiff, Nat.reduceLT, Nat.reduceLeDiff, Nat.reduceBEq, Int.reduceAdd, Int.reduceSub, Int.reduceMul, Int.reduceNeg, Int.reduceToNat, Int.reduceLE, Int.reduceLT, Int.reduceEq, Int.reduceNatCast', Int.reduceNatCast, Int.natCast_zero, Int.toNat_natCast, Int.toNat_zero, Int.toNat_one, List.length_cons, List.length_nil, true_and, and_true, and_self, true_or, or_true, false_or, or_false, Bool.not_true, Bool.not_false, Nat.lt_add_one, Nat.zero_lt_succ, N0, swL_n, swL_c, List.toList_toArray, false_implies, true_implies, implies_true, forall_const, not_false_eq_true, not_true_eq_false, and_false, false_and]
  simp only [hK9]
  clear hK9 K9v
  exact lp_law hl9 hL 512 0 M0 0 0 _ _ none none Inv_0 (by omega) (by omega) (by omega) (by omega)
end START
