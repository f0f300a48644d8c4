/-! the search for a recipe: one candidate -/
def wpC (C : Nat → Nat → Int) (m : Nat → Int) (p : Nat) : Int := m 0 * C 0 p + m 1 * C 1 p + m 2 * C 2 p + m 3 * C 3 p
theorem wpart_wpC {M : Nat → Nat → Int} {m : Nat → Int} {p : Nat} : wpart M m p = wpC (fun b => M (3 + b)) m p := rfl
/-- how far a part of a trial is from the part wanted -/
def gpC (C : Nat → Nat → Int) (W : Nat → Int) (u : Int) (TP : Nat → Int) (tri : Nat → Int) (p : Nat) : Int := (((TP p + u * wpC C tri p) / (u * 10) - W p).natAbs : Int)
def gapC (C : Nat → Nat → Int) (W : Nat → Int) (u : Int) (TP : Nat → Int) (tri : Nat → Int) : Int := gpC C W u TP tri 0 + gpC C W u TP tri 1 + gpC C W u TP tri 2
/-- the bases' colours are parts -/
def okC (C : Nat → Nat → Int) : Prop := ∀ b, b < 4 → col3 (C b)
def tri4 (t : Nat → Int) : Prop := 0 ≤ t 0 ∧ 0 ≤ t 1 ∧ 0 ≤ t 2 ∧ 0 ≤ t 3 ∧ t 0 + t 1 + t 2 + t 3 ≤ 10
/-- a weighed part is between 0 and 100 times the weight -/
theorem wpC_bd {C : Nat → Nat → Int} (hC : okC C) {m : Nat → Int} (h0 : 0 ≤ m 0) (h1 : 0 ≤ m 1) (h2 : 0 ≤ m 2) (h3 : 0 ≤ m 3) {p : Nat} (hp : p < 3) : 0 ≤ wpC C m p ∧ wpC C m p ≤ 100 * wt m := by
  have hc : ∀ b, b < 4 → 0 ≤ C b p ∧ C b p ≤ 100 := fun b hb => by
    obtain ⟨x, y, z⟩ := hC b hb
    rcases (show p = 0 ∨ p = 1 ∨ p = 2 by omega) with rfl | rfl | rfl <;> assumption
  have c0 := hc 0 (by omega)
  have c1 := hc 1 (by omega)
  have c2 := hc 2 (by omega)
  have c3 := hc 3 (by omega)
  have k0 := Int.mul_le_mul_of_nonneg_left c0.2 h0
  have k1 := Int.mul_le_mul_of_nonneg_left c1.2 h1
  have k2 := Int.mul_le_mul_of_nonneg_left c2.2 h2
  have k3 := Int.mul_le_mul_of_nonneg_left c3.2 h3
  have n0 := Int.mul_nonneg h0 c0.1
  have n1 := Int.mul_nonneg h1 c1.1
  have n2 := Int.mul_nonneg h2 c2.1
  have n3 := Int.mul_nonneg h3 c3.1
  simp only [wpC, wt]
  omega
section C4
variable {l : Launch} {D : va_G} {cy : Nat → ClassId}
set_option maxRecDepth 100000 in
set_option maxHeartbeats 4000000 in
theorem ok_countTenths {M : Nat → Nat → Int} (d i : Nat) (hi : i < 16) (hg : 10 ≤ M (367 + 5 * i) 3 ∧ M (367 + 5 * i) 3 ≤ 500) (hs : ∀ b, b < 4 → 0 ≤ M 8 b ∧ M 8 b ≤ 100000000) : Ok l D cy (d + 3) 0 0 yX5_countTenths cX5_countTenths 5 (none) [.inr (.inr (some (79))), .inr (.inr (some (367 + 5 * i))), .inr (.inr (some (7)))] (N0, R0, M) (fun o ν => o = .inl none ∧ ∃ M2 : Nat → Nat → Int, ν = (N0, R0, M2) ∧ (∀ x, x ≠ 86 → M2 x = M x) ∧ ∀ b, b < 4 → M2 86 b = M 8 b / (M (367 + 5 * i) 3 / 10 * 1000)) := by
  refine Ok.intro (o := 5) (ini := false) [some (.inr (.inr (some (79)))), some (.inr (.inr (some (367 + 5 * i)))), some (.inr (.inr (some (7)))), none, none] (by decide +kernel) rfl (fun h => by cases h) rfl (Nat.le_of_ble_eq_true rfl) rfl ?_
  obtain ⟨a1, -⟩ := job_at i hi
  have s0 : 0 ≤ M 8 0 ∧ M 8 0 ≤ 2147483647 := by have := hs 0 (by omega); omega
  have s1 : 0 ≤ M 8 1 ∧ M 8 1 ≤ 2147483647 := by have := hs 1 (by omega); omega
  have s2 : 0 ≤ M 8 2 ∧ M 8 2 ≤ 2147483647 := by have := hs 2 (by omega); omega
  have s3 : 0 ≤ M 8 3 ∧ M 8 3 ≤ 2147483647 := by have := hs 3 (by omega); omega
  refine J_rnG GM_fa (by omega) (by omega) (by omega) 1 _ _ _ _ (fun K9v hK9 => ?_)
  simp (maxSteps := 4000000) only [↓(X_aload_n (k := 1) (pc' := 1) dX5_countTenths_0 rfl rfl), ↓gR_1, rn_0, gV_s, ↓pI_c, ↓pII_c, ↓pL_c, ↓pLL_c, ↓pR_c, ↓pRI_c, ↓pRII_c, ↓pRIL_c, ↓pRR_c, ↓pV_c, ↓pVV_c, ↓gI_c, ↓gL_c, ↓gR_c, f2_0, f2_1, nk_n, nk_i, nk_r, ↓reduceIte, r32, r64, Nat.reduceAdd, Nat.reduceSub, Nat.reduceEqDiff, Nat.reduceLT, Nat.reduceLeDiff, Nat.reduceBEq, Int.reduceAdd, Int.reduceSub, Int.reduceMul, Int.reduceNeg, Int.reduceToNat, Int.reduceLE, Int.reduceLT, Int.reduceEq, Int.reduceNatCast', Int.reduceNatCast, Int.natCast_zero, Int.toNat_natCast, Int.toNat_zero, Int.toNat_one, List.length_cons, List.length_nil, true_and, and_true, and_self, true_or, or_true, false_or, or_false, Bool.not_true, Bool.not_false, Nat.lt_add_one, Nat.zero_lt_succ, N0, swL_n, swL_c, List.toList_toArray, false_implies, true_implies, implies_true, forall_const, not_false_eq_true, not_true_eq_false, and_false, false_and]
  simp only [hK9]
  clear hK9 K9v
  refine J_callVd (ci := 1) GM_fa (ok_milligramsOfTenth (M := M) (d + 0) i hi (by omega)) dX5_countTenths_1 k_5_75 (by omega) (Nat.le_of_ble_eq_true rfl) ⟨by omega, by omega⟩ rfl (by exact a1) rfl (by decide) (by simp only [N0]; omega) (by simp) rfl rfl ?_
  simp only [Option.toList, List.cons_append, List.nil_append]
  have hu : 1000 ≤ M (367 + 5 * i) 3 / 10 * 1000 ∧ M (367 + 5 * i) 3 / 10 * 1000 ≤ 50000 := by omega
  generalize hU : M (367 + 5 * i) 3 / 10 * 1000 = u at hu ⊢
  have hu0 : 0 < u := by omega
  have hu2 : u ≤ 2147483647 := by omega
  have hu1 : -2147483648 ≤ u := by omega
  refine J_rnG GM_fa (by omega) (by omega) (by omega) 3 _ _ _ _ (fun K9v hK9 => ?_)
  simp (maxSteps := 4000000) only [↓(X_istore_n (k := 3) (pc' := 5) dX5_countTenths_4 rfl rfl), ↓sto_3, ↓(X_iconst (pc' := 6) dX5_countTenths_5 rfl), ↓(X_istore (pc' := 8) dX5_countTenths_6 rfl), ↓sto_4, rn_0, gV_s, ↓pI_c, ↓pII_c, ↓pL_c, ↓pLL_c, ↓pR_c, ↓pRI_c, ↓pRII_c, ↓pRIL_c, ↓pRR_c, ↓pV_c, ↓pVV_c, ↓gI_c, ↓gL_c, ↓gR_c, f2_0, f2_1, nk_n, nk_i, nk_r, ↓reduceIte, r32, r64, Nat.reduceAdd, Nat.reduceSub, Nat.reduceEqDiff, Nat.reduceLT, Nat.reduceLeDiff, Nat.reduceBEq, Int.reduceAdd, Int.reduceSub, Int.reduceMul, Int.reduceNeg, Int.reduceToNat, Int.reduceLE, Int.reduceLT, Int.reduceEq, Int.reduceNatCast', Int.reduceNatCast, Int.natCast_zero, Int.toNat_natCast, Int.toNat_zero, Int.toNat_one, List.length_cons, List.length_nil, true_and, and_true, and_self, true_or, or_true, false_or, or_false, Bool.not_true, Bool.not_false, Nat.lt_add_one, Nat.zero_lt_succ, N0, swL_n, swL_c, List.toList_toArray, false_implies, true_implies, implies_true, forall_const, not_false_eq_true, not_true_eq_false, and_false, false_and]
  simp only [hK9]
  clear hK9 K9v
  refine J_rnG GM_fa (by omega) (by omega) (by omega) 110 _ _ _ _ (fun K9v hK9 => ?_)
  simp (maxSteps := 4000000) only [↓(X_aload_n (k := 1) (pc' := 1) dX5_countTenths_0 rfl rfl), ↓gR_1, ↓(X_invokevirtual dX5_countTenths_1), ↓(X_istore_n (k := 3) (pc' := 5) dX5_countTenths_4 rfl rfl), ↓sto_3, ↓(X_iconst (pc' := 6) dX5_countTenths_5 rfl), ↓(X_istore (pc' := 8) dX5_countTenths_6 rfl), ↓sto_4, ↓(X_iload (pc' := 10) dX5_countTenths_8 rfl), ↓gI_4, ↓(X_iconst (pc' := 11) dX5_countTenths_10 rfl), ↓(X_icmp_ge (tgt := 44) (pc' := 14) dX5_countTenths_11 (by decide) rfl), ↓(X_aload_n (k := 0) (pc' := 15) dX5_countTenths_14 rfl rfl), ↓gR_0, ↓(X_getR (pc' := 18) fl_5_29 dX5_countTenths_15 rfl), kd_79, ↓(gV_c r0_79_3), kd_86, ln_86, ↓(X_iload (pc' := 20) dX5_countTenths_18 rfl), ↓(X_iload_n (k := 3) (pc' := 21) dX5_countTenths_20 rfl rfl), ↓gI_3, ↓(X_if_le (tgt := 36) (pc' := 24) dX5_countTenths_21 (by decide) rfl), ↓(X_aload_n (k := 2) (pc' := 25) dX5_countTenths_24 rfl rfl), ↓gR_2, ↓(X_getR (pc' := 28) fl_5_79 dX5_countTenths_25 rfl), kd_7, ↓(gV_c r0_7_0), kd_8, ln_8, kd_71, ↓(gV_c r0_71_0), kd_72, ln_72, ↓(X_iload (pc' := 30) dX5_countTenths_28 rfl), ↓(X_iaload (pc' := 31) dX5_countTenths_30 rfl), ↓(X_iload_n (k := 3) (pc' := 32) dX5_countTenths_31 rfl rfl), ↓(X_idiv (pc' := 33) dX5_countTenths_32 rfl), ↓(X_goto (pc' := 37) dX5_countTenths_33 (by decide)), ↓(X_iconst (pc' := 37) dX5_countTenths_36 rfl), ↓(X_iastore (pc' := 38) dX5_countTenths_37 rfl), ↓(X_iinc (pc' := 41) dX5_countTenths_38 rfl), ↓(X_goto (pc' := 8) dX5_countTenths_41 (by decide)), ↓(X_return_ dX5_countTenths_44), rn_0, gV_s, ↓pI_c, ↓pII_c, ↓pL_c, ↓pLL_c, ↓pR_c, ↓pRI_c, ↓pRII_c, ↓pRIL_c, ↓pRR_c, ↓pV_c, ↓pVV_c, ↓gI_c, ↓gL_c, ↓gR_c, f2_0, f2_1, nk_n, nk_i, nk_r, ↓reduceIte, r32, r64, Nat.reduceAdd, Nat.reduceSub, Nat.reduceEqDiff, Nat.reduceLT, Nat.reduceLeDiff, Nat.reduceBEq, Int.reduceAdd, Int.reduceSub, Int.reduceMul, Int.reduceNeg, Int.reduceToNat, Int.reduceLE, Int.reduceLT, Int.reduceEq, Int.reduceNatCast', Int.reduceNatCast, Int.natCast_zero, Int.toNat_natCast, Int.toNat_zero, Int.toNat_one, List.length_cons, List.length_nil, true_and, and_true, and_self, true_or, or_true, false_or, or_false, Bool.not_true, Bool.not_false, Nat.lt_add_one, Nat.zero_lt_succ, N0, swL_n, swL_c, List.toList_toArray, false_implies, true_implies, implies_true, forall_const, not_false_eq_true, not_true_eq_false, and_false, false_and, hu0, hu1, hu2, s0, s1, s2, s3, up2_s, up2_k, ne_eq, up2_c (show (8 : Nat) ≠ 86 by decide)]
  simp only [hK9]
  clear hK9 K9v
  refine J_vret dX5_countTenths_44 rfl (by omega) (by omega) (⟨rfl, _, rfl, fun x hx => by funext k; simp [up2, hx], fun b hb => ?_⟩)
  rcases (show b = 0 ∨ b = 1 ∨ b = 2 ∨ b = 3 by omega) with rfl | rfl | rfl | rfl <;> simp [up2, hU]
set_option maxRecDepth 100000 in
set_option maxHeartbeats 4000000 in
theorem ok_weighTin {M : Nat → Nat → Int} (d g : Nat) (kg : kd g = 10) (lg9 : ln g = 4) (hg : g < 449) (hg2 : g ≠ 88) : Ok l D cy (d + 2) 0 0 yX5_weighTin cX5_weighTin 4 (none) [.inr (.inr (some (79))), .inr (.inr (some (1))), .inr (.inr (some (g)))] (N0, R0, M) (fun o ν => o = .inl none ∧ ∃ M2 : Nat → Nat → Int, ν = (N0, R0, M2) ∧ (∀ x, x ≠ 88 → M2 x = M x) ∧ ∀ p, p < 3 → M2 88 p = wpart M (M g) p) := by
  refine Ok.intro (o := 5) (ini := false) [some (.inr (.inr (some (79)))), some (.inr (.inr (some (1)))), some (.inr (.inr (some (g)))), none] (by decide +kernel) rfl (fun h => by cases h) rfl (Nat.le_of_ble_eq_true rfl) rfl ?_
  refine J_rnG GM_fa (by omega) (by omega) (by omega) 2 _ _ _ _ (fun K9v hK9 => ?_)
  simp (maxSteps := 4000000) only [↓(X_iconst (pc' := 1) dX5_weighTin_0 rfl), ↓(X_istore_n (k := 3) (pc' := 2) dX5_weighTin_1 rfl rfl), ↓sto_3, rn_0, gV_s, ↓pI_c, ↓pII_c, ↓pL_c, ↓pLL_c, ↓pR_c, ↓pRI_c, ↓pRII_c, ↓pRIL_c, ↓pRR_c, ↓pV_c, ↓pVV_c, ↓gI_c, ↓gL_c, ↓gR_c, f2_0, f2_1, nk_n, nk_i, nk_r, ↓reduceIte, r32, r64, Nat.reduceAdd, Nat.reduceSub, Nat.reduceEqDiff, Nat.reduceLT, Nat.reduceLeDiff, Nat.reduceBEq, Int.reduceAdd, Int.reduceSub, Int.reduceMul, Int.reduceNeg, Int.reduceToNat, Int.reduceLE, Int.reduceLT, Int.reduceEq, Int.reduceNatCast', Int.reduceNatCast, Int.natCast_zero, Int.toNat_natCast, Int.toNat_zero, Int.toNat_one, List.length_cons, List.length_nil, true_and, and_true, and_self, true_or, or_true, false_or, or_false, Bool.not_true, Bool.not_false, Nat.lt_add_one, Nat.zero_lt_succ, N0, swL_n, swL_c, List.toList_toArray, false_implies, true_implies, implies_true, forall_const, not_false_eq_true, not_true_eq_false, and_false, false_and]
  simp only [hK9]
  clear hK9 K9v
  refine J_rnG GM_fa (by omega) (by omega) (by omega) 9 _ _ _ _ (fun K9v hK9 => ?_)
  simp (maxSteps := 4000000) only [↓(X_iload_n (k := 3) (pc' := 3) dX5_weighTin_2 rfl rfl), ↓gI_3, ↓(X_iconst (pc' := 4) dX5_weighTin_3 rfl), ↓(X_icmp_ge (tgt := 25) (pc' := 7) dX5_weighTin_4 (by decide) rfl), ↓(X_aload_n (k := 0) (pc' := 8) dX5_weighTin_7 rfl rfl), ↓gR_0, ↓(X_getR (pc' := 11) fl_5_35 dX5_weighTin_8 rfl), kd_79, ↓(gV_c r0_79_5), kd_88, ln_88, ↓(X_iload_n (k := 3) (pc' := 12) dX5_weighTin_11 rfl rfl), ↓(X_aload_n (k := 1) (pc' := 13) dX5_weighTin_12 rfl rfl), ↓gR_1, ↓(X_aload_n (k := 2) (pc' := 14) dX5_weighTin_13 rfl rfl), ↓gR_2, ↓(X_iload_n (k := 3) (pc' := 15) dX5_weighTin_14 rfl rfl), rn_0, gV_s, ↓pI_c, ↓pII_c, ↓pL_c, ↓pLL_c, ↓pR_c, ↓pRI_c, ↓pRII_c, ↓pRIL_c, ↓pRR_c, ↓pV_c, ↓pVV_c, ↓gI_c, ↓gL_c, ↓gR_c, f2_0, f2_1, nk_n, nk_i, nk_r, ↓reduceIte, r32, r64, Nat.reduceAdd, Nat.reduceSub, Nat.reduceEqDiff, Nat.reduceLT, Nat.reduceLeDiff, Nat.reduceBEq, Int.reduceAdd, Int.reduceSub, Int.reduceMul, Int.reduceNeg, Int.reduceToNat, Int.reduceLE, Int.reduceLT, Int.reduceEq, Int.reduceNatCast', Int.reduceNatCast, Int.natCast_zero, Int.toNat_natCast, Int.toNat_zero, Int.toNat_one, List.length_cons, List.length_nil, true_and, and_true, and_self, true_or, or_true, false_or, or_false, Bool.not_true, Bool.not_false, Nat.lt_add_one, Nat.zero_lt_succ, N0, swL_n, swL_c, List.toList_toArray, false_implies, true_implies, implies_true, forall_const, not_false_eq_true, not_true_eq_false, and_false, false_and, kg, lg9, hg]
  simp only [hK9]
  clear hK9 K9v
  refine J_callVd (ci := 6) GM_fa (ok_weighedPart (M := M) (d + 0) g 0 kg lg9 hg (by omega)) dX5_weighTin_15 k_5_102 (by omega) (Nat.le_of_ble_eq_true rfl) ⟨by omega, by omega⟩ rfl (by decide +kernel) rfl (by decide) (by simp only [N0]; omega) (by simp) rfl rfl ?_
  simp only [Option.toList, List.cons_append, List.nil_append]
  refine J_rnG GM_fa (by omega) (by omega) (by omega) 9 _ _ _ _ (fun K9v hK9 => ?_)
  simp (maxSteps := 4000000) only [↓(X_iastore (pc' := 19) dX5_weighTin_18 rfl), ↓(X_iinc (pc' := 22) dX5_weighTin_19 rfl), ↓gI_3, ↓sto_3, ↓(X_goto (pc' := 2) dX5_weighTin_22 (by decide)), ↓(X_iload_n (k := 3) (pc' := 3) dX5_weighTin_2 rfl rfl), ↓(X_iconst (pc' := 4) dX5_weighTin_3 rfl), ↓(X_icmp_ge (tgt := 25) (pc' := 7) dX5_weighTin_4 (by decide) rfl), ↓(X_aload_n (k := 0) (pc' := 8) dX5_weighTin_7 rfl rfl), ↓gR_0, ↓(X_getR (pc' := 11) fl_5_35 dX5_weighTin_8 rfl), kd_79, ↓(gV_c r0_79_5), kd_88, ln_88, ↓(X_iload_n (k := 3) (pc' := 12) dX5_weighTin_11 rfl rfl), rn_0, gV_s, ↓pI_c, ↓pII_c, ↓pL_c, ↓pLL_c, ↓pR_c, ↓pRI_c, ↓pRII_c, ↓pRIL_c, ↓pRR_c, ↓pV_c, ↓pVV_c, ↓gI_c, ↓gL_c, ↓gR_c, f2_0, f2_1, nk_n, nk_i, nk_r, ↓reduceIte, r32, r64, Nat.reduceAdd, Nat.reduceSub, Nat.reduceEqDiff, Nat.reduceLT, Nat.reduceLeDiff, Nat.reduceBEq, Int.reduceAdd, Int.reduceSub, Int.reduceMul, Int.reduceNeg, Int.reduceToNat, Int.reduceLE, Int.reduceLT, Int.reduceEq, Int.reduceNatCast', Int.reduceNatCast, Int.natCast_zero, Int.toNat_natCast, Int.toNat_zero, Int.toNat_one, List.length_cons, List.length_nil, true_and, and_true, and_self, true_or, or_true, false_or, or_false, Bool.not_true, Bool.not_false, Nat.lt_add_one, Nat.zero_lt_succ, N0, swL_n, swL_c, List.toList_toArray, false_implies, true_implies, implies_true, forall_const, not_false_eq_true, not_true_eq_false, and_false, false_and]
  simp only [hK9]
  clear hK9 K9v
  have e1 : ∀ (M' : Nat → Nat → Int) (p : Nat), (∀ x, x ≠ 88 → M' x = M x) → wpart M' (M' g) p = wpart M (M g) p := by
    intro M' p h
    simp only [wpart, h g hg2, h 3 (by decide), h 4 (by decide), h 5 (by decide), h 6 (by decide)]
  have q1 : ∀ x, x ≠ 88 → up2 M 88 0 (wpart M (M g) 0) x = M x := fun x hx => by funext k; simp [up2, hx]
  refine J_rnG GM_fa (by omega) (by omega) (by omega) 3 _ _ _ _ (fun K9v hK9 => ?_)
  simp (maxSteps := 4000000) only [↓(X_aload_n (k := 1) (pc' := 13) dX5_weighTin_12 rfl rfl), ↓gR_1, ↓(X_aload_n (k := 2) (pc' := 14) dX5_weighTin_13 rfl rfl), ↓gR_2, ↓(X_iload_n (k := 3) (pc' := 15) dX5_weighTin_14 rfl rfl), ↓gI_3, rn_0, gV_s, ↓pI_c, ↓pII_c, ↓pL_c, ↓pLL_c, ↓pR_c, ↓pRI_c, ↓pRII_c, ↓pRIL_c, ↓pRR_c, ↓pV_c, ↓pVV_c, ↓gI_c, ↓gL_c, ↓gR_c, f2_0, f2_1, nk_n, nk_i, nk_r, ↓reduceIte, r32, r64, Nat.reduceAdd, Nat.reduceSub, Nat.reduceEqDiff, Nat.reduceLT, Nat.reduceLeDiff, Nat.reduceBEq, Int.reduceAdd, Int.reduceSub, Int.reduceMul, Int.reduceNeg, Int.reduceToNat, Int.reduceLE, Int.reduceLT, Int.reduceEq, Int.reduceNatCast', Int.reduceNatCast, Int.natCast_zero, Int.toNat_natCast, Int.toNat_zero, Int.toNat_one, List.length_cons, List.length_nil, true_and, and_true, and_self, true_or, or_true, false_or, or_false, Bool.not_true, Bool.not_false, Nat.lt_add_one, Nat.zero_lt_succ, N0, swL_n, swL_c, List.toList_toArray, false_implies, true_implies, implies_true, forall_const, not_false_eq_true, not_true_eq_false, and_false, false_and]
  simp only [hK9]
  clear hK9 K9v
  refine J_callVd (ci := 6) GM_fa (ok_weighedPart (d + 0) g 1 kg lg9 hg (by omega)) dX5_weighTin_15 k_5_102 (by omega) (Nat.le_of_ble_eq_true rfl) ⟨by omega, by omega⟩ rfl (by decide +kernel) rfl (by decide) (by simp only [N0]; omega) (by simp) rfl rfl ?_
  simp only [Option.toList, List.cons_append, List.nil_append]
  rw [e1 _ 1 q1]
  have q2 : ∀ x, x ≠ 88 → up2 (up2 M 88 0 (wpart M (M g) 0)) 88 1 (wpart M (M g) 1) x = M x := fun x hx => by funext k; simp [up2, hx]
  refine J_rnG GM_fa (by omega) (by omega) (by omega) 9 _ _ _ _ (fun K9v hK9 => ?_)
  simp (maxSteps := 4000000) only [↓(X_iastore (pc' := 19) dX5_weighTin_18 rfl), ↓(X_iinc (pc' := 22) dX5_weighTin_19 rfl), ↓gI_3, ↓sto_3, ↓(X_goto (pc' := 2) dX5_weighTin_22 (by decide)), ↓(X_iload_n (k := 3) (pc' := 3) dX5_weighTin_2 rfl rfl), ↓(X_iconst (pc' := 4) dX5_weighTin_3 rfl), ↓(X_icmp_ge (tgt := 25) (pc' := 7) dX5_weighTin_4 (by decide) rfl), ↓(X_aload_n (k := 0) (pc' := 8) dX5_weighTin_7 rfl rfl), ↓gR_0, ↓(X_getR (pc' := 11) fl_5_35 dX5_weighTin_8 rfl), kd_79, ↓(gV_c r0_79_5), kd_88, ln_88, ↓(X_iload_n (k := 3) (pc' := 12) dX5_weighTin_11 rfl rfl), rn_0, gV_s, ↓pI_c, ↓pII_c, ↓pL_c, ↓pLL_c, ↓pR_c, ↓pRI_c, ↓pRII_c, ↓pRIL_c, ↓pRR_c, ↓pV_c, ↓pVV_c, ↓gI_c, ↓gL_c, ↓gR_c, f2_0, f2_1, nk_n, nk_i, nk_r, ↓reduceIte, r32, r64, Nat.reduceAdd, Nat.reduceSub, Nat.reduceEqDiff, Nat.reduceLT, Nat.reduceLeDiff, Nat.reduceBEq, Int.reduceAdd, Int.reduceSub, Int.reduceMul, Int.reduceNeg, Int.reduceToNat, Int.reduceLE, Int.reduceLT, Int.reduceEq, Int.reduceNatCast', Int.reduceNatCast, Int.natCast_zero, Int.toNat_natCast, Int.toNat_zero, Int.toNat_one, List.length_cons, List.length_nil, true_and, and_true, and_self, true_or, or_true, false_or, or_false, Bool.not_true, Bool.not_false, Nat.lt_add_one, Nat.zero_lt_succ, N0, swL_n, swL_c, List.toList_toArray, false_implies, true_implies, implies_true, forall_const, not_false_eq_true, not_true_eq_false, and_false, false_and]
  simp only [hK9]
  clear hK9 K9v
  refine J_rnG GM_fa (by omega) (by omega) (by omega) 3 _ _ _ _ (fun K9v hK9 => ?_)
  simp (maxSteps := 4000000) only [↓(X_aload_n (k := 1) (pc' := 13) dX5_weighTin_12 rfl rfl), ↓gR_1, ↓(X_aload_n (k := 2) (pc' := 14) dX5_weighTin_13 rfl rfl), ↓gR_2, ↓(X_iload_n (k := 3) (pc' := 15) dX5_weighTin_14 rfl rfl), ↓gI_3, rn_0, gV_s, ↓pI_c, ↓pII_c, ↓pL_c, ↓pLL_c, ↓pR_c, ↓pRI_c, ↓pRII_c, ↓pRIL_c, ↓pRR_c, ↓pV_c, ↓pVV_c, ↓gI_c, ↓gL_c, ↓gR_c, f2_0, f2_1, nk_n, nk_i, nk_r, ↓reduceIte, r32, r64, Nat.reduceAdd, Nat.reduceSub, Nat.reduceEqDiff, Nat.reduceLT, Nat.reduceLeDiff, Nat.reduceBEq, Int.reduceAdd, Int.reduceSub, Int.reduceMul, Int.reduceNeg, Int.reduceToNat, Int.reduceLE, Int.reduceLT, Int.reduceEq, Int.reduceNatCast', Int.reduceNatCast, Int.natCast_zero, Int.toNat_natCast, Int.toNat_zero, Int.toNat_one, List.length_cons, List.length_nil, true_and, and_true, and_self, true_or, or_true, false_or, or_false, Bool.not_true, Bool.not_false, Nat.lt_add_one, Nat.zero_lt_succ, N0, swL_n, swL_c, List.toList_toArray, false_implies, true_implies, implies_true, forall_const, not_false_eq_true, not_true_eq_false, and_false, false_and]
  simp only [hK9]
  clear hK9 K9v
  refine J_callVd (ci := 6) GM_fa (ok_weighedPart (d + 0) g 2 kg lg9 hg (by omega)) dX5_weighTin_15 k_5_102 (by omega) (Nat.le_of_ble_eq_true rfl) ⟨by omega, by omega⟩ rfl (by decide +kernel) rfl (by decide) (by simp only [N0]; omega) (by simp) rfl rfl ?_
  simp only [Option.toList, List.cons_append, List.nil_append]
  rw [e1 _ 2 q2]
  refine J_rnG GM_fa (by omega) (by omega) (by omega) 7 _ _ _ _ (fun K9v hK9 => ?_)
  simp (maxSteps := 4000000) only [↓(X_iconst (pc' := 1) dX5_weighTin_0 rfl), ↓(X_istore_n (k := 3) (pc' := 2) dX5_weighTin_1 rfl rfl), ↓sto_3, ↓(X_iload_n (k := 3) (pc' := 3) dX5_weighTin_2 rfl rfl), ↓gI_3, ↓(X_iconst (pc' := 4) dX5_weighTin_3 rfl), ↓(X_icmp_ge (tgt := 25) (pc' := 7) dX5_weighTin_4 (by decide) rfl), ↓(X_aload_n (k := 0) (pc' := 8) dX5_weighTin_7 rfl rfl), ↓gR_0, ↓(X_getR (pc' := 11) fl_5_35 dX5_weighTin_8 rfl), kd_79, ↓(gV_c r0_79_5), kd_88, ln_88, ↓(X_iload_n (k := 3) (pc' := 12) dX5_weighTin_11 rfl rfl), ↓(X_aload_n (k := 1) (pc' := 13) dX5_weighTin_12 rfl rfl), ↓gR_1, ↓(X_aload_n (k := 2) (pc' := 14) dX5_weighTin_13 rfl rfl), ↓gR_2, ↓(X_iload_n (k := 3) (pc' := 15) dX5_weighTin_14 rfl rfl), ↓(X_invokevirtual dX5_weighTin_15), ↓(X_iastore (pc' := 19) dX5_weighTin_18 rfl), ↓(X_iinc (pc' := 22) dX5_weighTin_19 rfl), ↓(X_goto (pc' := 2) dX5_weighTin_22 (by decide)), ↓(X_return_ dX5_weighTin_25), rn_0, gV_s, ↓pI_c, ↓pII_c, ↓pL_c, ↓pLL_c, ↓pR_c, ↓pRI_c, ↓pRII_c, ↓pRIL_c, ↓pRR_c, ↓pV_c, ↓pVV_c, ↓gI_c, ↓gL_c, ↓gR_c, f2_0, f2_1, nk_n, nk_i, nk_r, ↓reduceIte, r32, r64, Nat.reduceAdd, Nat.reduceSub, Nat.reduceEqDiff, Nat.reduceLT, Nat.reduceLeDiff, Nat.reduceBEq, Int.reduceAdd, Int.reduceSub, Int.reduceMul, Int.reduceNeg, Int.reduceToNat, Int.reduceLE, Int.reduceLT, Int.reduceEq, Int.reduceNatCast', Int.reduceNatCast, Int.natCast_zero, Int.toNat_natCast, Int.toNat_zero, Int.toNat_one, List.length_cons, List.length_nil, true_and, and_true, and_self, true_or, or_true, false_or, or_false, Bool.not_true, Bool.not_false, Nat.lt_add_one, Nat.zero_lt_succ, N0, swL_n, swL_c, List.toList_toArray, false_implies, true_implies, implies_true, forall_const, not_false_eq_true, not_true_eq_false, and_false, false_and]
  simp only [hK9]
  clear hK9 K9v
  refine J_vret dX5_weighTin_25 rfl (by omega) (by omega) (⟨rfl, _, rfl, fun x hx => by funext k; simp [up2, hx], fun p hp => ?_⟩)
  rcases (show p = 0 ∨ p = 1 ∨ p = 2 by omega) with rfl | rfl | rfl <;> simp [up2]
/-- what a trial needs: the unit, the tin's weighed parts, the tenths, the colours, the part wanted -/
def trialOK (M : Nat → Nat → Int) (i : Nat) (u : Int) : Prop := i < 16 ∧ M (367 + 5 * i) 3 / 10 * 1000 = u ∧ (0 ≤ M (367 + 5 * i) 3 ∧ M (367 + 5 * i) 3 ≤ 500) ∧ 1000 ≤ u ∧ u ≤ 50000 ∧ (∀ p, p < 3 → 0 ≤ M 88 p ∧ M 88 p ≤ 50000000) ∧ tri4 (M 87) ∧ okC (fun b => M (3 + b)) ∧ col3 (M (368 + 5 * i)) ∧ (-1 ≤ M 79 7 ∧ M 79 7 ≤ 300)
theorem trial_bd {M : Nat → Nat → Int} {i : Nat} {u : Int} (h : trialOK M i u) {p : Nat} (hp : p < 3) : 0 ≤ M 88 p + u * wpC (fun b => M (3 + b)) (M 87) p ∧ M 88 p + u * wpC (fun b => M (3 + b)) (M 87) p ≤ 100000000 ∧ 0 ≤ M (368 + 5 * i) p ∧ M (368 + 5 * i) p ≤ 100 ∧ 0 ≤ gpC (fun b => M (3 + b)) (M (368 + 5 * i)) u (M 88) (M 87) p ∧ gpC (fun b => M (3 + b)) (M (368 + 5 * i)) u (M 88) (M 87) p ≤ 100000000 ∧ 0 ≤ (M 88 p + u * wpC (fun b => M (3 + b)) (M 87) p) / (u * 10) ∧ (M 88 p + u * wpC (fun b => M (3 + b)) (M 87) p) / (u * 10) ≤ 100000000 := by
  obtain ⟨-, -, -, hu1, hu2, hTP, ⟨t0, t1, t2, t3, t4⟩, hC, ⟨c0, c1, c2⟩, -⟩ := h
  have b := wpC_bd hC t0 t1 t2 t3 hp
  have b2 : wt (M 87) ≤ 10 := by simp only [wt]; omega
  have b3 := mul_bd (show 0 ≤ u by omega) hu2 b.1 (show wpC (fun b => M (3 + b)) (M 87) p ≤ 1000 by omega)
  have b4 := hTP p hp
  have hw : 0 ≤ M (368 + 5 * i) p ∧ M (368 + 5 * i) p ≤ 100 := by
    rcases (show p = 0 ∨ p = 1 ∨ p = 2 by omega) with rfl | rfl | rfl <;> assumption
  have hs : 0 ≤ M 88 p + u * wpC (fun b => M (3 + b)) (M 87) p ∧ M 88 p + u * wpC (fun b => M (3 + b)) (M 87) p ≤ 100000000 := by omega
  have d1 : 0 ≤ (M 88 p + u * wpC (fun b => M (3 + b)) (M 87) p) / (u * 10) := Int.ediv_nonneg hs.1 (by omega)
  have d2 : (M 88 p + u * wpC (fun b => M (3 + b)) (M 87) p) / (u * 10) ≤ 100000000 := Int.le_trans (Int.ediv_le_self _ hs.1) hs.2
  refine ⟨hs.1, hs.2, hw.1, hw.2, ?_, ?_, d1, d2⟩ <;> simp only [gpC] <;> omega
set_option maxRecDepth 100000 in
set_option maxHeartbeats 4000000 in
theorem ok_gap_step {M : Nat → Nat → Int} {Φ : Out → Mem → Prop} (d i : Nat) (u A : Int) (p : Nat) (e6 : Option AV) (h6 : nk e6) (hT : trialOK M i u) (hp : p < 3) (hA : 0 ≤ A ∧ A ≤ 200000000)
    (h1 : M 79 7 < A → J l D cy (GM l D cy 5 cX5_gapOfTrial 7 (d + 3) 0 0 false (some .int) Φ) 81 [some (.inr (.inr (some 79))), some (.inr (.inr (some (367 + 5 * i)))), some (.inr (.inr (some 1))), some (.inl u), some (.inl A), some (.inl (p : Int)), e6] [] (449, R0, M) 0 0)
    (h2 : ¬ M 79 7 < A → ∀ s : Int, J l D cy (GM l D cy 5 cX5_gapOfTrial 7 (d + 3) 0 0 false (some .int) Φ) 11 [some (.inr (.inr (some 79))), some (.inr (.inr (some (367 + 5 * i)))), some (.inr (.inr (some 1))), some (.inl u), some (.inl (A + gpC (fun b => M (3 + b)) (M (368 + 5 * i)) u (M 88) (M 87) p)), some (.inl ((p + 1 : Nat) : Int)), some (.inl s)] [] (449, R0, M) 0 0) :
    J l D cy (GM l D cy 5 cX5_gapOfTrial 7 (d + 3) 0 0 false (some .int) Φ) 11 [some (.inr (.inr (some 79))), some (.inr (.inr (some (367 + 5 * i)))), some (.inr (.inr (some 1))), some (.inl u), some (.inl A), some (.inl (p : Int)), e6] [] (449, R0, M) 0 0 := by
  obtain ⟨hi, hu, hg, hu1, hu2, hTP, -, -, -, hal⟩ := id hT
  obtain ⟨s1, s2, w1, w2, g1, g2, d1, d2⟩ := trial_bd hT hp
  obtain ⟨a1, a2, a3, -, -, -, -, -, a4, -⟩ := job_at i hi
  have c1 : 367 + 5 * i < 449 := by omega
  have c2 : 368 + 5 * i < 449 := by omega
  have p0 : (0 : Int) ≤ (p : Int) := by omega
  have p3 : (p : Int) < 3 := by omega
  have hA1 : -2147483648 ≤ A ∧ A ≤ 2147483647 := by omega
  have hal1 : -2147483648 ≤ M 79 7 ∧ M 79 7 ≤ 2147483647 := by omega
  have hpr : -2147483648 ≤ (p : Int) ∧ (p : Int) ≤ 2147483647 := by omega
  have hur : -2147483648 ≤ u ∧ u ≤ 2147483647 := by omega
  have hu0 : 0 < u := by omega
  refine J_rnG GM_fa (by omega) (by omega) (by omega) 7 _ _ _ _ (fun K9v hK9 => ?_)
  simp (maxSteps := 4000000) only [↓(X_iload (pc' := 13) dX5_gapOfTrial_11 rfl), ↓gI_5, ↓(X_iconst (pc' := 14) dX5_gapOfTrial_13 rfl), ↓(X_icmp_ge (tgt := 81) (pc' := 17) dX5_gapOfTrial_14 (by decide) rfl), ↓(X_iload (pc' := 19) dX5_gapOfTrial_17 rfl), ↓gI_4, ↓(X_aload_n (k := 0) (pc' := 20) dX5_gapOfTrial_19 rfl rfl), ↓gR_0, ↓(X_getI (pc' := 23) fl_5_48 (by decide) dX5_gapOfTrial_20 rfl), kd_79, ↓(X_icmp_gt (tgt := 81) (pc' := 26) dX5_gapOfTrial_23 (by decide) rfl), rn_0, gV_s, ↓pI_c, ↓pII_c, ↓pL_c, ↓pLL_c, ↓pR_c, ↓pRI_c, ↓pRII_c, ↓pRIL_c, ↓pRR_c, ↓pV_c, ↓pVV_c, ↓gI_c, ↓gL_c, ↓gR_c, f2_0, f2_1, nk_n, nk_i, nk_r, ↓reduceIte, r32, r64, Nat.reduceAdd, Nat.reduceSub, Nat.reduceEqDiff, Nat.reduceLT, Nat.reduceLeDiff, Nat.reduceBEq, Int.reduceAdd, Int.reduceSub, Int.reduceMul, Int.reduceNeg, Int.reduceToNat, Int.reduceLE, Int.reduceLT, Int.reduceEq, Int.reduceNatCast', Int.reduceNatCast, Int.natCast_zero, Int.toNat_natCast, Int.toNat_zero, Int.toNat_one, List.length_cons, List.length_nil, true_and, and_true, and_self, true_or, or_true, false_or, or_false, Bool.not_true, Bool.not_false, Nat.lt_add_one, Nat.zero_lt_succ, N0, swL_n, swL_c, List.toList_toArray, false_implies, true_implies, implies_true, forall_const, not_false_eq_true, not_true_eq_false, and_false, false_and, p3, hA1, hal1, hpr]
  simp only [hK9]
  clear hK9 K9v
  split
  · rename_i h
    exact h1 h
  · rename_i h
    refine J_rnG GM_fa (by omega) (by omega) (by omega) 11 _ _ _ _ (fun K9v hK9 => ?_)
    simp (maxSteps := 4000000) only [↓(X_iload_n (k := 3) (pc' := 27) dX5_gapOfTrial_26 rfl rfl), ↓gI_3, ↓(X_if_le (tgt := 81) (pc' := 30) dX5_gapOfTrial_27 (by decide) rfl), ↓(X_aload_n (k := 0) (pc' := 31) dX5_gapOfTrial_30 rfl rfl), ↓gR_0, ↓(X_getR (pc' := 34) fl_5_35 dX5_gapOfTrial_31 rfl), kd_79, ↓(gV_c r0_79_5), kd_88, ln_88, ↓(X_iload (pc' := 36) dX5_gapOfTrial_34 rfl), ↓gI_5, ↓(X_iaload (pc' := 37) dX5_gapOfTrial_36 rfl), ↓(X_iload_n (k := 3) (pc' := 38) dX5_gapOfTrial_37 rfl rfl), ↓(X_aload_n (k := 2) (pc' := 39) dX5_gapOfTrial_38 rfl rfl), ↓gR_2, ↓(X_aload_n (k := 0) (pc' := 40) dX5_gapOfTrial_39 rfl rfl), ↓(X_getR (pc' := 43) fl_5_32 dX5_gapOfTrial_40 rfl), ↓(gV_c r0_79_4), kd_87, ln_87, ↓(X_iload (pc' := 45) dX5_gapOfTrial_43 rfl), rn_0, gV_s, ↓pI_c, ↓pII_c, ↓pL_c, ↓pLL_c, ↓pR_c, ↓pRI_c, ↓pRII_c, ↓pRIL_c, ↓pRR_c, ↓pV_c, ↓pVV_c, ↓gI_c, ↓gL_c, ↓gR_c, f2_0, f2_1, nk_n, nk_i, nk_r, ↓reduceIte, r32, r64, Nat.reduceAdd, Nat.reduceSub, Nat.reduceEqDiff, Nat.reduceLT, Nat.reduceLeDiff, Nat.reduceBEq, Int.reduceAdd, Int.reduceSub, Int.reduceMul, Int.reduceNeg, Int.reduceToNat, Int.reduceLE, Int.reduceLT, Int.reduceEq, Int.reduceNatCast', Int.reduceNatCast, Int.natCast_zero, Int.toNat_natCast, Int.toNat_zero, Int.toNat_one, List.length_cons, List.length_nil, true_and, and_true, and_self, true_or, or_true, false_or, or_false, Bool.not_true, Bool.not_false, Nat.lt_add_one, Nat.zero_lt_succ, N0, swL_n, swL_c, List.toList_toArray, false_implies, true_implies, implies_true, forall_const, not_false_eq_true, not_true_eq_false, and_false, false_and, hur, hu0, p0, p3]
    simp only [hK9]
    clear hK9 K9v
    refine J_callVd (ci := 6) GM_fa (ok_weighedPart (M := M) (d + 1) 87 p (by decide +kernel) (by decide +kernel) (by decide) hp) dX5_gapOfTrial_45 k_5_102 (by omega) (Nat.le_of_ble_eq_true rfl) ⟨by omega, by omega⟩ rfl (by decide +kernel) rfl (by decide) (by simp only [N0]; omega) (by simp) rfl rfl ?_
    simp only [Option.toList, List.cons_append, List.nil_append, wpart_wpC]
    have z1 : 0 ≤ M 88 p + u * wpC (fun b => M (3 + b)) (M 87) p ∧ M 88 p + u * wpC (fun b => M (3 + b)) (M 87) p ≤ 2147483647 := by omega
    have z2 : 0 < u * 10 ∧ u * 10 ≤ 2147483647 := by omega
    have z3 : -2147483647 ≤ (M 88 p + u * wpC (fun b => M (3 + b)) (M 87) p) / (u * 10) - M (368 + 5 * i) p ∧ (M 88 p + u * wpC (fun b => M (3 + b)) (M 87) p) / (u * 10) - M (368 + 5 * i) p ≤ 2147483647 := by omega
    refine J_rnG GM_fa (by omega) (by omega) (by omega) 19 _ _ _ _ (fun K9v hK9 => ?_)
    simp (maxSteps := 4000000) only [↓(X_imul (pc' := 49) dX5_gapOfTrial_48 rfl), ↓(X_iadd (pc' := 50) dX5_gapOfTrial_49 rfl), ↓(X_istore (pc' := 52) dX5_gapOfTrial_50 rfl), ↓sto_6, ↓(X_iload (pc' := 54) dX5_gapOfTrial_52 rfl), ↓gI_4, ↓(X_iload (pc' := 56) dX5_gapOfTrial_54 rfl), ↓gI_6, ↓(X_iload_n (k := 3) (pc' := 57) dX5_gapOfTrial_56 rfl rfl), ↓gI_3, ↓(X_bipush (pc' := 59) dX5_gapOfTrial_57 rfl), ↓(X_imul (pc' := 60) dX5_gapOfTrial_59 rfl), ↓(X_idiv (pc' := 61) dX5_gapOfTrial_60 rfl), ↓(X_aload_n (k := 1) (pc' := 62) dX5_gapOfTrial_61 rfl rfl), ↓gR_1, ↓(X_getR (pc' := 65) fl_5_123 dX5_gapOfTrial_62 rfl), ↓(X_iload (pc' := 67) dX5_gapOfTrial_65 rfl), ↓gI_5, ↓(X_iaload (pc' := 68) dX5_gapOfTrial_67 rfl), ↓(X_isub (pc' := 69) dX5_gapOfTrial_68 rfl), ↓(X_abs (pc' := 72) jd_5_126 dX5_gapOfTrial_69 rfl), ↓(X_iadd (pc' := 73) dX5_gapOfTrial_72 rfl), ↓(X_istore (pc' := 75) dX5_gapOfTrial_73 rfl), ↓sto_4, ↓(X_iinc (pc' := 78) dX5_gapOfTrial_75 rfl), ↓sto_5, ↓(X_goto (pc' := 11) dX5_gapOfTrial_78 (by decide)), rn_0, gV_s, ↓pI_c, ↓pII_c, ↓pL_c, ↓pLL_c, ↓pR_c, ↓pRI_c, ↓pRII_c, ↓pRIL_c, ↓pRR_c, ↓pV_c, ↓pVV_c, ↓gI_c, ↓gL_c, ↓gR_c, f2_0, f2_1, nk_n, nk_i, nk_r, ↓reduceIte, r32, r64, Nat.reduceAdd, Nat.reduceSub, Nat.reduceEqDiff, Nat.reduceLT, Nat.reduceLeDiff, Nat.reduceBEq, Int.reduceAdd, Int.reduceSub, Int.reduceMul, Int.reduceNeg, Int.reduceToNat, Int.reduceLE, Int.reduceLT, Int.reduceEq, Int.reduceNatCast', Int.reduceNatCast, Int.natCast_zero, Int.toNat_natCast, Int.toNat_zero, Int.toNat_one, List.length_cons, List.length_nil, true_and, and_true, and_self, true_or, or_true, false_or, or_false, Bool.not_true, Bool.not_false, Nat.lt_add_one, Nat.zero_lt_succ, N0, swL_n, swL_c, List.toList_toArray, false_implies, true_implies, implies_true, forall_const, not_false_eq_true, not_true_eq_false, and_false, false_and, a1, a2, a3, ↓(gV_c a4), c1, c2, p0, p3, z1, z2, z3, h6]
    simp only [hK9]
    clear hK9 K9v
    exact h2 h _
/-- the gap of a trial, or as much of it as is too much already -/
def gapO (G al : Int) (μ : Mem) : Out → Mem → Prop := fun o ν => ν = μ ∧ ∃ z : Int, o = .inl (some (.inl z)) ∧ (G ≤ al → z = G) ∧ (¬ G ≤ al → al < z) ∧ 0 ≤ z ∧ z ≤ 300000000
set_option maxRecDepth 100000 in
set_option maxHeartbeats 4000000 in
theorem ok_gapOfTrial {M : Nat → Nat → Int} (d i : Nat) (u : Int) (hT : trialOK M i u) : Ok l D cy (d + 3) 0 0 yX5_gapOfTrial cX5_gapOfTrial 7 (some (.int)) [.inr (.inr (some (79))), .inr (.inr (some (367 + 5 * i))), .inr (.inr (some (1)))] (N0, R0, M) (gapO (gapC (fun b => M (3 + b)) (M (368 + 5 * i)) u (M 88) (M 87)) (M 79 7) (N0, R0, M)) := by
  refine Ok.intro (o := 5) (ini := false) [some (.inr (.inr (some (79)))), some (.inr (.inr (some (367 + 5 * i)))), some (.inr (.inr (some (1)))), none, none, none, none] (by decide +kernel) rfl (fun h => by cases h) rfl (Nat.le_of_ble_eq_true rfl) rfl ?_
  obtain ⟨hi, hu, hg, hu1, hu2, hTP, -, -, -, hal⟩ := id hT
  obtain ⟨-, -, -, -, g1, g2, -, -⟩ := trial_bd hT (p := 0) (by omega)
  obtain ⟨-, -, -, -, g3, g4, -, -⟩ := trial_bd hT (p := 1) (by omega)
  obtain ⟨-, -, -, -, g5, g6, -, -⟩ := trial_bd hT (p := 2) (by omega)
  obtain ⟨a1, a2, a3, -⟩ := job_at i hi
  refine J_rnG GM_fa (by omega) (by omega) (by omega) 1 _ _ _ _ (fun K9v hK9 => ?_)
  simp (maxSteps := 4000000) only [↓(X_aload_n (k := 1) (pc' := 1) dX5_gapOfTrial_0 rfl rfl), ↓gR_1, rn_0, gV_s, ↓pI_c, ↓pII_c, ↓pL_c, ↓pLL_c, ↓pR_c, ↓pRI_c, ↓pRII_c, ↓pRIL_c, ↓pRR_c, ↓pV_c, ↓pVV_c, ↓gI_c, ↓gL_c, ↓gR_c, f2_0, f2_1, nk_n, nk_i, nk_r, ↓reduceIte, r32, r64, Nat.reduceAdd, Nat.reduceSub, Nat.reduceEqDiff, Nat.reduceLT, Nat.reduceLeDiff, Nat.reduceBEq, Int.reduceAdd, Int.reduceSub, Int.reduceMul, Int.reduceNeg, Int.reduceToNat, Int.reduceLE, Int.reduceLT, Int.reduceEq, Int.reduceNatCast', Int.reduceNatCast, Int.natCast_zero, Int.toNat_natCast, Int.toNat_zero, Int.toNat_one, List.length_cons, List.length_nil, true_and, and_true, and_self, true_or, or_true, false_or, or_false, Bool.not_true, Bool.not_false, Nat.lt_add_one, Nat.zero_lt_succ, N0, swL_n, swL_c, List.toList_toArray, false_implies, true_implies, implies_true, forall_const, not_false_eq_true, not_true_eq_false, and_false, false_and]
  simp only [hK9]
  clear hK9 K9v
  refine J_callVd (ci := 1) GM_fa (ok_milligramsOfTenth (M := M) (d + 0) i hi hg) dX5_gapOfTrial_1 k_5_75 (by omega) (Nat.le_of_ble_eq_true rfl) ⟨by omega, by omega⟩ rfl (by exact a1) rfl (by decide) (by simp only [N0]; omega) (by simp) rfl rfl ?_
  simp only [Option.toList, List.cons_append, List.nil_append, hu]
  refine J_rnG GM_fa (by omega) (by omega) (by omega) 5 _ _ _ _ (fun K9v hK9 => ?_)
  simp (maxSteps := 4000000) only [↓(X_istore_n (k := 3) (pc' := 5) dX5_gapOfTrial_4 rfl rfl), ↓sto_3, ↓(X_iconst (pc' := 6) dX5_gapOfTrial_5 rfl), ↓(X_istore (pc' := 8) dX5_gapOfTrial_6 rfl), ↓sto_4, ↓(X_iconst (pc' := 9) dX5_gapOfTrial_8 rfl), ↓(X_istore (pc' := 11) dX5_gapOfTrial_9 rfl), ↓sto_5, rn_0, gV_s, ↓pI_c, ↓pII_c, ↓pL_c, ↓pLL_c, ↓pR_c, ↓pRI_c, ↓pRII_c, ↓pRIL_c, ↓pRR_c, ↓pV_c, ↓pVV_c, ↓gI_c, ↓gL_c, ↓gR_c, f2_0, f2_1, nk_n, nk_i, nk_r, ↓reduceIte, r32, r64, Nat.reduceAdd, Nat.reduceSub, Nat.reduceEqDiff, Nat.reduceLT, Nat.reduceLeDiff, Nat.reduceBEq, Int.reduceAdd, Int.reduceSub, Int.reduceMul, Int.reduceNeg, Int.reduceToNat, Int.reduceLE, Int.reduceLT, Int.reduceEq, Int.reduceNatCast', Int.reduceNatCast, Int.natCast_zero, Int.toNat_natCast, Int.toNat_zero, Int.toNat_one, List.length_cons, List.length_nil, true_and, and_true, and_self, true_or, or_true, false_or, or_false, Bool.not_true, Bool.not_false, Nat.lt_add_one, Nat.zero_lt_succ, N0, swL_n, swL_c, List.toList_toArray, false_implies, true_implies, implies_true, forall_const, not_false_eq_true, not_true_eq_false, and_false, false_and]
  simp only [hK9]
  clear hK9 K9v
  have hfin : ∀ (A q : Int) (e6 : Option AV), 0 ≤ A → A ≤ 300000000 → (gapC (fun b => M (3 + b)) (M (368 + 5 * i)) u (M 88) (M 87) ≤ M 79 7 → A = gapC (fun b => M (3 + b)) (M (368 + 5 * i)) u (M 88) (M 87)) → (¬ gapC (fun b => M (3 + b)) (M (368 + 5 * i)) u (M 88) (M 87) ≤ M 79 7 → M 79 7 < A) → J l D cy (GM l D cy 5 cX5_gapOfTrial 7 (d + 3) 0 0 false (some .int) (gapO (gapC (fun b => M (3 + b)) (M (368 + 5 * i)) u (M 88) (M 87)) (M 79 7) (N0, R0, M))) 81 [some (.inr (.inr (some 79))), some (.inr (.inr (some (367 + 5 * i)))), some (.inr (.inr (some 1))), some (.inl u), some (.inl A), some (.inl q), e6] [] (449, R0, M) 0 0 := by
    intro A q e6 b1 b2 b3 b4
    refine J_rnG GM_fa (by omega) (by omega) (by omega) 1 _ _ _ _ (fun K9v hK9 => ?_)
    simp (maxSteps := 4000000) only [↓(X_iload (pc' := 83) dX5_gapOfTrial_81 rfl), ↓gI_4, rn_0, gV_s, ↓pI_c, ↓pII_c, ↓pL_c, ↓pLL_c, ↓pR_c, ↓pRI_c, ↓pRII_c, ↓pRIL_c, ↓pRR_c, ↓pV_c, ↓pVV_c, ↓gI_c, ↓gL_c, ↓gR_c, f2_0, f2_1, nk_n, nk_i, nk_r, ↓reduceIte, r32, r64, Nat.reduceAdd, Nat.reduceSub, Nat.reduceEqDiff, Nat.reduceLT, Nat.reduceLeDiff, Nat.reduceBEq, Int.reduceAdd, Int.reduceSub, Int.reduceMul, Int.reduceNeg, Int.reduceToNat, Int.reduceLE, Int.reduceLT, Int.reduceEq, Int.reduceNatCast', Int.reduceNatCast, Int.natCast_zero, Int.toNat_natCast, Int.toNat_zero, Int.toNat_one, List.length_cons, List.length_nil, true_and, and_true, and_self, true_or, or_true, false_or, or_false, Bool.not_true, Bool.not_false, Nat.lt_add_one, Nat.zero_lt_succ, N0, swL_n, swL_c, List.toList_toArray, false_implies, true_implies, implies_true, forall_const, not_false_eq_true, not_true_eq_false, and_false, false_and]
    simp only [hK9]
    clear hK9 K9v
    refine J_iret dX5_gapOfTrial_83 rfl (by omega) (by omega) (⟨rfl, A, rfl, b3, b4, b1, b2⟩)
  have e0 : gapC (fun b => M (3 + b)) (M (368 + 5 * i)) u (M 88) (M 87) = gpC (fun b => M (3 + b)) (M (368 + 5 * i)) u (M 88) (M 87) 0 + gpC (fun b => M (3 + b)) (M (368 + 5 * i)) u (M 88) (M 87) 1 + gpC (fun b => M (3 + b)) (M (368 + 5 * i)) u (M 88) (M 87) 2 := rfl
  generalize gapC (fun b => M (3 + b)) (M (368 + 5 * i)) u (M 88) (M 87) = G at hfin e0 ⊢
  refine ok_gap_step d i u 0 0 _ (by exact nk_n.mpr trivial) hT (by omega) (by omega) (fun h => hfin _ _ _ (by omega) (by omega) (by omega) (by omega)) (fun h s => ?_)
  refine ok_gap_step d i u _ 1 _ (by exact nk_i.mpr trivial) hT (by omega) (by omega) (fun h => hfin _ _ _ (by omega) (by omega) (by omega) (by omega)) (fun h s => ?_)
  refine ok_gap_step d i u _ 2 _ (by exact nk_i.mpr trivial) hT (by omega) (by omega) (fun h => hfin _ _ _ (by omega) (by omega) (by omega) (by omega)) (fun h s => ?_)
  refine J_rnG GM_fa (by omega) (by omega) (by omega) 3 _ _ _ _ (fun K9v hK9 => ?_)
  simp (maxSteps := 4000000) only [↓(X_iload (pc' := 13) dX5_gapOfTrial_11 rfl), ↓gI_5, ↓(X_iconst (pc' := 14) dX5_gapOfTrial_13 rfl), ↓(X_icmp_ge (tgt := 81) (pc' := 17) dX5_gapOfTrial_14 (by decide) rfl), rn_0, gV_s, ↓pI_c, ↓pII_c, ↓pL_c, ↓pLL_c, ↓pR_c, ↓pRI_c, ↓pRII_c, ↓pRIL_c, ↓pRR_c, ↓pV_c, ↓pVV_c, ↓gI_c, ↓gL_c, ↓gR_c, f2_0, f2_1, nk_n, nk_i, nk_r, ↓reduceIte, r32, r64, Nat.reduceAdd, Nat.reduceSub, Nat.reduceEqDiff, Nat.reduceLT, Nat.reduceLeDiff, Nat.reduceBEq, Int.reduceAdd, Int.reduceSub, Int.reduceMul, Int.reduceNeg, Int.reduceToNat, Int.reduceLE, Int.reduceLT, Int.reduceEq, Int.reduceNatCast', Int.reduceNatCast, Int.natCast_zero, Int.toNat_natCast, Int.toNat_zero, Int.toNat_one, List.length_cons, List.length_nil, true_and, and_true, and_self, true_or, or_true, false_or, or_false, Bool.not_true, Bool.not_false, Nat.lt_add_one, Nat.zero_lt_succ, N0, swL_n, swL_c, List.toList_toArray, false_implies, true_implies, implies_true, forall_const, not_false_eq_true, not_true_eq_false, and_false, false_and]
  simp only [hK9]
  clear hK9 K9v
  exact hfin _ _ _ (by omega) (by omega) (by omega) (by omega)
/-- the state of a search: 0 found, 1 the greatest gap allowed, 2 the tenths of a tin, 3 the tin, 4 the gap, 5 to 8 the tenths -/
def RS (M : Nat → Nat → Int) (s : Nat → Int) : Prop := M 79 6 = s 0 ∧ M 79 7 = s 1 ∧ M 80 1 = s 2 ∧ M 80 2 = s 3 ∧ M 80 3 = s 4 ∧ M 81 0 = s 5 ∧ M 81 1 = s 6 ∧ M 81 2 = s 7 ∧ M 81 3 = s 8
def rec9 (G tt tin a b c e : Int) : Nat → Int := fun k => if k = 0 then 1 else if k = 1 then G - 1 else if k = 2 then tt else if k = 3 then tin else if k = 4 then G else if k = 5 then a else if k = 6 then b else if k = 7 then c else e
def stepS (G tt tin a b c e : Int) (s : Nat → Int) : Nat → Int := if G ≤ s 1 then rec9 G tt tin a b c e else s
set_option maxRecDepth 100000 in
set_option maxHeartbeats 4000000 in
theorem ok_tryTrial {M : Nat → Nat → Int} (d i : Nat) (u tin tt : Int) (s : Nat → Int) (hT : trialOK M i u) (hs : RS M s) : Ok l D cy (d + 4) 0 0 yX5_tryTrial cX5_tryTrial 7 (none) [.inr (.inr (some (79))), .inr (.inr (some (367 + 5 * i))), .inr (.inr (some (1))), .inl (tin), .inl (tt)] (N0, R0, M) (fun o ν => o = .inl none ∧ ∃ M2 : Nat → Nat → Int, ν = (N0, R0, M2) ∧ (∀ x, x ≠ 79 → x ≠ 80 → x ≠ 81 → M2 x = M x) ∧ (∀ k, k ≠ 6 → k ≠ 7 → M2 79 k = M 79 k) ∧ RS M2 (stepS (gapC (fun b => M (3 + b)) (M (368 + 5 * i)) u (M 88) (M 87)) tt tin (M 87 0) (M 87 1) (M 87 2) (M 87 3) s)) := by
  refine Ok.intro (o := 5) (ini := false) [some (.inr (.inr (some (79)))), some (.inr (.inr (some (367 + 5 * i)))), some (.inr (.inr (some (1)))), some (.inl (tin)), some (.inl (tt)), none, none] (by decide +kernel) rfl (fun h => by cases h) rfl (Nat.le_of_ble_eq_true rfl) rfl ?_
  obtain ⟨hi, hu, hg, hu1, hu2, hTP, -, -, -, hal⟩ := id hT
  obtain ⟨a1, a2, a3, -⟩ := job_at i hi
  refine J_rnG GM_fa (by omega) (by omega) (by omega) 3 _ _ _ _ (fun K9v hK9 => ?_)
  simp (maxSteps := 4000000) only [↓(X_aload_n (k := 0) (pc' := 1) dX5_tryTrial_0 rfl rfl), ↓gR_0, ↓(X_aload_n (k := 1) (pc' := 2) dX5_tryTrial_1 rfl rfl), ↓gR_1, ↓(X_aload_n (k := 2) (pc' := 3) dX5_tryTrial_2 rfl rfl), ↓gR_2, rn_0, gV_s, ↓pI_c, ↓pII_c, ↓pL_c, ↓pLL_c, ↓pR_c, ↓pRI_c, ↓pRII_c, ↓pRIL_c, ↓pRR_c, ↓pV_c, ↓pVV_c, ↓gI_c, ↓gL_c, ↓gR_c, f2_0, f2_1, nk_n, nk_i, nk_r, ↓reduceIte, r32, r64, Nat.reduceAdd, Nat.reduceSub, Nat.reduceEqDiff, Nat.reduceLT, Nat.reduceLeDiff, Nat.reduceBEq, Int.reduceAdd, Int.reduceSub, Int.reduceMul, Int.reduceNeg, Int.reduceToNat, Int.reduceLE, Int.reduceLT, Int.reduceEq, Int.reduceNatCast', Int.reduceNatCast, Int.natCast_zero, Int.toNat_natCast, Int.toNat_zero, Int.toNat_one, List.length_cons, List.length_nil, true_and, and_true, and_self, true_or, or_true, false_or, or_false, Bool.not_true, Bool.not_false, Nat.lt_add_one, Nat.zero_lt_succ, N0, swL_n, swL_c, List.toList_toArray, false_implies, true_implies, implies_true, forall_const, not_false_eq_true, not_true_eq_false, and_false, false_and]
  simp only [hK9]
  clear hK9 K9v
  refine J_callV (ci := 5) GM_fa (ok_gapOfTrial (M := M) (d + 0) i u hT) (by first | exact calm_det | assumption | (intro q9 ν9 h9; obtain ⟨h8, h6, M9, h7, -⟩ := h9; exact ⟨⟨_, h8⟩, by rw [h7]; rfl⟩) | (intro q9 ν9 h9; obtain ⟨h8, M9, h7, -⟩ := h9; first | exact ⟨⟨_, h8⟩, by rw [h7]; rfl⟩ | exact ⟨⟨_, h7⟩, by rw [h8]; rfl⟩ | exact ⟨⟨_, h7⟩, by rw [h8]⟩)) dX5_tryTrial_3 k_5_109 (by omega) (Nat.le_of_ble_eq_true rfl) ⟨by omega, by omega⟩ rfl (by decide +kernel) rfl (by decide) (by simp only [N0]; omega) (by simp) rfl (fun v ν hv => ?_)
  obtain ⟨rfl, z, hv0, h1, h2, h3, h4⟩ := hv
  cases hv0
  simp only [Option.toList, List.cons_append, List.nil_append]
  generalize gapC (fun b => M (3 + b)) (M (368 + 5 * i)) u (M 88) (M 87) = G at h1 h2 ⊢
  have r1 : -2147483648 ≤ z ∧ z ≤ 2147483647 := by omega
  have r2 : -2147483648 ≤ M 79 7 ∧ M 79 7 ≤ 2147483647 := by omega
  obtain ⟨s0, s1, s2, s3, s4, s5, s6, s7, s8⟩ := id hs
  refine J_rnG GM_fa (by omega) (by omega) (by omega) 5 _ _ _ _ (fun K9v hK9 => ?_)
  simp (maxSteps := 4000000) only [↓(X_istore (pc' := 8) dX5_tryTrial_6 rfl), ↓sto_5, ↓(X_iload (pc' := 10) dX5_tryTrial_8 rfl), ↓gI_5, ↓(X_aload_n (k := 0) (pc' := 11) dX5_tryTrial_10 rfl rfl), ↓gR_0, ↓(X_getI (pc' := 14) fl_5_48 (by decide) dX5_tryTrial_11 rfl), kd_79, ↓(X_icmp_le (tgt := 18) (pc' := 17) dX5_tryTrial_14 (by decide) rfl), rn_0, gV_s, ↓pI_c, ↓pII_c, ↓pL_c, ↓pLL_c, ↓pR_c, ↓pRI_c, ↓pRII_c, ↓pRIL_c, ↓pRR_c, ↓pV_c, ↓pVV_c, ↓gI_c, ↓gL_c, ↓gR_c, f2_0, f2_1, nk_n, nk_i, nk_r, ↓reduceIte, r32, r64, Nat.reduceAdd, Nat.reduceSub, Nat.reduceEqDiff, Nat.reduceLT, Nat.reduceLeDiff, Nat.reduceBEq, Int.reduceAdd, Int.reduceSub, Int.reduceMul, Int.reduceNeg, Int.reduceToNat, Int.reduceLE, Int.reduceLT, Int.reduceEq, Int.reduceNatCast', Int.reduceNatCast, Int.natCast_zero, Int.toNat_natCast, Int.toNat_zero, Int.toNat_one, List.length_cons, List.length_nil, true_and, and_true, and_self, true_or, or_true, false_or, or_false, Bool.not_true, Bool.not_false, Nat.lt_add_one, Nat.zero_lt_succ, N0, swL_n, swL_c, List.toList_toArray, false_implies, true_implies, implies_true, forall_const, not_false_eq_true, not_true_eq_false, and_false, false_and, r1, r2]
  simp only [hK9]
  clear hK9 K9v
  split
  · rename_i h
    have hG : ¬ G ≤ s 1 := by rw [← s1]; intro q; have := h1 q; omega
    refine J_vret dX5_tryTrial_17 rfl (by omega) (by omega) (⟨rfl, M, rfl, fun _ _ _ _ => rfl, fun _ _ _ => rfl, by rw [stepS, if_neg hG]; exact hs⟩)
  · rename_i h
    have hG : G ≤ s 1 := by
      rw [← s1]
      rcases (show G ≤ M 79 7 ∨ ¬ G ≤ M 79 7 by omega) with q | q
      · exact q
      · have := h2 q; omega
    have hz : z = G := h1 (by rw [s1]; exact hG)
    subst hz
    refine J_rnG GM_fa (by omega) (by omega) (by omega) 120 _ _ _ _ (fun K9v hK9 => ?_)
    simp (maxSteps := 4000000) only [↓(X_aload_n (k := 0) (pc' := 1) dX5_tryTrial_0 rfl rfl), ↓gR_0, ↓(X_aload_n (k := 1) (pc' := 2) dX5_tryTrial_1 rfl rfl), ↓gR_1, ↓(X_aload_n (k := 2) (pc' := 3) dX5_tryTrial_2 rfl rfl), ↓gR_2, ↓(X_invokevirtual dX5_tryTrial_3), ↓(X_istore (pc' := 8) dX5_tryTrial_6 rfl), ↓sto_5, ↓(X_iload (pc' := 10) dX5_tryTrial_8 rfl), ↓gI_5, ↓(X_aload_n (k := 0) (pc' := 11) dX5_tryTrial_10 rfl rfl), ↓(X_getI (pc' := 14) fl_5_48 (by decide) dX5_tryTrial_11 rfl), kd_79, ↓(X_icmp_le (tgt := 18) (pc' := 17) dX5_tryTrial_14 (by decide) rfl), ↓(X_return_ dX5_tryTrial_17), ↓(X_aload_n (k := 0) (pc' := 19) dX5_tryTrial_18 rfl rfl), ↓(X_iconst (pc' := 20) dX5_tryTrial_19 rfl), ↓(X_putI (pc' := 23) fl_5_38 (by decide) dX5_tryTrial_20 rfl), Nat.one_ne_zero, Nat.reduceEqDiff, ↓(X_aload_n (k := 0) (pc' := 24) dX5_tryTrial_23 rfl rfl), ↓(X_iload (pc' := 26) dX5_tryTrial_24 rfl), ↓(X_iconst (pc' := 27) dX5_tryTrial_26 rfl), ↓(X_isub (pc' := 28) dX5_tryTrial_27 rfl), ↓(X_putI (pc' := 31) fl_5_48 (by decide) dX5_tryTrial_28 rfl), ↓(X_aload_n (k := 0) (pc' := 32) dX5_tryTrial_31 rfl rfl), ↓(X_getR (pc' := 35) fl_5_12 dX5_tryTrial_32 rfl), ↓(gV_c r0_79_0), kd_80, ↓(X_iload (pc' := 37) dX5_tryTrial_35 rfl), ↓(X_putI (pc' := 40) fl_5_113 (by decide) dX5_tryTrial_37 rfl), ↓(X_aload_n (k := 0) (pc' := 41) dX5_tryTrial_40 rfl rfl), ↓(X_getR (pc' := 44) fl_5_12 dX5_tryTrial_41 rfl), ↓(X_iload_n (k := 3) (pc' := 45) dX5_tryTrial_44 rfl rfl), ↓gI_3, ↓(X_putI (pc' := 48) fl_5_114 (by decide) dX5_tryTrial_45 rfl), ↓(X_aload_n (k := 0) (pc' := 49) dX5_tryTrial_48 rfl rfl), ↓(X_getR (pc' := 52) fl_5_12 dX5_tryTrial_49 rfl), ↓(X_iload (pc' := 54) dX5_tryTrial_52 rfl), ↓gI_4, ↓(X_putI (pc' := 57) fl_5_117 (by decide) dX5_tryTrial_54 rfl), ↓(X_iconst (pc' := 58) dX5_tryTrial_57 rfl), ↓(X_istore (pc' := 60) dX5_tryTrial_58 rfl), ↓sto_6, ↓(X_iload (pc' := 62) dX5_tryTrial_60 rfl), ↓gI_6, ↓(X_iconst (pc' := 63) dX5_tryTrial_62 rfl), ↓(X_icmp_ge (tgt := 89) (pc' := 66) dX5_tryTrial_63 (by decide) rfl), ↓(X_aload_n (k := 0) (pc' := 67) dX5_tryTrial_66 rfl rfl), ↓(X_getR (pc' := 70) fl_5_12 dX5_tryTrial_67 rfl), ↓(X_getR (pc' := 73) fl_5_120 dX5_tryTrial_70 rfl), ↓(gV_c r0_80_0), kd_81, ln_81, ↓(X_iload (pc' := 75) dX5_tryTrial_73 rfl), ↓(X_aload_n (k := 0) (pc' := 76) dX5_tryTrial_75 rfl rfl), ↓(X_getR (pc' := 79) fl_5_32 dX5_tryTrial_76 rfl), ↓(gV_c r0_79_4), kd_87, ln_87, ↓(X_iload (pc' := 81) dX5_tryTrial_79 rfl), ↓(X_iaload (pc' := 82) dX5_tryTrial_81 rfl), ↓(X_iastore (pc' := 83) dX5_tryTrial_82 rfl), ↓(X_iinc (pc' := 86) dX5_tryTrial_83 rfl), ↓(X_goto (pc' := 60) dX5_tryTrial_86 (by decide)), ↓(X_return_ dX5_tryTrial_89), rn_0, gV_s, ↓pI_c, ↓pII_c, ↓pL_c, ↓pLL_c, ↓pR_c, ↓pRI_c, ↓pRII_c, ↓pRIL_c, ↓pRR_c, ↓pV_c, ↓pVV_c, ↓gI_c, ↓gL_c, ↓gR_c, f2_0, f2_1, nk_n, nk_i, nk_r, ↓reduceIte, r32, r64, Nat.reduceAdd, Nat.reduceSub, Nat.reduceEqDiff, Nat.reduceLT, Nat.reduceLeDiff, Nat.reduceBEq, Int.reduceAdd, Int.reduceSub, Int.reduceMul, Int.reduceNeg, Int.reduceToNat, Int.reduceLE, Int.reduceLT, Int.reduceEq, Int.reduceNatCast', Int.reduceNatCast, Int.natCast_zero, Int.toNat_natCast, Int.toNat_zero, Int.toNat_one, List.length_cons, List.length_nil, true_and, and_true, and_self, true_or, or_true, false_or, or_false, Bool.not_true, Bool.not_false, Nat.lt_add_one, Nat.zero_lt_succ, N0, swL_n, swL_c, List.toList_toArray, false_implies, true_implies, implies_true, forall_const, not_false_eq_true, not_true_eq_false, and_false, false_and, up2_s, up2_k, ne_eq, up2_c (show (87 : Nat) ≠ 81 by decide), up2_c (show (87 : Nat) ≠ 80 by decide), up2_c (show (87 : Nat) ≠ 79 by decide)]
    simp only [hK9]
    clear hK9 K9v
    refine J_vret dX5_tryTrial_89 rfl (by omega) (by omega) (⟨rfl, _, rfl, fun x q1 q2 q3 => by funext k; simp [up2, q1, q2, q3], fun k q1 q2 => by simp [up2, q1, q2], by rw [stepS, if_pos hG]; simp [RS, up2, rec9]⟩)
end C4
