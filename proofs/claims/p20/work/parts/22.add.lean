/-! a run is added to the plan -/
theorem washF_congr {a a' b b' : Nat → Int} (h : ∀ p, p < 3 → a p = a' p) (h2 : ∀ p, p < 3 → b p = b' p) : washF a b = washF a' b' := by
  simp only [washF, h 0 (by omega), h 1 (by omega), h 2 (by omega), h2 0 (by omega), h2 1 (by omega), h2 2 (by omega)]
theorem washF_bd {a b : Nat → Int} (ha : col3 a) (hb : col3 b) : 0 ≤ washF a b ∧ washF a b ≤ 600 := by
  obtain ⟨x1, x2, x3⟩ := ha
  obtain ⟨y1, y2, y3⟩ := hb
  simp only [washF]
  split <;> omega
theorem col3_congr {a a' : Nat → Int} (h : ∀ p, p < 3 → a p = a' p) (ha : col3 a') : col3 a := by
  simp only [col3, h 0 (by omega), h 1 (by omega), h 2 (by omega)]
  exact ha
/-- what washing to the colour of a job costs as the press stands -/
def pw (M : Nat → Nat → Int) (i : Nat) : Int := if M 74 1 = 0 then washF (M 75) (M (369 + 5 * i)) else 0
def prOK (M : Nat → Nat → Int) : Prop := (M 74 1 = 0 ∨ M 74 1 = 1) ∧ (M 74 1 = 0 → col3 (M 75))
/-- the colours of the jobs are colours -/
def jcOK (M : Nat → Nat → Int) : Prop := ∀ i, i < 16 → col3 (M (369 + 5 * i))
/-- a plan of n runs, the jobs js, over the world M -/
def PI (M M' : Nat → Nat → Int) (n : Nat) (js : Nat → Nat) : Prop := (∀ x, x < 89 ∨ 367 ≤ x → M' x = M x) ∧ wOK M' ∧ M' 89 4 = (n : Int) ∧ (∀ k, k < n → js k < 16 ∧ M' 90 k = (js k : Int) ∧ (∀ p, p < 3 → M' (92 + k) p = M (369 + 5 * js k) p) ∧ M' 109 k = pw M (js k)) ∧ (∀ j k, j < n → k < n → j ≠ k → M' (101 + j) k = washF (M (369 + 5 * js j)) (M (369 + 5 * js k)))
def aL (M M1 Mx : Nat → Nat → Int) (n i o : Nat) (js : Nat → Nat) : Prop := (∀ x, x < 101 ∨ 109 ≤ x → Mx x = M1 x) ∧ wOK Mx ∧ (∀ j k, j < n → k < n → Mx (101 + j) k = M1 (101 + j) k) ∧ (∀ q, q < o → Mx (101 + n) q = washF (M (369 + 5 * i)) (M (369 + 5 * js q)) ∧ Mx (101 + q) n = washF (M (369 + 5 * js q)) (M (369 + 5 * i)))
theorem wOK_up {M : Nat → Nat → Int} {f k : Nat} {z : Int} (h : wOK M) (hf : f ≤ 8) (hz : 0 ≤ z ∧ z ≤ 600) : wOK (up2 M (101 + f) k z) := by
  refine ⟨fun r hr j hj => ?_, fun s hs r hr => ?_⟩
  · simp only [up2]
    split
    · omega
    · exact h.1 r hr j hj
  · rw [up2_c (by omega)]
    exact h.2 s hs r hr
section C8
variable {l : Launch} {D : va_G} {cy : Nat → ClassId}
set_option maxRecDepth 100000 in
set_option maxHeartbeats 4000000 in
theorem jj_add {M M1 : Nat → Nat → Int} {Φ : Out → Mem → Prop} (d n i : Nat) (js : Nat → Nat) (hn : n < 8) (hi : i < 16) (hJ : jcOK M) (hjs : ∀ k, k < n → js k < 16) (g1 : M1 89 4 = (n : Int)) (g2 : M1 (369 + 5 * i) = M (369 + 5 * i)) (g3 : ∀ k, k < n → ∀ p, p < 3 → M1 (92 + k) p = M (369 + 5 * js k) p) : ∀ (k o : Nat) (Mx : Nat → Nat → Int), o + k = n → aL M M1 Mx n i o js → (∀ Mx, aL M M1 Mx n i n js → J l D cy (GM l D cy 7 cX7_add 5 (d + 3) 0 0 false none Φ) 115 [some (.inr (.inr (some 89))), some (.inl (i : Int)), some (.inr (.inr (some (369 + 5 * i)))), some (.inr (.inr (some 74))), some (.inl (n : Int))] [] (449, R0, Mx) 0 0) →
    J l D cy (GM l D cy 7 cX7_add 5 (d + 3) 0 0 false none Φ) 54 [some (.inr (.inr (some 89))), some (.inl (i : Int)), some (.inr (.inr (some (369 + 5 * i)))), some (.inr (.inr (some 74))), some (.inl (o : Int))] [] (449, R0, Mx) 0 0 := by
  intro k
  induction k with
  | zero =>
    intro o Mx ho hM hfin
    have e : o = n := by omega
    subst e
    have f1 : Mx 89 4 = (o : Int) := by rw [hM.1 89 (by omega)]; exact g1
    have h1 : ¬ (o : Int) < (o : Int) := by omega
    have r1 : -2147483648 ≤ (o : Int) ∧ (o : Int) ≤ 2147483647 := by omega
    refine J_rnG GM_fa (by omega) (by omega) (by omega) 4 _ _ _ _ (fun K9v hK9 => ?_)
    simp (maxSteps := 4000000) only [↓(X_iload (pc' := 56) dX7_add_54 rfl), ↓gI_4, ↓(X_aload_n (k := 0) (pc' := 57) dX7_add_56 rfl rfl), ↓gR_0, ↓(X_getI (pc' := 60) fl_7_26 (by decide) dX7_add_57 rfl), kd_89, ↓(X_icmp_ge (tgt := 115) (pc' := 63) dX7_add_60 (by decide) rfl), rn_0, gV_s, ↓pI_c, ↓pII_c, ↓pL_c, ↓pLL_c, ↓pR_c, ↓pRI_c, ↓pRII_c, ↓pRIL_c, ↓pRR_c, ↓pV_c, ↓pVV_c, ↓gI_c, ↓gL_c, ↓gR_c, f2_0, f2_1, nk_n, nk_i, nk_r, ↓reduceIte, r32, r64, Nat.reduceAdd, Nat.reduceSub, Nat.reduceEqDiff, Nat.reduceLT, Nat.reduceLeDiff, Nat.reduceBEq, Int.reduceAdd, Int.reduceSub, Int.reduceMul, Int.reduceNeg, Int.reduceToNat, Int.reduceLE, Int.reduceLT, Int.reduceEq, Int.reduceNatCast', Int.reduceNatCast, Int.natCast_zero, Int.toNat_natCast, Int.toNat_zero, Int.toNat_one, List.length_cons, List.length_nil, true_and, and_true, and_self, true_or, or_true, false_or, or_false, Bool.not_true, Bool.not_false, Nat.lt_add_one, Nat.zero_lt_succ, N0, swL_n, swL_c, List.toList_toArray, false_implies, true_implies, implies_true, forall_const, not_false_eq_true, not_true_eq_false, and_false, false_and, f1, h1, r1]
    simp only [hK9]
    clear hK9 K9v
    exact hfin Mx hM
  | succ k ih =>
    intro o Mx ho hM hfin
    obtain ⟨m1, m2, m3, m4⟩ := id hM
    have f1 : Mx 89 4 = (n : Int) := by rw [m1 89 (by omega)]; exact g1
    have h1 : (o : Int) < (n : Int) := by omega
    have r1 : -2147483648 ≤ (o : Int) ∧ (o : Int) ≤ 2147483647 := by omega
    have r2 : -2147483648 ≤ (n : Int) ∧ (n : Int) ≤ 2147483647 := by omega
    obtain ⟨-, -, -, c1, c2, -⟩ := job_at i hi
    obtain ⟨w1, w2, w3⟩ := wcol_at o (by omega)
    obtain ⟨v1, v2, v3⟩ := wcost_at n (by omega)
    obtain ⟨u1, u2, u3⟩ := wcost_at o (by omega)
    have i1 : (0 : Int) ≤ (n : Int) ∧ (n : Int) < 9 := by omega
    have i2 : (0 : Int) ≤ (o : Int) ∧ (o : Int) < 8 := by omega
    have i3 : (o : Int) < 9 := by omega
    have i7 : (n : Int) < 8 := by omega
    have i4 : 101 + n < 449 := by omega
    have i5 : 92 + o < 449 := by omega
    have i6 : 101 + o < 449 := by omega
    have hc1 : ∀ p, p < 3 → Mx (369 + 5 * i) p = M (369 + 5 * i) p := fun p _ => by rw [m1 _ (by omega), g2]
    have hc2 : ∀ p, p < 3 → Mx (92 + o) p = M (369 + 5 * js o) p := fun p hp => by rw [m1 _ (by omega)]; exact g3 o (by omega) p hp
    have k1 := col3_congr hc1 (hJ i hi)
    have k2 := col3_congr hc2 (hJ (js o) (hjs o (by omega)))
    refine J_rnG GM_fa (by omega) (by omega) (by omega) 15 _ _ _ _ (fun K9v hK9 => ?_)
    simp (maxSteps := 4000000) only [↓(X_iload (pc' := 56) dX7_add_54 rfl), ↓gI_4, ↓(X_aload_n (k := 0) (pc' := 57) dX7_add_56 rfl rfl), ↓gR_0, ↓(X_getI (pc' := 60) fl_7_26 (by decide) dX7_add_57 rfl), kd_89, ↓(X_icmp_ge (tgt := 115) (pc' := 63) dX7_add_60 (by decide) rfl), ↓(X_aload_n (k := 0) (pc' := 64) dX7_add_63 rfl rfl), ↓(X_getR (pc' := 67) fl_7_20 dX7_add_64 rfl), ↓(gV_c r0_89_2), kd_100, ln_100, ↓(X_aload_n (k := 0) (pc' := 68) dX7_add_67 rfl rfl), ↓(X_getI (pc' := 71) fl_7_26 (by decide) dX7_add_68 rfl), ↓(X_aaload (pc' := 72) dX7_add_71 rfl), ↓(X_iload (pc' := 74) dX7_add_72 rfl), ↓(X_aload_n (k := 2) (pc' := 75) dX7_add_74 rfl rfl), ↓gR_2, ↓(X_aload_n (k := 0) (pc' := 76) dX7_add_75 rfl rfl), ↓(X_getR (pc' := 79) fl_7_17 dX7_add_76 rfl), ↓(gV_c r0_89_1), kd_91, ln_91, ↓(X_iload (pc' := 81) dX7_add_79 rfl), ↓(X_aaload (pc' := 82) dX7_add_81 rfl), rn_0, gV_s, ↓pI_c, ↓pII_c, ↓pL_c, ↓pLL_c, ↓pR_c, ↓pRI_c, ↓pRII_c, ↓pRIL_c, ↓pRR_c, ↓pV_c, ↓pVV_c, ↓gI_c, ↓gL_c, ↓gR_c, f2_0, f2_1, nk_n, nk_i, nk_r, ↓reduceIte, r32, r64, Nat.reduceAdd, Nat.reduceSub, Nat.reduceEqDiff, Nat.reduceLT, Nat.reduceLeDiff, Nat.reduceBEq, Int.reduceAdd, Int.reduceSub, Int.reduceMul, Int.reduceNeg, Int.reduceToNat, Int.reduceLE, Int.reduceLT, Int.reduceEq, Int.reduceNatCast', Int.reduceNatCast, Int.natCast_zero, Int.toNat_natCast, Int.toNat_zero, Int.toNat_one, List.length_cons, List.length_nil, true_and, and_true, and_self, true_or, or_true, false_or, or_false, Bool.not_true, Bool.not_false, Nat.lt_add_one, Nat.zero_lt_succ, N0, swL_n, swL_c, List.toList_toArray, false_implies, true_implies, implies_true, forall_const, not_false_eq_true, not_true_eq_false, and_false, false_and, f1, h1, r1, r2, ↓(gV_c v3), ↓(gV_c w3), kd_91, kd_100, ln_91, ln_100, i1, i2, i3, i4, i5, i7]
    simp only [hK9]
    clear hK9 K9v
    refine J_callSd GM_fa (ok_washBetween (M := Mx) (d + 1) (369 + 5 * i) (92 + o) c1 c2 (by omega) w1 w2 i5 k1 k2) dX7_add_82 k_7_30 (by omega) (Nat.le_of_ble_eq_true rfl) ⟨by omega, by omega⟩ rfl (by simp) rfl rfl ?_
    simp only [Option.toList, List.cons_append, List.nil_append]
    rw [washF_congr hc1 hc2]
    have hb := washF_bd (hJ i hi) (hJ (js o) (hjs o (by omega)))
    have hb2 := washF_bd (hJ (js o) (hjs o (by omega))) (hJ i hi)
    refine J_rnG GM_fa (by omega) (by omega) (by omega) 1 _ _ _ _ (fun K9v hK9 => ?_)
    simp (maxSteps := 4000000) only [↓(X_iastore (pc' := 86) dX7_add_85 rfl), rn_0, gV_s, ↓pI_c, ↓pII_c, ↓pL_c, ↓pLL_c, ↓pR_c, ↓pRI_c, ↓pRII_c, ↓pRIL_c, ↓pRR_c, ↓pV_c, ↓pVV_c, ↓gI_c, ↓gL_c, ↓gR_c, f2_0, f2_1, nk_n, nk_i, nk_r, ↓reduceIte, r32, r64, Nat.reduceAdd, Nat.reduceSub, Nat.reduceEqDiff, Nat.reduceLT, Nat.reduceLeDiff, Nat.reduceBEq, Int.reduceAdd, Int.reduceSub, Int.reduceMul, Int.reduceNeg, Int.reduceToNat, Int.reduceLE, Int.reduceLT, Int.reduceEq, Int.reduceNatCast', Int.reduceNatCast, Int.natCast_zero, Int.toNat_natCast, Int.toNat_zero, Int.toNat_one, List.length_cons, List.length_nil, true_and, and_true, and_self, true_or, or_true, false_or, or_false, Bool.not_true, Bool.not_false, Nat.lt_add_one, Nat.zero_lt_succ, N0, swL_n, swL_c, List.toList_toArray, false_implies, true_implies, implies_true, forall_const, not_false_eq_true, not_true_eq_false, and_false, false_and, v1, v2, i1, i2, i4]
    simp only [hK9]
    clear hK9 K9v
    have q1 : ∀ x, x ≠ 101 + n → up2 Mx (101 + n) o (washF (M (369 + 5 * i)) (M (369 + 5 * js o))) x = Mx x := fun x hx => by funext j; rw [up2_c hx]
    have q2 : ∀ j, j ≠ o → up2 Mx (101 + n) o (washF (M (369 + 5 * i)) (M (369 + 5 * js o))) (101 + n) j = Mx (101 + n) j := fun j hj => up2_k hj
    have q3 : up2 Mx (101 + n) o (washF (M (369 + 5 * i)) (M (369 + 5 * js o))) (101 + n) o = washF (M (369 + 5 * i)) (M (369 + 5 * js o)) := up2_s
    have q4 := wOK_up (f := n) (k := o) m2 (by omega) hb
    generalize up2 Mx (101 + n) o (washF (M (369 + 5 * i)) (M (369 + 5 * js o))) = My at q1 q2 q3 q4 ⊢
    have f2 : My 89 4 = (n : Int) := by rw [q1 89 (by omega)]; exact f1
    have hd1 : ∀ p, p < 3 → My (369 + 5 * i) p = M (369 + 5 * i) p := fun p hp => by rw [q1 _ (by omega)]; exact hc1 p hp
    have hd2 : ∀ p, p < 3 → My (92 + o) p = M (369 + 5 * js o) p := fun p hp => by rw [q1 _ (by omega)]; exact hc2 p hp
    refine J_rnG GM_fa (by omega) (by omega) (by omega) 11 _ _ _ _ (fun K9v hK9 => ?_)
    simp (maxSteps := 4000000) only [↓(X_aload_n (k := 0) (pc' := 87) dX7_add_86 rfl rfl), ↓gR_0, ↓(X_getR (pc' := 90) fl_7_20 dX7_add_87 rfl), kd_89, ↓(gV_c r0_89_2), kd_100, ln_100, ↓(X_iload (pc' := 92) dX7_add_90 rfl), ↓gI_4, ↓(X_aaload (pc' := 93) dX7_add_92 rfl), ↓(X_aload_n (k := 0) (pc' := 94) dX7_add_93 rfl rfl), ↓(X_getI (pc' := 97) fl_7_26 (by decide) dX7_add_94 rfl), ↓(X_aload_n (k := 0) (pc' := 98) dX7_add_97 rfl rfl), ↓(X_getR (pc' := 101) fl_7_17 dX7_add_98 rfl), ↓(gV_c r0_89_1), kd_91, ln_91, ↓(X_iload (pc' := 103) dX7_add_101 rfl), ↓(X_aaload (pc' := 104) dX7_add_103 rfl), ↓(X_aload_n (k := 2) (pc' := 105) dX7_add_104 rfl rfl), ↓gR_2, rn_0, gV_s, ↓pI_c, ↓pII_c, ↓pL_c, ↓pLL_c, ↓pR_c, ↓pRI_c, ↓pRII_c, ↓pRIL_c, ↓pRR_c, ↓pV_c, ↓pVV_c, ↓gI_c, ↓gL_c, ↓gR_c, f2_0, f2_1, nk_n, nk_i, nk_r, ↓reduceIte, r32, r64, Nat.reduceAdd, Nat.reduceSub, Nat.reduceEqDiff, Nat.reduceLT, Nat.reduceLeDiff, Nat.reduceBEq, Int.reduceAdd, Int.reduceSub, Int.reduceMul, Int.reduceNeg, Int.reduceToNat, Int.reduceLE, Int.reduceLT, Int.reduceEq, Int.reduceNatCast', Int.reduceNatCast, Int.natCast_zero, Int.toNat_natCast, Int.toNat_zero, Int.toNat_one, List.length_cons, List.length_nil, true_and, and_true, and_self, true_or, or_true, false_or, or_false, Bool.not_true, Bool.not_false, Nat.lt_add_one, Nat.zero_lt_succ, N0, swL_n, swL_c, List.toList_toArray, false_implies, true_implies, implies_true, forall_const, not_false_eq_true, not_true_eq_false, and_false, false_and, f2, ↓(gV_c u3), ↓(gV_c w3), kd_91, kd_100, ln_91, ln_100, i1, i2, i3, i6, i5]
    simp only [hK9]
    clear hK9 K9v
    refine J_callSd GM_fa (ok_washBetween (M := My) (d + 1) (92 + o) (369 + 5 * i) w1 w2 i5 c1 c2 (by omega) (col3_congr hd2 (hJ (js o) (hjs o (by omega)))) (col3_congr hd1 (hJ i hi))) dX7_add_105 k_7_30 (by omega) (Nat.le_of_ble_eq_true rfl) ⟨by omega, by omega⟩ rfl (by simp) rfl rfl ?_
    simp only [Option.toList, List.cons_append, List.nil_append]
    rw [washF_congr hd2 hd1]
    refine J_rnG GM_fa (by omega) (by omega) (by omega) 3 _ _ _ _ (fun K9v hK9 => ?_)
    simp (maxSteps := 4000000) only [↓(X_iastore (pc' := 109) dX7_add_108 rfl), ↓(X_iinc (pc' := 112) dX7_add_109 rfl), ↓gI_4, ↓sto_4, ↓(X_goto (pc' := 54) dX7_add_112 (by decide)), rn_0, gV_s, ↓pI_c, ↓pII_c, ↓pL_c, ↓pLL_c, ↓pR_c, ↓pRI_c, ↓pRII_c, ↓pRIL_c, ↓pRR_c, ↓pV_c, ↓pVV_c, ↓gI_c, ↓gL_c, ↓gR_c, f2_0, f2_1, nk_n, nk_i, nk_r, ↓reduceIte, r32, r64, Nat.reduceAdd, Nat.reduceSub, Nat.reduceEqDiff, Nat.reduceLT, Nat.reduceLeDiff, Nat.reduceBEq, Int.reduceAdd, Int.reduceSub, Int.reduceMul, Int.reduceNeg, Int.reduceToNat, Int.reduceLE, Int.reduceLT, Int.reduceEq, Int.reduceNatCast', Int.reduceNatCast, Int.natCast_zero, Int.toNat_natCast, Int.toNat_zero, Int.toNat_one, List.length_cons, List.length_nil, true_and, and_true, and_self, true_or, or_true, false_or, or_false, Bool.not_true, Bool.not_false, Nat.lt_add_one, Nat.zero_lt_succ, N0, swL_n, swL_c, List.toList_toArray, false_implies, true_implies, implies_true, forall_const, not_false_eq_true, not_true_eq_false, and_false, false_and, u1, u2, i1, i2, i6, i7]
    simp only [hK9]
    clear hK9 K9v
    rw [show (o : Int) + 1 = ((o + 1 : Nat) : Int) by omega]
    refine ih (o + 1) _ (by omega) ⟨fun x hx => ?_, wOK_up (f := o) q4 (by omega) hb2, fun j k hj hk => ?_, fun q hq => ?_⟩ hfin
    · funext j
      rw [up2_c (by omega), q1 x (by omega)]
      rw [m1 x hx]
    · rw [up2_k (by omega), q1 _ (by omega)]
      exact m3 j k hj hk
    · rcases (show q = o ∨ q < o by omega) with e | e
      · subst e
        exact ⟨by rw [up2_c (by omega), q3], up2_s⟩
      · exact ⟨by rw [up2_c (by omega), q2 q (by omega)]; exact (m4 q e).1, by rw [up2_c (by omega), q1 _ (by omega)]; exact (m4 q e).2⟩
set_option maxRecDepth 100000 in
set_option maxHeartbeats 4000000 in
theorem ok_add {M M0 : Nat → Nat → Int} (d n i : Nat) (js : Nat → Nat) (hP : PI M0 M n js) (hn : n < 8) (hi : i < 16) (hJ : jcOK M0) (hpr : prOK M0) : Ok l D cy (d + 3) 0 0 yX7_add cX7_add 5 (none) [.inr (.inr (some (89))), .inl ((i : Int)), .inr (.inr (some (369 + 5 * i))), .inr (.inr (some (74)))] (N0, R0, M) (fun o ν => o = .inl none ∧ ∃ M2 : Nat → Nat → Int, ν = (N0, R0, M2) ∧ PI M0 M2 (n + 1) (fun k => if k = n then i else js k)) := by
  refine Ok.intro (o := 7) (ini := false) [some (.inr (.inr (some (89)))), some (.inl ((i : Int))), some (.inr (.inr (some (369 + 5 * i)))), some (.inr (.inr (some (74)))), none] (by decide +kernel) rfl (fun h => by cases h) rfl (Nat.le_of_ble_eq_true rfl) rfl ?_
  obtain ⟨p1, p2, p3, p4, p5⟩ := id hP
  obtain ⟨-, -, -, c1, c2, -⟩ := job_at i hi
  obtain ⟨w1, w2, w3⟩ := wcol_at n (by omega)
  obtain ⟨v1, v2, v3⟩ := wcost_at 8 (by omega)
  have i1 : (0 : Int) ≤ (n : Int) ∧ (n : Int) < 8 := by omega
  have i4 : 92 + n < 449 := by omega
  have i5 : 369 + 5 * i < 449 := by omega
  have r1 : -2147483648 ≤ (n : Int) ∧ (n : Int) ≤ 2147483647 := by omega
  refine J_rnG GM_fa (by omega) (by omega) (by omega) 4 _ _ _ _ (fun K9v hK9 => ?_)
  simp (maxSteps := 4000000) only [↓(X_aload_n (k := 0) (pc' := 1) dX7_add_0 rfl rfl), ↓gR_0, ↓(X_getI (pc' := 4) fl_7_26 (by decide) dX7_add_1 rfl), kd_89, ↓(X_bipush (pc' := 6) dX7_add_4 rfl), ↓(X_icmp_lt (tgt := 10) (pc' := 9) dX7_add_6 (by decide) rfl), rn_0, gV_s, ↓pI_c, ↓pII_c, ↓pL_c, ↓pLL_c, ↓pR_c, ↓pRI_c, ↓pRII_c, ↓pRIL_c, ↓pRR_c, ↓pV_c, ↓pVV_c, ↓gI_c, ↓gL_c, ↓gR_c, f2_0, f2_1, nk_n, nk_i, nk_r, ↓reduceIte, r32, r64, Nat.reduceAdd, Nat.reduceSub, Nat.reduceEqDiff, Nat.reduceLT, Nat.reduceLeDiff, Nat.reduceBEq, Int.reduceAdd, Int.reduceSub, Int.reduceMul, Int.reduceNeg, Int.reduceToNat, Int.reduceLE, Int.reduceLT, Int.reduceEq, Int.reduceNatCast', Int.reduceNatCast, Int.natCast_zero, Int.toNat_natCast, Int.toNat_zero, Int.toNat_one, List.length_cons, List.length_nil, true_and, and_true, and_self, true_or, or_true, false_or, or_false, Bool.not_true, Bool.not_false, Nat.lt_add_one, Nat.zero_lt_succ, N0, swL_n, swL_c, List.toList_toArray, false_implies, true_implies, implies_true, forall_const, not_false_eq_true, not_true_eq_false, and_false, false_and, p3, i1, r1]
  simp only [hK9]
  clear hK9 K9v
  refine J_rnG GM_fa (by omega) (by omega) (by omega) 8 _ _ _ _ (fun K9v hK9 => ?_)
  simp (maxSteps := 4000000) only [↓(X_aload_n (k := 0) (pc' := 11) dX7_add_10 rfl rfl), ↓gR_0, ↓(X_getR (pc' := 14) fl_7_9 dX7_add_11 rfl), kd_89, ↓(gV_c r0_89_0), kd_90, ln_90, ↓(X_aload_n (k := 0) (pc' := 15) dX7_add_14 rfl rfl), ↓(X_getI (pc' := 18) fl_7_26 (by decide) dX7_add_15 rfl), ↓(X_iload_n (k := 1) (pc' := 19) dX7_add_18 rfl rfl), ↓gI_1, ↓(X_iastore (pc' := 20) dX7_add_19 rfl), ↓(X_iconst (pc' := 21) dX7_add_20 rfl), ↓(X_istore (pc' := 23) dX7_add_21 rfl), ↓sto_4, rn_0, gV_s, ↓pI_c, ↓pII_c, ↓pL_c, ↓pLL_c, ↓pR_c, ↓pRI_c, ↓pRII_c, ↓pRIL_c, ↓pRR_c, ↓pV_c, ↓pVV_c, ↓gI_c, ↓gL_c, ↓gR_c, f2_0, f2_1, nk_n, nk_i, nk_r, ↓reduceIte, r32, r64, Nat.reduceAdd, Nat.reduceSub, Nat.reduceEqDiff, Nat.reduceLT, Nat.reduceLeDiff, Nat.reduceBEq, Int.reduceAdd, Int.reduceSub, Int.reduceMul, Int.reduceNeg, Int.reduceToNat, Int.reduceLE, Int.reduceLT, Int.reduceEq, Int.reduceNatCast', Int.reduceNatCast, Int.natCast_zero, Int.toNat_natCast, Int.toNat_zero, Int.toNat_one, List.length_cons, List.length_nil, true_and, and_true, and_self, true_or, or_true, false_or, or_false, Bool.not_true, Bool.not_false, Nat.lt_add_one, Nat.zero_lt_succ, N0, swL_n, swL_c, List.toList_toArray, false_implies, true_implies, implies_true, forall_const, not_false_eq_true, not_true_eq_false, and_false, false_and, p3, i1]
  simp only [hK9]
  clear hK9 K9v
  refine J_rnG GM_fa (by omega) (by omega) (by omega) 48 _ _ _ _ (fun K9v hK9 => ?_)
  simp (maxSteps := 4000000) only [↓(X_aload_n (k := 0) (pc' := 1) dX7_add_0 rfl rfl), ↓gR_0, ↓(X_getI (pc' := 4) fl_7_26 (by decide) dX7_add_1 rfl), kd_89, ↓(X_bipush (pc' := 6) dX7_add_4 rfl), ↓(X_icmp_lt (tgt := 10) (pc' := 9) dX7_add_6 (by decide) rfl), ↓(X_return_ dX7_add_9), ↓(X_aload_n (k := 0) (pc' := 11) dX7_add_10 rfl rfl), ↓(X_getR (pc' := 14) fl_7_9 dX7_add_11 rfl), ↓(gV_c r0_89_0), kd_90, ln_90, ↓(X_aload_n (k := 0) (pc' := 15) dX7_add_14 rfl rfl), ↓(X_getI (pc' := 18) fl_7_26 (by decide) dX7_add_15 rfl), ↓(X_iload_n (k := 1) (pc' := 19) dX7_add_18 rfl rfl), ↓gI_1, ↓(X_iastore (pc' := 20) dX7_add_19 rfl), ↓(X_iconst (pc' := 21) dX7_add_20 rfl), ↓(X_istore (pc' := 23) dX7_add_21 rfl), ↓sto_4, ↓(X_iload (pc' := 25) dX7_add_23 rfl), ↓gI_4, ↓(X_iconst (pc' := 26) dX7_add_25 rfl), ↓(X_icmp_ge (tgt := 51) (pc' := 29) dX7_add_26 (by decide) rfl), ↓(X_aload_n (k := 0) (pc' := 30) dX7_add_29 rfl rfl), ↓(X_getR (pc' := 33) fl_7_17 dX7_add_30 rfl), ↓(gV_c r0_89_1), kd_91, ln_91, ↓(X_aload_n (k := 0) (pc' := 34) dX7_add_33 rfl rfl), ↓(X_getI (pc' := 37) fl_7_26 (by decide) dX7_add_34 rfl), ↓(X_aaload (pc' := 38) dX7_add_37 rfl), ↓(X_iload (pc' := 40) dX7_add_38 rfl), ↓(X_aload_n (k := 2) (pc' := 41) dX7_add_40 rfl rfl), ↓gR_2, ↓(X_iload (pc' := 43) dX7_add_41 rfl), ↓(X_iaload (pc' := 44) dX7_add_43 rfl), ↓(X_iastore (pc' := 45) dX7_add_44 rfl), ↓(X_iinc (pc' := 48) dX7_add_45 rfl), ↓(X_goto (pc' := 23) dX7_add_48 (by decide)), ↓(X_iconst (pc' := 52) dX7_add_51 rfl), ↓(X_istore (pc' := 54) dX7_add_52 rfl), ↓(X_iload (pc' := 56) dX7_add_54 rfl), ↓(X_aload_n (k := 0) (pc' := 57) dX7_add_56 rfl rfl), ↓(X_getI (pc' := 60) fl_7_26 (by decide) dX7_add_57 rfl), ↓(X_icmp_ge (tgt := 115) (pc' := 63) dX7_add_60 (by decide) rfl), ↓(X_aload_n (k := 0) (pc' := 64) dX7_add_63 rfl rfl), ↓(X_getR (pc' := 67) fl_7_20 dX7_add_64 rfl), ↓(gV_c r0_89_2), kd_100, ln_100, ↓(X_aload_n (k := 0) (pc' := 68) dX7_add_67 rfl rfl), ↓(X_getI (pc' := 71) fl_7_26 (by decide) dX7_add_68 rfl), ↓(X_aaload (pc' := 72) dX7_add_71 rfl), ↓(X_iload (pc' := 74) dX7_add_72 rfl), ↓(X_aload_n (k := 2) (pc' := 75) dX7_add_74 rfl rfl), ↓(X_aload_n (k := 0) (pc' := 76) dX7_add_75 rfl rfl), ↓(X_getR (pc' := 79) fl_7_17 dX7_add_76 rfl), ↓(X_iload (pc' := 81) dX7_add_79 rfl), ↓(X_aaload (pc' := 82) dX7_add_81 rfl), ↓(X_invokestatic (rfl : jd 7 30 = none) dX7_add_82), ↓(X_iastore (pc' := 86) dX7_add_85 rfl), ↓(X_aload_n (k := 0) (pc' := 87) dX7_add_86 rfl rfl), ↓(X_getR (pc' := 90) fl_7_20 dX7_add_87 rfl), ↓(X_iload (pc' := 92) dX7_add_90 rfl), ↓(X_aaload (pc' := 93) dX7_add_92 rfl), ↓(X_aload_n (k := 0) (pc' := 94) dX7_add_93 rfl rfl), ↓(X_getI (pc' := 97) fl_7_26 (by decide) dX7_add_94 rfl), ↓(X_aload_n (k := 0) (pc' := 98) dX7_add_97 rfl rfl), ↓(X_getR (pc' := 101) fl_7_17 dX7_add_98 rfl), ↓(X_iload (pc' := 103) dX7_add_101 rfl), ↓(X_aaload (pc' := 104) dX7_add_103 rfl), ↓(X_aload_n (k := 2) (pc' := 105) dX7_add_104 rfl rfl), ↓(X_invokestatic (rfl : jd 7 30 = none) dX7_add_105), ↓(X_iastore (pc' := 109) dX7_add_108 rfl), ↓(X_iinc (pc' := 112) dX7_add_109 rfl), ↓(X_goto (pc' := 54) dX7_add_112 (by decide)), ↓(X_aload_n (k := 0) (pc' := 116) dX7_add_115 rfl rfl), ↓(X_getR (pc' := 119) fl_7_20 dX7_add_116 rfl), ↓(X_bipush (pc' := 121) dX7_add_119 rfl), ↓(X_aaload (pc' := 122) dX7_add_121 rfl), ↓(X_aload_n (k := 0) (pc' := 123) dX7_add_122 rfl rfl), ↓(X_getI (pc' := 126) fl_7_26 (by decide) dX7_add_123 rfl), ↓(X_aload_n (k := 3) (pc' := 127) dX7_add_126 rfl rfl), ↓gR_3, ↓(X_aload_n (k := 2) (pc' := 128) dX7_add_127 rfl rfl), ↓(X_invokevirtual dX7_add_128), ↓(X_iastore (pc' := 132) dX7_add_131 rfl), ↓(X_aload_n (k := 0) (pc' := 133) dX7_add_132 rfl rfl), ↓(X_dup (pc' := 134) dX7_add_133 rfl), ↓(X_getI (pc' := 137) fl_7_26 (by decide) dX7_add_134 rfl), ↓(X_iconst (pc' := 138) dX7_add_137 rfl), ↓(X_iadd (pc' := 139) dX7_add_138 rfl), ↓(X_putI (pc' := 142) fl_7_26 (by decide) dX7_add_139 rfl), Nat.one_ne_zero, Nat.reduceEqDiff, ↓(X_return_ dX7_add_142), rn_0, gV_s, ↓pI_c, ↓pII_c, ↓pL_c, ↓pLL_c, ↓pR_c, ↓pRI_c, ↓pRII_c, ↓pRIL_c, ↓pRR_c, ↓pV_c, ↓pVV_c, ↓gI_c, ↓gL_c, ↓gR_c, f2_0, f2_1, nk_n, nk_i, nk_r, ↓reduceIte, r32, r64, Nat.reduceAdd, Nat.reduceSub, Nat.reduceEqDiff, Nat.reduceLT, Nat.reduceLeDiff, Nat.reduceBEq, Int.reduceAdd, Int.reduceSub, Int.reduceMul, Int.reduceNeg, Int.reduceToNat, Int.reduceLE, Int.reduceLT, Int.reduceEq, Int.reduceNatCast', Int.reduceNatCast, Int.natCast_zero, Int.toNat_natCast, Int.toNat_zero, Int.toNat_one, List.length_cons, List.length_nil, true_and, and_true, and_self, true_or, or_true, false_or, or_false, Bool.not_true, Bool.not_false, Nat.lt_add_one, Nat.zero_lt_succ, N0, swL_n, swL_c, List.toList_toArray, false_implies, true_implies, implies_true, forall_const, not_false_eq_true, not_true_eq_false, and_false, false_and, p3, i1, ↓(gV_c w3), w1, w2, c1, c2, i4, i5, kd_91, ln_91, up2_s, up2_k, ne_eq, up2_c (show (89 : Nat) ≠ 90 by decide), up2_c (show 89 ≠ 92 + n by omega), up2_c (show 369 + 5 * i ≠ 90 by omega), up2_c (show 369 + 5 * i ≠ 92 + n by omega)]
  simp only [hK9]
  clear hK9 K9v
  have a1 : ∀ x, x ≠ 90 → x ≠ 92 + n → up2 (up2 (up2 (up2 M 90 n (i : Int)) (92 + n) 0 (M (369 + 5 * i) 0)) (92 + n) 1 (M (369 + 5 * i) 1)) (92 + n) 2 (M (369 + 5 * i) 2) x = M x := fun x h1 h2 => by funext j; simp [up2, h1, h2]
  have a2 : ∀ k, up2 (up2 (up2 (up2 M 90 n (i : Int)) (92 + n) 0 (M (369 + 5 * i) 0)) (92 + n) 1 (M (369 + 5 * i) 1)) (92 + n) 2 (M (369 + 5 * i) 2) 90 k = if k = n then (i : Int) else M 90 k := fun k => by
    rw [up2_c (by omega), up2_c (by omega), up2_c (by omega)]
    simp [up2]
  have a3 : ∀ p, p < 3 → up2 (up2 (up2 (up2 M 90 n (i : Int)) (92 + n) 0 (M (369 + 5 * i) 0)) (92 + n) 1 (M (369 + 5 * i) 1)) (92 + n) 2 (M (369 + 5 * i) 2) (92 + n) p = M (369 + 5 * i) p := fun p hp => by
    rcases (show p = 0 ∨ p = 1 ∨ p = 2 by omega) with rfl | rfl | rfl <;> simp [up2]
  generalize up2 (up2 (up2 (up2 M 90 n (i : Int)) (92 + n) 0 (M (369 + 5 * i) 0)) (92 + n) 1 (M (369 + 5 * i) 1)) (92 + n) 2 (M (369 + 5 * i) 2) = M1 at a1 a2 a3 ⊢
  have e369 : M (369 + 5 * i) = M0 (369 + 5 * i) := p1 _ (by omega)
  refine J_rnG GM_fa (by omega) (by omega) (by omega) 2 _ _ _ _ (fun K9v hK9 => ?_)
  simp (maxSteps := 4000000) only [↓(X_iconst (pc' := 52) dX7_add_51 rfl), ↓(X_istore (pc' := 54) dX7_add_52 rfl), ↓sto_4, rn_0, gV_s, ↓pI_c, ↓pII_c, ↓pL_c, ↓pLL_c, ↓pR_c, ↓pRI_c, ↓pRII_c, ↓pRIL_c, ↓pRR_c, ↓pV_c, ↓pVV_c, ↓gI_c, ↓gL_c, ↓gR_c, f2_0, f2_1, nk_n, nk_i, nk_r, ↓reduceIte, r32, r64, Nat.reduceAdd, Nat.reduceSub, Nat.reduceEqDiff, Nat.reduceLT, Nat.reduceLeDiff, Nat.reduceBEq, Int.reduceAdd, Int.reduceSub, Int.reduceMul, Int.reduceNeg, Int.reduceToNat, Int.reduceLE, Int.reduceLT, Int.reduceEq, Int.reduceNatCast', Int.reduceNatCast, Int.natCast_zero, Int.toNat_natCast, Int.toNat_zero, Int.toNat_one, List.length_cons, List.length_nil, true_and, and_true, and_self, true_or, or_true, false_or, or_false, Bool.not_true, Bool.not_false, Nat.lt_add_one, Nat.zero_lt_succ, N0, swL_n, swL_c, List.toList_toArray, false_implies, true_implies, implies_true, forall_const, not_false_eq_true, not_true_eq_false, and_false, false_and]
  simp only [hK9]
  clear hK9 K9v
  have hw1 : wOK M1 := ⟨fun r hr j hj => by rw [a1 _ (by omega) (by omega)]; exact p2.1 r hr j hj, fun s hs r hr => by rw [a1 _ (by omega) (by omega)]; exact p2.2 s hs r hr⟩
  refine jj_add (M := M0) (M1 := M1) d n i js hn hi hJ (fun k hk => (p4 k hk).1) (by rw [a1 89 (by omega) (by omega)]; exact p3) (by rw [a1 _ (by omega) (by omega)]; exact e369) (fun k hk p hp => by rw [a1 _ (by omega) (by omega)]; exact (p4 k hk).2.2.1 p hp) n 0 M1 (by omega) ⟨fun _ _ => rfl, hw1, fun _ _ _ _ => rfl, fun _ h => by omega⟩ (fun Mx hMx => ?_)
  obtain ⟨x1, x2, x3, x4⟩ := id hMx
  have f1 : Mx 89 4 = (n : Int) := by rw [x1 89 (by omega), a1 89 (by omega) (by omega)]; exact p3
  have i2 : (n : Int) < 9 := by omega
  refine J_rnG GM_fa (by omega) (by omega) (by omega) 8 _ _ _ _ (fun K9v hK9 => ?_)
  simp (maxSteps := 4000000) only [↓(X_aload_n (k := 0) (pc' := 116) dX7_add_115 rfl rfl), ↓gR_0, ↓(X_getR (pc' := 119) fl_7_20 dX7_add_116 rfl), kd_89, ↓(gV_c r0_89_2), kd_100, ln_100, ↓(X_bipush (pc' := 121) dX7_add_119 rfl), ↓(X_aaload (pc' := 122) dX7_add_121 rfl), ↓(X_aload_n (k := 0) (pc' := 123) dX7_add_122 rfl rfl), ↓(X_getI (pc' := 126) fl_7_26 (by decide) dX7_add_123 rfl), ↓(X_aload_n (k := 3) (pc' := 127) dX7_add_126 rfl rfl), ↓gR_3, ↓(X_aload_n (k := 2) (pc' := 128) dX7_add_127 rfl rfl), ↓gR_2, rn_0, gV_s, ↓pI_c, ↓pII_c, ↓pL_c, ↓pLL_c, ↓pR_c, ↓pRI_c, ↓pRII_c, ↓pRIL_c, ↓pRR_c, ↓pV_c, ↓pVV_c, ↓gI_c, ↓gL_c, ↓gR_c, f2_0, f2_1, nk_n, nk_i, nk_r, ↓reduceIte, r32, r64, Nat.reduceAdd, Nat.reduceSub, Nat.reduceEqDiff, Nat.reduceLT, Nat.reduceLeDiff, Nat.reduceBEq, Int.reduceAdd, Int.reduceSub, Int.reduceMul, Int.reduceNeg, Int.reduceToNat, Int.reduceLE, Int.reduceLT, Int.reduceEq, Int.reduceNatCast', Int.reduceNatCast, Int.natCast_zero, Int.toNat_natCast, Int.toNat_zero, Int.toNat_one, List.length_cons, List.length_nil, true_and, and_true, and_self, true_or, or_true, false_or, or_false, Bool.not_true, Bool.not_false, Nat.lt_add_one, Nat.zero_lt_succ, N0, swL_n, swL_c, List.toList_toArray, false_implies, true_implies, implies_true, forall_const, not_false_eq_true, not_true_eq_false, and_false, false_and, f1, ↓(gV_c v3), kd_100, ln_100]
  simp only [hK9]
  clear hK9 K9v
  have f74 : Mx 74 = M0 74 := by rw [x1 74 (by omega), a1 74 (by omega) (by omega)]; exact p1 74 (by omega)
  have f75 : Mx 75 = M0 75 := by rw [x1 75 (by omega), a1 75 (by omega) (by omega)]; exact p1 75 (by omega)
  have f369 : Mx (369 + 5 * i) = M0 (369 + 5 * i) := by rw [x1 _ (by omega), a1 _ (by omega) (by omega)]; exact e369
  refine J_callVd (ci := 3) GM_fa (ok_washTo (M := Mx) (d + 0) (369 + 5 * i) c1 c2 i5 (by rw [f74]; exact hpr.1) (by rw [f74, f75]; exact hpr.2) (by rw [f369]; exact hJ i hi)) dX7_add_128 k_7_36 (by omega) (Nat.le_of_ble_eq_true rfl) ⟨by omega, by omega⟩ rfl (by decide +kernel) rfl (by decide) (by simp only [N0]; omega) (by simp) rfl rfl ?_
  simp only [Option.toList, List.cons_append, List.nil_append]
  rw [f74, f75, f369]
  have hpw : 0 ≤ pw M0 i ∧ pw M0 i ≤ 600 := by
    rw [pw]
    split
    · rename_i q
      exact washF_bd (hpr.2 q) (hJ i hi)
    · omega
  rw [show (if M0 74 1 = 0 then washF (M0 75) (M0 (369 + 5 * i)) else 0) = pw M0 i from rfl]
  refine J_rnG GM_fa (by omega) (by omega) (by omega) 7 _ _ _ _ (fun K9v hK9 => ?_)
  simp (maxSteps := 4000000) only [↓(X_iastore (pc' := 132) dX7_add_131 rfl), ↓(X_aload_n (k := 0) (pc' := 133) dX7_add_132 rfl rfl), ↓gR_0, ↓(X_dup (pc' := 134) dX7_add_133 rfl), ↓(X_getI (pc' := 137) fl_7_26 (by decide) dX7_add_134 rfl), kd_89, ↓(X_iconst (pc' := 138) dX7_add_137 rfl), ↓(X_iadd (pc' := 139) dX7_add_138 rfl), ↓(X_putI (pc' := 142) fl_7_26 (by decide) dX7_add_139 rfl), Nat.one_ne_zero, Nat.reduceEqDiff, rn_0, gV_s, ↓pI_c, ↓pII_c, ↓pL_c, ↓pLL_c, ↓pR_c, ↓pRI_c, ↓pRII_c, ↓pRIL_c, ↓pRR_c, ↓pV_c, ↓pVV_c, ↓gI_c, ↓gL_c, ↓gR_c, f2_0, f2_1, nk_n, nk_i, nk_r, ↓reduceIte, r32, r64, Nat.reduceAdd, Nat.reduceSub, Nat.reduceEqDiff, Nat.reduceLT, Nat.reduceLeDiff, Nat.reduceBEq, Int.reduceAdd, Int.reduceSub, Int.reduceMul, Int.reduceNeg, Int.reduceToNat, Int.reduceLE, Int.reduceLT, Int.reduceEq, Int.reduceNatCast', Int.reduceNatCast, Int.natCast_zero, Int.toNat_natCast, Int.toNat_zero, Int.toNat_one, List.length_cons, List.length_nil, true_and, and_true, and_self, true_or, or_true, false_or, or_false, Bool.not_true, Bool.not_false, Nat.lt_add_one, Nat.zero_lt_succ, N0, swL_n, swL_c, List.toList_toArray, false_implies, true_implies, implies_true, forall_const, not_false_eq_true, not_true_eq_false, and_false, false_and, kd_109, ln_109, i1, f1, up2_c (show (89 : Nat) ≠ 109 by decide)]
  simp only [hK9]
  clear hK9 K9v
  have hw2 := wOK_up (f := 8) (k := n) x2 (by omega) hpw
  refine J_vret dX7_add_142 rfl (by omega) (by omega) (⟨rfl, _, rfl, ?_⟩)
  refine ⟨fun x hx => ?_, ⟨fun r hr j hj => by rw [up2_c (by omega)]; exact hw2.1 r hr j hj, fun s hs r hr => by rw [up2_c (by omega)]; exact hw2.2 s hs r hr⟩, ?_, fun k hk => ?_, fun j k hj hk hne => ?_⟩
  · funext j
    rw [up2_c (by omega), up2_c (by omega), x1 x (by omega), a1 x (by omega) (by omega), p1 x hx]
  · rw [up2_s]
    omega
  · have b1 : ∀ z, z ≠ 89 → z ≠ 109 → up2 (up2 Mx 109 n (pw M0 i)) 89 4 ((n : Int) + 1) z = Mx z := fun z h1 h2 => by funext j; rw [up2_c h1, up2_c h2]
    rcases (show k = n ∨ k < n by omega) with e | e
    · subst e
      simp only [if_true]
      refine ⟨hi, by rw [b1 90 (by decide) (by decide), x1 90 (by omega), a2, if_pos rfl], fun p hp => by rw [b1 _ (by omega) (by omega), x1 _ (by omega), a3 p hp, e369], by rw [up2_c (by decide), up2_s]⟩
    · obtain ⟨y1, y2, y3, y4⟩ := p4 k e
      have hkn : k ≠ n := by omega
      dsimp only
      rw [if_neg hkn]
      refine ⟨y1, by rw [b1 90 (by decide) (by decide), x1 90 (by omega), a2, if_neg hkn]; exact y2, fun p hp => by rw [b1 _ (by omega) (by omega), x1 _ (by omega), a1 _ (by omega) (by omega)]; exact y3 p hp, ?_⟩
      rw [up2_c (by decide), up2_k hkn, x1 109 (by omega), a1 109 (by decide) (by omega)]
      exact y4
  · have b1 : ∀ z, z ≠ 89 → z ≠ 109 → up2 (up2 Mx 109 n (pw M0 i)) 89 4 ((n : Int) + 1) z = Mx z := fun z h1 h2 => by funext j; rw [up2_c h1, up2_c h2]
    rw [b1 _ (by omega) (by omega)]
    dsimp only
    rcases (show j = n ∨ j < n by omega) with e | e
    · subst e
      rw [if_pos rfl, if_neg (show ¬ k = j by omega)]
      exact (x4 k (by omega)).1
    · rw [if_neg (show ¬ j = n by omega)]
      rcases (show k = n ∨ k < n by omega) with e2 | e2
      · subst e2
        rw [if_pos rfl]
        exact (x4 j e).2
      · rw [if_neg (show ¬ k = n by omega), x3 j k e e2, a1 _ (by omega) (by omega)]
        exact p5 j k e e2 hne
end C8
