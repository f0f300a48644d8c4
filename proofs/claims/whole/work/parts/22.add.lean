/-! a run is added to the plan -/
theorem washF_congr {a a' b b' : Nat → Int} (h : ∀ p, p < 3 → a p = a' p) (h2 : ∀ p, p < 3 → b p = b' p) : washF a b = washF a' b' := by
  simp only [washF, h 0 (by omega), h 1 (by omega), h 2 (by omega), h2 0 (by omega), h2 1 (by omega), h2 2 (by omega)]
theorem washF_bd {a b : Nat → Int} (ha : col3 a) (hb : col3 b) : 0 ≤ washF a b ∧ washF a b ≤ 600 := by
  obtain ⟨x1, x2, x3⟩ := ha
  obtain ⟨y1, y2, y3⟩ := hb
  simp only [washF]
  split <;> omega
theorem col3_congr {a a' : Nat → Int} (h : ∀ p, p < 3 → a p = a' p) (ha : col3 a') : col3 a := by
  simp only [col3, h 0 (by omega), h 1 (by omega), h 2 (by omega)]
  exact ha
/-- what washing to the colour of a job costs as the press stands -/
def pw (M : Nat → Nat → Int) (i : Nat) : Int := if M 74 1 = 0 then washF (M 75) (M (369 + 5 * i)) else 0
def prOK (M : Nat → Nat → Int) : Prop := (M 74 1 = 0 ∨ M 74 1 = 1) ∧ (M 74 1 = 0 → col3 (M 75))
/-- the colours of the jobs are colours -/
def jcOK (M : Nat → Nat → Int) : Prop := ∀ i, i < 16 → col3 (M (369 + 5 * i))
/-- a plan of n runs, the jobs js, over the world M -/
def PI (M M' : Nat → Nat → Int) (n : Nat) (js : Nat → Nat) : Prop := (∀ x, x < 89 ∨ 367 ≤ x → M' x = M x) ∧ wOK M' ∧ M' 89 4 = (n : Int) ∧ (∀ k, k < n → js k < 16 ∧ M' 90 k = (js k : Int) ∧ (∀ p, p < 3 → M' (92 + k) p = M (369 + 5 * js k) p) ∧ M' 109 k = pw M (js k)) ∧ (∀ j k, j < n → k < n → j ≠ k → M' (101 + j) k = washF (M (369 + 5 * js j)) (M (369 + 5 * js k)))
def aL (M M1 Mx : Nat → Nat → Int) (n i o : Nat) (js : Nat → Nat) : Prop := (∀ x, x < 101 ∨ 109 ≤ x → Mx x = M1 x) ∧ wOK Mx ∧ (∀ j k, j < n → k < n → Mx (101 + j) k = M1 (101 + j) k) ∧ (∀ q, q < o → Mx (101 + n) q = washF (M (369 + 5 * i)) (M (369 + 5 * js q)) ∧ Mx (101 + q) n = washF (M (369 + 5 * js q)) (M (369 + 5 * i)))
theorem wOK_up {M : Nat → Nat → Int} {f k : Nat} {z : Int} (h : wOK M) (hf : f ≤ 8) (hz : 0 ≤ z ∧ z ≤ 600) : wOK (up2 M (101 + f) k z) := by
  refine ⟨fun r hr j hj => ?_, fun s hs r hr => ?_⟩
  · simp only [up2]
    split
    · omega
    · exact h.1 r hr j hj
  · rw [up2_c (by omega)]
    exact h.2 s hs r hr
section C8
variable {l : Launch} {D : va_G} {cy : Nat → ClassId}
set_option maxRecDepth 100000 in
set_option maxHeartbeats 4000000 in
theorem jj_add {M M1 : Nat → Nat → Int} {Φ : Out → Mem → Prop} (d n i : Nat) (js : Nat → Nat) (hn : n < 8) (hi : i < 16) (hJ : jcOK M) (hjs : ∀ k, k < n → js k < 16) (g1 : M1 89 4 = (n : Int)) (g2 : M1 (369 + 5 * i) = M (369 + 5 * i)) (g3 : ∀ k, k < n → ∀ p, p < 3 → M1 (92 + k) p = M (369 + 5 * js k) p) : ∀ (k o : Nat) (Mx : Nat → Nat → Int), o + k = n → aL M M1 Mx n i o js → (∀ Mx, aL M M1 Mx n i n js → J l D cy (GM l D cy 7 cX7_add 5 (d + 3) 0 0 false none Φ) 115 [some (.inr (.inr (some 89))), some (.inl (i : Int)), some (.inr (.inr (some (369 + 5 * i)))), some (.inr (.inr (some 74))), some (.inl (n : Int))] [] (468, R0, Mx) 0 0) →
    J l D cy (GM l D cy 7 cX7_add 5 (d + 3) 0 0 false none Φ) 54 [some (.inr (.inr (some 89))), some (.inl (i : Int)), some (.inr (.inr (some (369 + 5 * i)))), some (.inr (.inr (some 74))), some (.inl (o : Int))] [] (468, R0, Mx) 0 0 := by
  intro k
  induction k with
  | zero =>
    intro o Mx ho hM hfin
    have e : o = n := by omega
    subst e
    have f1 : Mx 89 4 = (o : Int) := by rw [hM.1 89 (by omega)]; exact g1
    have h1 : ¬ (o : Int) < (o : Int) := by omega
    have r1 : -2147483648 ≤ (o : Int) ∧ (o : Int) ≤ 2147483647 := by omega
    refine J_rnG GM_fa (by omega) (by omega) (by omega) 4 _ _ _ _ (fun K9v hK9 => ?_)
    simp (maxSteps := 4000000) only [↓(X_iload (pc' := 56) dX7_add_54 rfl), ↓gI_4, ↓(X_aload_n (k := 0) (pc' := 57) dX7_add_56 rfl rfl), ↓gR_0, ↓(X_getI (pc' := 60) fl_7_26 (by decide) dX7_add_57 rfl), kd_89, ↓(X_icmp_ge (tgt := 115) (pc' := 63) dX7_add_60 (by decide) rfl), rn_0, gV_s, ↓pI_c, ↓pII_c, ↓pL_c, ↓pLL_c, ↓pR_c, ↓pRI_c, ↓pRII_c, ↓pRIL_c, ↓pRR_c, ↓pV_c, ↓pVV_c, ↓gI_c, ↓gL_c, ↓gR_c, f2_0, f2_1, nk_n, nk_i, nk_r, ↓reduceIte, r32, r64, Nat.reduceAdd, Nat.reduceSub, Nat.reduceEqDiff, Nat.reduceLT, Nat.reduceLeDiff, Nat.reduceBEq, Int.reduceAdd, Int.reduceSub, Int.reduceMul, Int.reduceNeg, Int.reduceToNat, Int.reduceLE, Int.reduceLT, Int.reduceEq, Int.reduceNatCast', Int.reduceNatCast, Int.natCast_zero, Int.toNat_natCast, Int.toNat_zero, Int.toNat_one, List.length_cons, List.length_nil, true_and, and_true, and_self, true_or, or_true, false_or, or_false, Bool.not_true, Bool.not_false, Nat.lt_add_one, Nat.zero_lt_succ, N0, swL_n, swL_c, List.toList_toArray, false_implies, true_implies, implies_true, forall_const, not_false_eq_true, not_true_eq_false, and_false, false_and, f1, h1, r1]
    simp only [hK9]
    clear hK9 K9v
    exact hfin Mx hM
  | succ k ih =>
    intro o Mx ho hM hfin
    obtain ⟨m1, m2, m3, m4⟩ := id hM
    have f1 : Mx 89 4 = (n : Int) := by rw [m1 89 (by omega)]; exact g1
    have h1 : (o : Int) < (n : Int) := by omega
    have r1 : -2147483648 ≤ (o : Int) ∧ (o : Int) ≤ 2147483647 := by omega
    have r2 : -2147483648 ≤ (n : Int) ∧ (n : Int) ≤ 2147483647 := by omega
    obtain ⟨-, -, -, c1, c2, -⟩ := job_at i hi
    obtain ⟨w1, w2, w3⟩ := wcol_at o (by omega)
    obtain ⟨v1, v2, v3⟩ := wcost_at n (by omega)
    obtain ⟨u1, u2, u3⟩ := wcost_at o (by omega)
    have i1 : (0 : Int) ≤ (n : Int) ∧ (n : Int) < 9 := by omega
    have i2 : (0 : Int) ≤ (o : Int) ∧ (o : Int) < 8 := by omega
    have i3 : (o : Int) < 9 := by omega
    have i7 : (n : Int) < 8 := by omega
    have i4 : 101 + n < 468 := by omega
    have i5 : 92 + o < 468 := by omega
    have i6 : 101 + o < 468 := by omega
    have hc1 : ∀ p, p < 3 → Mx (369 + 5 * i) p = M (369 + 5 * i) p := fun p _ => by rw [m1 _ (by omega), g2]
    have hc2 : ∀ p, p < 3 → Mx (92 + o) p = M (369 + 5 * js o) p := fun p hp => by rw [m1 _ (by omega)]; exact g3 o (by omega) p hp
    have k1 := col3_congr hc1 (hJ i hi)
    have k2 := col3_congr hc2 (hJ (js o) (hjs o (by omega)))
    refine J_rnG GM_fa (by omega) (by omega) (by omega) 15 _ _ _ _ (fun K9v hK9 => ?_)
    simp (maxSteps := 4000000) only [↓(X_iload (pc' := 56) dX7_add_54 rfl), ↓gI_4, ↓(X_aload_n (k := 0) (pc' := 57) dX7_add_56 rfl rfl), ↓gR_0, ↓(X_getI (pc' := 60) fl_7_26 (by decide) dX7_add_57 rfl), kd_89, ↓(X_icmp_ge (tgt := 115) (pc' := 63) dX7_add_60 (by decide) rfl), ↓(X_aload_n (k := 0) (pc' := 64) dX7_add_63 rfl rfl), ↓(X_getR (pc' := 67) fl_7_20 dX7_add_64 rfl), ↓(gV_c r0_89_2), kd_100, ln_100, ↓(X_aload_n (k := 0) (pc' := 68) dX7_add_67 rfl rfl), ↓(X_getI (pc' := 71) fl_7_26 (by decide) dX7_add_68 rfl), ↓(X_aaload (pc' := 72) dX7_add_71 rfl), ↓(X_iload (pc' := 74) dX7_add_72 rfl), ↓(X_aload_n (k := 2) (pc' := 75) dX7_add_74 rfl rfl), ↓gR_2, ↓(X_aload_n (k := 0) (pc' := 76) dX7_add_75 rfl rfl), ↓(X_getR (pc' := 79) fl_7_17 dX7_add_76 rfl), ↓(gV_c r0_89_1), kd_91, ln_91, ↓(X_iload (pc' := 81) dX7_add_79 rfl), ↓(X_aaload (pc' := 82) dX7_add_81 rfl), rn_0, gV_s, ↓pI_c, ↓pII_c, ↓pL_c, ↓pLL_c, ↓pR_c, ↓pRI_c, ↓pRII_c, ↓pRIL_c, ↓pRR_c, ↓pV_c, ↓pVV_c, ↓gI_c, ↓gL_c, ↓gR_c, f2_0, f2_1, nk_n, nk_i, nk_r, ↓reduceIte, r32, r64, Nat.reduceAdd, Nat.reduceSub, Nat.reduceEqDiff, Nat.reduceLT, Nat.reduceLeDiff, Nat.reduceBEq, Int.reduceAdd, Int.reduceSub, Int.reduceMul, Int.reduceNeg, Int.reduceToNat, Int.reduceLE, Int.reduceLT, Int.reduceEq, Int.reduceNatCast', Int.reduceNatCast, Int.natCast_zero, Int.toNat_natCast, Int.toNat_zero, Int.toNat_one, List.length_cons, List.length_nil, true_and, and_true, and_self, true_or, or_true, false_or, or_false, Bool.not_true, Bool.not_false, Nat.lt_add_one, Nat.zero_lt_succ, N0, swL_n, swL_c, List.toList_toArray, false_implies, true_implies, implies_true, forall_const, not_false_eq_true, not_true_eq_false, and_false, false_and, f1, h1, r1, r2, ↓(gV_c v3), ↓(gV_c w3), kd_91, kd_100, ln_91, ln_100, i1, i2, i3, i4, i5, i7]
    simp only [hK9]
    clear hK9 K9v
    refine J_callSd GM_fa (ok_washBetween (M := Mx) (d + 1) (369 + 5 * i) (92 + o) c1 c2 (by omega) w1 w2 i5 k1 k2) dX7_add_82 k_7_30 (by omega) (Nat.le_of_ble_eq_true rfl) ⟨by omega, by omega⟩ rfl (by simp) rfl rfl ?_
    simp only [Option.toList, List.cons_append, List.nil_append]
    rw [washF_congr hc1 hc2]
    have hb := washF_bd (hJ i hi) (hJ (js o) (hjs o (by omega)))
    have hb2 := washF_bd (hJ (js o) (hjs o (by omega))) (hJ i hi)
    refine J_rnG GM_fa (by omega) (by omega) (by omega) 1 _ _ _ _ (fun K9v hK9 => ?_)
    simp (maxSteps := 4000000) only [↓(X_iastore (pc' := 86) dX7_add_85 rfl), rn_0, gV_s, ↓pI_c, ↓pII_c, ↓pL_c, ↓pLL_c, ↓pR_c, ↓pRI_c, ↓pRII_c, ↓pRIL_c, ↓pRR_c, ↓pV_c, ↓pVV_c, ↓gI_c, ↓gL_c, ↓gR_c, f2_0, f2_1, nk_n, nk_i, nk_r, ↓reduceIte, r32, r64, Nat.reduceAdd, Nat.reduceSub, Nat.reduceEqDiff, Nat.reduceLT, Nat.reduceLeDiff, Nat.reduceBEq, Int.reduceAdd, Int.reduceSub, Int.reduceMul, Int.reduceNeg, Int.reduceToNat, Int.reduceLE, Int.reduceLT, Int.reduceEq, Int.reduceNatCast', Int.reduceNatCast, Int.natCast_zero, Int.toNat_natCast, Int.toNat_zero, Int.toNat_one, List.length_cons, List.length_nil, true_and, and_true, and_self, true_or, or_true, false_or, or_false, Bool.not_true, Bool.not_false, Nat.lt_add_one, Nat.zero_lt_succ, N0, swL_n, swL_c, List.toList_toArray, false_implies, true_implies, implies_true, forall_const, not_false_eq_true, not_true_eq_false, and_false, false_and, v1, v2, i1, i2, i4]
    simp only [hK9]
    clear hK9 K9v
    have q1 : ∀ x, x ≠ 101 + n → up2 Mx (101 + n) o (washF (M (369 + 5 * i)) (M (369 + 5 * js o))) x = Mx x := fun x hx => by funext j; rw [up2_c hx]
    have q2 : ∀ j, j ≠ o → up2 Mx (101 + n) o (washF (M (369 + 5 * i)) (M (369 + 5 * js o))) (101 + n) j = Mx (101 + n) j := fun j hj => up2_k hj
    have q3 : up2 Mx (101 + n) o (washF (M (369 + 5 * i)) (M (369 + 5 * js o))) (101 + n) o = washF (M (369 + 5 * i)) (M (369 + 5 * js o)) := up2_s
    have q4 := wOK_up (f := n) (k := o) m2 (by omega) hb
    generalize up2 Mx (101 + n) o (washF (M (369 + 5 * i)) (M (369 + 5 * js o))) = My at q1 q2 q3 q4 ⊢
    have f2 : My 89 4 = (n : Int) := by rw [q1 89 (by omega)]; exact f1
    have hd1 : ∀ p, p < 3 → My (369 + 5 * i) p = M (369 + 5 * i) p := fun p hp => by rw [q1 _ (by omega)]; exact hc1 p hp
    have hd2 : ∀ p, p < 3 → My (92 + o) p = M (369 + 5 * js o) p := fun p hp => by rw [q1 _ (by omega)]; exact hc2 p hp
    refine J_rnG GM_fa (by omega) (by omega) (by omega) 11 _ _ _ _ (fun K9v hK9 => ?_)
    simp (maxSteps := 4000000) only [↓(X_aload_n (k := 0) (pc' := 87) dX7_add_86 rfl rfl), ↓gR_0, ↓(X_getR (pc' := 90) fl_7_20 dX7_add_87 rfl), kd_89, ↓(gV_c r0_89_2), kd_100, ln_100, ↓(X_iload (pc' := 92) dX7_add_90 rfl), ↓gI_4, ↓(X_aaload (pc' := 93) dX7_add_92 rfl), ↓(X_aload_n (k := 0) (pc' := 94) dX7_add_93 rfl rfl), ↓(X_getI (pc' := 97) fl_7_26 (by decide) dX7_add_94 rfl), ↓(X_aload_n (k := 0) (pc' := 98) dX7_add_97 rfl rfl), ↓(X_getR (pc' := 101) fl_7_17 dX7_add_98 rfl), ↓(gV_c r0_89_1), kd_91, ln_91, ↓(X_iload (pc' := 103) dX7_add_101 rfl), ↓(X_aaload (pc' := 104) dX7_add_103 rfl), ↓(X_aload_n (k := 2) (pc' := 105) dX7_add_104 rfl rfl), ↓gR_2, rn_0, gV_s, ↓pI_c, ↓pII_c, ↓pL_c, ↓pLL_c, ↓pR_c, ↓pRI_c, ↓pRII_c, ↓pRIL_c, ↓pRR_c, ↓pV_c, ↓pVV_c, ↓gI_c, ↓gL_c, ↓gR_c, f2_0, f2_1, nk_n, nk_i, nk_r, ↓reduceIte, r32, r64, Nat.reduceAdd, Nat.reduceSub, Nat.reduceEqDiff, Nat.reduceLT, Nat.reduceLeDiff, Nat.reduceBEq, Int.reduceAdd, Int.reduceSub, Int.reduceMul, Int.reduceNeg, Int.reduceToNat, Int.reduceLE, Int.reduceLT, Int.reduceEq, Int.reduceNatCast', Int.reduceNatCast, Int.natCast_zero, Int.toNat_natCast, Int.toNat_zero, Int.toNat_one, List.length_cons, List.length_nil, true_and, and_true, and_self, true_or, or_true, false_or, or_false, Bool.not_true, Bool.not_false, Nat.lt_add_one, Nat.zero_lt_succ, N0, swL_n, swL_c, List.toList_toArray, false_implies, true_implies, implies_true, forall_const, not_false_eq_true, not_true_eq_false, and_false, false_and, f2, ↓(gV_c u3), ↓(gV_c w3), kd_91, kd_100, ln_91, ln_100, i1, i2, i3, i6, i5]
    simp only [hK9]
    clear hK9 K9v
    refine J_callSd GM_fa (ok_washBetween (M := My) (d + 1) (92 + o) (369 + 5 * i) w1 w2 i5 c1 c2 (by omega) (col3_congr hd2 (hJ (js o) (hjs o (by omega)))) (col3_congr hd1 (hJ i hi))) dX7_add_105 k_7_30 (by omega) (Nat.le_of_ble_eq_true rfl) ⟨by omega, by omega⟩ rfl (by simp) rfl rfl ?_
    simp only [Option.toList, List.cons_append, List.nil_append]
    rw [washF_congr hd2 hd1]
    refine J_rnG GM_fa (by omega) (by omega) (by omega) 3 _ _ _ _ (fun K9v hK9 => ?_)
    simp (maxSteps := 4000000) only [↓(X_iastore (pc' := 109) dX7_add_108 rfl), ↓(X_iinc (pc' := 112) dX7_add_109 rfl), ↓gI_4, ↓sto_4, ↓(X_goto (pc' := 54) dX7_add_112 (by decide)), rn_0, gV_s, ↓pI_c, ↓pII_c, ↓pL_c, ↓pLL_c, ↓pR_c, ↓pRI_c, ↓pRII_c, ↓pRIL_c, ↓pRR_c, ↓pV_c, ↓pVV_c, ↓gI_c, ↓gL_c, ↓gR_c, f2_0, f2_1, nk_n, nk_i, nk_r, ↓reduceIte, r32, r64, Nat.reduceAdd, Nat.reduceSub, Nat.reduceEqDiff, Nat.reduceLT, Nat.reduceLeDiff, Nat.reduceBEq, Int.reduceAdd, Int.reduceSub, Int.reduceMul, Int.reduceNeg, Int.reduceToNat, Int.reduceLE, Int.reduceLT, Int.reduceEq, Int.reduceNatCast', Int.reduceNatCast, Int.natCast_zero, Int.toNat_natCast, Int.toNat_zero, Int.toNat_one, List.length_cons, List.length_nil, true_and, and_true, and_self, true_or, or_true, false_or, or_false, Bool.not_true, Bool.not_false, Nat.lt_add_one, Nat.zero_lt_succ, N0, swL_n, swL_c, List.toList_toArray, false_implies, true_implies, implies_true, forall_const, not_false_eq_true, not_true_eq_false, and_false, false_and, u1, u2, i1, i2, i6, i7]
    simp only [hK9]
    clear hK9 K9v
    rw [show (o : Int) + 1 = ((o + 1 : Nat) : Int) by omega]
    refine ih (o + 1) _ (by omega) ⟨fun x hx => ?_, wOK_up (f := o) q4 (by omega) hb2, fun j k hj hk => ?_, fun q hq => ?_⟩ hfin
    · funext j
      rw [up2_c (by omega), q1 x (by omega)]
      rw [m1 x hx]
    · rw [up2_k (by omega), q1 _ (by omega)]
      exact m3 j k hj hk
    · rcases (show q = o ∨ q < o by omega) with e | e
      · subst e
        exact ⟨by rw [up2_c (by omega), q3], up2_s⟩
      · exact ⟨by rw [up2_c (by omega), q2 q (by omega)]; exact (m4 q e).1, by rw [up2_c (by omega), q1 _ (by omega)]; exact (m4 q e).2⟩
end C8
