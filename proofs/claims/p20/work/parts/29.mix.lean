/-! the face: mix and print -/
def cMix (n z st nm fd : Int) : Nat := if 0 ≤ z ∧ z < n then (if st = 0 ∧ nm < 8 ∧ fd = 1 then 0 else 2) else 1
def tkS (M : Nat → Nat → Int) (s : Nat → Int) (j b : Nat) : Int := if 0 ≤ s 3 then takeF (M (11 + 2 * (s 3).toNat)) (M (367 + 5 * j) 3 / 10 * s 2 * 1000) b else 0
def inkS (M : Nat → Nat → Int) (s : Nat → Int) (j : Nat) : Nat → Int := fun b => s (5 + b) * (M (367 + 5 * j) 3 / 10 * 1000) + tkS M s j b
def mixM (M M2 : Nat → Nat → Int) (s : Nat → Int) (j : Nat) : Prop := (∀ x, ¬ scrF x → x ≠ 77 → x ≠ 78 → x ≠ 0 → x ≠ 8 → x ≠ 371 + 5 * j → x ≠ 369 + 5 * j → x ≠ 367 + 5 * j → (0 ≤ s 3 → x ≠ 11 + 2 * (s 3).toNat) → M2 x = M x) ∧ (∀ b, b < 4 → M2 8 b = M 8 b - s (5 + b) * (M (367 + 5 * j) 3 / 10 * 1000) ∧ M2 (371 + 5 * j) b = inkS M s j b ∧ (0 ≤ s 3 → M2 (11 + 2 * (s 3).toNat) b = M (11 + 2 * (s 3).toNat) b - tkS M s j b)) ∧ (∀ p, p < 3 → M2 (369 + 5 * j) p = wpart M (inkS M s j) p / wt (inkS M s j)) ∧ (∀ k, M2 (367 + 5 * j) k = if k = 5 then 1 else M (367 + 5 * j) k) ∧ (∀ k, M2 0 k = if k = 9 then 1 else M 0 k)
/-- what is known of a found recipe's ink -/
theorem inkS_ok {M : Nat → Nat → Int} {i T : Nat} {s : Nat → Int} (hK : kOK M i T) (h10 : M (367 + 5 * i) 3 % 10 = 0) (hg : goodS (fun b => M 8 b / (M (367 + 5 * i) 3 / 10 * 1000)) (M (367 + 5 * i) 3 / 10) (M (367 + 5 * i) 4) (fun t => M (11 + 2 * t)) T s) (hs : s 0 = 1) : (s 3 = -1 ∨ (0 ≤ s 3 ∧ s 3 < (T : Int) ∧ ink4 (M (11 + 2 * (s 3).toNat)) ∧ 0 ≤ s 2 ∧ s 2 ≤ 10)) ∧ (∀ b, b < 4 → 0 ≤ tkS M s i b ∧ (0 ≤ s 3 → tkS M s i b ≤ M (11 + 2 * (s 3).toNat) b)) ∧ tin4 (inkS M s i) ∧ wt (inkS M s i) = 1000 * M (367 + 5 * i) 3 ∧ (∀ b, b < 4 → 0 ≤ s (5 + b) * (M (367 + 5 * i) 3 / 10 * 1000) ∧ s (5 + b) * (M (367 + 5 * i) 3 / 10 * 1000) ≤ M 8 b) ∧ tkS M s i 0 + tkS M s i 1 + tkS M s i 2 + tkS M s i 3 = M (367 + 5 * i) 3 / 10 * s 2 * 1000 := by
  obtain ⟨hi, hgr, hgap, hC, hW, hst, h85, hT, hT30, hI⟩ := hK
  obtain ⟨-, -, hg⟩ := hg
  obtain ⟨htin, k5, k6, k7, k8, hsum, -, -⟩ := hg hs
  dsimp only at k5 k6 k7 k8 htin
  obtain ⟨gr, egr⟩ : ∃ gr : Int, M (367 + 5 * i) 3 / 10 = gr := ⟨_, rfl⟩
  have eg : M (367 + 5 * i) 3 = 10 * gr := by omega
  have hgr1 : 1 ≤ gr ∧ gr ≤ 50 := by omega
  rw [egr] at k5 k6 k7 k8 htin
  have hu : 0 < gr * 1000 := by omega
  have hmo : ∀ b, b < 4 → 0 ≤ s (5 + b) * (gr * 1000) ∧ s (5 + b) * (gr * 1000) ≤ M 8 b ∧ 0 ≤ s (5 + b) := by
    intro b hb
    have key : ∀ x y : Int, 0 ≤ x → x ≤ y / (gr * 1000) → 0 ≤ x * (gr * 1000) ∧ x * (gr * 1000) ≤ y := fun x y h1 h2 => ⟨Int.mul_nonneg h1 (by omega), Int.le_trans (Int.mul_le_mul_of_nonneg_right h2 (by omega)) (Int.ediv_mul_le y (by omega))⟩
    obtain e | e | e | e : b = 0 ∨ b = 1 ∨ b = 2 ∨ b = 3 := by omega
    · subst e; exact ⟨(key _ _ k5.1 k5.2).1, (key _ _ k5.1 k5.2).2, k5.1⟩
    · subst e; exact ⟨(key _ _ k6.1 k6.2).1, (key _ _ k6.1 k6.2).2, k6.1⟩
    · subst e; exact ⟨(key _ _ k7.1 k7.2).1, (key _ _ k7.1 k7.2).2, k7.1⟩
    · subst e; exact ⟨(key _ _ k8.1 k8.2).1, (key _ _ k8.1 k8.2).2, k8.1⟩
  have htk : (s 3 = -1 ∨ (0 ≤ s 3 ∧ s 3 < (T : Int) ∧ ink4 (M (11 + 2 * (s 3).toNat)) ∧ 0 ≤ s 2 ∧ s 2 ≤ 10)) ∧ (∀ b, b < 4 → 0 ≤ tkS M s i b ∧ (0 ≤ s 3 → tkS M s i b ≤ M (11 + 2 * (s 3).toNat) b)) ∧ tkS M s i 0 + tkS M s i 1 + tkS M s i 2 + tkS M s i 3 = gr * s 2 * 1000 := by
    rcases htin with ⟨e3, e2⟩ | ⟨t, tt, ht, h1, h2, e3, e2, hw⟩
    · refine ⟨Or.inl e3, fun b _ => ?_, ?_⟩
      · rw [tkS, if_neg (by omega)]
        exact ⟨by omega, fun h => by omega⟩
      · simp only [tkS]
        rw [if_neg (by omega), if_neg (by omega), if_neg (by omega), if_neg (by omega), e2]
        omega
    · have hp : 0 ≤ s 3 := by omega
      have et : (s 3).toNat = t := by omega
      have h4 := hI t ht
      have hG : 1 ≤ gr * (tt : Int) := Int.mul_le_mul hgr1.1 (show (1 : Int) ≤ (tt : Int) by omega) (by omega) (by omega)
      have hik : ink4 (M (11 + 2 * t)) := ⟨h4.1, h4.2.1, h4.2.2.1, h4.2.2.2, by omega⟩
      have b1 := take_bd hik (show 0 ≤ gr * (tt : Int) * 1000 by omega) hw
      have b2 := take_sum hik (show 0 ≤ gr * (tt : Int) * 1000 by omega)
      refine ⟨Or.inr ⟨hp, by omega, by rw [et]; exact hik, by omega, by omega⟩, fun b hb => ?_, ?_⟩
      · rw [tkS, if_pos hp, et, egr, e2]
        exact ⟨(b1 b hb).1, fun _ => (b1 b hb).2⟩
      · simp only [tkS, if_pos hp, et, egr, e2]
        exact b2
  obtain ⟨t1, t2, t3⟩ := htk
  have m0 := hmo 0 (by omega)
  have m1 := hmo 1 (by omega)
  have m2 := hmo 2 (by omega)
  have m3 := hmo 3 (by omega)
  have v0 := t2 0 (by omega)
  have v1 := t2 1 (by omega)
  have v2 := t2 2 (by omega)
  have v3 := t2 3 (by omega)
  have hwt : wt (inkS M s i) = 1000 * M (367 + 5 * i) 3 := by
    simp only [wt, inkS, egr]
    have e1 : s (5 + 0) * (gr * 1000) + s (5 + 1) * (gr * 1000) + s (5 + 2) * (gr * 1000) + s (5 + 3) * (gr * 1000) = (10 - s 2) * (gr * 1000) := by
      rw [← Int.add_mul, ← Int.add_mul, ← Int.add_mul]
      exact congrArg (· * (gr * 1000)) hsum
    have e2 : (10 - s 2) * (gr * 1000) = 10 * (gr * 1000) - gr * s 2 * 1000 := by
      rw [Int.sub_mul, Int.mul_comm gr (s 2), Int.mul_assoc (s 2) gr 1000]
    omega
  refine ⟨t1, t2, ?_, hwt, fun b hb => by rw [egr]; exact ⟨(hmo b hb).1, (hmo b hb).2.1⟩, by rw [egr]; exact t3⟩
  have q : ∀ b, inkS M s i b = s (5 + b) * (gr * 1000) + tkS M s i b := fun b => by simp only [inkS, egr]
  rw [wt, eg] at hwt
  simp only [tin4]
  have q0 := q 0
  have q1 := q 1
  have q2 := q 2
  have q3 := q 3
  omega
section CF
variable {l : Launch} {D : va_G} {cy : Nat → ClassId}
set_option maxRecDepth 100000 in
set_option maxHeartbeats 4000000 in
theorem jj_mx {M : Nat → Nat → Int} {Φ : Out → Mem → Prop} (d i : Nat) (hi : i < 16) (hw : -2147483648 ≤ wt (M (371 + 5 * i)) ∧ wt (M (371 + 5 * i)) ≤ 2147483647) (hwp : 0 < wt (M (371 + 5 * i)) → ∀ p, p < 3 → 0 ≤ wpart M (M (371 + 5 * i)) p ∧ wpart M (M (371 + 5 * i)) p ≤ 2147483647) (z : AV) (hfin : ∀ M' : Nat → Nat → Int, (∀ x, x ≠ 369 + 5 * i → M' x = M x) → (∀ p, p < 3 → M' (369 + 5 * i) p = partF M (M (371 + 5 * i)) p) → J l D cy (GM l D cy 8 cX8_mix 4 (d + 8) 2 12 false (some .int) Φ) 88 [some (.inr (.inr (some 0))), some z, some (.inr (.inr (some (367 + 5 * i)))), some (.inl 3)] [] (449, R0, M') 1 6) : ∀ (k p : Nat) (M' : Nat → Nat → Int), p + k = 3 → (∀ x, x ≠ 369 + 5 * i → M' x = M x) → (∀ q, q < p → M' (369 + 5 * i) q = partF M (M (371 + 5 * i)) q) →
    J l D cy (GM l D cy 8 cX8_mix 4 (d + 8) 2 12 false (some .int) Φ) 59 [some (.inr (.inr (some 0))), some z, some (.inr (.inr (some (367 + 5 * i)))), some (.inl (p : Int))] [] (449, R0, M') 1 6 := by
  obtain ⟨a1, -, -, a3, a4, b1, b2, b3, -, a5, b4, a2, b5⟩ := job_at i hi
  have i2 : 367 + 5 * i < 449 := by omega
  have i3 : 369 + 5 * i < 449 := by omega
  have i4 : 370 + 5 * i < 449 := by omega
  intro k
  induction k with
  | zero =>
    intro p M' hp h1 h2
    have e : p = 3 := by omega
    subst e
    refine J_rnG GM_fa (by omega) (by omega) (by omega) 3 _ _ _ _ (fun K9v hK9 => ?_)
    simp (maxSteps := 4000000) only [↓(X_iload_n (k := 3) (pc' := 60) dX8_mix_59 rfl rfl), ↓gI_3, ↓(X_iconst (pc' := 61) dX8_mix_60 rfl), ↓(X_icmp_ge (tgt := 88) (pc' := 64) dX8_mix_61 (by decide) rfl), rn_0, gV_s, ↓pI_c, ↓pII_c, ↓pL_c, ↓pLL_c, ↓pR_c, ↓pRI_c, ↓pRII_c, ↓pRIL_c, ↓pRR_c, ↓pV_c, ↓pVV_c, ↓gI_c, ↓gL_c, ↓gR_c, f2_0, f2_1, nk_n, nk_i, nk_r, ↓reduceIte, r32, r64, Nat.reduceAdd, Nat.reduceSub, Nat.reduceEqDiff, Nat.reduceLT, Nat.reduceLeDiff, Nat.reduceBEq, Int.reduceAdd, Int.reduceSub, Int.reduceMul, Int.reduceNeg, Int.reduceToNat, Int.reduceLE, Int.reduceLT, Int.reduceEq, Int.reduceNatCast', Int.reduceNatCast, Int.natCast_zero, Int.toNat_natCast, Int.toNat_zero, Int.toNat_one, List.length_cons, List.length_nil, true_and, and_true, and_self, true_or, or_true, false_or, or_false, Bool.not_true, Bool.not_false, Nat.lt_add_one, Nat.zero_lt_succ, N0, swL_n, swL_c, List.toList_toArray, false_implies, true_implies, implies_true, forall_const, not_false_eq_true, not_true_eq_false, and_false, false_and]
    simp only [hK9]
    clear hK9 K9v
    exact hfin M' h1 h2
  | succ k ih =>
    intro p M' hp h1 h2
    have c1 : (p : Int) < 3 := by omega
    have c0 : (0 : Int) ≤ (p : Int) := by omega
    have r1 : -2147483648 ≤ (p : Int) ∧ (p : Int) ≤ 2147483647 := by omega
    have e371 : M' (371 + 5 * i) = M (371 + 5 * i) := h1 _ (by omega)
    have ew : wpart M' (M (371 + 5 * i)) p = wpart M (M (371 + 5 * i)) p := by
      simp only [wpart, h1 3 (by omega), h1 4 (by omega), h1 5 (by omega), h1 6 (by omega)]
    refine J_rnG GM_fa (by omega) (by omega) (by omega) 11 _ _ _ _ (fun K9v hK9 => ?_)
    simp (maxSteps := 4000000) only [↓(X_iload_n (k := 3) (pc' := 60) dX8_mix_59 rfl rfl), ↓gI_3, ↓(X_iconst (pc' := 61) dX8_mix_60 rfl), ↓(X_icmp_ge (tgt := 88) (pc' := 64) dX8_mix_61 (by decide) rfl), ↓(X_aload_n (k := 2) (pc' := 65) dX8_mix_64 rfl rfl), ↓gR_2, ↓(X_getR (pc' := 68) fl_8_143 dX8_mix_65 rfl), ↓(X_iload_n (k := 3) (pc' := 69) dX8_mix_68 rfl rfl), ↓(X_aload_n (k := 0) (pc' := 70) dX8_mix_69 rfl rfl), ↓gR_0, ↓(X_getR (pc' := 73) fl_8_10 dX8_mix_70 rfl), kd_0, ↓(gV_c r0_0_0), kd_1, ↓(X_aload_n (k := 2) (pc' := 74) dX8_mix_73 rfl rfl), ↓(X_getR (pc' := 77) fl_8_146 dX8_mix_74 rfl), ↓(X_iload_n (k := 3) (pc' := 78) dX8_mix_77 rfl rfl), rn_0, gV_s, ↓pI_c, ↓pII_c, ↓pL_c, ↓pLL_c, ↓pR_c, ↓pRI_c, ↓pRII_c, ↓pRIL_c, ↓pRR_c, ↓pV_c, ↓pVV_c, ↓gI_c, ↓gL_c, ↓gR_c, f2_0, f2_1, nk_n, nk_i, nk_r, ↓reduceIte, r32, r64, Nat.reduceAdd, Nat.reduceSub, Nat.reduceEqDiff, Nat.reduceLT, Nat.reduceLeDiff, Nat.reduceBEq, Int.reduceAdd, Int.reduceSub, Int.reduceMul, Int.reduceNeg, Int.reduceToNat, Int.reduceLE, Int.reduceLT, Int.reduceEq, Int.reduceNatCast', Int.reduceNatCast, Int.natCast_zero, Int.toNat_natCast, Int.toNat_zero, Int.toNat_one, List.length_cons, List.length_nil, true_and, and_true, and_self, true_or, or_true, false_or, or_false, Bool.not_true, Bool.not_false, Nat.lt_add_one, Nat.zero_lt_succ, N0, swL_n, swL_c, List.toList_toArray, false_implies, true_implies, implies_true, forall_const, not_false_eq_true, not_true_eq_false, and_false, false_and, c1, c0, r1, a1, i2, a3, a4, i3, ↓(gV_c a5), ↓(gV_c b4)]
    simp only [hK9]
    clear hK9 K9v
    refine J_callVd (ci := 6) GM_fa (ok_partOf (M := M') (d + 5) (370 + 5 * i) p b1 i4 (by omega) (by rw [show 370 + 5 * i + 1 = 371 + 5 * i by omega, e371]; exact hw) (by rw [show 370 + 5 * i + 1 = 371 + 5 * i by omega, e371, ew]; exact fun h => hwp h p (by omega))) dX8_mix_78 k_8_149 (by omega) (Nat.le_of_ble_eq_true rfl) ⟨by omega, by omega⟩ rfl (by decide +kernel) rfl (by decide) (by simp only [N0]; omega) (by simp) rfl rfl ?_
    simp only [Option.toList, List.cons_append, List.nil_append]
    rw [show 370 + 5 * i + 1 = 371 + 5 * i by omega, e371, show partF M' (M (371 + 5 * i)) p = partF M (M (371 + 5 * i)) p by rw [partF, partF, ew]]
    refine J_rnG GM_fa (by omega) (by omega) (by omega) 3 _ _ _ _ (fun K9v hK9 => ?_)
    simp (maxSteps := 4000000) only [↓(X_iastore (pc' := 82) dX8_mix_81 rfl), ↓(X_iinc (pc' := 85) dX8_mix_82 rfl), ↓gI_3, ↓sto_3, ↓(X_goto (pc' := 59) dX8_mix_85 (by decide)), rn_0, gV_s, ↓pI_c, ↓pII_c, ↓pL_c, ↓pLL_c, ↓pR_c, ↓pRI_c, ↓pRII_c, ↓pRIL_c, ↓pRR_c, ↓pV_c, ↓pVV_c, ↓gI_c, ↓gL_c, ↓gR_c, f2_0, f2_1, nk_n, nk_i, nk_r, ↓reduceIte, r32, r64, Nat.reduceAdd, Nat.reduceSub, Nat.reduceEqDiff, Nat.reduceLT, Nat.reduceLeDiff, Nat.reduceBEq, Int.reduceAdd, Int.reduceSub, Int.reduceMul, Int.reduceNeg, Int.reduceToNat, Int.reduceLE, Int.reduceLT, Int.reduceEq, Int.reduceNatCast', Int.reduceNatCast, Int.natCast_zero, Int.toNat_natCast, Int.toNat_zero, Int.toNat_one, List.length_cons, List.length_nil, true_and, and_true, and_self, true_or, or_true, false_or, or_false, Bool.not_true, Bool.not_false, Nat.lt_add_one, Nat.zero_lt_succ, N0, swL_n, swL_c, List.toList_toArray, false_implies, true_implies, implies_true, forall_const, not_false_eq_true, not_true_eq_false, and_false, false_and, c1, c0, r1, a3, a4, i3]
    simp only [hK9]
    clear hK9 K9v
    rw [show (p : Int) + 1 = ((p + 1 : Nat) : Int) by omega]
    refine ih (p + 1) _ (by omega) (fun x hx => by funext k; rw [up2_c hx, h1 x hx]) (fun q hq => ?_)
    rcases (show q = p ∨ q ≠ p by omega) with e | e
    · rw [e, up2_s]
    · rw [up2_k e]
      exact h2 q (by omega)
set_option maxRecDepth 100000 in
set_option maxHeartbeats 4000000 in
theorem ok_mix {M : Nat → Nat → Int} (hl9 : l.stackTraces = false) (d n T : Nat) (z : Int) (hz : r32 z) (hn : M 0 8 = (n : Int)) (hn2 : n ≤ 16) (hst : ∀ i, i < 16 → 0 ≤ M (367 + 5 * i) 5 ∧ M (367 + 5 * i) 5 ≤ 2) (hK : ∀ i, i < n → kOK M i T ∧ M (367 + 5 * i) 3 % 10 = 0) (h0 : ∀ i, i < n → M (367 + 5 * i) 5 = 0 → ∀ b, b < 4 → M (371 + 5 * i) b = 0) : Ok l D cy (d + 8) 2 12 yX8_mix cX8_mix 4 (some (.int)) [.inr (.inr (some (0))), .inl (z)] (N0, R0, M) (fun o ν => o = outF [IOB, ISE] (cMix (n : Int) z (M (367 + 5 * z.toNat) 5) (nMix M n : Int) (findF M z.toNat T 0)) (some (.inl (findF M z.toNat T 4))) ∧ ∃ M2 : Nat → Nat → Int, ν = (N0, R0, M2) ∧ (cMix (n : Int) z (M (367 + 5 * z.toNat) 5) (nMix M n : Int) (findF M z.toNat T 0) ≠ 0 → ∀ x, ¬ scrF x → M2 x = M x) ∧ (cMix (n : Int) z (M (367 + 5 * z.toNat) 5) (nMix M n : Int) (findF M z.toNat T 0) = 0 → mixM M M2 (findF M z.toNat T) z.toNat)) := by
  refine Ok.intro (o := 8) (ini := false) [some (.inr (.inr (some (0)))), some (.inl (z)), none, none] (by decide +kernel) rfl (fun h => by cases h) rfl (Nat.le_of_ble_eq_true rfl) rfl ?_
  refine J_rnG GM_fa (by omega) (by omega) (by omega) 2 _ _ _ _ (fun K9v hK9 => ?_)
  simp (maxSteps := 4000000) only [↓(X_aload_n (k := 0) (pc' := 1) dX8_mix_0 rfl rfl), ↓gR_0, ↓(X_iload_n (k := 1) (pc' := 2) dX8_mix_1 rfl rfl), ↓gI_1, rn_0, gV_s, ↓pI_c, ↓pII_c, ↓pL_c, ↓pLL_c, ↓pR_c, ↓pRI_c, ↓pRII_c, ↓pRIL_c, ↓pRR_c, ↓pV_c, ↓pVV_c, ↓gI_c, ↓gL_c, ↓gR_c, f2_0, f2_1, nk_n, nk_i, nk_r, ↓reduceIte, r32, r64, Nat.reduceAdd, Nat.reduceSub, Nat.reduceEqDiff, Nat.reduceLT, Nat.reduceLeDiff, Nat.reduceBEq, Int.reduceAdd, Int.reduceSub, Int.reduceMul, Int.reduceNeg, Int.reduceToNat, Int.reduceLE, Int.reduceLT, Int.reduceEq, Int.reduceNatCast', Int.reduceNatCast, Int.natCast_zero, Int.toNat_natCast, Int.toNat_zero, Int.toNat_one, List.length_cons, List.length_nil, true_and, and_true, and_self, true_or, or_true, false_or, or_false, Bool.not_true, Bool.not_false, Nat.lt_add_one, Nat.zero_lt_succ, N0, swL_n, swL_c, List.toList_toArray, false_implies, true_implies, implies_true, forall_const, not_false_eq_true, not_true_eq_false, and_false, false_and]
  simp only [hK9]
  clear hK9 K9v
  refine J_callV0 GM_fa (ok_jobNumbered hl9 (d + 1) n z hz hn hn2) dX8_mix_2 k_8_114 (by omega) (Nat.le_of_ble_eq_true rfl) ⟨by omega, by omega⟩ rfl (by decide +kernel) (by decide +kernel) (by simp only [N0]; omega) (by simp) rfl (fun q9 ν9 h9 => Or.inl (by simp only [h9.1, N0])) (fun E ν hE => exitsM (by omega) (by omega) ?_) (fun v ν hv _ => ?_)
  · obtain ⟨hν, ⟨h1, h2⟩ | ⟨h1, h2⟩⟩ := hE
    · cases h2
      subst hν
      have e : ∀ a b c, cMix (n : Int) z a b c = 1 := fun a b c => by rw [cMix, if_neg h1]
      exact ⟨by rw [e]; rfl, M, rfl, fun _ _ _ => rfl, fun h => by rw [e] at h; cases h⟩
    · cases h2
  · obtain ⟨hν, ⟨h1, h2⟩ | ⟨h1, h2⟩⟩ := hv
    · cases h2
    cases h2
    subst hν
    simp only [Option.toList, List.cons_append, List.nil_append]
    obtain ⟨j, rfl⟩ : ∃ j : Nat, z = (j : Int) := ⟨z.toNat, by omega⟩
    rw [Int.toNat_natCast]
    obtain ⟨a1, -⟩ := job_at j (by omega)
    have i2 : 367 + 5 * j < 449 := by omega
    have hs := hst j (by omega)
    have r1 : -2147483648 ≤ M (367 + 5 * j) 5 ∧ M (367 + 5 * j) 5 ≤ 2147483647 := by omega
    have hle := nMix_le (M := M) n
    have r2 : -2147483648 ≤ (nMix M n : Int) ∧ (nMix M n : Int) ≤ 2147483647 := by omega
    rcases (show M (367 + 5 * j) 5 = 0 ∨ ¬ M (367 + 5 * j) 5 = 0 by omega) with q | q
    · refine J_rnG GM_fa (by omega) (by omega) (by omega) 4 _ _ _ _ (fun K9v hK9 => ?_)
      simp (maxSteps := 4000000) only [↓(X_astore_n (k := 2) (pc' := 6) dX8_mix_5 rfl rfl), ↓sto_2, ↓(X_aload_n (k := 2) (pc' := 7) dX8_mix_6 rfl rfl), ↓gR_2, ↓(X_getI (pc' := 10) fl_8_118 (by decide) dX8_mix_7 rfl), ↓(X_if_ne (tgt := 37) (pc' := 13) dX8_mix_10 (by decide) rfl), rn_0, gV_s, ↓pI_c, ↓pII_c, ↓pL_c, ↓pLL_c, ↓pR_c, ↓pRI_c, ↓pRII_c, ↓pRIL_c, ↓pRR_c, ↓pV_c, ↓pVV_c, ↓gI_c, ↓gL_c, ↓gR_c, f2_0, f2_1, nk_n, nk_i, nk_r, ↓reduceIte, r32, r64, Nat.reduceAdd, Nat.reduceSub, Nat.reduceEqDiff, Nat.reduceLT, Nat.reduceLeDiff, Nat.reduceBEq, Int.reduceAdd, Int.reduceSub, Int.reduceMul, Int.reduceNeg, Int.reduceToNat, Int.reduceLE, Int.reduceLT, Int.reduceEq, Int.reduceNatCast', Int.reduceNatCast, Int.natCast_zero, Int.toNat_natCast, Int.toNat_zero, Int.toNat_one, List.length_cons, List.length_nil, true_and, and_true, and_self, true_or, or_true, false_or, or_false, Bool.not_true, Bool.not_false, Nat.lt_add_one, Nat.zero_lt_succ, N0, swL_n, swL_c, List.toList_toArray, false_implies, true_implies, implies_true, forall_const, not_false_eq_true, not_true_eq_false, and_false, false_and, a1, i2, q]
      simp only [hK9]
      clear hK9 K9v
      refine J_rnG GM_fa (by omega) (by omega) (by omega) 1 _ _ _ _ (fun K9v hK9 => ?_)
      simp (maxSteps := 4000000) only [↓(X_aload_n (k := 0) (pc' := 14) dX8_mix_13 rfl rfl), ↓gR_0, rn_0, gV_s, ↓pI_c, ↓pII_c, ↓pL_c, ↓pLL_c, ↓pR_c, ↓pRI_c, ↓pRII_c, ↓pRIL_c, ↓pRR_c, ↓pV_c, ↓pVV_c, ↓gI_c, ↓gL_c, ↓gR_c, f2_0, f2_1, nk_n, nk_i, nk_r, ↓reduceIte, r32, r64, Nat.reduceAdd, Nat.reduceSub, Nat.reduceEqDiff, Nat.reduceLT, Nat.reduceLeDiff, Nat.reduceBEq, Int.reduceAdd, Int.reduceSub, Int.reduceMul, Int.reduceNeg, Int.reduceToNat, Int.reduceLE, Int.reduceLT, Int.reduceEq, Int.reduceNatCast', Int.reduceNatCast, Int.natCast_zero, Int.toNat_natCast, Int.toNat_zero, Int.toNat_one, List.length_cons, List.length_nil, true_and, and_true, and_self, true_or, or_true, false_or, or_false, Bool.not_true, Bool.not_false, Nat.lt_add_one, Nat.zero_lt_succ, N0, swL_n, swL_c, List.toList_toArray, false_implies, true_implies, implies_true, forall_const, not_false_eq_true, not_true_eq_false, and_false, false_and]
      simp only [hK9]
      clear hK9 K9v
      refine J_callVd (ci := 8) GM_fa (ok_countMixed (M := M) (d + 6) n hn hn2 hst) dX8_mix_14 k_8_135 (by omega) (Nat.le_of_ble_eq_true rfl) ⟨by omega, by omega⟩ rfl (by decide +kernel) rfl (by decide) (by simp only [N0]; omega) (by simp) rfl rfl ?_
      simp only [Option.toList, List.cons_append, List.nil_append]
      rcases (show (nMix M n : Int) < 8 ∨ ¬ (nMix M n : Int) < 8 by omega) with q2 | q2
      · refine J_rnG GM_fa (by omega) (by omega) (by omega) 2 _ _ _ _ (fun K9v hK9 => ?_)
        simp (maxSteps := 4000000) only [↓(X_bipush (pc' := 19) dX8_mix_17 rfl), ↓(X_icmp_ge (tgt := 37) (pc' := 22) dX8_mix_19 (by decide) rfl), rn_0, gV_s, ↓pI_c, ↓pII_c, ↓pL_c, ↓pLL_c, ↓pR_c, ↓pRI_c, ↓pRII_c, ↓pRIL_c, ↓pRR_c, ↓pV_c, ↓pVV_c, ↓gI_c, ↓gL_c, ↓gR_c, f2_0, f2_1, nk_n, nk_i, nk_r, ↓reduceIte, r32, r64, Nat.reduceAdd, Nat.reduceSub, Nat.reduceEqDiff, Nat.reduceLT, Nat.reduceLeDiff, Nat.reduceBEq, Int.reduceAdd, Int.reduceSub, Int.reduceMul, Int.reduceNeg, Int.reduceToNat, Int.reduceLE, Int.reduceLT, Int.reduceEq, Int.reduceNatCast', Int.reduceNatCast, Int.natCast_zero, Int.toNat_natCast, Int.toNat_zero, Int.toNat_one, List.length_cons, List.length_nil, true_and, and_true, and_self, true_or, or_true, false_or, or_false, Bool.not_true, Bool.not_false, Nat.lt_add_one, Nat.zero_lt_succ, N0, swL_n, swL_c, List.toList_toArray, false_implies, true_implies, implies_true, forall_const, not_false_eq_true, not_true_eq_false, and_false, false_and, q2, r2]
        simp only [hK9]
        clear hK9 K9v
        refine J_rnG GM_fa (by omega) (by omega) (by omega) 5 _ _ _ _ (fun K9v hK9 => ?_)
        simp (maxSteps := 4000000) only [↓(X_aload_n (k := 0) (pc' := 23) dX8_mix_22 rfl rfl), ↓gR_0, ↓(X_getR (pc' := 26) fl_8_50 dX8_mix_23 rfl), kd_0, ↓(gV_c r0_0_6), kd_79, ↓(X_aload_n (k := 2) (pc' := 27) dX8_mix_26 rfl rfl), ↓gR_2, ↓(X_aload_n (k := 0) (pc' := 28) dX8_mix_27 rfl rfl), ↓(X_getR (pc' := 31) fl_8_10 dX8_mix_28 rfl), ↓(gV_c r0_0_0), kd_1, rn_0, gV_s, ↓pI_c, ↓pII_c, ↓pL_c, ↓pLL_c, ↓pR_c, ↓pRI_c, ↓pRII_c, ↓pRIL_c, ↓pRR_c, ↓pV_c, ↓pVV_c, ↓gI_c, ↓gL_c, ↓gR_c, f2_0, f2_1, nk_n, nk_i, nk_r, ↓reduceIte, r32, r64, Nat.reduceAdd, Nat.reduceSub, Nat.reduceEqDiff, Nat.reduceLT, Nat.reduceLeDiff, Nat.reduceBEq, Int.reduceAdd, Int.reduceSub, Int.reduceMul, Int.reduceNeg, Int.reduceToNat, Int.reduceLE, Int.reduceLT, Int.reduceEq, Int.reduceNatCast', Int.reduceNatCast, Int.natCast_zero, Int.toNat_natCast, Int.toNat_zero, Int.toNat_one, List.length_cons, List.length_nil, true_and, and_true, and_self, true_or, or_true, false_or, or_false, Bool.not_true, Bool.not_false, Nat.lt_add_one, Nat.zero_lt_succ, N0, swL_n, swL_c, List.toList_toArray, false_implies, true_implies, implies_true, forall_const, not_false_eq_true, not_true_eq_false, and_false, false_and]
        simp only [hK9]
        clear hK9 K9v
        refine J_callV (ci := 5) GM_fa (ok_find (M := M) (d + 0) j T (hK j (by omega)).1) (by first | exact calm_det | assumption | (intro q9 ν9 h9; obtain ⟨h8, h6, M9, h7, -⟩ := h9; exact ⟨⟨_, h8⟩, by rw [h7]; rfl⟩) | (intro q9 ν9 h9; obtain ⟨h8, M9, h7, -⟩ := h9; first | exact ⟨⟨_, h8⟩, by rw [h7]; rfl⟩ | exact ⟨⟨_, h7⟩, by rw [h8]; rfl⟩ | exact ⟨⟨_, h7⟩, by rw [h8]⟩)) dX8_mix_31 k_8_121 (by omega) (Nat.le_of_ble_eq_true rfl) ⟨by omega, by omega⟩ rfl (by decide +kernel) rfl (by decide) (by simp only [N0]; omega) (by simp) rfl (fun v ν hv => ?_)
        obtain ⟨hv0, hf01, M2, rfl, w1, w2, w3⟩ := hv
        cases hv0
        simp only [Option.toList, List.cons_append, List.nil_append]
        have hM2 : ∀ x, ¬ scrF x → M2 x = M x := fun x hx => w1 x (fun e => hx (by simp [scrF, e])) (fun e => hx (by simp [scrF, e])) (fun e => hx (by simp [scrF, e])) (fun e => hx (by simp [scrF, e])) (fun e => hx (by simp [scrF, e])) (fun e => hx (by simp [scrF, e])) (fun e => hx (by simp [scrF, e])) (fun e => hx (by simp [scrF, e]))
        rcases hf01 with f | f
        · have e : cMix (n : Int) (j : Int) (M (367 + 5 * j) 5) (nMix M n : Int) (findF M j T 0) = 2 := by rw [cMix, if_pos h1, if_neg (by omega)]
          rw [e]
          refine J_rnG GM_fa (by omega) (by omega) (by omega) 1 _ _ _ _ (fun K9v hK9 => ?_)
          simp (maxSteps := 4000000) only [↓(X_if_ne (tgt := 45) (pc' := 37) dX8_mix_34 (by decide) rfl), rn_0, gV_s, ↓pI_c, ↓pII_c, ↓pL_c, ↓pLL_c, ↓pR_c, ↓pRI_c, ↓pRII_c, ↓pRIL_c, ↓pRR_c, ↓pV_c, ↓pVV_c, ↓gI_c, ↓gL_c, ↓gR_c, f2_0, f2_1, nk_n, nk_i, nk_r, ↓reduceIte, r32, r64, Nat.reduceAdd, Nat.reduceSub, Nat.reduceEqDiff, Nat.reduceLT, Nat.reduceLeDiff, Nat.reduceBEq, Int.reduceAdd, Int.reduceSub, Int.reduceMul, Int.reduceNeg, Int.reduceToNat, Int.reduceLE, Int.reduceLT, Int.reduceEq, Int.reduceNatCast', Int.reduceNatCast, Int.natCast_zero, Int.toNat_natCast, Int.toNat_zero, Int.toNat_one, List.length_cons, List.length_nil, true_and, and_true, and_self, true_or, or_true, false_or, or_false, Bool.not_true, Bool.not_false, Nat.lt_add_one, Nat.zero_lt_succ, N0, swL_n, swL_c, List.toList_toArray, false_implies, true_implies, implies_true, forall_const, not_false_eq_true, not_true_eq_false, and_false, false_and, f]
          simp only [hK9]
          clear hK9 K9v
          refine J_throw hl9 tOK_77 dX8_mix_37 dX8_mix_40 dX8_mix_41 dX8_mix_44 (by omega) (by simp) (by omega) (by omega) (⟨rfl, M2, rfl, fun _ => hM2, fun h => by cases h⟩)
        · have e : cMix (n : Int) (j : Int) (M (367 + 5 * j) 5) (nMix M n : Int) (findF M j T 0) = 0 := by rw [cMix, if_pos h1, if_pos ⟨q, q2, f⟩]
          rw [e]
          refine J_rnG GM_fa (by omega) (by omega) (by omega) 1 _ _ _ _ (fun K9v hK9 => ?_)
          simp (maxSteps := 4000000) only [↓(X_if_ne (tgt := 45) (pc' := 37) dX8_mix_34 (by decide) rfl), rn_0, gV_s, ↓pI_c, ↓pII_c, ↓pL_c, ↓pLL_c, ↓pR_c, ↓pRI_c, ↓pRII_c, ↓pRIL_c, ↓pRR_c, ↓pV_c, ↓pVV_c, ↓gI_c, ↓gL_c, ↓gR_c, f2_0, f2_1, nk_n, nk_i, nk_r, ↓reduceIte, r32, r64, Nat.reduceAdd, Nat.reduceSub, Nat.reduceEqDiff, Nat.reduceLT, Nat.reduceLeDiff, Nat.reduceBEq, Int.reduceAdd, Int.reduceSub, Int.reduceMul, Int.reduceNeg, Int.reduceToNat, Int.reduceLE, Int.reduceLT, Int.reduceEq, Int.reduceNatCast', Int.reduceNatCast, Int.natCast_zero, Int.toNat_natCast, Int.toNat_zero, Int.toNat_one, List.length_cons, List.length_nil, true_and, and_true, and_self, true_or, or_true, false_or, or_false, Bool.not_true, Bool.not_false, Nat.lt_add_one, Nat.zero_lt_succ, N0, swL_n, swL_c, List.toList_toArray, false_implies, true_implies, implies_true, forall_const, not_false_eq_true, not_true_eq_false, and_false, false_and, f]
          simp only [hK9]
          clear hK9 K9v
          refine J_rnG GM_fa (by omega) (by omega) (by omega) 5 _ _ _ _ (fun K9v hK9 => ?_)
          simp (maxSteps := 4000000) only [↓(X_aload_n (k := 0) (pc' := 46) dX8_mix_45 rfl rfl), ↓gR_0, ↓(X_aload_n (k := 2) (pc' := 47) dX8_mix_46 rfl rfl), ↓gR_2, ↓(X_aload_n (k := 0) (pc' := 48) dX8_mix_47 rfl rfl), ↓(X_getR (pc' := 51) fl_8_50 dX8_mix_48 rfl), kd_0, ↓(gV_c r0_0_6), kd_79, ↓(X_getR (pc' := 54) fl_8_125 dX8_mix_51 rfl), ↓(gV_c r0_79_0), kd_80, rn_0, gV_s, ↓pI_c, ↓pII_c, ↓pL_c, ↓pLL_c, ↓pR_c, ↓pRI_c, ↓pRII_c, ↓pRIL_c, ↓pRR_c, ↓pV_c, ↓pVV_c, ↓gI_c, ↓gL_c, ↓gR_c, f2_0, f2_1, nk_n, nk_i, nk_r, ↓reduceIte, r32, r64, Nat.reduceAdd, Nat.reduceSub, Nat.reduceEqDiff, Nat.reduceLT, Nat.reduceLeDiff, Nat.reduceBEq, Int.reduceAdd, Int.reduceSub, Int.reduceMul, Int.reduceNeg, Int.reduceToNat, Int.reduceLE, Int.reduceLT, Int.reduceEq, Int.reduceNatCast', Int.reduceNatCast, Int.natCast_zero, Int.toNat_natCast, Int.toNat_zero, Int.toNat_one, List.length_cons, List.length_nil, true_and, and_true, and_self, true_or, or_true, false_or, or_false, Bool.not_true, Bool.not_false, Nat.lt_add_one, Nat.zero_lt_succ, N0, swL_n, swL_c, List.toList_toArray, false_implies, true_implies, implies_true, forall_const, not_false_eq_true, not_true_eq_false, and_false, false_and]
          simp only [hK9]
          clear hK9 K9v
          obtain ⟨hKj, h10⟩ := hK j (by omega)
          have hgd : goodS (fun b => M 8 b / (M (367 + 5 * j) 3 / 10 * 1000)) (M (367 + 5 * j) 3 / 10) (M (367 + 5 * j) 4) (fun t => M (11 + 2 * t)) T (findF M j T) := findS_good ⟨Or.inl rfl, Int.le_refl _, fun h => by cases h⟩
          obtain ⟨k1, k2, k3, k4, k5, k6⟩ := inkS_ok hKj h10 hgd f
          have hz0 := h0 j (by omega) q
          obtain ⟨-, hgr, -, hC, -, -, -, hT, hT30, -⟩ := hKj
          generalize findF M j T = s at *
          obtain ⟨y0, y1, y2, y3, y4, y5, y6, y7, y8⟩ := w3
          have eJ : M2 (367 + 5 * j) = M (367 + 5 * j) := hM2 _ (by simp only [scrF]; omega)
          have e1 : M2 1 = M 1 := hM2 _ (by simp only [scrF]; omega)
          have e8 : M2 8 = M 8 := hM2 _ (by simp only [scrF]; omega)
          have eI : M2 (371 + 5 * j) = M (371 + 5 * j) := hM2 _ (by simp only [scrF]; omega)
          have eT : 0 ≤ s 3 → M2 (11 + 2 * (s 3).toNat) = M (11 + 2 * (s 3).toNat) := fun h => hM2 _ (by simp only [scrF]; omega)
          have e81 : ∀ b, b < 4 → M2 81 b = s (5 + b) := by
            intro b hb
            obtain e | e | e | e : b = 0 ∨ b = 1 ∨ b = 2 ∨ b = 3 := by omega
            all_goals subst e; assumption
          have etv : ∀ b, takeV M2 j b = tkS M s j b := by
            intro b
            rw [takeV, tkS, y3, y2, eJ]
            split
            · rename_i hp
              rw [eT hp]
            · rfl
          refine J_callV (ci := 8) GM_fa (ok_fillInk (M := M2) (d + 3) j T (by omega) (by rw [eJ]; exact hgr) (by rw [e1]; exact hT) hT30 (by rw [y3, y2]; rcases k1 with k1 | ⟨k1, k1', k1'', k1'''⟩; exact Or.inl k1; exact Or.inr ⟨k1, k1', by rw [eT k1]; exact k1'', k1'''⟩)) (by first | exact calm_det | assumption | (intro q9 ν9 h9; obtain ⟨h8, h6, M9, h7, -⟩ := h9; exact ⟨⟨_, h8⟩, by rw [h7]; rfl⟩) | (intro q9 ν9 h9; obtain ⟨h8, M9, h7, -⟩ := h9; first | exact ⟨⟨_, h8⟩, by rw [h7]; rfl⟩ | exact ⟨⟨_, h7⟩, by rw [h8]; rfl⟩ | exact ⟨⟨_, h7⟩, by rw [h8]⟩)) dX8_mix_54 k_8_139 (by omega) (Nat.le_of_ble_eq_true rfl) ⟨by omega, by omega⟩ rfl (by decide +kernel) rfl (by decide) (by simp only [N0]; omega) (by simp) rfl (fun v ν hv => ?_)
          obtain ⟨hv0, M3, rfl, x1, x2⟩ := hv
          cases hv0
          simp only [Option.toList, List.nil_append]
          rw [y3, eJ] at x2
          rw [y3] at x1
          have eink : ∀ b, b < 4 → M3 (371 + 5 * j) b = inkS M s j b := fun b hb => by
            rw [(x2 b hb).2.1, eI, hz0 b hb, e81 b hb, etv, inkS]
            omega
          have ewt : wt (M3 (371 + 5 * j)) = wt (inkS M s j) := by
            simp only [wt, eink 0 (by omega), eink 1 (by omega), eink 2 (by omega), eink 3 (by omega)]
          have eC : ∀ b, b < 4 → M3 (3 + b) = M (3 + b) := fun b hb => by
            rw [x1 _ (by omega) (by omega) (by omega) (by omega) (by omega), hM2 _ (by simp only [scrF]; omega)]
          have ewp : ∀ p, wpart M3 (M3 (371 + 5 * j)) p = wpart M (inkS M s j) p := fun p => by
            have c0 : M3 3 = M 3 := eC 0 (by omega)
            have c1 : M3 4 = M 4 := eC 1 (by omega)
            have c2 : M3 5 = M 5 := eC 2 (by omega)
            have c3 : M3 6 = M 6 := eC 3 (by omega)
            simp only [wpart, eink 0 (by omega), eink 1 (by omega), eink 2 (by omega), eink 3 (by omega), c0, c1, c2, c3]
          have hwpos : 0 < wt (inkS M s j) := by omega
          refine J_rnG GM_fa (by omega) (by omega) (by omega) 2 _ _ _ _ (fun K9v hK9 => ?_)
          simp (maxSteps := 4000000) only [↓(X_iconst (pc' := 58) dX8_mix_57 rfl), ↓(X_istore_n (k := 3) (pc' := 59) dX8_mix_58 rfl rfl), ↓sto_3, rn_0, gV_s, ↓pI_c, ↓pII_c, ↓pL_c, ↓pLL_c, ↓pR_c, ↓pRI_c, ↓pRII_c, ↓pRIL_c, ↓pRR_c, ↓pV_c, ↓pVV_c, ↓gI_c, ↓gL_c, ↓gR_c, f2_0, f2_1, nk_n, nk_i, nk_r, ↓reduceIte, r32, r64, Nat.reduceAdd, Nat.reduceSub, Nat.reduceEqDiff, Nat.reduceLT, Nat.reduceLeDiff, Nat.reduceBEq, Int.reduceAdd, Int.reduceSub, Int.reduceMul, Int.reduceNeg, Int.reduceToNat, Int.reduceLE, Int.reduceLT, Int.reduceEq, Int.reduceNatCast', Int.reduceNatCast, Int.natCast_zero, Int.toNat_natCast, Int.toNat_zero, Int.toNat_one, List.length_cons, List.length_nil, true_and, and_true, and_self, true_or, or_true, false_or, or_false, Bool.not_true, Bool.not_false, Nat.lt_add_one, Nat.zero_lt_succ, N0, swL_n, swL_c, List.toList_toArray, false_implies, true_implies, implies_true, forall_const, not_false_eq_true, not_true_eq_false, and_false, false_and]
          simp only [hK9]
          clear hK9 K9v
          refine jj_mx (M := M3) d j (by omega) (by rw [ewt]; omega) (fun _ p hp => by rw [ewp]; exact wpart_bd k3 (by omega) hC hp) (.inl (j : Int)) (fun M4 z1 z2 => ?_) 3 0 M3 (by omega) (fun _ _ => rfl) (fun q hq => by omega)
          have e80 : M4 80 3 = s 4 := by rw [z1 80 (by omega), x1 80 (by omega) (by omega) (by omega) (by omega) (by omega)]; exact y4
          refine J_rnG GM_fa (by omega) (by omega) (by omega) 10 _ _ _ _ (fun K9v hK9 => ?_)
          simp (maxSteps := 4000000) only [↓(X_aload_n (k := 2) (pc' := 89) dX8_mix_88 rfl rfl), ↓gR_2, ↓(X_iconst (pc' := 90) dX8_mix_89 rfl), ↓(X_putI (pc' := 93) fl_8_118 (by decide) dX8_mix_90 rfl), Nat.one_ne_zero, Nat.reduceEqDiff, ↓(X_aload_n (k := 0) (pc' := 94) dX8_mix_93 rfl rfl), ↓gR_0, ↓(X_iconst (pc' := 95) dX8_mix_94 rfl), ↓(X_putI (pc' := 98) fl_8_73 (by decide) dX8_mix_95 rfl), kd_0, ↓(X_aload_n (k := 0) (pc' := 99) dX8_mix_98 rfl rfl), ↓(X_getR (pc' := 102) fl_8_50 dX8_mix_99 rfl), ↓(gV_c r0_0_6), kd_79, ↓(X_getR (pc' := 105) fl_8_125 dX8_mix_102 rfl), ↓(gV_c r0_79_0), kd_80, ↓(X_getI (pc' := 108) fl_8_153 (by decide) dX8_mix_105 rfl), rn_0, gV_s, ↓pI_c, ↓pII_c, ↓pL_c, ↓pLL_c, ↓pR_c, ↓pRI_c, ↓pRII_c, ↓pRIL_c, ↓pRR_c, ↓pV_c, ↓pVV_c, ↓gI_c, ↓gL_c, ↓gR_c, f2_0, f2_1, nk_n, nk_i, nk_r, ↓reduceIte, r32, r64, Nat.reduceAdd, Nat.reduceSub, Nat.reduceEqDiff, Nat.reduceLT, Nat.reduceLeDiff, Nat.reduceBEq, Int.reduceAdd, Int.reduceSub, Int.reduceMul, Int.reduceNeg, Int.reduceToNat, Int.reduceLE, Int.reduceLT, Int.reduceEq, Int.reduceNatCast', Int.reduceNatCast, Int.natCast_zero, Int.toNat_natCast, Int.toNat_zero, Int.toNat_one, List.length_cons, List.length_nil, true_and, and_true, and_self, true_or, or_true, false_or, or_false, Bool.not_true, Bool.not_false, Nat.lt_add_one, Nat.zero_lt_succ, N0, swL_n, swL_c, List.toList_toArray, false_implies, true_implies, implies_true, forall_const, not_false_eq_true, not_true_eq_false, and_false, false_and, a1, i2, e80, up2_c (show 80 ≠ 0 by decide), up2_c (show 80 ≠ 367 + 5 * j by omega)]
          simp only [hK9]
          clear hK9 K9v
          refine J_iret dX8_mix_108 rfl (by omega) (by omega) (⟨rfl, _, rfl, fun h => absurd rfl h, fun _ => ⟨fun x g1 g2 g3 g4 g5 g6 g7 g8 g9 => ?_, fun b hb => ⟨?_, ?_, fun hp => ?_⟩, fun p hp => ?_, fun k => ?_, fun k => ?_⟩⟩)
          · funext k
            rw [up2_c g4, up2_c g8, z1 x g7, x1 x g5 g6 g2 g3 g9, hM2 x g1]
          · rw [up2_c (by omega), up2_c (by omega), z1 8 (by omega), (x2 b hb).1, e8, e81 b hb]
          · rw [up2_c (by omega), up2_c (by omega), z1 _ (by omega), eink b hb]
          · rw [up2_c (by omega), up2_c (by omega), z1 _ (by omega), (x2 b hb).2.2 hp, eT hp, etv]
          · rw [up2_c (by omega), up2_c (by omega), z2 p hp, partF, ewt, if_pos hwpos, ewp]
          · rw [up2_c (by omega)]
            rcases (show k = 5 ∨ k ≠ 5 by omega) with e | e
            · rw [e, up2_s, if_pos rfl]
            · rw [up2_k e, if_neg e, z1 _ (by omega), x1 _ (by omega) (by omega) (by omega) (by omega) (by omega), eJ]
          · rcases (show k = 9 ∨ k ≠ 9 by omega) with e | e
            · rw [e, up2_s, if_pos rfl]
            · rw [up2_k e, if_neg e, up2_c (by omega), z1 _ (by omega), x1 _ (by omega) (by omega) (by omega) (by omega) (by omega), hM2 _ (by simp only [scrF]; omega)]
      · have e : cMix (n : Int) (j : Int) (M (367 + 5 * j) 5) (nMix M n : Int) (findF M j T 0) = 2 := by rw [cMix, if_pos h1, if_neg (by omega)]
        rw [e]
        refine J_rnG GM_fa (by omega) (by omega) (by omega) 2 _ _ _ _ (fun K9v hK9 => ?_)
        simp (maxSteps := 4000000) only [↓(X_bipush (pc' := 19) dX8_mix_17 rfl), ↓(X_icmp_ge (tgt := 37) (pc' := 22) dX8_mix_19 (by decide) rfl), rn_0, gV_s, ↓pI_c, ↓pII_c, ↓pL_c, ↓pLL_c, ↓pR_c, ↓pRI_c, ↓pRII_c, ↓pRIL_c, ↓pRR_c, ↓pV_c, ↓pVV_c, ↓gI_c, ↓gL_c, ↓gR_c, f2_0, f2_1, nk_n, nk_i, nk_r, ↓reduceIte, r32, r64, Nat.reduceAdd, Nat.reduceSub, Nat.reduceEqDiff, Nat.reduceLT, Nat.reduceLeDiff, Nat.reduceBEq, Int.reduceAdd, Int.reduceSub, Int.reduceMul, Int.reduceNeg, Int.reduceToNat, Int.reduceLE, Int.reduceLT, Int.reduceEq, Int.reduceNatCast', Int.reduceNatCast, Int.natCast_zero, Int.toNat_natCast, Int.toNat_zero, Int.toNat_one, List.length_cons, List.length_nil, true_and, and_true, and_self, true_or, or_true, false_or, or_false, Bool.not_true, Bool.not_false, Nat.lt_add_one, Nat.zero_lt_succ, N0, swL_n, swL_c, List.toList_toArray, false_implies, true_implies, implies_true, forall_const, not_false_eq_true, not_true_eq_false, and_false, false_and, q2, r2]
        simp only [hK9]
        clear hK9 K9v
        refine J_throw hl9 tOK_77 dX8_mix_37 dX8_mix_40 dX8_mix_41 dX8_mix_44 (by omega) (by simp) (by omega) (by omega) (⟨rfl, M, rfl, fun _ _ _ => rfl, fun h => by cases h⟩)
    · have e : cMix (n : Int) (j : Int) (M (367 + 5 * j) 5) (nMix M n : Int) (findF M j T 0) = 2 := by rw [cMix, if_pos h1, if_neg (by omega)]
      rw [e]
      refine J_rnG GM_fa (by omega) (by omega) (by omega) 4 _ _ _ _ (fun K9v hK9 => ?_)
      simp (maxSteps := 4000000) only [↓(X_astore_n (k := 2) (pc' := 6) dX8_mix_5 rfl rfl), ↓sto_2, ↓(X_aload_n (k := 2) (pc' := 7) dX8_mix_6 rfl rfl), ↓gR_2, ↓(X_getI (pc' := 10) fl_8_118 (by decide) dX8_mix_7 rfl), ↓(X_if_ne (tgt := 37) (pc' := 13) dX8_mix_10 (by decide) rfl), rn_0, gV_s, ↓pI_c, ↓pII_c, ↓pL_c, ↓pLL_c, ↓pR_c, ↓pRI_c, ↓pRII_c, ↓pRIL_c, ↓pRR_c, ↓pV_c, ↓pVV_c, ↓gI_c, ↓gL_c, ↓gR_c, f2_0, f2_1, nk_n, nk_i, nk_r, ↓reduceIte, r32, r64, Nat.reduceAdd, Nat.reduceSub, Nat.reduceEqDiff, Nat.reduceLT, Nat.reduceLeDiff, Nat.reduceBEq, Int.reduceAdd, Int.reduceSub, Int.reduceMul, Int.reduceNeg, Int.reduceToNat, Int.reduceLE, Int.reduceLT, Int.reduceEq, Int.reduceNatCast', Int.reduceNatCast, Int.natCast_zero, Int.toNat_natCast, Int.toNat_zero, Int.toNat_one, List.length_cons, List.length_nil, true_and, and_true, and_self, true_or, or_true, false_or, or_false, Bool.not_true, Bool.not_false, Nat.lt_add_one, Nat.zero_lt_succ, N0, swL_n, swL_c, List.toList_toArray, false_implies, true_implies, implies_true, forall_const, not_false_eq_true, not_true_eq_false, and_false, false_and, a1, i2, q, r1]
      simp only [hK9]
      clear hK9 K9v
      refine J_throw hl9 tOK_77 dX8_mix_37 dX8_mix_40 dX8_mix_41 dX8_mix_44 (by omega) (by simp) (by omega) (by omega) (⟨rfl, M, rfl, fun _ _ _ => rfl, fun h => by cases h⟩)
end CF
