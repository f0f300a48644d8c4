/-! the model mixes -/
def mixMm (M M2 : Nat → Nat → Int) (C I : Nat → Nat → Int) (gr : Int) (f : Nat → Int) (j : Nat) : Prop := (∀ x, x ≠ 447 → x ≠ 450 → x ≠ 452 → x ≠ 454 → x ≠ 457 → x ≠ 459 → x ≠ 460 → x ≠ 461 → x ≠ 462 → x ≠ 463 → x ≠ 464 → M2 x = M x) ∧ (∀ k, k ≠ 23 → k ≠ 26 → k ≠ 15 → M2 447 k = M 447 k) ∧ M2 447 26 = 0 ∧ M2 447 15 = 1 ∧ (∀ b, b < 4 → M2 450 b = M 450 b - f (5 + b) * (gr * 1000)) ∧ (∀ b, b < 4 → M2 459 (4 * j + b) = inkI I gr f b) ∧ (∀ q, (q < 4 * j ∨ 4 * j + 4 ≤ q) → M2 459 q = M 459 q) ∧ (∀ q, M2 452 q = M 452 q - if 0 ≤ f 3 ∧ 4 * (f 3).toNat ≤ q ∧ q < 4 * (f 3).toNat + 4 then tkI I gr f (q - 4 * (f 3).toNat) else 0) ∧ (∀ p, p < 3 → M2 454 (3 * j + p) = wpC C (inkI I gr f) p / wt (inkI I gr f)) ∧ (∀ q, (q < 3 * j ∨ 3 * j + 3 ≤ q) → M2 454 q = M 454 q) ∧ M2 457 j = 1 ∧ (∀ q, q ≠ j → M2 457 q = M 457 q)
/-- while the model fills the ink: b bases are done -/
def lB (M1 M' : Nat → Nat → Int) (I : Nat → Nat → Int) (gr : Int) (f : Nat → Int) (j b : Nat) : Prop := (∀ x, x ≠ 450 → x ≠ 452 → x ≠ 459 → M' x = M1 x) ∧ (∀ q, M' 450 q = M1 450 q - if q < b then f (5 + q) * (gr * 1000) else 0) ∧ (∀ q, M' 459 q = if 4 * j ≤ q ∧ q < 4 * j + b then inkI I gr f (q - 4 * j) else M1 459 q) ∧ (∀ q, M' 452 q = M1 452 q - if 0 ≤ f 3 ∧ 4 * (f 3).toNat ≤ q ∧ q < 4 * (f 3).toNat + b then tkI I gr f (q - 4 * (f 3).toNat) else 0)
theorem lB_step {M1 M' M2 : Nat → Nat → Int} {I : Nat → Nat → Int} {gr : Int} {f : Nat → Int} {j b : Nat} (h : lB M1 M' I gr f j b) (hb : b < 4) (h1 : ∀ x, x ≠ 450 → x ≠ 452 → x ≠ 459 → M2 x = M' x) (h2 : ∀ q, M2 450 q = if q = b then M' 450 b - f (5 + b) * (gr * 1000) else M' 450 q) (h3 : ∀ q, M2 459 q = if q = 4 * j + b then inkI I gr f b else M' 459 q) (h4 : ∀ q, M2 452 q = if 0 ≤ f 3 ∧ q = 4 * (f 3).toNat + b then M' 452 q - tkI I gr f b else M' 452 q) : lB M1 M2 I gr f j (b + 1) := by
  obtain ⟨g1, g2, g3, g4⟩ := h
  refine ⟨fun x k1 k2 k3 => by rw [h1 x k1 k2 k3, g1 x k1 k2 k3], fun q => ?_, fun q => ?_, fun q => ?_⟩
  · rw [h2]
    split
    · rename_i e
      rw [e, g2, if_neg (by omega), if_pos (by omega)]
      omega
    · rename_i e
      rw [g2]
      simp only [show (q < b + 1) = (q < b) from propext ⟨fun h => by omega, fun h => by omega⟩]
  · rw [h3]
    split
    · rename_i e
      rw [if_pos (by omega), e, show 4 * j + b - 4 * j = b by omega]
    · rename_i e
      rw [g3]
      simp only [show (4 * j ≤ q ∧ q < 4 * j + (b + 1)) = (4 * j ≤ q ∧ q < 4 * j + b) from propext ⟨fun h => by omega, fun h => by omega⟩]
  · rw [h4]
    split
    · rename_i e
      rw [g4, if_neg (by omega), if_pos (by omega), e.2, show 4 * (f 3).toNat + b - 4 * (f 3).toNat = b by omega]
      omega
    · rename_i e
      rw [g4]
      simp only [show (0 ≤ f 3 ∧ 4 * (f 3).toNat ≤ q ∧ q < 4 * (f 3).toNat + (b + 1)) = (0 ≤ f 3 ∧ 4 * (f 3).toNat ≤ q ∧ q < 4 * (f 3).toNat + b) from propext ⟨fun h => by omega, fun h => by omega⟩]
theorem nMixm_congr {M M' : Nat → Nat → Int} (h : M' 457 = M 457) : ∀ k, nMixm M' k = nMixm M k
  | 0 => rfl
  | k + 1 => by rw [nMixm, nMixm, nMixm_congr h k, h]
section ML
variable {l : Launch} {D : va_G} {cy : Nat → ClassId}
set_option maxRecDepth 100000 in
set_option maxHeartbeats 4000000 in
theorem jj_mb {M1 : Nat → Nat → Int} {I : Nat → Nat → Int} {Φ : Out → Mem → Prop} {f : Nat → Int} (d j : Nat) (gr : Int) (hj : j < 16) (hg : M1 455 j = 10 * gr) (hr : ∀ b, b < 4 → M1 464 b = f (5 + b)) (htk : ∀ b, b < 4 → M1 461 b = tkI I gr f b) (h2 : M1 464 4 = f 2) (h3 : M1 464 5 = f 3) (ht : (f 3 = -1 ∧ f 2 = 0) ∨ (∃ t : Nat, t < 30 ∧ f 3 = (t : Int)) ∧ 1 ≤ f 2 ∧ f 2 ≤ 10) (hfin : ∀ (M' : Nat → Nat → Int) (e3 : Option AV), nk e3 → lB M1 M' I gr f j 4 → J l D cy (GM l D cy 9 cX9_mix 4 (d + 6) 0 0 false (some .int) Φ) 203 [some (.inr (.inr (some 447))), some (.inl (j : Int)), some (.inl 4), e3] [] (468, R0, M') 0 0) : ∀ (k b : Nat) (M' : Nat → Nat → Int) (e3 : Option AV), nk e3 → b + k = 4 → lB M1 M' I gr f j b →
    J l D cy (GM l D cy 9 cX9_mix 4 (d + 6) 0 0 false (some .int) Φ) 114 [some (.inr (.inr (some 447))), some (.inl (j : Int)), some (.inl (b : Int)), e3] [] (468, R0, M') 0 0 := by
  intro k
  induction k with
  | zero =>
    intro b M' e3 he3 hb hM
    have e : b = 4 := by omega
    subst e
    refine J_rnG GM_fa (by omega) (by omega) (by omega) 3 _ _ _ _ (fun K9v hK9 => ?_)
    simp (maxSteps := 4000000) only [↓(X_iload_n (k := 2) (pc' := 115) dX9_mix_114 rfl rfl), ↓gI_2, ↓(X_iconst (pc' := 116) dX9_mix_115 rfl), ↓(X_icmp_ge (tgt := 203) (pc' := 119) dX9_mix_116 (by decide) rfl), rn_0, gV_s, ↓pI_c, ↓pII_c, ↓pL_c, ↓pLL_c, ↓pR_c, ↓pRI_c, ↓pRII_c, ↓pRIL_c, ↓pRR_c, ↓pV_c, ↓pVV_c, ↓gI_c, ↓gL_c, ↓gR_c, f2_0, f2_1, nk_n, nk_i, nk_r, ↓reduceIte, r32, r64, Nat.reduceAdd, Nat.reduceSub, Nat.reduceEqDiff, Nat.reduceLT, Nat.reduceLeDiff, Nat.reduceBEq, Int.reduceAdd, Int.reduceSub, Int.reduceMul, Int.reduceNeg, Int.reduceToNat, Int.reduceLE, Int.reduceLT, Int.reduceEq, Int.reduceNatCast', Int.reduceNatCast, Int.natCast_zero, Int.toNat_natCast, Int.toNat_zero, Int.toNat_one, List.length_cons, List.length_nil, true_and, and_true, and_self, true_or, or_true, false_or, or_false, Bool.not_true, Bool.not_false, Nat.lt_add_one, Nat.zero_lt_succ, N0, swL_n, swL_c, List.toList_toArray, false_implies, true_implies, implies_true, forall_const, not_false_eq_true, not_true_eq_false, and_false, false_and]
    simp only [hK9]
    clear hK9 K9v
    exact hfin M' _ he3 hM
  | succ k ih =>
    intro b M' e3 he3 hb hM
    have hb4 : b < 4 := by omega
    have c1 : (b : Int) < 4 := by omega
    have c0 : (0 : Int) ≤ (b : Int) := by omega
    have rb : -2147483648 ≤ (b : Int) ∧ (b : Int) ≤ 2147483647 := by omega
    have i1 : (0 : Int) ≤ (j : Int) ∧ (j : Int) < 16 := by omega
    have i2 : (b : Int) < 7 := by omega
    have e1 : 4 * (j : Int) + (b : Int) = ((4 * j + b : Nat) : Int) := by omega
    have i3 : (0 : Int) ≤ ((4 * j + b : Nat) : Int) ∧ ((4 * j + b : Nat) : Int) < 64 := by omega
    have f455 : M' 455 = M1 455 := hM.1 455 (by decide) (by decide) (by decide)
    have f464 : M' 464 = M1 464 := hM.1 464 (by decide) (by decide) (by decide)
    have f461 : M' 461 = M1 461 := hM.1 461 (by decide) (by decide) (by decide)
    have hrb := hr b hb4
    have htb := htk b hb4
    have efr : 100 * (10 * gr) * f (5 + b) = f (5 + b) * (gr * 1000) := by
      rw [Int.mul_comm (100 * (10 * gr)) (f (5 + b)), show 100 * (10 * gr) = gr * 1000 by omega]
    have r2 : -2147483648 ≤ f 2 ∧ f 2 ≤ 2147483647 := by
      clear hfin ih hM
      obtain ⟨-, t2⟩ | ⟨-, t2⟩ := ht
      · omega
      · omega
    refine J_rnG GM_fa (by omega) (by omega) (by omega) 3 _ _ _ _ (fun K9v hK9 => ?_)
    simp (maxSteps := 4000000) only [↓(X_iload_n (k := 2) (pc' := 115) dX9_mix_114 rfl rfl), ↓gI_2, ↓(X_iconst (pc' := 116) dX9_mix_115 rfl), ↓(X_icmp_ge (tgt := 203) (pc' := 119) dX9_mix_116 (by decide) rfl), rn_0, gV_s, ↓pI_c, ↓pII_c, ↓pL_c, ↓pLL_c, ↓pR_c, ↓pRI_c, ↓pRII_c, ↓pRIL_c, ↓pRR_c, ↓pV_c, ↓pVV_c, ↓gI_c, ↓gL_c, ↓gR_c, f2_0, f2_1, nk_n, nk_i, nk_r, ↓reduceIte, r32, r64, Nat.reduceAdd, Nat.reduceSub, Nat.reduceEqDiff, Nat.reduceLT, Nat.reduceLeDiff, Nat.reduceBEq, Int.reduceAdd, Int.reduceSub, Int.reduceMul, Int.reduceNeg, Int.reduceToNat, Int.reduceLE, Int.reduceLT, Int.reduceEq, Int.reduceNatCast', Int.reduceNatCast, Int.natCast_zero, Int.toNat_natCast, Int.toNat_zero, Int.toNat_one, List.length_cons, List.length_nil, true_and, and_true, and_self, true_or, or_true, false_or, or_false, Bool.not_true, Bool.not_false, Nat.lt_add_one, Nat.zero_lt_succ, N0, swL_n, swL_c, List.toList_toArray, false_implies, true_implies, implies_true, forall_const, not_false_eq_true, not_true_eq_false, and_false, false_and, c1, rb]
    simp only [hK9]
    clear hK9 K9v
    rcases ht with ⟨t3, t2⟩ | ⟨⟨t, ht, t3⟩, t2⟩
    · refine J_rnG GM_fa (by omega) (by omega) (by omega) 39 _ _ _ _ (fun K9v hK9 => ?_)
      simp (maxSteps := 4000000) only [↓(X_bipush (pc' := 121) dX9_mix_119 rfl), ↓(X_aload_n (k := 0) (pc' := 122) dX9_mix_121 rfl rfl), ↓gR_0, ↓(X_getR (pc' := 125) fl_9_31 dX9_mix_122 rfl), kd_447, ↓(gV_c r0_447_10), kd_455, ln_455, ↓(X_iload_n (k := 1) (pc' := 126) dX9_mix_125 rfl rfl), ↓gI_1, ↓(X_iaload (pc' := 127) dX9_mix_126 rfl), ↓(X_imul (pc' := 128) dX9_mix_127 rfl), ↓(X_aload_n (k := 0) (pc' := 129) dX9_mix_128 rfl rfl), ↓(X_getR (pc' := 132) fl_9_63 dX9_mix_129 rfl), ↓(gV_c r0_447_22), kd_464, ln_464, ↓(X_iload_n (k := 2) (pc' := 133) dX9_mix_132 rfl rfl), ↓gI_2, ↓(X_iaload (pc' := 134) dX9_mix_133 rfl), ↓(X_imul (pc' := 135) dX9_mix_134 rfl), ↓(X_istore_n (k := 3) (pc' := 136) dX9_mix_135 rfl rfl), ↓sto_3, ↓(X_aload_n (k := 0) (pc' := 137) dX9_mix_136 rfl rfl), ↓(X_getR (pc' := 140) fl_9_16 dX9_mix_137 rfl), ↓(gV_c r0_447_3), kd_450, ln_450, ↓(X_iload_n (k := 2) (pc' := 141) dX9_mix_140 rfl rfl), ↓(X_dup2 (pc' := 142) dX9_mix_141 rfl), ↓(X_iaload (pc' := 143) dX9_mix_142 rfl), ↓(X_iload_n (k := 3) (pc' := 144) dX9_mix_143 rfl rfl), ↓gI_3, ↓(X_isub (pc' := 145) dX9_mix_144 rfl), ↓(X_iastore (pc' := 146) dX9_mix_145 rfl), ↓(X_aload_n (k := 0) (pc' := 147) dX9_mix_146 rfl rfl), ↓(X_getR (pc' := 150) fl_9_43 dX9_mix_147 rfl), ↓(gV_c r0_447_14), kd_459, ln_459, ↓(X_iconst (pc' := 151) dX9_mix_150 rfl), ↓(X_iload_n (k := 1) (pc' := 152) dX9_mix_151 rfl rfl), ↓(X_imul (pc' := 153) dX9_mix_152 rfl), ↓(X_iload_n (k := 2) (pc' := 154) dX9_mix_153 rfl rfl), ↓(X_iadd (pc' := 155) dX9_mix_154 rfl), ↓(X_iload_n (k := 3) (pc' := 156) dX9_mix_155 rfl rfl), ↓(X_aload_n (k := 0) (pc' := 157) dX9_mix_156 rfl rfl), ↓(X_getR (pc' := 160) fl_9_53 dX9_mix_157 rfl), ↓(gV_c r0_447_19), kd_461, ln_461, ↓(X_iload_n (k := 2) (pc' := 161) dX9_mix_160 rfl rfl), ↓(X_iaload (pc' := 162) dX9_mix_161 rfl), ↓(X_iadd (pc' := 163) dX9_mix_162 rfl), ↓(X_iastore (pc' := 164) dX9_mix_163 rfl), ↓(X_aload_n (k := 0) (pc' := 165) dX9_mix_164 rfl rfl), ↓(X_getR (pc' := 168) fl_9_63 dX9_mix_165 rfl), ↓(X_iconst (pc' := 169) dX9_mix_168 rfl), ↓(X_iaload (pc' := 170) dX9_mix_169 rfl), ↓(X_if_le (tgt := 197) (pc' := 173) dX9_mix_170 (by decide) rfl), rn_0, gV_s, ↓pI_c, ↓pII_c, ↓pL_c, ↓pLL_c, ↓pR_c, ↓pRI_c, ↓pRII_c, ↓pRIL_c, ↓pRR_c, ↓pV_c, ↓pVV_c, ↓gI_c, ↓gL_c, ↓gR_c, f2_0, f2_1, nk_n, nk_i, nk_r, ↓reduceIte, r32, r64, Nat.reduceAdd, Nat.reduceSub, Nat.reduceEqDiff, Nat.reduceLT, Nat.reduceLeDiff, Nat.reduceBEq, Int.reduceAdd, Int.reduceSub, Int.reduceMul, Int.reduceNeg, Int.reduceToNat, Int.reduceLE, Int.reduceLT, Int.reduceEq, Int.reduceNatCast', Int.reduceNatCast, Int.natCast_zero, Int.toNat_natCast, Int.toNat_zero, Int.toNat_one, List.length_cons, List.length_nil, true_and, and_true, and_self, true_or, or_true, false_or, or_false, Bool.not_true, Bool.not_false, Nat.lt_add_one, Nat.zero_lt_succ, N0, swL_n, swL_c, List.toList_toArray, false_implies, true_implies, implies_true, forall_const, not_false_eq_true, not_true_eq_false, and_false, false_and, f455, hg, i1, f464, hrb, efr, f461, htb, c0, c1, i2, e1, i3, h2, t2, up2_c (show (461 : Nat) ≠ 450 by decide), up2_c (show (464 : Nat) ≠ 459 by decide), up2_c (show (464 : Nat) ≠ 450 by decide)]
      simp only [hK9]
      clear hK9 K9v
      refine J_rnG GM_fa (by omega) (by omega) (by omega) 2 _ _ _ _ (fun K9v hK9 => ?_)
      simp (maxSteps := 4000000) only [↓(X_iinc (pc' := 200) dX9_mix_197 rfl), ↓gI_2, ↓sto_2, ↓(X_goto (pc' := 114) dX9_mix_200 (by decide)), rn_0, gV_s, ↓pI_c, ↓pII_c, ↓pL_c, ↓pLL_c, ↓pR_c, ↓pRI_c, ↓pRII_c, ↓pRIL_c, ↓pRR_c, ↓pV_c, ↓pVV_c, ↓gI_c, ↓gL_c, ↓gR_c, f2_0, f2_1, nk_n, nk_i, nk_r, ↓reduceIte, r32, r64, Nat.reduceAdd, Nat.reduceSub, Nat.reduceEqDiff, Nat.reduceLT, Nat.reduceLeDiff, Nat.reduceBEq, Int.reduceAdd, Int.reduceSub, Int.reduceMul, Int.reduceNeg, Int.reduceToNat, Int.reduceLE, Int.reduceLT, Int.reduceEq, Int.reduceNatCast', Int.reduceNatCast, Int.natCast_zero, Int.toNat_natCast, Int.toNat_zero, Int.toNat_one, List.length_cons, List.length_nil, true_and, and_true, and_self, true_or, or_true, false_or, or_false, Bool.not_true, Bool.not_false, Nat.lt_add_one, Nat.zero_lt_succ, N0, swL_n, swL_c, List.toList_toArray, false_implies, true_implies, implies_true, forall_const, not_false_eq_true, not_true_eq_false, and_false, false_and]
      simp only [hK9]
      clear hK9 K9v
      rw [show (b : Int) + 1 = ((b + 1 : Nat) : Int) by omega]
      refine ih (b + 1) _ _ (nk_i.mpr trivial) (by omega) (lB_step hM hb4 (fun x k1 k2 k3 => ?_) (fun q => ?_) (fun q => ?_) (fun q => ?_))
      · rw [up2_r k3, up2_r k1]
      · rw [up2_c (by decide), up2]
        simp
      · simp only [up2, inkI]
        simp
      · rw [up2_c (by decide), up2_c (by decide), if_neg (by omega)]
    · have q0 : 0 < f 2 := by omega
      have e2 : 4 * (t : Int) + (b : Int) = ((4 * t + b : Nat) : Int) := by omega
      have i4 : (0 : Int) ≤ ((4 * t + b : Nat) : Int) ∧ ((4 * t + b : Nat) : Int) < 120 := by omega
      refine J_rnG GM_fa (by omega) (by omega) (by omega) 39 _ _ _ _ (fun K9v hK9 => ?_)
      simp (maxSteps := 4000000) only [↓(X_bipush (pc' := 121) dX9_mix_119 rfl), ↓(X_aload_n (k := 0) (pc' := 122) dX9_mix_121 rfl rfl), ↓gR_0, ↓(X_getR (pc' := 125) fl_9_31 dX9_mix_122 rfl), kd_447, ↓(gV_c r0_447_10), kd_455, ln_455, ↓(X_iload_n (k := 1) (pc' := 126) dX9_mix_125 rfl rfl), ↓gI_1, ↓(X_iaload (pc' := 127) dX9_mix_126 rfl), ↓(X_imul (pc' := 128) dX9_mix_127 rfl), ↓(X_aload_n (k := 0) (pc' := 129) dX9_mix_128 rfl rfl), ↓(X_getR (pc' := 132) fl_9_63 dX9_mix_129 rfl), ↓(gV_c r0_447_22), kd_464, ln_464, ↓(X_iload_n (k := 2) (pc' := 133) dX9_mix_132 rfl rfl), ↓gI_2, ↓(X_iaload (pc' := 134) dX9_mix_133 rfl), ↓(X_imul (pc' := 135) dX9_mix_134 rfl), ↓(X_istore_n (k := 3) (pc' := 136) dX9_mix_135 rfl rfl), ↓sto_3, ↓(X_aload_n (k := 0) (pc' := 137) dX9_mix_136 rfl rfl), ↓(X_getR (pc' := 140) fl_9_16 dX9_mix_137 rfl), ↓(gV_c r0_447_3), kd_450, ln_450, ↓(X_iload_n (k := 2) (pc' := 141) dX9_mix_140 rfl rfl), ↓(X_dup2 (pc' := 142) dX9_mix_141 rfl), ↓(X_iaload (pc' := 143) dX9_mix_142 rfl), ↓(X_iload_n (k := 3) (pc' := 144) dX9_mix_143 rfl rfl), ↓gI_3, ↓(X_isub (pc' := 145) dX9_mix_144 rfl), ↓(X_iastore (pc' := 146) dX9_mix_145 rfl), ↓(X_aload_n (k := 0) (pc' := 147) dX9_mix_146 rfl rfl), ↓(X_getR (pc' := 150) fl_9_43 dX9_mix_147 rfl), ↓(gV_c r0_447_14), kd_459, ln_459, ↓(X_iconst (pc' := 151) dX9_mix_150 rfl), ↓(X_iload_n (k := 1) (pc' := 152) dX9_mix_151 rfl rfl), ↓(X_imul (pc' := 153) dX9_mix_152 rfl), ↓(X_iload_n (k := 2) (pc' := 154) dX9_mix_153 rfl rfl), ↓(X_iadd (pc' := 155) dX9_mix_154 rfl), ↓(X_iload_n (k := 3) (pc' := 156) dX9_mix_155 rfl rfl), ↓(X_aload_n (k := 0) (pc' := 157) dX9_mix_156 rfl rfl), ↓(X_getR (pc' := 160) fl_9_53 dX9_mix_157 rfl), ↓(gV_c r0_447_19), kd_461, ln_461, ↓(X_iload_n (k := 2) (pc' := 161) dX9_mix_160 rfl rfl), ↓(X_iaload (pc' := 162) dX9_mix_161 rfl), ↓(X_iadd (pc' := 163) dX9_mix_162 rfl), ↓(X_iastore (pc' := 164) dX9_mix_163 rfl), ↓(X_aload_n (k := 0) (pc' := 165) dX9_mix_164 rfl rfl), ↓(X_getR (pc' := 168) fl_9_63 dX9_mix_165 rfl), ↓(X_iconst (pc' := 169) dX9_mix_168 rfl), ↓(X_iaload (pc' := 170) dX9_mix_169 rfl), ↓(X_if_le (tgt := 197) (pc' := 173) dX9_mix_170 (by decide) rfl), rn_0, gV_s, ↓pI_c, ↓pII_c, ↓pL_c, ↓pLL_c, ↓pR_c, ↓pRI_c, ↓pRII_c, ↓pRIL_c, ↓pRR_c, ↓pV_c, ↓pVV_c, ↓gI_c, ↓gL_c, ↓gR_c, f2_0, f2_1, nk_n, nk_i, nk_r, ↓reduceIte, r32, r64, Nat.reduceAdd, Nat.reduceSub, Nat.reduceEqDiff, Nat.reduceLT, Nat.reduceLeDiff, Nat.reduceBEq, Int.reduceAdd, Int.reduceSub, Int.reduceMul, Int.reduceNeg, Int.reduceToNat, Int.reduceLE, Int.reduceLT, Int.reduceEq, Int.reduceNatCast', Int.reduceNatCast, Int.natCast_zero, Int.toNat_natCast, Int.toNat_zero, Int.toNat_one, List.length_cons, List.length_nil, true_and, and_true, and_self, true_or, or_true, false_or, or_false, Bool.not_true, Bool.not_false, Nat.lt_add_one, Nat.zero_lt_succ, N0, swL_n, swL_c, List.toList_toArray, false_implies, true_implies, implies_true, forall_const, not_false_eq_true, not_true_eq_false, and_false, false_and, f455, hg, i1, f464, hrb, efr, f461, htb, c0, c1, i2, e1, i3, h2, r2, q0, up2_c (show (461 : Nat) ≠ 450 by decide), up2_c (show (464 : Nat) ≠ 459 by decide), up2_c (show (464 : Nat) ≠ 450 by decide)]
      simp only [hK9]
      clear hK9 K9v
      refine J_rnG GM_fa (by omega) (by omega) (by omega) 20 _ _ _ _ (fun K9v hK9 => ?_)
      simp (maxSteps := 4000000) only [↓(X_aload_n (k := 0) (pc' := 174) dX9_mix_173 rfl rfl), ↓gR_0, ↓(X_getR (pc' := 177) fl_9_22 dX9_mix_174 rfl), kd_447, ↓(gV_c r0_447_6), kd_452, ln_452, ↓(X_iconst (pc' := 178) dX9_mix_177 rfl), ↓(X_aload_n (k := 0) (pc' := 179) dX9_mix_178 rfl rfl), ↓(X_getR (pc' := 182) fl_9_63 dX9_mix_179 rfl), ↓(gV_c r0_447_22), kd_464, ln_464, ↓(X_iconst (pc' := 183) dX9_mix_182 rfl), ↓(X_iaload (pc' := 184) dX9_mix_183 rfl), ↓(X_imul (pc' := 185) dX9_mix_184 rfl), ↓(X_iload_n (k := 2) (pc' := 186) dX9_mix_185 rfl rfl), ↓gI_2, ↓(X_iadd (pc' := 187) dX9_mix_186 rfl), ↓(X_dup2 (pc' := 188) dX9_mix_187 rfl), ↓(X_iaload (pc' := 189) dX9_mix_188 rfl), ↓(X_aload_n (k := 0) (pc' := 190) dX9_mix_189 rfl rfl), ↓(X_getR (pc' := 193) fl_9_53 dX9_mix_190 rfl), ↓(gV_c r0_447_19), kd_461, ln_461, ↓(X_iload_n (k := 2) (pc' := 194) dX9_mix_193 rfl rfl), ↓(X_iaload (pc' := 195) dX9_mix_194 rfl), ↓(X_isub (pc' := 196) dX9_mix_195 rfl), ↓(X_iastore (pc' := 197) dX9_mix_196 rfl), ↓(X_iinc (pc' := 200) dX9_mix_197 rfl), ↓sto_2, ↓(X_goto (pc' := 114) dX9_mix_200 (by decide)), rn_0, gV_s, ↓pI_c, ↓pII_c, ↓pL_c, ↓pLL_c, ↓pR_c, ↓pRI_c, ↓pRII_c, ↓pRIL_c, ↓pRR_c, ↓pV_c, ↓pVV_c, ↓gI_c, ↓gL_c, ↓gR_c, f2_0, f2_1, nk_n, nk_i, nk_r, ↓reduceIte, r32, r64, Nat.reduceAdd, Nat.reduceSub, Nat.reduceEqDiff, Nat.reduceLT, Nat.reduceLeDiff, Nat.reduceBEq, Int.reduceAdd, Int.reduceSub, Int.reduceMul, Int.reduceNeg, Int.reduceToNat, Int.reduceLE, Int.reduceLT, Int.reduceEq, Int.reduceNatCast', Int.reduceNatCast, Int.natCast_zero, Int.toNat_natCast, Int.toNat_zero, Int.toNat_one, List.length_cons, List.length_nil, true_and, and_true, and_self, true_or, or_true, false_or, or_false, Bool.not_true, Bool.not_false, Nat.lt_add_one, Nat.zero_lt_succ, N0, swL_n, swL_c, List.toList_toArray, false_implies, true_implies, implies_true, forall_const, not_false_eq_true, not_true_eq_false, and_false, false_and, f464, h3, t3, e2, i4, f461, htb, c0, c1, up2_c (show (461 : Nat) ≠ 450 by decide), up2_c (show (461 : Nat) ≠ 459 by decide), up2_c (show (464 : Nat) ≠ 459 by decide), up2_c (show (464 : Nat) ≠ 450 by decide), up2_c (show (452 : Nat) ≠ 459 by decide), up2_c (show (452 : Nat) ≠ 450 by decide)]
      simp only [hK9]
      clear hK9 K9v
      rw [show (b : Int) + 1 = ((b + 1 : Nat) : Int) by omega]
      refine ih (b + 1) _ _ (nk_i.mpr trivial) (by omega) (lB_step hM hb4 (fun x k1 k2 k3 => ?_) (fun q => ?_) (fun q => ?_) (fun q => ?_))
      · rw [up2_r k2, up2_r k3, up2_r k1]
      · rw [up2_c (by decide), up2_c (by decide), up2]
        simp
      · rw [up2_c (by decide)]
        simp only [up2, inkI]
        simp
      · rw [show (f 3).toNat = t by omega]
        rcases (show q = 4 * t + b ∨ q ≠ 4 * t + b by omega) with e | e
        · rw [e, up2_s, if_pos ⟨by omega, rfl⟩]
        · rw [up2_k e, up2_c (by decide), up2_c (by decide), if_neg (fun h => e h.2)]
end ML
