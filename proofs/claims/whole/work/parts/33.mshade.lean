/-! the model's shades, gaps, and order of recipes -/
theorem wpC_bw {C : Nat → Nat → Int} {m : Nat → Int} {p : Nat} (hm : tin4 m) (hC : okC C) (hp : p < 3) : 0 ≤ wpC C m p ∧ wpC C m p ≤ 100 * wt m := by
  have k : ∀ b, b < 4 → 0 ≤ C b p ∧ C b p ≤ 100 := by
    intro b hb
    obtain ⟨h0, h1, h2⟩ := hC b hb
    obtain e | e | e : p = 0 ∨ p = 1 ∨ p = 2 := by omega
    all_goals subst e; assumption
  have key : ∀ x y : Int, 0 ≤ x → 0 ≤ y → y ≤ 100 → 0 ≤ x * y ∧ x * y ≤ 100 * x := fun x y h1 h2 h3 => ⟨Int.mul_nonneg h1 h2, by rw [Int.mul_comm 100 x]; exact Int.mul_le_mul_of_nonneg_left h3 h1⟩
  obtain ⟨m0, m1, m2, m3⟩ := hm
  have a0 := key _ _ m0.1 (k 0 (by omega)).1 (k 0 (by omega)).2
  have a1 := key _ _ m1.1 (k 1 (by omega)).1 (k 1 (by omega)).2
  have a2 := key _ _ m2.1 (k 2 (by omega)).1 (k 2 (by omega)).2
  have a3 := key _ _ m3.1 (k 3 (by omega)).1 (k 3 (by omega)).2
  simp only [wpC, wt]
  omega
theorem avg_bd {C : Nat → Nat → Int} {m : Nat → Int} {p : Nat} (hm : tin4 m) (hw : 0 < wt m) (hC : okC C) (hp : p < 3) : 0 ≤ wpC C m p / wt m ∧ wpC C m p / wt m ≤ 100 := by
  obtain ⟨h1, h2⟩ := wpC_bw hm hC hp
  exact ⟨Int.ediv_nonneg h1 (by omega), by
    have := Int.ediv_le_ediv hw h2
    rwa [Int.mul_ediv_cancel _ (by omega)] at this⟩
/-- the model's colours of bases -/
def mC (M : Nat → Nat → Int) (C : Nat → Nat → Int) : Prop := okC C ∧ ∀ b p, b < 4 → p < 3 → M 448 (3 * b + p) = C b p
section MC
variable {l : Launch} {D : va_G} {cy : Nat → ClassId}
set_option maxRecDepth 100000 in
set_option maxHeartbeats 4000000 in
theorem jj_sh {M : Nat → Nat → Int} {Φ : Out → Mem → Prop} {C : Nat → Nat → Int} (d c f : Nat) (kc : kd c = 10) (hc : c < 463) (hf : f + 3 < ln c) (hl : ln c ≤ 5000) (hm : tin4 (fun b => M c (f + b))) (hw : 0 < wt (fun b => M c (f + b))) (hC : mC M C) (hΦ : ∀ M2 : Nat → Nat → Int, (∀ x, x ≠ 463 → M2 x = M x) → (∀ p, p < 3 → M2 463 p = wpC C (fun b => M c (f + b)) p / wt (fun b => M c (f + b))) → Φ (.inl none) (N0, R0, M2)) : ∀ (k p : Nat) (M' : Nat → Nat → Int) (e5 e6 e7 : Option AV), p + k = 3 → (∀ x, x ≠ 463 → M' x = M x) → (∀ q, q < p → M' 463 q = wpC C (fun b => M c (f + b)) q / wt (fun b => M c (f + b))) →
    J l D cy (GM l D cy 9 cX9_shades 8 (d + 2) 0 0 false none Φ) 9 [some (.inr (.inr (some 447))), some (.inr (.inr (some c))), some (.inl (f : Int)), some (.inl (wt (fun b => M c (f + b)))), some (.inl (p : Int)), e5, e6, e7] [] (468, R0, M') 0 0 := by
  intro k
  induction k with
  | zero =>
    intro p M' e5 e6 e7 hp h1 h2
    have e : p = 3 := by omega
    subst e
    refine J_rnG GM_fa (by omega) (by omega) (by omega) 3 _ _ _ _ (fun K9v hK9 => ?_)
    simp (maxSteps := 4000000) only [↓(X_iload (pc' := 11) dX9_shades_9 rfl), ↓gI_4, ↓(X_iconst (pc' := 12) dX9_shades_11 rfl), ↓(X_icmp_ge (tgt := 78) (pc' := 15) dX9_shades_12 (by decide) rfl), rn_0, gV_s, ↓pI_c, ↓pII_c, ↓pL_c, ↓pLL_c, ↓pR_c, ↓pRI_c, ↓pRII_c, ↓pRIL_c, ↓pRR_c, ↓pV_c, ↓pVV_c, ↓gI_c, ↓gL_c, ↓gR_c, f2_0, f2_1, nk_n, nk_i, nk_r, ↓reduceIte, r32, r64, Nat.reduceAdd, Nat.reduceSub, Nat.reduceEqDiff, Nat.reduceLT, Nat.reduceLeDiff, Nat.reduceBEq, Int.reduceAdd, Int.reduceSub, Int.reduceMul, Int.reduceNeg, Int.reduceToNat, Int.reduceLE, Int.reduceLT, Int.reduceEq, Int.reduceNatCast', Int.reduceNatCast, Int.natCast_zero, Int.toNat_natCast, Int.toNat_zero, Int.toNat_one, List.length_cons, List.length_nil, true_and, and_true, and_self, true_or, or_true, false_or, or_false, Bool.not_true, Bool.not_false, Nat.lt_add_one, Nat.zero_lt_succ, N0, swL_n, swL_c, List.toList_toArray, false_implies, true_implies, implies_true, forall_const, not_false_eq_true, not_true_eq_false, and_false, false_and]
    simp only [hK9]
    clear hK9 K9v
    refine J_vret dX9_shades_78 rfl (by omega) (by omega) (hΦ M' h1 h2)
  | succ k ih =>
    intro p M' e5 e6 e7 hp h1 h2
    have b1 := avg_bd hm hw hC.1 (show p < 3 by omega)
    obtain ⟨b2, b3⟩ := wpC_bw hm hC.1 (show p < 3 by omega)
    obtain ⟨⟨m0, m0'⟩, ⟨m1, m1'⟩, ⟨m2, m2'⟩, ⟨m3, m3'⟩⟩ := id hm
    dsimp only at m0 m0' m1 m1' m2 m2' m3 m3'
    simp only [Nat.add_zero] at m0 m0'
    have hw5 : wt (fun b => M c (f + b)) ≤ 2000000 := by simp only [wt, Nat.add_zero]; omega
    have ew : wpC C (fun b => M c (f + b)) p = M c f * C 0 p + M c (f + 1) * C 1 p + M c (f + 2) * C 2 p + M c (f + 3) * C 3 p := rfl
    have hC0 := hC.2 0 p (by omega) (by omega)
    have hC1 := hC.2 1 p (by omega) (by omega)
    have hC2 := hC.2 2 p (by omega) (by omega)
    have hC3 := hC.2 3 p (by omega) (by omega)
    have kk : ∀ b, b < 4 → 0 ≤ C b p ∧ C b p ≤ 100 := by
      intro b hb
      obtain ⟨g0, g1, g2⟩ := hC.1 b hb
      obtain e | e | e : p = 0 ∨ p = 1 ∨ p = 2 := by omega
      all_goals subst e; assumption
    have k0 := kk 0 (by omega)
    have k1 := kk 1 (by omega)
    have k2 := kk 2 (by omega)
    have k3 := kk 3 (by omega)
    simp only [Nat.mul_zero, Nat.zero_add, Nat.mul_one, Nat.reduceMul] at hC0 hC1 hC2 hC3
    generalize wt (fun b => M c (f + b)) = w at *
    have fc : M' c = M c := h1 c (by omega)
    have f448 : M' 448 = M 448 := h1 448 (by omega)
    have e1 : (f : Int) + 1 = ((f + 1 : Nat) : Int) := by omega
    have e2 : (f : Int) + 2 = ((f + 2 : Nat) : Int) := by omega
    have e3 : (f : Int) + 3 = ((f + 3 : Nat) : Int) := by omega
    have i0 : (0 : Int) ≤ (f : Int) ∧ (f : Int) < (ln c : Int) := by omega
    have i1 : (0 : Int) ≤ ((f + 1 : Nat) : Int) ∧ ((f + 1 : Nat) : Int) < (ln c : Int) := by omega
    have i2 : (0 : Int) ≤ ((f + 2 : Nat) : Int) ∧ ((f + 2 : Nat) : Int) < (ln c : Int) := by omega
    have i3 : (0 : Int) ≤ ((f + 3 : Nat) : Int) ∧ ((f + 3 : Nat) : Int) < (ln c : Int) := by omega
    have g1 : (3 : Int) + (p : Int) = ((3 + p : Nat) : Int) := by omega
    have g2 : (6 : Int) + (p : Int) = ((6 + p : Nat) : Int) := by omega
    have g3 : (9 : Int) + (p : Int) = ((9 + p : Nat) : Int) := by omega
    have j0 : (0 : Int) ≤ (p : Int) ∧ (p : Int) < 12 := by omega
    have j1 : (0 : Int) ≤ ((3 + p : Nat) : Int) ∧ ((3 + p : Nat) : Int) < 12 := by omega
    have j2 : (0 : Int) ≤ ((6 + p : Nat) : Int) ∧ ((6 + p : Nat) : Int) < 12 := by omega
    have j3 : (0 : Int) ≤ ((9 + p : Nat) : Int) ∧ ((9 + p : Nat) : Int) < 12 := by omega
    have p3 : (p : Int) < 3 := by omega
    have rp : -2147483648 ≤ (p : Int) ∧ (p : Int) ≤ 2147483647 := by omega
    have r0 : -2147483648 ≤ M c f ∧ M c f ≤ 2147483647 := by omega
    have r1 : -2147483648 ≤ M c (f + 1) ∧ M c (f + 1) ≤ 2147483647 := by omega
    have r2 : -2147483648 ≤ M c (f + 2) ∧ M c (f + 2) ≤ 2147483647 := by omega
    have r3 : -2147483648 ≤ M c (f + 3) ∧ M c (f + 3) ≤ 2147483647 := by omega
    have s0 : -2147483648 ≤ C 0 p ∧ C 0 p ≤ 2147483647 := by omega
    have s1 : -2147483648 ≤ C 1 p ∧ C 1 p ≤ 2147483647 := by omega
    have s2 : -2147483648 ≤ C 2 p ∧ C 2 p ≤ 2147483647 := by omega
    have s3 : -2147483648 ≤ C 3 p ∧ C 3 p ≤ 2147483647 := by omega
    have rw1 : -2147483648 ≤ w ∧ w ≤ 2147483647 := by omega
    have rw2 : 0 < w ∧ w ≤ 9223372036854775807 := by omega
    have hc2 : c < 468 := by omega
    rw [ew] at b1 b2 b3
    have rs : 0 ≤ M c f * C 0 p + M c (f + 1) * C 1 p + M c (f + 2) * C 2 p + M c (f + 3) * C 3 p ∧ M c f * C 0 p + M c (f + 1) * C 1 p + M c (f + 2) * C 2 p + M c (f + 3) * C 3 p ≤ 9223372036854775807 := by omega
    refine J_rnG GM_fa (by omega) (by omega) (by omega) 7 _ _ _ _ (fun K9v hK9 => ?_)
    simp (maxSteps := 4000000) only [↓(X_iload (pc' := 11) dX9_shades_9 rfl), ↓gI_4, ↓(X_iconst (pc' := 12) dX9_shades_11 rfl), ↓(X_icmp_ge (tgt := 78) (pc' := 15) dX9_shades_12 (by decide) rfl), ↓(X_lconst (pc' := 16) dX9_shades_15 rfl), ↓(X_lstore (pc' := 18) dX9_shades_16 rfl), ↓sto2_5, ↓(X_iconst (pc' := 19) dX9_shades_18 rfl), ↓(X_istore (pc' := 21) dX9_shades_19 rfl), ↓sto_7, rn_0, gV_s, ↓pI_c, ↓pII_c, ↓pL_c, ↓pLL_c, ↓pR_c, ↓pRI_c, ↓pRII_c, ↓pRIL_c, ↓pRR_c, ↓pV_c, ↓pVV_c, ↓gI_c, ↓gL_c, ↓gR_c, f2_0, f2_1, nk_n, nk_i, nk_r, ↓reduceIte, r32, r64, Nat.reduceAdd, Nat.reduceSub, Nat.reduceEqDiff, Nat.reduceLT, Nat.reduceLeDiff, Nat.reduceBEq, Int.reduceAdd, Int.reduceSub, Int.reduceMul, Int.reduceNeg, Int.reduceToNat, Int.reduceLE, Int.reduceLT, Int.reduceEq, Int.reduceNatCast', Int.reduceNatCast, Int.natCast_zero, Int.toNat_natCast, Int.toNat_zero, Int.toNat_one, List.length_cons, List.length_nil, true_and, and_true, and_self, true_or, or_true, false_or, or_false, Bool.not_true, Bool.not_false, Nat.lt_add_one, Nat.zero_lt_succ, N0, swL_n, swL_c, List.toList_toArray, false_implies, true_implies, implies_true, forall_const, not_false_eq_true, not_true_eq_false, and_false, false_and, p3, rp]
    simp only [hK9]
    clear hK9 K9v
    refine J_rnG GM_fa (by omega) (by omega) (by omega) 110 _ _ _ _ (fun K9v hK9 => ?_)
    simp (maxSteps := 4000000) only [↓(X_aload_n (k := 1) (pc' := 1) dX9_shades_0 rfl rfl), ↓gR_1, ↓(X_iload_n (k := 2) (pc' := 2) dX9_shades_1 rfl rfl), ↓gI_2, ↓(X_invokestatic (rfl : jd 9 82 = none) dX9_shades_2), ↓(X_istore_n (k := 3) (pc' := 6) dX9_shades_5 rfl rfl), ↓sto_3, ↓(X_iconst (pc' := 7) dX9_shades_6 rfl), ↓(X_istore (pc' := 9) dX9_shades_7 rfl), ↓sto_4, ↓(X_iload (pc' := 11) dX9_shades_9 rfl), ↓gI_4, ↓(X_iconst (pc' := 12) dX9_shades_11 rfl), ↓(X_icmp_ge (tgt := 78) (pc' := 15) dX9_shades_12 (by decide) rfl), ↓(X_lconst (pc' := 16) dX9_shades_15 rfl), ↓(X_lstore (pc' := 18) dX9_shades_16 rfl), ↓sto2_5, ↓(X_iconst (pc' := 19) dX9_shades_18 rfl), ↓(X_istore (pc' := 21) dX9_shades_19 rfl), ↓sto_7, ↓(X_iload (pc' := 23) dX9_shades_21 rfl), ↓gI_7, ↓(X_iconst (pc' := 24) dX9_shades_23 rfl), ↓(X_icmp_ge (tgt := 59) (pc' := 27) dX9_shades_24 (by decide) rfl), ↓(X_lload (pc' := 29) dX9_shades_27 rfl), ↓gL_5, ↓(X_aload_n (k := 1) (pc' := 30) dX9_shades_29 rfl rfl), ↓(X_iload_n (k := 2) (pc' := 31) dX9_shades_30 rfl rfl), ↓(X_iload (pc' := 33) dX9_shades_31 rfl), ↓(X_iadd (pc' := 34) dX9_shades_33 rfl), ↓(X_iaload (pc' := 35) dX9_shades_34 rfl), ↓(X_i2l (pc' := 36) dX9_shades_35 rfl), ↓(X_aload_n (k := 0) (pc' := 37) dX9_shades_36 rfl rfl), ↓gR_0, ↓(X_getR (pc' := 40) fl_9_7 dX9_shades_37 rfl), kd_447, ↓(gV_c r0_447_1), kd_448, ln_448, ↓(X_iconst (pc' := 41) dX9_shades_40 rfl), ↓(X_iload (pc' := 43) dX9_shades_41 rfl), ↓(X_imul (pc' := 44) dX9_shades_43 rfl), ↓(X_iload (pc' := 46) dX9_shades_44 rfl), ↓(X_iadd (pc' := 47) dX9_shades_46 rfl), ↓(X_iaload (pc' := 48) dX9_shades_47 rfl), ↓(X_i2l (pc' := 49) dX9_shades_48 rfl), ↓(X_lmul (pc' := 50) dX9_shades_49 rfl), ↓(X_ladd (pc' := 51) dX9_shades_50 rfl), ↓(X_lstore (pc' := 53) dX9_shades_51 rfl), ↓(X_iinc (pc' := 56) dX9_shades_53 rfl), ↓(X_goto (pc' := 21) dX9_shades_56 (by decide)), ↓(X_aload_n (k := 0) (pc' := 60) dX9_shades_59 rfl rfl), ↓(X_getR (pc' := 63) fl_9_60 dX9_shades_60 rfl), ↓(gV_c r0_447_21), kd_463, ln_463, ↓(X_iload (pc' := 65) dX9_shades_63 rfl), ↓(X_lload (pc' := 67) dX9_shades_65 rfl), ↓(X_iload_n (k := 3) (pc' := 68) dX9_shades_67 rfl rfl), ↓gI_3, ↓(X_i2l (pc' := 69) dX9_shades_68 rfl), ↓(X_ldiv (pc' := 70) dX9_shades_69 rfl), ↓(X_l2i (pc' := 71) dX9_shades_70 rfl), ↓(X_iastore (pc' := 72) dX9_shades_71 rfl), ↓(X_iinc (pc' := 75) dX9_shades_72 rfl), ↓(X_goto (pc' := 9) dX9_shades_75 (by decide)), ↓(X_return_ dX9_shades_78), rn_0, gV_s, ↓pI_c, ↓pII_c, ↓pL_c, ↓pLL_c, ↓pR_c, ↓pRI_c, ↓pRII_c, ↓pRIL_c, ↓pRR_c, ↓pV_c, ↓pVV_c, ↓gI_c, ↓gL_c, ↓gR_c, f2_0, f2_1, nk_n, nk_i, nk_r, ↓reduceIte, r32, r64, Nat.reduceAdd, Nat.reduceSub, Nat.reduceEqDiff, Nat.reduceLT, Nat.reduceLeDiff, Nat.reduceBEq, Int.reduceAdd, Int.reduceSub, Int.reduceMul, Int.reduceNeg, Int.reduceToNat, Int.reduceLE, Int.reduceLT, Int.reduceEq, Int.reduceNatCast', Int.reduceNatCast, Int.natCast_zero, Int.toNat_natCast, Int.toNat_zero, Int.toNat_one, List.length_cons, List.length_nil, true_and, and_true, and_self, true_or, or_true, false_or, or_false, Bool.not_true, Bool.not_false, Nat.lt_add_one, Nat.zero_lt_succ, N0, swL_n, swL_c, List.toList_toArray, false_implies, true_implies, implies_true, forall_const, not_false_eq_true, not_true_eq_false, and_false, false_and, kc, hc2, fc, f448, e1, e2, e3, i0, i1, i2, i3, g1, g2, g3, j0, j1, j2, j3, p3, rp, r0, r1, r2, r3, s0, s1, s2, s3, hC0, hC1, hC2, hC3, rw1, rw2, rs, Int.zero_add, Int.add_zero]
    simp only [hK9]
    clear hK9 K9v
    rw [show (p : Int) + 1 = ((p + 1 : Nat) : Int) by omega]
    refine ih (p + 1) _ _ _ _ (by omega) (fun x hx => by funext k; rw [up2_c hx, h1 x hx]) (fun q hq => ?_)
    rcases (show q = p ∨ q ≠ p by omega) with e | e
    · rw [e, up2_s, ew]
    · rw [up2_k e]
      exact h2 q (by omega)
set_option maxRecDepth 100000 in
set_option maxHeartbeats 4000000 in
theorem om_shades {M : Nat → Nat → Int} {C : Nat → Nat → Int} (d c f : Nat) (kc : kd c = 10) (hc : c < 463) (hf : f + 3 < ln c) (hl : ln c ≤ 5000) (hm : tin4 (fun b => M c (f + b))) (hw : 0 < wt (fun b => M c (f + b))) (hC : mC M C) : Ok l D cy (d + 2) 0 0 yX9_shades cX9_shades 8 (none) [.inr (.inr (some (447))), .inr (.inr (some (c))), .inl ((f : Int))] (N0, R0, M) (fun o ν => o = .inl none ∧ ∃ M2 : Nat → Nat → Int, ν = (N0, R0, M2) ∧ (∀ x, x ≠ 463 → M2 x = M x) ∧ ∀ p, p < 3 → M2 463 p = wpC C (fun b => M c (f + b)) p / wt (fun b => M c (f + b))) := by
  refine Ok.intro (o := 9) (ini := false) [some (.inr (.inr (some (447)))), some (.inr (.inr (some (c)))), some (.inl ((f : Int))), none, none, none, none, none] (by decide +kernel) rfl (fun h => by cases h) rfl (Nat.le_of_ble_eq_true rfl) rfl ?_
  refine J_rnG GM_fa (by omega) (by omega) (by omega) 2 _ _ _ _ (fun K9v hK9 => ?_)
  simp (maxSteps := 4000000) only [↓(X_aload_n (k := 1) (pc' := 1) dX9_shades_0 rfl rfl), ↓gR_1, ↓(X_iload_n (k := 2) (pc' := 2) dX9_shades_1 rfl rfl), ↓gI_2, rn_0, gV_s, ↓pI_c, ↓pII_c, ↓pL_c, ↓pLL_c, ↓pR_c, ↓pRI_c, ↓pRII_c, ↓pRIL_c, ↓pRR_c, ↓pV_c, ↓pVV_c, ↓gI_c, ↓gL_c, ↓gR_c, f2_0, f2_1, nk_n, nk_i, nk_r, ↓reduceIte, r32, r64, Nat.reduceAdd, Nat.reduceSub, Nat.reduceEqDiff, Nat.reduceLT, Nat.reduceLeDiff, Nat.reduceBEq, Int.reduceAdd, Int.reduceSub, Int.reduceMul, Int.reduceNeg, Int.reduceToNat, Int.reduceLE, Int.reduceLT, Int.reduceEq, Int.reduceNatCast', Int.reduceNatCast, Int.natCast_zero, Int.toNat_natCast, Int.toNat_zero, Int.toNat_one, List.length_cons, List.length_nil, true_and, and_true, and_self, true_or, or_true, false_or, or_false, Bool.not_true, Bool.not_false, Nat.lt_add_one, Nat.zero_lt_succ, N0, swL_n, swL_c, List.toList_toArray, false_implies, true_implies, implies_true, forall_const, not_false_eq_true, not_true_eq_false, and_false, false_and]
  simp only [hK9]
  clear hK9 K9v
  refine J_callSd GM_fa (om_all (M := M) (d + 0) c f kc (by omega) hf hl) dX9_shades_2 k_9_82 (by omega) (Nat.le_of_ble_eq_true rfl) ⟨by omega, by omega⟩ rfl (by simp) rfl rfl ?_
  simp only [Option.toList, List.cons_append, List.nil_append]
  refine J_rnG GM_fa (by omega) (by omega) (by omega) 3 _ _ _ _ (fun K9v hK9 => ?_)
  simp (maxSteps := 4000000) only [↓(X_istore_n (k := 3) (pc' := 6) dX9_shades_5 rfl rfl), ↓sto_3, ↓(X_iconst (pc' := 7) dX9_shades_6 rfl), ↓(X_istore (pc' := 9) dX9_shades_7 rfl), ↓sto_4, rn_0, gV_s, ↓pI_c, ↓pII_c, ↓pL_c, ↓pLL_c, ↓pR_c, ↓pRI_c, ↓pRII_c, ↓pRIL_c, ↓pRR_c, ↓pV_c, ↓pVV_c, ↓gI_c, ↓gL_c, ↓gR_c, f2_0, f2_1, nk_n, nk_i, nk_r, ↓reduceIte, r32, r64, Nat.reduceAdd, Nat.reduceSub, Nat.reduceEqDiff, Nat.reduceLT, Nat.reduceLeDiff, Nat.reduceBEq, Int.reduceAdd, Int.reduceSub, Int.reduceMul, Int.reduceNeg, Int.reduceToNat, Int.reduceLE, Int.reduceLT, Int.reduceEq, Int.reduceNatCast', Int.reduceNatCast, Int.natCast_zero, Int.toNat_natCast, Int.toNat_zero, Int.toNat_one, List.length_cons, List.length_nil, true_and, and_true, and_self, true_or, or_true, false_or, or_false, Bool.not_true, Bool.not_false, Nat.lt_add_one, Nat.zero_lt_succ, N0, swL_n, swL_c, List.toList_toArray, false_implies, true_implies, implies_true, forall_const, not_false_eq_true, not_true_eq_false, and_false, false_and]
  simp only [hK9]
  clear hK9 K9v
  exact jj_sh d c f kc hc hf hl hm hw hC (fun M2 h1 h2 => ⟨rfl, M2, rfl, h1, h2⟩) 3 0 M _ _ _ (by omega) (fun _ _ => rfl) (fun q hq => by omega)
set_option maxRecDepth 100000 in
set_option maxHeartbeats 4000000 in
theorem om_gapTo {M : Nat → Nat → Int} (d i : Nat) (hi : i < 16) (hs : ∀ p, p < 3 → 0 ≤ M 463 p ∧ M 463 p ≤ 100) (hw : ∀ p, p < 3 → 0 ≤ M 453 (3 * i + p) ∧ M 453 (3 * i + p) ≤ 100) : Ok l D cy (d + 2) 0 0 yX9_gapTo cX9_gapTo 4 (some (.int)) [.inr (.inr (some (447))), .inl ((i : Int))] (N0, R0, M) (det (some (.inl (((M 463 0 - M 453 (3 * i + 0)).natAbs : Int) + (M 463 1 - M 453 (3 * i + 1)).natAbs + (M 463 2 - M 453 (3 * i + 2)).natAbs))) (N0, R0, M)) := by
  refine Ok.intro (o := 9) (ini := false) [some (.inr (.inr (some (447)))), some (.inl ((i : Int))), none, none] (by decide +kernel) rfl (fun h => by cases h) rfl (Nat.le_of_ble_eq_true rfl) rfl ?_
  have s0 := hs 0 (by omega)
  have s1 := hs 1 (by omega)
  have s2 := hs 2 (by omega)
  have w0 := hw 0 (by omega)
  have w1 := hw 1 (by omega)
  have w2 := hw 2 (by omega)
  simp only [Nat.add_zero] at w0 ⊢
  have e0 : 3 * (i : Int) = ((3 * i : Nat) : Int) := by omega
  have e1 : ((3 * i : Nat) : Int) + 1 = ((3 * i + 1 : Nat) : Int) := by omega
  have e2 : ((3 * i : Nat) : Int) + 2 = ((3 * i + 2 : Nat) : Int) := by omega
  have i0 : (0 : Int) ≤ ((3 * i : Nat) : Int) ∧ ((3 * i : Nat) : Int) < 48 := by omega
  have i1 : (0 : Int) ≤ ((3 * i + 1 : Nat) : Int) ∧ ((3 * i + 1 : Nat) : Int) < 48 := by omega
  have i2 : (0 : Int) ≤ ((3 * i + 2 : Nat) : Int) ∧ ((3 * i + 2 : Nat) : Int) < 48 := by omega
  refine J_rnG GM_fa (by omega) (by omega) (by omega) 4 _ _ _ _ (fun K9v hK9 => ?_)
  simp (maxSteps := 4000000) only [↓(X_iconst (pc' := 1) dX9_gapTo_0 rfl), ↓(X_istore_n (k := 2) (pc' := 2) dX9_gapTo_1 rfl rfl), ↓sto_2, ↓(X_iconst (pc' := 3) dX9_gapTo_2 rfl), ↓(X_istore_n (k := 3) (pc' := 4) dX9_gapTo_3 rfl rfl), ↓sto_3, rn_0, gV_s, ↓pI_c, ↓pII_c, ↓pL_c, ↓pLL_c, ↓pR_c, ↓pRI_c, ↓pRII_c, ↓pRIL_c, ↓pRR_c, ↓pV_c, ↓pVV_c, ↓gI_c, ↓gL_c, ↓gR_c, f2_0, f2_1, nk_n, nk_i, nk_r, ↓reduceIte, r32, r64, Nat.reduceAdd, Nat.reduceSub, Nat.reduceEqDiff, Nat.reduceLT, Nat.reduceLeDiff, Nat.reduceBEq, Int.reduceAdd, Int.reduceSub, Int.reduceMul, Int.reduceNeg, Int.reduceToNat, Int.reduceLE, Int.reduceLT, Int.reduceEq, Int.reduceNatCast', Int.reduceNatCast, Int.natCast_zero, Int.toNat_natCast, Int.toNat_zero, Int.toNat_one, List.length_cons, List.length_nil, true_and, and_true, and_self, true_or, or_true, false_or, or_false, Bool.not_true, Bool.not_false, Nat.lt_add_one, Nat.zero_lt_succ, N0, swL_n, swL_c, List.toList_toArray, false_implies, true_implies, implies_true, forall_const, not_false_eq_true, not_true_eq_false, and_false, false_and]
  simp only [hK9]
  clear hK9 K9v
  refine J_rnG GM_fa (by omega) (by omega) (by omega) 16 _ _ _ _ (fun K9v hK9 => ?_)
  simp (maxSteps := 4000000) only [↓(X_iload_n (k := 3) (pc' := 5) dX9_gapTo_4 rfl rfl), ↓gI_3, ↓(X_iconst (pc' := 6) dX9_gapTo_5 rfl), ↓(X_icmp_ge (tgt := 37) (pc' := 9) dX9_gapTo_6 (by decide) rfl), ↓(X_iload_n (k := 2) (pc' := 10) dX9_gapTo_9 rfl rfl), ↓gI_2, ↓(X_aload_n (k := 0) (pc' := 11) dX9_gapTo_10 rfl rfl), ↓gR_0, ↓(X_getR (pc' := 14) fl_9_60 dX9_gapTo_11 rfl), kd_447, ↓(gV_c r0_447_21), kd_463, ln_463, ↓(X_iload_n (k := 3) (pc' := 15) dX9_gapTo_14 rfl rfl), ↓(X_iaload (pc' := 16) dX9_gapTo_15 rfl), ↓(X_aload_n (k := 0) (pc' := 17) dX9_gapTo_16 rfl rfl), ↓(X_getR (pc' := 20) fl_9_25 dX9_gapTo_17 rfl), ↓(gV_c r0_447_8), kd_453, ln_453, ↓(X_iconst (pc' := 21) dX9_gapTo_20 rfl), ↓(X_iload_n (k := 1) (pc' := 22) dX9_gapTo_21 rfl rfl), ↓gI_1, ↓(X_imul (pc' := 23) dX9_gapTo_22 rfl), ↓(X_iload_n (k := 3) (pc' := 24) dX9_gapTo_23 rfl rfl), ↓(X_iadd (pc' := 25) dX9_gapTo_24 rfl), ↓(X_iaload (pc' := 26) dX9_gapTo_25 rfl), rn_0, gV_s, ↓pI_c, ↓pII_c, ↓pL_c, ↓pLL_c, ↓pR_c, ↓pRI_c, ↓pRII_c, ↓pRIL_c, ↓pRR_c, ↓pV_c, ↓pVV_c, ↓gI_c, ↓gL_c, ↓gR_c, f2_0, f2_1, nk_n, nk_i, nk_r, ↓reduceIte, r32, r64, Nat.reduceAdd, Nat.reduceSub, Nat.reduceEqDiff, Nat.reduceLT, Nat.reduceLeDiff, Nat.reduceBEq, Int.reduceAdd, Int.reduceSub, Int.reduceMul, Int.reduceNeg, Int.reduceToNat, Int.reduceLE, Int.reduceLT, Int.reduceEq, Int.reduceNatCast', Int.reduceNatCast, Int.natCast_zero, Int.toNat_natCast, Int.toNat_zero, Int.toNat_one, List.length_cons, List.length_nil, true_and, and_true, and_self, true_or, or_true, false_or, or_false, Bool.not_true, Bool.not_false, Nat.lt_add_one, Nat.zero_lt_succ, N0, swL_n, swL_c, List.toList_toArray, false_implies, true_implies, implies_true, forall_const, not_false_eq_true, not_true_eq_false, and_false, false_and, e0, e1, e2, i0, i1, i2, Int.add_zero]
  simp only [hK9]
  clear hK9 K9v
  refine J_callSd GM_fa (om_apart (M := M) (d + 0) (M 463 0) (M 453 (3 * i)) (by simp only [r32]; omega) (by simp only [r32]; omega)) dX9_gapTo_26 k_9_90 (by omega) (Nat.le_of_ble_eq_true rfl) ⟨by omega, by omega⟩ rfl (by simp) rfl rfl ?_
  simp only [Option.toList, List.cons_append, List.nil_append]
  refine J_rnG GM_fa (by omega) (by omega) (by omega) 20 _ _ _ _ (fun K9v hK9 => ?_)
  simp (maxSteps := 4000000) only [↓(X_iadd (pc' := 30) dX9_gapTo_29 rfl), ↓(X_istore_n (k := 2) (pc' := 31) dX9_gapTo_30 rfl rfl), ↓sto_2, ↓(X_iinc (pc' := 34) dX9_gapTo_31 rfl), ↓gI_3, ↓sto_3, ↓(X_goto (pc' := 4) dX9_gapTo_34 (by decide)), ↓(X_iload_n (k := 3) (pc' := 5) dX9_gapTo_4 rfl rfl), ↓(X_iconst (pc' := 6) dX9_gapTo_5 rfl), ↓(X_icmp_ge (tgt := 37) (pc' := 9) dX9_gapTo_6 (by decide) rfl), ↓(X_iload_n (k := 2) (pc' := 10) dX9_gapTo_9 rfl rfl), ↓gI_2, ↓(X_aload_n (k := 0) (pc' := 11) dX9_gapTo_10 rfl rfl), ↓gR_0, ↓(X_getR (pc' := 14) fl_9_60 dX9_gapTo_11 rfl), kd_447, ↓(gV_c r0_447_21), kd_463, ln_463, ↓(X_iload_n (k := 3) (pc' := 15) dX9_gapTo_14 rfl rfl), ↓(X_iaload (pc' := 16) dX9_gapTo_15 rfl), ↓(X_aload_n (k := 0) (pc' := 17) dX9_gapTo_16 rfl rfl), ↓(X_getR (pc' := 20) fl_9_25 dX9_gapTo_17 rfl), ↓(gV_c r0_447_8), kd_453, ln_453, ↓(X_iconst (pc' := 21) dX9_gapTo_20 rfl), ↓(X_iload_n (k := 1) (pc' := 22) dX9_gapTo_21 rfl rfl), ↓gI_1, ↓(X_imul (pc' := 23) dX9_gapTo_22 rfl), ↓(X_iload_n (k := 3) (pc' := 24) dX9_gapTo_23 rfl rfl), ↓(X_iadd (pc' := 25) dX9_gapTo_24 rfl), ↓(X_iaload (pc' := 26) dX9_gapTo_25 rfl), rn_0, gV_s, ↓pI_c, ↓pII_c, ↓pL_c, ↓pLL_c, ↓pR_c, ↓pRI_c, ↓pRII_c, ↓pRIL_c, ↓pRR_c, ↓pV_c, ↓pVV_c, ↓gI_c, ↓gL_c, ↓gR_c, f2_0, f2_1, nk_n, nk_i, nk_r, ↓reduceIte, r32, r64, Nat.reduceAdd, Nat.reduceSub, Nat.reduceEqDiff, Nat.reduceLT, Nat.reduceLeDiff, Nat.reduceBEq, Int.reduceAdd, Int.reduceSub, Int.reduceMul, Int.reduceNeg, Int.reduceToNat, Int.reduceLE, Int.reduceLT, Int.reduceEq, Int.reduceNatCast', Int.reduceNatCast, Int.natCast_zero, Int.toNat_natCast, Int.toNat_zero, Int.toNat_one, List.length_cons, List.length_nil, true_and, and_true, and_self, true_or, or_true, false_or, or_false, Bool.not_true, Bool.not_false, Nat.lt_add_one, Nat.zero_lt_succ, N0, swL_n, swL_c, List.toList_toArray, false_implies, true_implies, implies_true, forall_const, not_false_eq_true, not_true_eq_false, and_false, false_and, e0, e1, e2, i0, i1, i2, Int.add_zero]
  simp only [hK9]
  clear hK9 K9v
  refine J_callSd GM_fa (om_apart (M := M) (d + 0) (M 463 1) (M 453 (3 * i + 1)) (by simp only [r32]; omega) (by simp only [r32]; omega)) dX9_gapTo_26 k_9_90 (by omega) (Nat.le_of_ble_eq_true rfl) ⟨by omega, by omega⟩ rfl (by simp) rfl rfl ?_
  simp only [Option.toList, List.cons_append, List.nil_append]
  refine J_rnG GM_fa (by omega) (by omega) (by omega) 20 _ _ _ _ (fun K9v hK9 => ?_)
  simp (maxSteps := 4000000) only [↓(X_iadd (pc' := 30) dX9_gapTo_29 rfl), ↓(X_istore_n (k := 2) (pc' := 31) dX9_gapTo_30 rfl rfl), ↓sto_2, ↓(X_iinc (pc' := 34) dX9_gapTo_31 rfl), ↓gI_3, ↓sto_3, ↓(X_goto (pc' := 4) dX9_gapTo_34 (by decide)), ↓(X_iload_n (k := 3) (pc' := 5) dX9_gapTo_4 rfl rfl), ↓(X_iconst (pc' := 6) dX9_gapTo_5 rfl), ↓(X_icmp_ge (tgt := 37) (pc' := 9) dX9_gapTo_6 (by decide) rfl), ↓(X_iload_n (k := 2) (pc' := 10) dX9_gapTo_9 rfl rfl), ↓gI_2, ↓(X_aload_n (k := 0) (pc' := 11) dX9_gapTo_10 rfl rfl), ↓gR_0, ↓(X_getR (pc' := 14) fl_9_60 dX9_gapTo_11 rfl), kd_447, ↓(gV_c r0_447_21), kd_463, ln_463, ↓(X_iload_n (k := 3) (pc' := 15) dX9_gapTo_14 rfl rfl), ↓(X_iaload (pc' := 16) dX9_gapTo_15 rfl), ↓(X_aload_n (k := 0) (pc' := 17) dX9_gapTo_16 rfl rfl), ↓(X_getR (pc' := 20) fl_9_25 dX9_gapTo_17 rfl), ↓(gV_c r0_447_8), kd_453, ln_453, ↓(X_iconst (pc' := 21) dX9_gapTo_20 rfl), ↓(X_iload_n (k := 1) (pc' := 22) dX9_gapTo_21 rfl rfl), ↓gI_1, ↓(X_imul (pc' := 23) dX9_gapTo_22 rfl), ↓(X_iload_n (k := 3) (pc' := 24) dX9_gapTo_23 rfl rfl), ↓(X_iadd (pc' := 25) dX9_gapTo_24 rfl), ↓(X_iaload (pc' := 26) dX9_gapTo_25 rfl), rn_0, gV_s, ↓pI_c, ↓pII_c, ↓pL_c, ↓pLL_c, ↓pR_c, ↓pRI_c, ↓pRII_c, ↓pRIL_c, ↓pRR_c, ↓pV_c, ↓pVV_c, ↓gI_c, ↓gL_c, ↓gR_c, f2_0, f2_1, nk_n, nk_i, nk_r, ↓reduceIte, r32, r64, Nat.reduceAdd, Nat.reduceSub, Nat.reduceEqDiff, Nat.reduceLT, Nat.reduceLeDiff, Nat.reduceBEq, Int.reduceAdd, Int.reduceSub, Int.reduceMul, Int.reduceNeg, Int.reduceToNat, Int.reduceLE, Int.reduceLT, Int.reduceEq, Int.reduceNatCast', Int.reduceNatCast, Int.natCast_zero, Int.toNat_natCast, Int.toNat_zero, Int.toNat_one, List.length_cons, List.length_nil, true_and, and_true, and_self, true_or, or_true, false_or, or_false, Bool.not_true, Bool.not_false, Nat.lt_add_one, Nat.zero_lt_succ, N0, swL_n, swL_c, List.toList_toArray, false_implies, true_implies, implies_true, forall_const, not_false_eq_true, not_true_eq_false, and_false, false_and, e0, e1, e2, i0, i1, i2, Int.add_zero]
  simp only [hK9]
  clear hK9 K9v
  refine J_callSd GM_fa (om_apart (M := M) (d + 0) (M 463 2) (M 453 (3 * i + 2)) (by simp only [r32]; omega) (by simp only [r32]; omega)) dX9_gapTo_26 k_9_90 (by omega) (Nat.le_of_ble_eq_true rfl) ⟨by omega, by omega⟩ rfl (by simp) rfl rfl ?_
  simp only [Option.toList, List.cons_append, List.nil_append]
  refine J_rnG GM_fa (by omega) (by omega) (by omega) 7 _ _ _ _ (fun K9v hK9 => ?_)
  simp (maxSteps := 4000000) only [↓(X_iadd (pc' := 30) dX9_gapTo_29 rfl), ↓(X_istore_n (k := 2) (pc' := 31) dX9_gapTo_30 rfl rfl), ↓sto_2, ↓(X_iinc (pc' := 34) dX9_gapTo_31 rfl), ↓gI_3, ↓sto_3, ↓(X_goto (pc' := 4) dX9_gapTo_34 (by decide)), ↓(X_iload_n (k := 3) (pc' := 5) dX9_gapTo_4 rfl rfl), ↓(X_iconst (pc' := 6) dX9_gapTo_5 rfl), ↓(X_icmp_ge (tgt := 37) (pc' := 9) dX9_gapTo_6 (by decide) rfl), rn_0, gV_s, ↓pI_c, ↓pII_c, ↓pL_c, ↓pLL_c, ↓pR_c, ↓pRI_c, ↓pRII_c, ↓pRIL_c, ↓pRR_c, ↓pV_c, ↓pVV_c, ↓gI_c, ↓gL_c, ↓gR_c, f2_0, f2_1, nk_n, nk_i, nk_r, ↓reduceIte, r32, r64, Nat.reduceAdd, Nat.reduceSub, Nat.reduceEqDiff, Nat.reduceLT, Nat.reduceLeDiff, Nat.reduceBEq, Int.reduceAdd, Int.reduceSub, Int.reduceMul, Int.reduceNeg, Int.reduceToNat, Int.reduceLE, Int.reduceLT, Int.reduceEq, Int.reduceNatCast', Int.reduceNatCast, Int.natCast_zero, Int.toNat_natCast, Int.toNat_zero, Int.toNat_one, List.length_cons, List.length_nil, true_and, and_true, and_self, true_or, or_true, false_or, or_false, Bool.not_true, Bool.not_false, Nat.lt_add_one, Nat.zero_lt_succ, N0, swL_n, swL_c, List.toList_toArray, false_implies, true_implies, implies_true, forall_const, not_false_eq_true, not_true_eq_false, and_false, false_and]
  simp only [hK9]
  clear hK9 K9v
  refine J_rnG GM_fa (by omega) (by omega) (by omega) 1 _ _ _ _ (fun K9v hK9 => ?_)
  simp (maxSteps := 4000000) only [↓(X_iload_n (k := 2) (pc' := 38) dX9_gapTo_37 rfl rfl), ↓gI_2, rn_0, gV_s, ↓pI_c, ↓pII_c, ↓pL_c, ↓pLL_c, ↓pR_c, ↓pRI_c, ↓pRII_c, ↓pRIL_c, ↓pRR_c, ↓pV_c, ↓pVV_c, ↓gI_c, ↓gL_c, ↓gR_c, f2_0, f2_1, nk_n, nk_i, nk_r, ↓reduceIte, r32, r64, Nat.reduceAdd, Nat.reduceSub, Nat.reduceEqDiff, Nat.reduceLT, Nat.reduceLeDiff, Nat.reduceBEq, Int.reduceAdd, Int.reduceSub, Int.reduceMul, Int.reduceNeg, Int.reduceToNat, Int.reduceLE, Int.reduceLT, Int.reduceEq, Int.reduceNatCast', Int.reduceNatCast, Int.natCast_zero, Int.toNat_natCast, Int.toNat_zero, Int.toNat_one, List.length_cons, List.length_nil, true_and, and_true, and_self, true_or, or_true, false_or, or_false, Bool.not_true, Bool.not_false, Nat.lt_add_one, Nat.zero_lt_succ, N0, swL_n, swL_c, List.toList_toArray, false_implies, true_implies, implies_true, forall_const, not_false_eq_true, not_true_eq_false, and_false, false_and]
  simp only [hK9]
  clear hK9 K9v
  rw [Int.zero_add]
  refine J_iret dX9_gapTo_38 rfl (by omega) (by omega) (⟨rfl, rfl⟩)
set_option maxRecDepth 100000 in
set_option maxHeartbeats 4000000 in
theorem om_isAhead {M : Nat → Nat → Int} (d : Nat) (a b c t : Int) (ha : 0 ≤ a ∧ a ≤ 20) (hb : 0 ≤ b ∧ b ≤ 20) (hc : 0 ≤ c ∧ c ≤ 20) (ht : -1 ≤ t ∧ t ≤ 40) (h5 : -1 ≤ M 464 5 ∧ M 464 5 ≤ 40) (h0 : 0 ≤ M 464 0 ∧ M 464 0 ≤ 20) (h1 : 0 ≤ M 464 1 ∧ M 464 1 ≤ 20) (h2 : 0 ≤ M 464 2 ∧ M 464 2 ≤ 20) (hlex : M 464 5 < t ∨ (M 464 5 = t ∧ (M 464 0 < a ∨ (M 464 0 = a ∧ (M 464 1 < b ∨ (M 464 1 = b ∧ M 464 2 < c)))))) : Ok l D cy (d + 1) 0 0 yX9_isAhead cX9_isAhead 5 (some (.boolean)) [.inr (.inr (some (447))), .inl (a), .inl (b), .inl (c), .inl (t)] (N0, R0, M) (det (some (.inl 0)) (N0, R0, M)) := by
  refine Ok.intro (o := 9) (ini := false) [some (.inr (.inr (some (447)))), some (.inl (a)), some (.inl (b)), some (.inl (c)), some (.inl (t))] (by decide +kernel) rfl (fun h => by cases h) rfl (Nat.le_of_ble_eq_true rfl) rfl ?_
  have ra : -2147483648 ≤ a ∧ a ≤ 2147483647 := by omega
  have rb : -2147483648 ≤ b ∧ b ≤ 2147483647 := by omega
  have rc : -2147483648 ≤ c ∧ c ≤ 2147483647 := by omega
  have rt : -2147483648 ≤ t ∧ t ≤ 2147483647 := by omega
  have r5 : -2147483648 ≤ M 464 5 ∧ M 464 5 ≤ 2147483647 := by omega
  have r0 : -2147483648 ≤ M 464 0 ∧ M 464 0 ≤ 2147483647 := by omega
  have r1 : -2147483648 ≤ M 464 1 ∧ M 464 1 ≤ 2147483647 := by omega
  have r2 : -2147483648 ≤ M 464 2 ∧ M 464 2 ≤ 2147483647 := by omega
  rcases hlex with q | ⟨q, hl⟩
  · have q1 : ¬ t = M 464 5 := by omega
    have q2 : ¬ t < M 464 5 := by omega
    refine J_rnG GM_fa (by omega) (by omega) (by omega) 6 _ _ _ _ (fun K9v hK9 => ?_)
    simp (maxSteps := 4000000) only [↓(X_iload (pc' := 2) dX9_isAhead_0 rfl), ↓gI_4, ↓(X_aload_n (k := 0) (pc' := 3) dX9_isAhead_2 rfl rfl), ↓gR_0, ↓(X_getR (pc' := 6) fl_9_63 dX9_isAhead_3 rfl), kd_447, ↓(gV_c r0_447_22), kd_464, ln_464, ↓(X_iconst (pc' := 7) dX9_isAhead_6 rfl), ↓(X_iaload (pc' := 8) dX9_isAhead_7 rfl), ↓(X_icmp_eq (tgt := 28) (pc' := 11) dX9_isAhead_8 (by decide) rfl), rn_0, gV_s, ↓pI_c, ↓pII_c, ↓pL_c, ↓pLL_c, ↓pR_c, ↓pRI_c, ↓pRII_c, ↓pRIL_c, ↓pRR_c, ↓pV_c, ↓pVV_c, ↓gI_c, ↓gL_c, ↓gR_c, f2_0, f2_1, nk_n, nk_i, nk_r, ↓reduceIte, r32, r64, Nat.reduceAdd, Nat.reduceSub, Nat.reduceEqDiff, Nat.reduceLT, Nat.reduceLeDiff, Nat.reduceBEq, Int.reduceAdd, Int.reduceSub, Int.reduceMul, Int.reduceNeg, Int.reduceToNat, Int.reduceLE, Int.reduceLT, Int.reduceEq, Int.reduceNatCast', Int.reduceNatCast, Int.natCast_zero, Int.toNat_natCast, Int.toNat_zero, Int.toNat_one, List.length_cons, List.length_nil, true_and, and_true, and_self, true_or, or_true, false_or, or_false, Bool.not_true, Bool.not_false, Nat.lt_add_one, Nat.zero_lt_succ, N0, swL_n, swL_c, List.toList_toArray, false_implies, true_implies, implies_true, forall_const, not_false_eq_true, not_true_eq_false, and_false, false_and, rt, r5, q1]
    simp only [hK9]
    clear hK9 K9v
    refine J_rnG GM_fa (by omega) (by omega) (by omega) 6 _ _ _ _ (fun K9v hK9 => ?_)
    simp (maxSteps := 4000000) only [↓(X_iload (pc' := 13) dX9_isAhead_11 rfl), ↓gI_4, ↓(X_aload_n (k := 0) (pc' := 14) dX9_isAhead_13 rfl rfl), ↓gR_0, ↓(X_getR (pc' := 17) fl_9_63 dX9_isAhead_14 rfl), kd_447, ↓(gV_c r0_447_22), kd_464, ln_464, ↓(X_iconst (pc' := 18) dX9_isAhead_17 rfl), ↓(X_iaload (pc' := 19) dX9_isAhead_18 rfl), ↓(X_icmp_ge (tgt := 26) (pc' := 22) dX9_isAhead_19 (by decide) rfl), rn_0, gV_s, ↓pI_c, ↓pII_c, ↓pL_c, ↓pLL_c, ↓pR_c, ↓pRI_c, ↓pRII_c, ↓pRIL_c, ↓pRR_c, ↓pV_c, ↓pVV_c, ↓gI_c, ↓gL_c, ↓gR_c, f2_0, f2_1, nk_n, nk_i, nk_r, ↓reduceIte, r32, r64, Nat.reduceAdd, Nat.reduceSub, Nat.reduceEqDiff, Nat.reduceLT, Nat.reduceLeDiff, Nat.reduceBEq, Int.reduceAdd, Int.reduceSub, Int.reduceMul, Int.reduceNeg, Int.reduceToNat, Int.reduceLE, Int.reduceLT, Int.reduceEq, Int.reduceNatCast', Int.reduceNatCast, Int.natCast_zero, Int.toNat_natCast, Int.toNat_zero, Int.toNat_one, List.length_cons, List.length_nil, true_and, and_true, and_self, true_or, or_true, false_or, or_false, Bool.not_true, Bool.not_false, Nat.lt_add_one, Nat.zero_lt_succ, N0, swL_n, swL_c, List.toList_toArray, false_implies, true_implies, implies_true, forall_const, not_false_eq_true, not_true_eq_false, and_false, false_and, rt, r5, q2]
    simp only [hK9]
    clear hK9 K9v
    refine J_rnG GM_fa (by omega) (by omega) (by omega) 1 _ _ _ _ (fun K9v hK9 => ?_)
    simp (maxSteps := 4000000) only [↓(X_iconst (pc' := 27) dX9_isAhead_26 rfl), rn_0, gV_s, ↓pI_c, ↓pII_c, ↓pL_c, ↓pLL_c, ↓pR_c, ↓pRI_c, ↓pRII_c, ↓pRIL_c, ↓pRR_c, ↓pV_c, ↓pVV_c, ↓gI_c, ↓gL_c, ↓gR_c, f2_0, f2_1, nk_n, nk_i, nk_r, ↓reduceIte, r32, r64, Nat.reduceAdd, Nat.reduceSub, Nat.reduceEqDiff, Nat.reduceLT, Nat.reduceLeDiff, Nat.reduceBEq, Int.reduceAdd, Int.reduceSub, Int.reduceMul, Int.reduceNeg, Int.reduceToNat, Int.reduceLE, Int.reduceLT, Int.reduceEq, Int.reduceNatCast', Int.reduceNatCast, Int.natCast_zero, Int.toNat_natCast, Int.toNat_zero, Int.toNat_one, List.length_cons, List.length_nil, true_and, and_true, and_self, true_or, or_true, false_or, or_false, Bool.not_true, Bool.not_false, Nat.lt_add_one, Nat.zero_lt_succ, N0, swL_n, swL_c, List.toList_toArray, false_implies, true_implies, implies_true, forall_const, not_false_eq_true, not_true_eq_false, and_false, false_and]
    simp only [hK9]
    clear hK9 K9v
    refine J_zret dX9_isAhead_27 rfl (by first | exact Or.inl rfl | exact Or.inr rfl | omega) (by omega) (by omega) (⟨rfl, rfl⟩)
  · have q1 : t = M 464 5 := by omega
    rcases hl with p | ⟨p, hl⟩
    · have p1 : ¬ a < M 464 0 := by omega
      have p2 : ¬ a = M 464 0 := by omega
      refine J_rnG GM_fa (by omega) (by omega) (by omega) 6 _ _ _ _ (fun K9v hK9 => ?_)
      simp (maxSteps := 4000000) only [↓(X_iload (pc' := 2) dX9_isAhead_0 rfl), ↓gI_4, ↓(X_aload_n (k := 0) (pc' := 3) dX9_isAhead_2 rfl rfl), ↓gR_0, ↓(X_getR (pc' := 6) fl_9_63 dX9_isAhead_3 rfl), kd_447, ↓(gV_c r0_447_22), kd_464, ln_464, ↓(X_iconst (pc' := 7) dX9_isAhead_6 rfl), ↓(X_iaload (pc' := 8) dX9_isAhead_7 rfl), ↓(X_icmp_eq (tgt := 28) (pc' := 11) dX9_isAhead_8 (by decide) rfl), rn_0, gV_s, ↓pI_c, ↓pII_c, ↓pL_c, ↓pLL_c, ↓pR_c, ↓pRI_c, ↓pRII_c, ↓pRIL_c, ↓pRR_c, ↓pV_c, ↓pVV_c, ↓gI_c, ↓gL_c, ↓gR_c, f2_0, f2_1, nk_n, nk_i, nk_r, ↓reduceIte, r32, r64, Nat.reduceAdd, Nat.reduceSub, Nat.reduceEqDiff, Nat.reduceLT, Nat.reduceLeDiff, Nat.reduceBEq, Int.reduceAdd, Int.reduceSub, Int.reduceMul, Int.reduceNeg, Int.reduceToNat, Int.reduceLE, Int.reduceLT, Int.reduceEq, Int.reduceNatCast', Int.reduceNatCast, Int.natCast_zero, Int.toNat_natCast, Int.toNat_zero, Int.toNat_one, List.length_cons, List.length_nil, true_and, and_true, and_self, true_or, or_true, false_or, or_false, Bool.not_true, Bool.not_false, Nat.lt_add_one, Nat.zero_lt_succ, N0, swL_n, swL_c, List.toList_toArray, false_implies, true_implies, implies_true, forall_const, not_false_eq_true, not_true_eq_false, and_false, false_and, rt, r5, q1]
      simp only [hK9]
      clear hK9 K9v
      refine J_rnG GM_fa (by omega) (by omega) (by omega) 12 _ _ _ _ (fun K9v hK9 => ?_)
      simp (maxSteps := 4000000) only [↓(X_iload_n (k := 1) (pc' := 29) dX9_isAhead_28 rfl rfl), ↓gI_1, ↓(X_aload_n (k := 0) (pc' := 30) dX9_isAhead_29 rfl rfl), ↓gR_0, ↓(X_getR (pc' := 33) fl_9_63 dX9_isAhead_30 rfl), kd_447, ↓(gV_c r0_447_22), kd_464, ln_464, ↓(X_iconst (pc' := 34) dX9_isAhead_33 rfl), ↓(X_iaload (pc' := 35) dX9_isAhead_34 rfl), ↓(X_icmp_lt (tgt := 78) (pc' := 38) dX9_isAhead_35 (by decide) rfl), ↓(X_iload_n (k := 1) (pc' := 39) dX9_isAhead_38 rfl rfl), ↓(X_aload_n (k := 0) (pc' := 40) dX9_isAhead_39 rfl rfl), ↓(X_getR (pc' := 43) fl_9_63 dX9_isAhead_40 rfl), ↓(X_iconst (pc' := 44) dX9_isAhead_43 rfl), ↓(X_iaload (pc' := 45) dX9_isAhead_44 rfl), ↓(X_icmp_ne (tgt := 82) (pc' := 48) dX9_isAhead_45 (by decide) rfl), rn_0, gV_s, ↓pI_c, ↓pII_c, ↓pL_c, ↓pLL_c, ↓pR_c, ↓pRI_c, ↓pRII_c, ↓pRIL_c, ↓pRR_c, ↓pV_c, ↓pVV_c, ↓gI_c, ↓gL_c, ↓gR_c, f2_0, f2_1, nk_n, nk_i, nk_r, ↓reduceIte, r32, r64, Nat.reduceAdd, Nat.reduceSub, Nat.reduceEqDiff, Nat.reduceLT, Nat.reduceLeDiff, Nat.reduceBEq, Int.reduceAdd, Int.reduceSub, Int.reduceMul, Int.reduceNeg, Int.reduceToNat, Int.reduceLE, Int.reduceLT, Int.reduceEq, Int.reduceNatCast', Int.reduceNatCast, Int.natCast_zero, Int.toNat_natCast, Int.toNat_zero, Int.toNat_one, List.length_cons, List.length_nil, true_and, and_true, and_self, true_or, or_true, false_or, or_false, Bool.not_true, Bool.not_false, Nat.lt_add_one, Nat.zero_lt_succ, N0, swL_n, swL_c, List.toList_toArray, false_implies, true_implies, implies_true, forall_const, not_false_eq_true, not_true_eq_false, and_false, false_and, ra, r0, p1, p2]
      simp only [hK9]
      clear hK9 K9v
      refine J_rnG GM_fa (by omega) (by omega) (by omega) 1 _ _ _ _ (fun K9v hK9 => ?_)
      simp (maxSteps := 4000000) only [↓(X_iconst (pc' := 83) dX9_isAhead_82 rfl), rn_0, gV_s, ↓pI_c, ↓pII_c, ↓pL_c, ↓pLL_c, ↓pR_c, ↓pRI_c, ↓pRII_c, ↓pRIL_c, ↓pRR_c, ↓pV_c, ↓pVV_c, ↓gI_c, ↓gL_c, ↓gR_c, f2_0, f2_1, nk_n, nk_i, nk_r, ↓reduceIte, r32, r64, Nat.reduceAdd, Nat.reduceSub, Nat.reduceEqDiff, Nat.reduceLT, Nat.reduceLeDiff, Nat.reduceBEq, Int.reduceAdd, Int.reduceSub, Int.reduceMul, Int.reduceNeg, Int.reduceToNat, Int.reduceLE, Int.reduceLT, Int.reduceEq, Int.reduceNatCast', Int.reduceNatCast, Int.natCast_zero, Int.toNat_natCast, Int.toNat_zero, Int.toNat_one, List.length_cons, List.length_nil, true_and, and_true, and_self, true_or, or_true, false_or, or_false, Bool.not_true, Bool.not_false, Nat.lt_add_one, Nat.zero_lt_succ, N0, swL_n, swL_c, List.toList_toArray, false_implies, true_implies, implies_true, forall_const, not_false_eq_true, not_true_eq_false, and_false, false_and]
      simp only [hK9]
      clear hK9 K9v
      refine J_zret dX9_isAhead_83 rfl (by first | exact Or.inl rfl | exact Or.inr rfl | omega) (by omega) (by omega) (⟨rfl, rfl⟩)
    · have p1 : ¬ a < M 464 0 := by omega
      have p2 : a = M 464 0 := by omega
      rcases hl with p' | ⟨p', hl⟩
      · have p3 : ¬ b < M 464 1 := by omega
        have p4 : ¬ b = M 464 1 := by omega
        refine J_rnG GM_fa (by omega) (by omega) (by omega) 6 _ _ _ _ (fun K9v hK9 => ?_)
        simp (maxSteps := 4000000) only [↓(X_iload (pc' := 2) dX9_isAhead_0 rfl), ↓gI_4, ↓(X_aload_n (k := 0) (pc' := 3) dX9_isAhead_2 rfl rfl), ↓gR_0, ↓(X_getR (pc' := 6) fl_9_63 dX9_isAhead_3 rfl), kd_447, ↓(gV_c r0_447_22), kd_464, ln_464, ↓(X_iconst (pc' := 7) dX9_isAhead_6 rfl), ↓(X_iaload (pc' := 8) dX9_isAhead_7 rfl), ↓(X_icmp_eq (tgt := 28) (pc' := 11) dX9_isAhead_8 (by decide) rfl), rn_0, gV_s, ↓pI_c, ↓pII_c, ↓pL_c, ↓pLL_c, ↓pR_c, ↓pRI_c, ↓pRII_c, ↓pRIL_c, ↓pRR_c, ↓pV_c, ↓pVV_c, ↓gI_c, ↓gL_c, ↓gR_c, f2_0, f2_1, nk_n, nk_i, nk_r, ↓reduceIte, r32, r64, Nat.reduceAdd, Nat.reduceSub, Nat.reduceEqDiff, Nat.reduceLT, Nat.reduceLeDiff, Nat.reduceBEq, Int.reduceAdd, Int.reduceSub, Int.reduceMul, Int.reduceNeg, Int.reduceToNat, Int.reduceLE, Int.reduceLT, Int.reduceEq, Int.reduceNatCast', Int.reduceNatCast, Int.natCast_zero, Int.toNat_natCast, Int.toNat_zero, Int.toNat_one, List.length_cons, List.length_nil, true_and, and_true, and_self, true_or, or_true, false_or, or_false, Bool.not_true, Bool.not_false, Nat.lt_add_one, Nat.zero_lt_succ, N0, swL_n, swL_c, List.toList_toArray, false_implies, true_implies, implies_true, forall_const, not_false_eq_true, not_true_eq_false, and_false, false_and, rt, r5, q1]
        simp only [hK9]
        clear hK9 K9v
        refine J_rnG GM_fa (by omega) (by omega) (by omega) 12 _ _ _ _ (fun K9v hK9 => ?_)
        simp (maxSteps := 4000000) only [↓(X_iload_n (k := 1) (pc' := 29) dX9_isAhead_28 rfl rfl), ↓gI_1, ↓(X_aload_n (k := 0) (pc' := 30) dX9_isAhead_29 rfl rfl), ↓gR_0, ↓(X_getR (pc' := 33) fl_9_63 dX9_isAhead_30 rfl), kd_447, ↓(gV_c r0_447_22), kd_464, ln_464, ↓(X_iconst (pc' := 34) dX9_isAhead_33 rfl), ↓(X_iaload (pc' := 35) dX9_isAhead_34 rfl), ↓(X_icmp_lt (tgt := 78) (pc' := 38) dX9_isAhead_35 (by decide) rfl), ↓(X_iload_n (k := 1) (pc' := 39) dX9_isAhead_38 rfl rfl), ↓(X_aload_n (k := 0) (pc' := 40) dX9_isAhead_39 rfl rfl), ↓(X_getR (pc' := 43) fl_9_63 dX9_isAhead_40 rfl), ↓(X_iconst (pc' := 44) dX9_isAhead_43 rfl), ↓(X_iaload (pc' := 45) dX9_isAhead_44 rfl), ↓(X_icmp_ne (tgt := 82) (pc' := 48) dX9_isAhead_45 (by decide) rfl), rn_0, gV_s, ↓pI_c, ↓pII_c, ↓pL_c, ↓pLL_c, ↓pR_c, ↓pRI_c, ↓pRII_c, ↓pRIL_c, ↓pRR_c, ↓pV_c, ↓pVV_c, ↓gI_c, ↓gL_c, ↓gR_c, f2_0, f2_1, nk_n, nk_i, nk_r, ↓reduceIte, r32, r64, Nat.reduceAdd, Nat.reduceSub, Nat.reduceEqDiff, Nat.reduceLT, Nat.reduceLeDiff, Nat.reduceBEq, Int.reduceAdd, Int.reduceSub, Int.reduceMul, Int.reduceNeg, Int.reduceToNat, Int.reduceLE, Int.reduceLT, Int.reduceEq, Int.reduceNatCast', Int.reduceNatCast, Int.natCast_zero, Int.toNat_natCast, Int.toNat_zero, Int.toNat_one, List.length_cons, List.length_nil, true_and, and_true, and_self, true_or, or_true, false_or, or_false, Bool.not_true, Bool.not_false, Nat.lt_add_one, Nat.zero_lt_succ, N0, swL_n, swL_c, List.toList_toArray, false_implies, true_implies, implies_true, forall_const, not_false_eq_true, not_true_eq_false, and_false, false_and, ra, r0, p2, Int.lt_irrefl]
        simp only [hK9]
        clear hK9 K9v
        refine J_rnG GM_fa (by omega) (by omega) (by omega) 12 _ _ _ _ (fun K9v hK9 => ?_)
        simp (maxSteps := 4000000) only [↓(X_iload_n (k := 2) (pc' := 49) dX9_isAhead_48 rfl rfl), ↓gI_2, ↓(X_aload_n (k := 0) (pc' := 50) dX9_isAhead_49 rfl rfl), ↓gR_0, ↓(X_getR (pc' := 53) fl_9_63 dX9_isAhead_50 rfl), kd_447, ↓(gV_c r0_447_22), kd_464, ln_464, ↓(X_iconst (pc' := 54) dX9_isAhead_53 rfl), ↓(X_iaload (pc' := 55) dX9_isAhead_54 rfl), ↓(X_icmp_lt (tgt := 78) (pc' := 58) dX9_isAhead_55 (by decide) rfl), ↓(X_iload_n (k := 2) (pc' := 59) dX9_isAhead_58 rfl rfl), ↓(X_aload_n (k := 0) (pc' := 60) dX9_isAhead_59 rfl rfl), ↓(X_getR (pc' := 63) fl_9_63 dX9_isAhead_60 rfl), ↓(X_iconst (pc' := 64) dX9_isAhead_63 rfl), ↓(X_iaload (pc' := 65) dX9_isAhead_64 rfl), ↓(X_icmp_ne (tgt := 82) (pc' := 68) dX9_isAhead_65 (by decide) rfl), rn_0, gV_s, ↓pI_c, ↓pII_c, ↓pL_c, ↓pLL_c, ↓pR_c, ↓pRI_c, ↓pRII_c, ↓pRIL_c, ↓pRR_c, ↓pV_c, ↓pVV_c, ↓gI_c, ↓gL_c, ↓gR_c, f2_0, f2_1, nk_n, nk_i, nk_r, ↓reduceIte, r32, r64, Nat.reduceAdd, Nat.reduceSub, Nat.reduceEqDiff, Nat.reduceLT, Nat.reduceLeDiff, Nat.reduceBEq, Int.reduceAdd, Int.reduceSub, Int.reduceMul, Int.reduceNeg, Int.reduceToNat, Int.reduceLE, Int.reduceLT, Int.reduceEq, Int.reduceNatCast', Int.reduceNatCast, Int.natCast_zero, Int.toNat_natCast, Int.toNat_zero, Int.toNat_one, List.length_cons, List.length_nil, true_and, and_true, and_self, true_or, or_true, false_or, or_false, Bool.not_true, Bool.not_false, Nat.lt_add_one, Nat.zero_lt_succ, N0, swL_n, swL_c, List.toList_toArray, false_implies, true_implies, implies_true, forall_const, not_false_eq_true, not_true_eq_false, and_false, false_and, rb, r1, p3, p4]
        simp only [hK9]
        clear hK9 K9v
        refine J_rnG GM_fa (by omega) (by omega) (by omega) 1 _ _ _ _ (fun K9v hK9 => ?_)
        simp (maxSteps := 4000000) only [↓(X_iconst (pc' := 83) dX9_isAhead_82 rfl), rn_0, gV_s, ↓pI_c, ↓pII_c, ↓pL_c, ↓pLL_c, ↓pR_c, ↓pRI_c, ↓pRII_c, ↓pRIL_c, ↓pRR_c, ↓pV_c, ↓pVV_c, ↓gI_c, ↓gL_c, ↓gR_c, f2_0, f2_1, nk_n, nk_i, nk_r, ↓reduceIte, r32, r64, Nat.reduceAdd, Nat.reduceSub, Nat.reduceEqDiff, Nat.reduceLT, Nat.reduceLeDiff, Nat.reduceBEq, Int.reduceAdd, Int.reduceSub, Int.reduceMul, Int.reduceNeg, Int.reduceToNat, Int.reduceLE, Int.reduceLT, Int.reduceEq, Int.reduceNatCast', Int.reduceNatCast, Int.natCast_zero, Int.toNat_natCast, Int.toNat_zero, Int.toNat_one, List.length_cons, List.length_nil, true_and, and_true, and_self, true_or, or_true, false_or, or_false, Bool.not_true, Bool.not_false, Nat.lt_add_one, Nat.zero_lt_succ, N0, swL_n, swL_c, List.toList_toArray, false_implies, true_implies, implies_true, forall_const, not_false_eq_true, not_true_eq_false, and_false, false_and]
        simp only [hK9]
        clear hK9 K9v
        refine J_zret dX9_isAhead_83 rfl (by first | exact Or.inl rfl | exact Or.inr rfl | omega) (by omega) (by omega) (⟨rfl, rfl⟩)
      · have p3 : ¬ b < M 464 1 := by omega
        have p4 : b = M 464 1 := by omega
        have p5 : ¬ c < M 464 2 := by omega
        refine J_rnG GM_fa (by omega) (by omega) (by omega) 6 _ _ _ _ (fun K9v hK9 => ?_)
        simp (maxSteps := 4000000) only [↓(X_iload (pc' := 2) dX9_isAhead_0 rfl), ↓gI_4, ↓(X_aload_n (k := 0) (pc' := 3) dX9_isAhead_2 rfl rfl), ↓gR_0, ↓(X_getR (pc' := 6) fl_9_63 dX9_isAhead_3 rfl), kd_447, ↓(gV_c r0_447_22), kd_464, ln_464, ↓(X_iconst (pc' := 7) dX9_isAhead_6 rfl), ↓(X_iaload (pc' := 8) dX9_isAhead_7 rfl), ↓(X_icmp_eq (tgt := 28) (pc' := 11) dX9_isAhead_8 (by decide) rfl), rn_0, gV_s, ↓pI_c, ↓pII_c, ↓pL_c, ↓pLL_c, ↓pR_c, ↓pRI_c, ↓pRII_c, ↓pRIL_c, ↓pRR_c, ↓pV_c, ↓pVV_c, ↓gI_c, ↓gL_c, ↓gR_c, f2_0, f2_1, nk_n, nk_i, nk_r, ↓reduceIte, r32, r64, Nat.reduceAdd, Nat.reduceSub, Nat.reduceEqDiff, Nat.reduceLT, Nat.reduceLeDiff, Nat.reduceBEq, Int.reduceAdd, Int.reduceSub, Int.reduceMul, Int.reduceNeg, Int.reduceToNat, Int.reduceLE, Int.reduceLT, Int.reduceEq, Int.reduceNatCast', Int.reduceNatCast, Int.natCast_zero, Int.toNat_natCast, Int.toNat_zero, Int.toNat_one, List.length_cons, List.length_nil, true_and, and_true, and_self, true_or, or_true, false_or, or_false, Bool.not_true, Bool.not_false, Nat.lt_add_one, Nat.zero_lt_succ, N0, swL_n, swL_c, List.toList_toArray, false_implies, true_implies, implies_true, forall_const, not_false_eq_true, not_true_eq_false, and_false, false_and, rt, r5, q1]
        simp only [hK9]
        clear hK9 K9v
        refine J_rnG GM_fa (by omega) (by omega) (by omega) 12 _ _ _ _ (fun K9v hK9 => ?_)
        simp (maxSteps := 4000000) only [↓(X_iload_n (k := 1) (pc' := 29) dX9_isAhead_28 rfl rfl), ↓gI_1, ↓(X_aload_n (k := 0) (pc' := 30) dX9_isAhead_29 rfl rfl), ↓gR_0, ↓(X_getR (pc' := 33) fl_9_63 dX9_isAhead_30 rfl), kd_447, ↓(gV_c r0_447_22), kd_464, ln_464, ↓(X_iconst (pc' := 34) dX9_isAhead_33 rfl), ↓(X_iaload (pc' := 35) dX9_isAhead_34 rfl), ↓(X_icmp_lt (tgt := 78) (pc' := 38) dX9_isAhead_35 (by decide) rfl), ↓(X_iload_n (k := 1) (pc' := 39) dX9_isAhead_38 rfl rfl), ↓(X_aload_n (k := 0) (pc' := 40) dX9_isAhead_39 rfl rfl), ↓(X_getR (pc' := 43) fl_9_63 dX9_isAhead_40 rfl), ↓(X_iconst (pc' := 44) dX9_isAhead_43 rfl), ↓(X_iaload (pc' := 45) dX9_isAhead_44 rfl), ↓(X_icmp_ne (tgt := 82) (pc' := 48) dX9_isAhead_45 (by decide) rfl), rn_0, gV_s, ↓pI_c, ↓pII_c, ↓pL_c, ↓pLL_c, ↓pR_c, ↓pRI_c, ↓pRII_c, ↓pRIL_c, ↓pRR_c, ↓pV_c, ↓pVV_c, ↓gI_c, ↓gL_c, ↓gR_c, f2_0, f2_1, nk_n, nk_i, nk_r, ↓reduceIte, r32, r64, Nat.reduceAdd, Nat.reduceSub, Nat.reduceEqDiff, Nat.reduceLT, Nat.reduceLeDiff, Nat.reduceBEq, Int.reduceAdd, Int.reduceSub, Int.reduceMul, Int.reduceNeg, Int.reduceToNat, Int.reduceLE, Int.reduceLT, Int.reduceEq, Int.reduceNatCast', Int.reduceNatCast, Int.natCast_zero, Int.toNat_natCast, Int.toNat_zero, Int.toNat_one, List.length_cons, List.length_nil, true_and, and_true, and_self, true_or, or_true, false_or, or_false, Bool.not_true, Bool.not_false, Nat.lt_add_one, Nat.zero_lt_succ, N0, swL_n, swL_c, List.toList_toArray, false_implies, true_implies, implies_true, forall_const, not_false_eq_true, not_true_eq_false, and_false, false_and, ra, r0, p2, Int.lt_irrefl]
        simp only [hK9]
        clear hK9 K9v
        refine J_rnG GM_fa (by omega) (by omega) (by omega) 12 _ _ _ _ (fun K9v hK9 => ?_)
        simp (maxSteps := 4000000) only [↓(X_iload_n (k := 2) (pc' := 49) dX9_isAhead_48 rfl rfl), ↓gI_2, ↓(X_aload_n (k := 0) (pc' := 50) dX9_isAhead_49 rfl rfl), ↓gR_0, ↓(X_getR (pc' := 53) fl_9_63 dX9_isAhead_50 rfl), kd_447, ↓(gV_c r0_447_22), kd_464, ln_464, ↓(X_iconst (pc' := 54) dX9_isAhead_53 rfl), ↓(X_iaload (pc' := 55) dX9_isAhead_54 rfl), ↓(X_icmp_lt (tgt := 78) (pc' := 58) dX9_isAhead_55 (by decide) rfl), ↓(X_iload_n (k := 2) (pc' := 59) dX9_isAhead_58 rfl rfl), ↓(X_aload_n (k := 0) (pc' := 60) dX9_isAhead_59 rfl rfl), ↓(X_getR (pc' := 63) fl_9_63 dX9_isAhead_60 rfl), ↓(X_iconst (pc' := 64) dX9_isAhead_63 rfl), ↓(X_iaload (pc' := 65) dX9_isAhead_64 rfl), ↓(X_icmp_ne (tgt := 82) (pc' := 68) dX9_isAhead_65 (by decide) rfl), rn_0, gV_s, ↓pI_c, ↓pII_c, ↓pL_c, ↓pLL_c, ↓pR_c, ↓pRI_c, ↓pRII_c, ↓pRIL_c, ↓pRR_c, ↓pV_c, ↓pVV_c, ↓gI_c, ↓gL_c, ↓gR_c, f2_0, f2_1, nk_n, nk_i, nk_r, ↓reduceIte, r32, r64, Nat.reduceAdd, Nat.reduceSub, Nat.reduceEqDiff, Nat.reduceLT, Nat.reduceLeDiff, Nat.reduceBEq, Int.reduceAdd, Int.reduceSub, Int.reduceMul, Int.reduceNeg, Int.reduceToNat, Int.reduceLE, Int.reduceLT, Int.reduceEq, Int.reduceNatCast', Int.reduceNatCast, Int.natCast_zero, Int.toNat_natCast, Int.toNat_zero, Int.toNat_one, List.length_cons, List.length_nil, true_and, and_true, and_self, true_or, or_true, false_or, or_false, Bool.not_true, Bool.not_false, Nat.lt_add_one, Nat.zero_lt_succ, N0, swL_n, swL_c, List.toList_toArray, false_implies, true_implies, implies_true, forall_const, not_false_eq_true, not_true_eq_false, and_false, false_and, rb, r1, p4, Int.lt_irrefl]
        simp only [hK9]
        clear hK9 K9v
        refine J_rnG GM_fa (by omega) (by omega) (by omega) 6 _ _ _ _ (fun K9v hK9 => ?_)
        simp (maxSteps := 4000000) only [↓(X_iload_n (k := 3) (pc' := 69) dX9_isAhead_68 rfl rfl), ↓gI_3, ↓(X_aload_n (k := 0) (pc' := 70) dX9_isAhead_69 rfl rfl), ↓gR_0, ↓(X_getR (pc' := 73) fl_9_63 dX9_isAhead_70 rfl), kd_447, ↓(gV_c r0_447_22), kd_464, ln_464, ↓(X_iconst (pc' := 74) dX9_isAhead_73 rfl), ↓(X_iaload (pc' := 75) dX9_isAhead_74 rfl), ↓(X_icmp_ge (tgt := 82) (pc' := 78) dX9_isAhead_75 (by decide) rfl), rn_0, gV_s, ↓pI_c, ↓pII_c, ↓pL_c, ↓pLL_c, ↓pR_c, ↓pRI_c, ↓pRII_c, ↓pRIL_c, ↓pRR_c, ↓pV_c, ↓pVV_c, ↓gI_c, ↓gL_c, ↓gR_c, f2_0, f2_1, nk_n, nk_i, nk_r, ↓reduceIte, r32, r64, Nat.reduceAdd, Nat.reduceSub, Nat.reduceEqDiff, Nat.reduceLT, Nat.reduceLeDiff, Nat.reduceBEq, Int.reduceAdd, Int.reduceSub, Int.reduceMul, Int.reduceNeg, Int.reduceToNat, Int.reduceLE, Int.reduceLT, Int.reduceEq, Int.reduceNatCast', Int.reduceNatCast, Int.natCast_zero, Int.toNat_natCast, Int.toNat_zero, Int.toNat_one, List.length_cons, List.length_nil, true_and, and_true, and_self, true_or, or_true, false_or, or_false, Bool.not_true, Bool.not_false, Nat.lt_add_one, Nat.zero_lt_succ, N0, swL_n, swL_c, List.toList_toArray, false_implies, true_implies, implies_true, forall_const, not_false_eq_true, not_true_eq_false, and_false, false_and, rc, r2, p5]
        simp only [hK9]
        clear hK9 K9v
        refine J_rnG GM_fa (by omega) (by omega) (by omega) 1 _ _ _ _ (fun K9v hK9 => ?_)
        simp (maxSteps := 4000000) only [↓(X_iconst (pc' := 83) dX9_isAhead_82 rfl), rn_0, gV_s, ↓pI_c, ↓pII_c, ↓pL_c, ↓pLL_c, ↓pR_c, ↓pRI_c, ↓pRII_c, ↓pRIL_c, ↓pRR_c, ↓pV_c, ↓pVV_c, ↓gI_c, ↓gL_c, ↓gR_c, f2_0, f2_1, nk_n, nk_i, nk_r, ↓reduceIte, r32, r64, Nat.reduceAdd, Nat.reduceSub, Nat.reduceEqDiff, Nat.reduceLT, Nat.reduceLeDiff, Nat.reduceBEq, Int.reduceAdd, Int.reduceSub, Int.reduceMul, Int.reduceNeg, Int.reduceToNat, Int.reduceLE, Int.reduceLT, Int.reduceEq, Int.reduceNatCast', Int.reduceNatCast, Int.natCast_zero, Int.toNat_natCast, Int.toNat_zero, Int.toNat_one, List.length_cons, List.length_nil, true_and, and_true, and_self, true_or, or_true, false_or, or_false, Bool.not_true, Bool.not_false, Nat.lt_add_one, Nat.zero_lt_succ, N0, swL_n, swL_c, List.toList_toArray, false_implies, true_implies, implies_true, forall_const, not_false_eq_true, not_true_eq_false, and_false, false_and]
        simp only [hK9]
        clear hK9 K9v
        refine J_zret dX9_isAhead_83 rfl (by first | exact Or.inl rfl | exact Or.inr rfl | omega) (by omega) (by omega) (⟨rfl, rfl⟩)
end MC
