/-! all the tenths of the bases -/
def loopN {σ : Type} (f : Nat → σ → σ) : Nat → Nat → σ → σ
  | 0, _, s => s
  | k + 1, i, s => loopN f k (i + 1) (f i s)
theorem loopN_id {σ : Type} {f : Nat → σ → σ} : ∀ (k i : Nat) (s : σ), (∀ j, i ≤ j → j < i + k → f j s = s) → loopN f k i s = s
  | 0, _, _, _ => rfl
  | k + 1, i, s, h => by
    rw [loopN, h i (Nat.le_refl i) (by omega)]
    exact loopN_id k (i + 1) s (fun j h1 h2 => h j (by omega) (by omega))
def tri (a b c e : Int) : Nat → Int := fun k => if k = 0 then a else if k = 1 then b else if k = 2 then c else e
def candS (mo : Nat → Int) (Gf : (Nat → Int) → Int) (tt tin a b c e : Int) (s : Nat → Int) : Nat → Int := if a ≤ mo 0 ∧ b ≤ mo 1 ∧ c ≤ mo 2 ∧ e ≤ mo 3 then stepS (Gf (tri a b c e)) tt tin a b c e s else s
def bas3 {σ : Type} (cand : Int → Int → Int → Int → σ → σ) (left a b : Nat) : Nat → σ → σ := fun c s => cand a b c ((left : Int) - a - b - c) s
def bas2 {σ : Type} (cand : Int → Int → Int → Int → σ → σ) (left a : Nat) : Nat → σ → σ := fun b s => loopN (bas3 cand left a b) (left + 1 - a - b) 0 s
def bas1 {σ : Type} (cand : Int → Int → Int → Int → σ → σ) (left : Nat) : Nat → σ → σ := fun a s => loopN (bas2 cand left a) (left + 1 - a) 0 s
def basesS {σ : Type} (cand : Int → Int → Int → Int → σ → σ) (left : Nat) (s : σ) : σ := loopN (bas1 cand left) (left + 1) 0 s
theorem wpC_congr {C : Nat → Nat → Int} {m m' : Nat → Int} (h : ∀ b, b < 4 → m b = m' b) (p : Nat) : wpC C m p = wpC C m' p := by
  simp only [wpC, h 0 (by omega), h 1 (by omega), h 2 (by omega), h 3 (by omega)]
theorem gapC_congr {C : Nat → Nat → Int} {W : Nat → Int} {u : Int} {TP m m' : Nat → Int} (h : ∀ b, b < 4 → m b = m' b) : gapC C W u TP m = gapC C W u TP m' := by
  simp only [gapC, gpC, wpC_congr h]
def sOK (s : Nat → Int) : Prop := -1 ≤ s 1 ∧ s 1 ≤ 300 ∧ (s 0 = 0 ∨ s 0 = 1)
theorem gapC_nn {C : Nat → Nat → Int} {W : Nat → Int} {u : Int} {TP m : Nat → Int} : 0 ≤ gapC C W u TP m := by
  simp only [gapC, gpC]
  omega
theorem sOK_step {G tt tin a b c e : Int} {s : Nat → Int} (hG : 0 ≤ G) (h : sOK s) : sOK (stepS G tt tin a b c e s) := by
  unfold stepS
  split
  · obtain ⟨h1, h2, h3⟩ := h
    simp only [sOK, rec9]
    simp
    omega
  · exact h
/-- what stays while the bases are tried -/
def bM (M0 M : Nat → Nat → Int) (s : Nat → Int) : Prop := (∀ x, x ≠ 79 → x ≠ 80 → x ≠ 81 → x ≠ 87 → M x = M0 x) ∧ (∀ k, k ≠ 6 → k ≠ 7 → M 79 k = M0 79 k) ∧ RS M s ∧ sOK s
/-- what trying the bases needs of the start -/
def bOK (M0 : Nat → Nat → Int) (i : Nat) (u : Int) : Prop := i < 16 ∧ M0 (367 + 5 * i) 3 / 10 * 1000 = u ∧ (0 ≤ M0 (367 + 5 * i) 3 ∧ M0 (367 + 5 * i) 3 ≤ 500) ∧ 1000 ≤ u ∧ u ≤ 50000 ∧ (∀ p, p < 3 → 0 ≤ M0 88 p ∧ M0 88 p ≤ 50000000) ∧ okC (fun b => M0 (3 + b)) ∧ col3 (M0 (368 + 5 * i)) ∧ (∀ b, b < 4 → 0 ≤ M0 86 b ∧ M0 86 b ≤ 100000000)
def gf0 (M0 : Nat → Nat → Int) (i : Nat) (u : Int) : (Nat → Int) → Int := gapC (fun b => M0 (3 + b)) (M0 (368 + 5 * i)) u (M0 88)
def cand0 (M0 : Nat → Nat → Int) (i : Nat) (u tt tin : Int) : Int → Int → Int → Int → (Nat → Int) → (Nat → Int) := candS (M0 86) (gf0 M0 i u) tt tin
section C5
variable {l : Launch} {D : va_G} {cy : Nat → ClassId}
set_option maxRecDepth 100000 in
set_option maxHeartbeats 4000000 in
theorem ok_tb3 {M0 : Nat → Nat → Int} {Φ : Out → Mem → Prop} (d i left a b : Nat) (u tt tin : Int) (hB : bOK M0 i u) (hl : left ≤ 10) (hab : a + b ≤ left) (ha : (a : Int) ≤ M0 86 0) (hb : (b : Int) ≤ M0 86 1) : ∀ (k c : Nat) (M : Nat → Nat → Int) (s : Nat → Int), a + b + c + k = left + 1 → bM M0 M s →
    (∀ (M' : Nat → Nat → Int) (z : Int), bM M0 M' (loopN (bas3 (cand0 M0 i u tt tin) left a b) k c s) → J l D cy (GM l D cy 5 cX5_tryBases 9 (d + 5) 0 0 false none Φ) 150 [some (.inr (.inr (some 79))), some (.inr (.inr (some (367 + 5 * i)))), some (.inr (.inr (some 1))), some (.inl tin), some (.inl tt), some (.inl (left : Int)), some (.inl (a : Int)), some (.inl (b : Int)), some (.inl z)] [] (449, R0, M') 0 0) →
    J l D cy (GM l D cy 5 cX5_tryBases 9 (d + 5) 0 0 false none Φ) 55 [some (.inr (.inr (some 79))), some (.inr (.inr (some (367 + 5 * i)))), some (.inr (.inr (some 1))), some (.inl tin), some (.inl tt), some (.inl (left : Int)), some (.inl (a : Int)), some (.inl (b : Int)), some (.inl (c : Int))] [] (449, R0, M) 0 0 := by
  obtain ⟨hi, hu, hg, hu1, hu2, hTP, hC, hW, hmo⟩ := id hB
  have mo0 := hmo 0 (by omega)
  have mo1 := hmo 1 (by omega)
  have mo2 := hmo 2 (by omega)
  have mo3 := hmo 3 (by omega)
  intro k
  induction k with
  | zero =>
    intro c M s hk hM hfin
    have h1 : (left : Int) - (a : Int) - (b : Int) < (c : Int) := by omega
    have r1 : -2147483648 ≤ (c : Int) ∧ (c : Int) ≤ 2147483647 := by omega
    have r2 : -2147483648 ≤ (left : Int) - (a : Int) - (b : Int) ∧ (left : Int) - (a : Int) - (b : Int) ≤ 2147483647 := by omega
    refine J_rnG GM_fa (by omega) (by omega) (by omega) 7 _ _ _ _ (fun K9v hK9 => ?_)
    simp (maxSteps := 4000000) only [↓(X_iload (pc' := 57) dX5_tryBases_55 rfl), ↓gI_8, ↓(X_iload (pc' := 59) dX5_tryBases_57 rfl), ↓gI_5, ↓(X_iload (pc' := 61) dX5_tryBases_59 rfl), ↓gI_6, ↓(X_isub (pc' := 62) dX5_tryBases_61 rfl), ↓(X_iload (pc' := 64) dX5_tryBases_62 rfl), ↓gI_7, ↓(X_isub (pc' := 65) dX5_tryBases_64 rfl), ↓(X_icmp_gt (tgt := 150) (pc' := 68) dX5_tryBases_65 (by decide) rfl), rn_0, gV_s, ↓pI_c, ↓pII_c, ↓pL_c, ↓pLL_c, ↓pR_c, ↓pRI_c, ↓pRII_c, ↓pRIL_c, ↓pRR_c, ↓pV_c, ↓pVV_c, ↓gI_c, ↓gL_c, ↓gR_c, f2_0, f2_1, nk_n, nk_i, nk_r, ↓reduceIte, r32, r64, Nat.reduceAdd, Nat.reduceSub, Nat.reduceEqDiff, Nat.reduceLT, Nat.reduceLeDiff, Nat.reduceBEq, Int.reduceAdd, Int.reduceSub, Int.reduceMul, Int.reduceNeg, Int.reduceToNat, Int.reduceLE, Int.reduceLT, Int.reduceEq, Int.reduceNatCast', Int.reduceNatCast, Int.natCast_zero, Int.toNat_natCast, Int.toNat_zero, Int.toNat_one, List.length_cons, List.length_nil, true_and, and_true, and_self, true_or, or_true, false_or, or_false, Bool.not_true, Bool.not_false, Nat.lt_add_one, Nat.zero_lt_succ, N0, swL_n, swL_c, List.toList_toArray, false_implies, true_implies, implies_true, forall_const, not_false_eq_true, not_true_eq_false, and_false, false_and, h1, r1, r2]
    simp only [hK9]
    clear hK9 K9v
    exact hfin M _ hM
  | succ k ih =>
    intro c M s hk hM hfin
    obtain ⟨m1, m2, m3, m4⟩ := id hM
    have e86 : M 86 = M0 86 := m1 86 (by decide) (by decide) (by decide) (by decide)
    have h1 : ¬ (left : Int) - (a : Int) - (b : Int) < (c : Int) := by omega
    have r1 : -2147483648 ≤ (c : Int) ∧ (c : Int) ≤ 2147483647 := by omega
    have r2 : -2147483648 ≤ (left : Int) - (a : Int) - (b : Int) ∧ (left : Int) - (a : Int) - (b : Int) ≤ 2147483647 := by omega
    have r3 : -2147483648 ≤ M0 86 2 ∧ M0 86 2 ≤ 2147483647 := by omega
    have r4 : -2147483648 ≤ M0 86 3 ∧ M0 86 3 ≤ 2147483647 := by omega
    have r5 : -2147483648 ≤ (left : Int) - (a : Int) - (b : Int) - (c : Int) ∧ (left : Int) - (a : Int) - (b : Int) - (c : Int) ≤ 2147483647 := by omega
    refine J_rnG GM_fa (by omega) (by omega) (by omega) 13 _ _ _ _ (fun K9v hK9 => ?_)
    simp (maxSteps := 4000000) only [↓(X_iload (pc' := 57) dX5_tryBases_55 rfl), ↓gI_8, ↓(X_iload (pc' := 59) dX5_tryBases_57 rfl), ↓gI_5, ↓(X_iload (pc' := 61) dX5_tryBases_59 rfl), ↓gI_6, ↓(X_isub (pc' := 62) dX5_tryBases_61 rfl), ↓(X_iload (pc' := 64) dX5_tryBases_62 rfl), ↓gI_7, ↓(X_isub (pc' := 65) dX5_tryBases_64 rfl), ↓(X_icmp_gt (tgt := 150) (pc' := 68) dX5_tryBases_65 (by decide) rfl), ↓(X_iload (pc' := 70) dX5_tryBases_68 rfl), ↓(X_aload_n (k := 0) (pc' := 71) dX5_tryBases_70 rfl rfl), ↓gR_0, ↓(X_getR (pc' := 74) fl_5_29 dX5_tryBases_71 rfl), kd_79, ↓(gV_c r0_79_3), kd_86, ln_86, ↓(X_iconst (pc' := 75) dX5_tryBases_74 rfl), ↓(X_iaload (pc' := 76) dX5_tryBases_75 rfl), ↓(X_icmp_gt (tgt := 150) (pc' := 79) dX5_tryBases_76 (by decide) rfl), rn_0, gV_s, ↓pI_c, ↓pII_c, ↓pL_c, ↓pLL_c, ↓pR_c, ↓pRI_c, ↓pRII_c, ↓pRIL_c, ↓pRR_c, ↓pV_c, ↓pVV_c, ↓gI_c, ↓gL_c, ↓gR_c, f2_0, f2_1, nk_n, nk_i, nk_r, ↓reduceIte, r32, r64, Nat.reduceAdd, Nat.reduceSub, Nat.reduceEqDiff, Nat.reduceLT, Nat.reduceLeDiff, Nat.reduceBEq, Int.reduceAdd, Int.reduceSub, Int.reduceMul, Int.reduceNeg, Int.reduceToNat, Int.reduceLE, Int.reduceLT, Int.reduceEq, Int.reduceNatCast', Int.reduceNatCast, Int.natCast_zero, Int.toNat_natCast, Int.toNat_zero, Int.toNat_one, List.length_cons, List.length_nil, true_and, and_true, and_self, true_or, or_true, false_or, or_false, Bool.not_true, Bool.not_false, Nat.lt_add_one, Nat.zero_lt_succ, N0, swL_n, swL_c, List.toList_toArray, false_implies, true_implies, implies_true, forall_const, not_false_eq_true, not_true_eq_false, and_false, false_and, h1, r1, r2, r3, e86]
    simp only [hK9]
    clear hK9 K9v
    split
    · rename_i h
      refine hfin M _ ?_
      rw [loopN_id]
      · exact hM
      · intro j hj1 hj2
        simp only [bas3, cand0, candS]
        rw [if_neg]
        intro q
        have := q.2.2.1
        omega
    · rename_i h
      have e86' : ∀ (x : Nat → Nat → Int), True := fun _ => trivial
      refine J_rnG GM_fa (by omega) (by omega) (by omega) 35 _ _ _ _ (fun K9v hK9 => ?_)
      simp (maxSteps := 4000000) only [↓(X_aload_n (k := 0) (pc' := 80) dX5_tryBases_79 rfl rfl), ↓gR_0, ↓(X_getR (pc' := 83) fl_5_32 dX5_tryBases_80 rfl), kd_79, ↓(gV_c r0_79_4), kd_87, ln_87, ↓(X_iconst (pc' := 84) dX5_tryBases_83 rfl), ↓(X_iload (pc' := 86) dX5_tryBases_84 rfl), ↓gI_6, ↓(X_iastore (pc' := 87) dX5_tryBases_86 rfl), ↓(X_aload_n (k := 0) (pc' := 88) dX5_tryBases_87 rfl rfl), ↓(X_getR (pc' := 91) fl_5_32 dX5_tryBases_88 rfl), ↓(X_iconst (pc' := 92) dX5_tryBases_91 rfl), ↓(X_iload (pc' := 94) dX5_tryBases_92 rfl), ↓gI_7, ↓(X_iastore (pc' := 95) dX5_tryBases_94 rfl), ↓(X_aload_n (k := 0) (pc' := 96) dX5_tryBases_95 rfl rfl), ↓(X_getR (pc' := 99) fl_5_32 dX5_tryBases_96 rfl), ↓(X_iconst (pc' := 100) dX5_tryBases_99 rfl), ↓(X_iload (pc' := 102) dX5_tryBases_100 rfl), ↓gI_8, ↓(X_iastore (pc' := 103) dX5_tryBases_102 rfl), ↓(X_aload_n (k := 0) (pc' := 104) dX5_tryBases_103 rfl rfl), ↓(X_getR (pc' := 107) fl_5_32 dX5_tryBases_104 rfl), ↓(X_iconst (pc' := 108) dX5_tryBases_107 rfl), ↓(X_iload (pc' := 110) dX5_tryBases_108 rfl), ↓gI_5, ↓(X_iload (pc' := 112) dX5_tryBases_110 rfl), ↓(X_isub (pc' := 113) dX5_tryBases_112 rfl), ↓(X_iload (pc' := 115) dX5_tryBases_113 rfl), ↓(X_isub (pc' := 116) dX5_tryBases_115 rfl), ↓(X_iload (pc' := 118) dX5_tryBases_116 rfl), ↓(X_isub (pc' := 119) dX5_tryBases_118 rfl), ↓(X_iastore (pc' := 120) dX5_tryBases_119 rfl), ↓(X_aload_n (k := 0) (pc' := 121) dX5_tryBases_120 rfl rfl), ↓(X_getR (pc' := 124) fl_5_32 dX5_tryBases_121 rfl), ↓(X_iconst (pc' := 125) dX5_tryBases_124 rfl), ↓(X_iaload (pc' := 126) dX5_tryBases_125 rfl), ↓(X_aload_n (k := 0) (pc' := 127) dX5_tryBases_126 rfl rfl), ↓(X_getR (pc' := 130) fl_5_29 dX5_tryBases_127 rfl), ↓(gV_c r0_79_3), kd_86, ln_86, ↓(X_iconst (pc' := 131) dX5_tryBases_130 rfl), ↓(X_iaload (pc' := 132) dX5_tryBases_131 rfl), ↓(X_icmp_gt (tgt := 144) (pc' := 135) dX5_tryBases_132 (by decide) rfl), rn_0, gV_s, ↓pI_c, ↓pII_c, ↓pL_c, ↓pLL_c, ↓pR_c, ↓pRI_c, ↓pRII_c, ↓pRIL_c, ↓pRR_c, ↓pV_c, ↓pVV_c, ↓gI_c, ↓gL_c, ↓gR_c, f2_0, f2_1, nk_n, nk_i, nk_r, ↓reduceIte, r32, r64, Nat.reduceAdd, Nat.reduceSub, Nat.reduceEqDiff, Nat.reduceLT, Nat.reduceLeDiff, Nat.reduceBEq, Int.reduceAdd, Int.reduceSub, Int.reduceMul, Int.reduceNeg, Int.reduceToNat, Int.reduceLE, Int.reduceLT, Int.reduceEq, Int.reduceNatCast', Int.reduceNatCast, Int.natCast_zero, Int.toNat_natCast, Int.toNat_zero, Int.toNat_one, List.length_cons, List.length_nil, true_and, and_true, and_self, true_or, or_true, false_or, or_false, Bool.not_true, Bool.not_false, Nat.lt_add_one, Nat.zero_lt_succ, N0, swL_n, swL_c, List.toList_toArray, false_implies, true_implies, implies_true, forall_const, not_false_eq_true, not_true_eq_false, and_false, false_and, r4, r5, e86, up2_s, up2_k, ne_eq, up2_c (show (86 : Nat) ≠ 87 by decide)]
      simp only [hK9]
      clear hK9 K9v
      have hstep : ∀ M' : Nat → Nat → Int, bM M0 M' (bas3 (cand0 M0 i u tt tin) left a b c s) → J l D cy (GM l D cy 5 cX5_tryBases 9 (d + 5) 0 0 false none Φ) 144 [some (.inr (.inr (some 79))), some (.inr (.inr (some (367 + 5 * i)))), some (.inr (.inr (some 1))), some (.inl tin), some (.inl tt), some (.inl (left : Int)), some (.inl (a : Int)), some (.inl (b : Int)), some (.inl (c : Int))] [] (449, R0, M') 0 0 := by
        intro M' hM'
        refine J_rnG GM_fa (by omega) (by omega) (by omega) 2 _ _ _ _ (fun K9v hK9 => ?_)
        simp (maxSteps := 4000000) only [↓(X_iinc (pc' := 147) dX5_tryBases_144 rfl), ↓gI_8, ↓sto_8, ↓(X_goto (pc' := 55) dX5_tryBases_147 (by decide)), rn_0, gV_s, ↓pI_c, ↓pII_c, ↓pL_c, ↓pLL_c, ↓pR_c, ↓pRI_c, ↓pRII_c, ↓pRIL_c, ↓pRR_c, ↓pV_c, ↓pVV_c, ↓gI_c, ↓gL_c, ↓gR_c, f2_0, f2_1, nk_n, nk_i, nk_r, ↓reduceIte, r32, r64, Nat.reduceAdd, Nat.reduceSub, Nat.reduceEqDiff, Nat.reduceLT, Nat.reduceLeDiff, Nat.reduceBEq, Int.reduceAdd, Int.reduceSub, Int.reduceMul, Int.reduceNeg, Int.reduceToNat, Int.reduceLE, Int.reduceLT, Int.reduceEq, Int.reduceNatCast', Int.reduceNatCast, Int.natCast_zero, Int.toNat_natCast, Int.toNat_zero, Int.toNat_one, List.length_cons, List.length_nil, true_and, and_true, and_self, true_or, or_true, false_or, or_false, Bool.not_true, Bool.not_false, Nat.lt_add_one, Nat.zero_lt_succ, N0, swL_n, swL_c, List.toList_toArray, false_implies, true_implies, implies_true, forall_const, not_false_eq_true, not_true_eq_false, and_false, false_and]
        simp only [hK9]
        clear hK9 K9v
        have e1 : (c : Int) + 1 = ((c + 1 : Nat) : Int) := by omega
        rw [e1]
        exact ih (c + 1) M' _ (by omega) hM' hfin
      have hM1 : ∀ M' : Nat → Nat → Int, M' = up2 (up2 (up2 (up2 M 87 0 (a : Int)) 87 1 (b : Int)) 87 2 (c : Int)) 87 3 ((left : Int) - (a : Int) - (b : Int) - (c : Int)) → (∀ x, x ≠ 87 → M' x = M x) ∧ (∀ k, k < 4 → M' 87 k = tri a b c ((left : Int) - a - b - c) k) := by
        intro M' hM'
        subst hM'
        refine ⟨fun x hx => by funext k; simp [up2, hx], fun k hk => ?_⟩
        rcases (show k = 0 ∨ k = 1 ∨ k = 2 ∨ k = 3 by omega) with rfl | rfl | rfl | rfl <;> simp [up2, tri]
      obtain ⟨q1, q2⟩ := hM1 _ rfl
      generalize up2 (up2 (up2 (up2 M 87 0 (a : Int)) 87 1 (b : Int)) 87 2 (c : Int)) 87 3 ((left : Int) - (a : Int) - (b : Int) - (c : Int)) = M1 at q1 q2 ⊢
      have hM1b : bM M0 M1 s := by
        obtain ⟨s0, s1, s2, s3, s4, s5, s6, s7, s8⟩ := m3
        refine ⟨fun x g1 g2 g3 g4 => by rw [q1 x g4]; exact m1 x g1 g2 g3 g4, fun k g1 g2 => by rw [q1 79 (by decide)]; exact m2 k g1 g2, ?_, m4⟩
        simp only [RS, q1 79 (by decide), q1 80 (by decide), q1 81 (by decide)]
        exact ⟨s0, s1, s2, s3, s4, s5, s6, s7, s8⟩
      split
      · rename_i h3
        refine hstep M1 ?_
        have : bas3 (cand0 M0 i u tt tin) left a b c s = s := by
          simp only [bas3, cand0, candS]
          rw [if_neg]
          intro q
          have := q.2.2.2
          omega
        rw [this]
        exact hM1b
      · rename_i h3
        obtain ⟨n1, n2, n3, n4⟩ := id hM1b
        have e5 : ∀ x, x ≠ 79 → x ≠ 80 → x ≠ 81 → x ≠ 87 → M1 x = M0 x := n1
        obtain ⟨j1, j2⟩ := id hB
        have f1 : M1 (367 + 5 * i) = M0 (367 + 5 * i) := n1 _ (by omega) (by omega) (by omega) (by omega)
        have f2 : M1 (368 + 5 * i) = M0 (368 + 5 * i) := n1 _ (by omega) (by omega) (by omega) (by omega)
        have f3 : M1 88 = M0 88 := n1 _ (by decide) (by decide) (by decide) (by decide)
        have f4 : (fun b => M1 (3 + b)) 0 = (fun b => M0 (3 + b)) 0 ∧ (fun b => M1 (3 + b)) 1 = (fun b => M0 (3 + b)) 1 ∧ (fun b => M1 (3 + b)) 2 = (fun b => M0 (3 + b)) 2 ∧ (fun b => M1 (3 + b)) 3 = (fun b => M0 (3 + b)) 3 := ⟨n1 3 (by decide) (by decide) (by decide) (by decide), n1 4 (by decide) (by decide) (by decide) (by decide), n1 5 (by decide) (by decide) (by decide) (by decide), n1 6 (by decide) (by decide) (by decide) (by decide)⟩
        have hTr : trialOK M1 i u := by
          refine ⟨hi, by rw [f1]; exact hu, by rw [f1]; exact hg, hu1, hu2, by rw [f3]; exact hTP, ?_, ?_, by rw [f2]; exact hW, ?_⟩
          · simp only [tri4, q2 0 (by decide), q2 1 (by decide), q2 2 (by decide), q2 3 (by decide), tri]
            simp
            omega
          · intro x hx
            have := hC x hx
            rcases (show x = 0 ∨ x = 1 ∨ x = 2 ∨ x = 3 by omega) with rfl | rfl | rfl | rfl
            · rw [f4.1]; exact this
            · rw [f4.2.1]; exact this
            · rw [f4.2.2.1]; exact this
            · rw [f4.2.2.2]; exact this
          · rw [n3.2.1]; exact ⟨n4.1, n4.2.1⟩
        refine J_rnG GM_fa (by omega) (by omega) (by omega) 5 _ _ _ _ (fun K9v hK9 => ?_)
        simp (maxSteps := 4000000) only [↓(X_aload_n (k := 0) (pc' := 136) dX5_tryBases_135 rfl rfl), ↓gR_0, ↓(X_aload_n (k := 1) (pc' := 137) dX5_tryBases_136 rfl rfl), ↓gR_1, ↓(X_aload_n (k := 2) (pc' := 138) dX5_tryBases_137 rfl rfl), ↓gR_2, ↓(X_iload_n (k := 3) (pc' := 139) dX5_tryBases_138 rfl rfl), ↓gI_3, ↓(X_iload (pc' := 141) dX5_tryBases_139 rfl), ↓gI_4, rn_0, gV_s, ↓pI_c, ↓pII_c, ↓pL_c, ↓pLL_c, ↓pR_c, ↓pRI_c, ↓pRII_c, ↓pRIL_c, ↓pRR_c, ↓pV_c, ↓pVV_c, ↓gI_c, ↓gL_c, ↓gR_c, f2_0, f2_1, nk_n, nk_i, nk_r, ↓reduceIte, r32, r64, Nat.reduceAdd, Nat.reduceSub, Nat.reduceEqDiff, Nat.reduceLT, Nat.reduceLeDiff, Nat.reduceBEq, Int.reduceAdd, Int.reduceSub, Int.reduceMul, Int.reduceNeg, Int.reduceToNat, Int.reduceLE, Int.reduceLT, Int.reduceEq, Int.reduceNatCast', Int.reduceNatCast, Int.natCast_zero, Int.toNat_natCast, Int.toNat_zero, Int.toNat_one, List.length_cons, List.length_nil, true_and, and_true, and_self, true_or, or_true, false_or, or_false, Bool.not_true, Bool.not_false, Nat.lt_add_one, Nat.zero_lt_succ, N0, swL_n, swL_c, List.toList_toArray, false_implies, true_implies, implies_true, forall_const, not_false_eq_true, not_true_eq_false, and_false, false_and]
        simp only [hK9]
        clear hK9 K9v
        refine J_callV (ci := 5) GM_fa (ok_tryTrial (M := M1) (d + 0) i u tin tt s hTr n3) (by first | exact calm_det | assumption | (intro q9 ν9 h9; obtain ⟨h8, h6, M9, h7, -⟩ := h9; exact ⟨⟨_, h8⟩, by rw [h7]; rfl⟩) | (intro q9 ν9 h9; obtain ⟨h8, M9, h7, -⟩ := h9; first | exact ⟨⟨_, h8⟩, by rw [h7]; rfl⟩ | exact ⟨⟨_, h7⟩, by rw [h8]; rfl⟩ | exact ⟨⟨_, h7⟩, by rw [h8]⟩)) dX5_tryBases_141 k_5_106 (by omega) (Nat.le_of_ble_eq_true rfl) ⟨by omega, by omega⟩ rfl (by decide +kernel) rfl (by decide) (by simp only [N0]; omega) (by simp) rfl (fun v ν hv => ?_)
        obtain ⟨hv0, M2, rfl, w1, w2, w3⟩ := hv
        cases hv0
        simp only [Option.toList, List.nil_append]
        refine hstep M2 ?_
        have eG : gapC (fun b => M1 (3 + b)) (M1 (368 + 5 * i)) u (M1 88) (M1 87) = gf0 M0 i u (tri a b c ((left : Int) - a - b - c)) := by
          rw [gapC_congr (m' := tri a b c ((left : Int) - a - b - c)) q2, gf0, f2, f3]
          simp only [gapC, gpC, wpC]
          simp only [show M1 (3 + 0) = M0 (3 + 0) from f4.1, show M1 (3 + 1) = M0 (3 + 1) from f4.2.1, show M1 (3 + 2) = M0 (3 + 2) from f4.2.2.1, show M1 (3 + 3) = M0 (3 + 3) from f4.2.2.2]
        rw [eG, q2 0 (by decide), q2 1 (by decide), q2 2 (by decide), q2 3 (by decide)] at w3
        have ec : bas3 (cand0 M0 i u tt tin) left a b c s = stepS (gf0 M0 i u (tri a b c ((left : Int) - a - b - c))) tt tin a b c ((left : Int) - a - b - c) s := by
          simp only [bas3, cand0, candS]
          rw [if_pos ⟨ha, hb, by omega, by omega⟩]
        rw [ec]
        refine ⟨fun x g1 g2 g3 g4 => by rw [w1 x g1 g2 g3]; exact n1 x g1 g2 g3 g4, fun k g1 g2 => by rw [w2 k g1 g2]; exact n2 k g1 g2, w3, sOK_step gapC_nn n4⟩
set_option maxRecDepth 100000 in
set_option maxHeartbeats 4000000 in
theorem ok_tb2 {M0 : Nat → Nat → Int} {Φ : Out → Mem → Prop} (d i left a : Nat) (u tt tin : Int) (hB : bOK M0 i u) (hl : left ≤ 10) (hal : a ≤ left) (ha : (a : Int) ≤ M0 86 0) : ∀ (k b : Nat) (M : Nat → Nat → Int) (s : Nat → Int) (w8 : Option AV) (hw8 : nk w8), a + b + k = left + 1 → bM M0 M s →
    (∀ (M' : Nat → Nat → Int) (w7 w8 : Option AV), nk w7 → nk w8 → bM M0 M' (loopN (bas2 (cand0 M0 i u tt tin) left a) k b s) → J l D cy (GM l D cy 5 cX5_tryBases 9 (d + 5) 0 0 false none Φ) 156 [some (.inr (.inr (some 79))), some (.inr (.inr (some (367 + 5 * i)))), some (.inr (.inr (some 1))), some (.inl tin), some (.inl tt), some (.inl (left : Int)), some (.inl (a : Int)), w7, w8] [] (449, R0, M') 0 0) →
    J l D cy (GM l D cy 5 cX5_tryBases 9 (d + 5) 0 0 false none Φ) 31 [some (.inr (.inr (some 79))), some (.inr (.inr (some (367 + 5 * i)))), some (.inr (.inr (some 1))), some (.inl tin), some (.inl tt), some (.inl (left : Int)), some (.inl (a : Int)), some (.inl (b : Int)), w8] [] (449, R0, M) 0 0 := by
  obtain ⟨hi, hu, hg, hu1, hu2, hTP, hC, hW, hmo⟩ := id hB
  have mo1 := hmo 1 (by omega)
  intro k
  induction k with
  | zero =>
    intro b M s w8 hw8 hk hM hfin
    have h1 : (left : Int) - (a : Int) < (b : Int) := by omega
    have r1 : -2147483648 ≤ (b : Int) ∧ (b : Int) ≤ 2147483647 := by omega
    have r2 : -2147483648 ≤ (left : Int) - (a : Int) ∧ (left : Int) - (a : Int) ≤ 2147483647 := by omega
    refine J_rnG GM_fa (by omega) (by omega) (by omega) 5 _ _ _ _ (fun K9v hK9 => ?_)
    simp (maxSteps := 4000000) only [↓(X_iload (pc' := 33) dX5_tryBases_31 rfl), ↓gI_7, ↓(X_iload (pc' := 35) dX5_tryBases_33 rfl), ↓gI_5, ↓(X_iload (pc' := 37) dX5_tryBases_35 rfl), ↓gI_6, ↓(X_isub (pc' := 38) dX5_tryBases_37 rfl), ↓(X_icmp_gt (tgt := 156) (pc' := 41) dX5_tryBases_38 (by decide) rfl), rn_0, gV_s, ↓pI_c, ↓pII_c, ↓pL_c, ↓pLL_c, ↓pR_c, ↓pRI_c, ↓pRII_c, ↓pRIL_c, ↓pRR_c, ↓pV_c, ↓pVV_c, ↓gI_c, ↓gL_c, ↓gR_c, f2_0, f2_1, nk_n, nk_i, nk_r, ↓reduceIte, r32, r64, Nat.reduceAdd, Nat.reduceSub, Nat.reduceEqDiff, Nat.reduceLT, Nat.reduceLeDiff, Nat.reduceBEq, Int.reduceAdd, Int.reduceSub, Int.reduceMul, Int.reduceNeg, Int.reduceToNat, Int.reduceLE, Int.reduceLT, Int.reduceEq, Int.reduceNatCast', Int.reduceNatCast, Int.natCast_zero, Int.toNat_natCast, Int.toNat_zero, Int.toNat_one, List.length_cons, List.length_nil, true_and, and_true, and_self, true_or, or_true, false_or, or_false, Bool.not_true, Bool.not_false, Nat.lt_add_one, Nat.zero_lt_succ, N0, swL_n, swL_c, List.toList_toArray, false_implies, true_implies, implies_true, forall_const, not_false_eq_true, not_true_eq_false, and_false, false_and, h1, r1, r2]
    simp only [hK9]
    clear hK9 K9v
    exact hfin M _ _ (nk_i.mpr trivial) hw8 hM
  | succ k ih =>
    intro b M s w8 hw8 hk hM hfin
    obtain ⟨m1, m2, m3, m4⟩ := id hM
    have e86 : M 86 = M0 86 := m1 86 (by decide) (by decide) (by decide) (by decide)
    have h1 : ¬ (left : Int) - (a : Int) < (b : Int) := by omega
    have r1 : -2147483648 ≤ (b : Int) ∧ (b : Int) ≤ 2147483647 := by omega
    have r2 : -2147483648 ≤ (left : Int) - (a : Int) ∧ (left : Int) - (a : Int) ≤ 2147483647 := by omega
    have r3 : -2147483648 ≤ M0 86 1 ∧ M0 86 1 ≤ 2147483647 := by omega
    refine J_rnG GM_fa (by omega) (by omega) (by omega) 11 _ _ _ _ (fun K9v hK9 => ?_)
    simp (maxSteps := 4000000) only [↓(X_iload (pc' := 33) dX5_tryBases_31 rfl), ↓gI_7, ↓(X_iload (pc' := 35) dX5_tryBases_33 rfl), ↓gI_5, ↓(X_iload (pc' := 37) dX5_tryBases_35 rfl), ↓gI_6, ↓(X_isub (pc' := 38) dX5_tryBases_37 rfl), ↓(X_icmp_gt (tgt := 156) (pc' := 41) dX5_tryBases_38 (by decide) rfl), ↓(X_iload (pc' := 43) dX5_tryBases_41 rfl), ↓(X_aload_n (k := 0) (pc' := 44) dX5_tryBases_43 rfl rfl), ↓gR_0, ↓(X_getR (pc' := 47) fl_5_29 dX5_tryBases_44 rfl), kd_79, ↓(gV_c r0_79_3), kd_86, ln_86, ↓(X_iconst (pc' := 48) dX5_tryBases_47 rfl), ↓(X_iaload (pc' := 49) dX5_tryBases_48 rfl), ↓(X_icmp_gt (tgt := 156) (pc' := 52) dX5_tryBases_49 (by decide) rfl), rn_0, gV_s, ↓pI_c, ↓pII_c, ↓pL_c, ↓pLL_c, ↓pR_c, ↓pRI_c, ↓pRII_c, ↓pRIL_c, ↓pRR_c, ↓pV_c, ↓pVV_c, ↓gI_c, ↓gL_c, ↓gR_c, f2_0, f2_1, nk_n, nk_i, nk_r, ↓reduceIte, r32, r64, Nat.reduceAdd, Nat.reduceSub, Nat.reduceEqDiff, Nat.reduceLT, Nat.reduceLeDiff, Nat.reduceBEq, Int.reduceAdd, Int.reduceSub, Int.reduceMul, Int.reduceNeg, Int.reduceToNat, Int.reduceLE, Int.reduceLT, Int.reduceEq, Int.reduceNatCast', Int.reduceNatCast, Int.natCast_zero, Int.toNat_natCast, Int.toNat_zero, Int.toNat_one, List.length_cons, List.length_nil, true_and, and_true, and_self, true_or, or_true, false_or, or_false, Bool.not_true, Bool.not_false, Nat.lt_add_one, Nat.zero_lt_succ, N0, swL_n, swL_c, List.toList_toArray, false_implies, true_implies, implies_true, forall_const, not_false_eq_true, not_true_eq_false, and_false, false_and, h1, r1, r2, r3, e86]
    simp only [hK9]
    clear hK9 K9v
    split
    · rename_i h
      refine hfin M _ _ (nk_i.mpr trivial) hw8 ?_
      rw [loopN_id]
      · exact hM
      · intro j hj1 hj2
        simp only [bas2]
        refine loopN_id _ _ _ (fun j2 _ _ => ?_)
        simp only [bas3, cand0, candS]
        rw [if_neg]
        intro q
        have := q.2.1
        omega
    · rename_i h
      refine J_rnG GM_fa (by omega) (by omega) (by omega) 2 _ _ _ _ (fun K9v hK9 => ?_)
      simp (maxSteps := 4000000) only [↓(X_iconst (pc' := 53) dX5_tryBases_52 rfl), ↓(X_istore (pc' := 55) dX5_tryBases_53 rfl), ↓sto_8, rn_0, gV_s, ↓pI_c, ↓pII_c, ↓pL_c, ↓pLL_c, ↓pR_c, ↓pRI_c, ↓pRII_c, ↓pRIL_c, ↓pRR_c, ↓pV_c, ↓pVV_c, ↓gI_c, ↓gL_c, ↓gR_c, f2_0, f2_1, nk_n, nk_i, nk_r, ↓reduceIte, r32, r64, Nat.reduceAdd, Nat.reduceSub, Nat.reduceEqDiff, Nat.reduceLT, Nat.reduceLeDiff, Nat.reduceBEq, Int.reduceAdd, Int.reduceSub, Int.reduceMul, Int.reduceNeg, Int.reduceToNat, Int.reduceLE, Int.reduceLT, Int.reduceEq, Int.reduceNatCast', Int.reduceNatCast, Int.natCast_zero, Int.toNat_natCast, Int.toNat_zero, Int.toNat_one, List.length_cons, List.length_nil, true_and, and_true, and_self, true_or, or_true, false_or, or_false, Bool.not_true, Bool.not_false, Nat.lt_add_one, Nat.zero_lt_succ, N0, swL_n, swL_c, List.toList_toArray, false_implies, true_implies, implies_true, forall_const, not_false_eq_true, not_true_eq_false, and_false, false_and, hw8]
      simp only [hK9]
      clear hK9 K9v
      have := ok_tb3 (D := D) (cy := cy) (l := l) (Φ := Φ) d i left a b u tt tin hB hl (by omega) ha (by omega) (left + 1 - a - b) 0 M s (by omega) hM (fun M' z hM' => ?_)
      · exact this
      · refine J_rnG GM_fa (by omega) (by omega) (by omega) 2 _ _ _ _ (fun K9v hK9 => ?_)
        simp (maxSteps := 4000000) only [↓(X_iinc (pc' := 153) dX5_tryBases_150 rfl), ↓gI_7, ↓sto_7, ↓(X_goto (pc' := 31) dX5_tryBases_153 (by decide)), rn_0, gV_s, ↓pI_c, ↓pII_c, ↓pL_c, ↓pLL_c, ↓pR_c, ↓pRI_c, ↓pRII_c, ↓pRIL_c, ↓pRR_c, ↓pV_c, ↓pVV_c, ↓gI_c, ↓gL_c, ↓gR_c, f2_0, f2_1, nk_n, nk_i, nk_r, ↓reduceIte, r32, r64, Nat.reduceAdd, Nat.reduceSub, Nat.reduceEqDiff, Nat.reduceLT, Nat.reduceLeDiff, Nat.reduceBEq, Int.reduceAdd, Int.reduceSub, Int.reduceMul, Int.reduceNeg, Int.reduceToNat, Int.reduceLE, Int.reduceLT, Int.reduceEq, Int.reduceNatCast', Int.reduceNatCast, Int.natCast_zero, Int.toNat_natCast, Int.toNat_zero, Int.toNat_one, List.length_cons, List.length_nil, true_and, and_true, and_self, true_or, or_true, false_or, or_false, Bool.not_true, Bool.not_false, Nat.lt_add_one, Nat.zero_lt_succ, N0, swL_n, swL_c, List.toList_toArray, false_implies, true_implies, implies_true, forall_const, not_false_eq_true, not_true_eq_false, and_false, false_and]
        simp only [hK9]
        clear hK9 K9v
        have e1 : (b : Int) + 1 = ((b + 1 : Nat) : Int) := by omega
        rw [e1]
        exact ih (b + 1) M' _ _ (nk_i.mpr trivial) (by omega) hM' hfin
set_option maxRecDepth 100000 in
set_option maxHeartbeats 4000000 in
theorem ok_tb1 {M0 : Nat → Nat → Int} {Φ : Out → Mem → Prop} (d i left : Nat) (u tt tin : Int) (hB : bOK M0 i u) (hl : left ≤ 10) : ∀ (k a : Nat) (M : Nat → Nat → Int) (s : Nat → Int) (w7 w8 : Option AV) (hw7 : nk w7) (hw8 : nk w8), a + k = left + 1 → bM M0 M s →
    (∀ (M' : Nat → Nat → Int) (w6 w7 w8 : Option AV), bM M0 M' (loopN (bas1 (cand0 M0 i u tt tin) left) k a s) → J l D cy (GM l D cy 5 cX5_tryBases 9 (d + 5) 0 0 false none Φ) 162 [some (.inr (.inr (some 79))), some (.inr (.inr (some (367 + 5 * i)))), some (.inr (.inr (some 1))), some (.inl tin), some (.inl tt), some (.inl (left : Int)), w6, w7, w8] [] (449, R0, M') 0 0) →
    J l D cy (GM l D cy 5 cX5_tryBases 9 (d + 5) 0 0 false none Φ) 10 [some (.inr (.inr (some 79))), some (.inr (.inr (some (367 + 5 * i)))), some (.inr (.inr (some 1))), some (.inl tin), some (.inl tt), some (.inl (left : Int)), some (.inl (a : Int)), w7, w8] [] (449, R0, M) 0 0 := by
  obtain ⟨hi, hu, hg, hu1, hu2, hTP, hC, hW, hmo⟩ := id hB
  have mo0 := hmo 0 (by omega)
  intro k
  induction k with
  | zero =>
    intro a M s w7 w8 hw7 hw8 hk hM hfin
    have h1 : (left : Int) < (a : Int) := by omega
    have r1 : -2147483648 ≤ (a : Int) ∧ (a : Int) ≤ 2147483647 := by omega
    have r2 : -2147483648 ≤ (left : Int) ∧ (left : Int) ≤ 2147483647 := by omega
    refine J_rnG GM_fa (by omega) (by omega) (by omega) 3 _ _ _ _ (fun K9v hK9 => ?_)
    simp (maxSteps := 4000000) only [↓(X_iload (pc' := 12) dX5_tryBases_10 rfl), ↓gI_6, ↓(X_iload (pc' := 14) dX5_tryBases_12 rfl), ↓gI_5, ↓(X_icmp_gt (tgt := 162) (pc' := 17) dX5_tryBases_14 (by decide) rfl), rn_0, gV_s, ↓pI_c, ↓pII_c, ↓pL_c, ↓pLL_c, ↓pR_c, ↓pRI_c, ↓pRII_c, ↓pRIL_c, ↓pRR_c, ↓pV_c, ↓pVV_c, ↓gI_c, ↓gL_c, ↓gR_c, f2_0, f2_1, nk_n, nk_i, nk_r, ↓reduceIte, r32, r64, Nat.reduceAdd, Nat.reduceSub, Nat.reduceEqDiff, Nat.reduceLT, Nat.reduceLeDiff, Nat.reduceBEq, Int.reduceAdd, Int.reduceSub, Int.reduceMul, Int.reduceNeg, Int.reduceToNat, Int.reduceLE, Int.reduceLT, Int.reduceEq, Int.reduceNatCast', Int.reduceNatCast, Int.natCast_zero, Int.toNat_natCast, Int.toNat_zero, Int.toNat_one, List.length_cons, List.length_nil, true_and, and_true, and_self, true_or, or_true, false_or, or_false, Bool.not_true, Bool.not_false, Nat.lt_add_one, Nat.zero_lt_succ, N0, swL_n, swL_c, List.toList_toArray, false_implies, true_implies, implies_true, forall_const, not_false_eq_true, not_true_eq_false, and_false, false_and, h1, r1, r2]
    simp only [hK9]
    clear hK9 K9v
    exact hfin M _ _ _ hM
  | succ k ih =>
    intro a M s w7 w8 hw7 hw8 hk hM hfin
    obtain ⟨m1, m2, m3, m4⟩ := id hM
    have e86 : M 86 = M0 86 := m1 86 (by decide) (by decide) (by decide) (by decide)
    have h1 : ¬ (left : Int) < (a : Int) := by omega
    have r1 : -2147483648 ≤ (a : Int) ∧ (a : Int) ≤ 2147483647 := by omega
    have r2 : -2147483648 ≤ (left : Int) ∧ (left : Int) ≤ 2147483647 := by omega
    have r3 : -2147483648 ≤ M0 86 0 ∧ M0 86 0 ≤ 2147483647 := by omega
    refine J_rnG GM_fa (by omega) (by omega) (by omega) 9 _ _ _ _ (fun K9v hK9 => ?_)
    simp (maxSteps := 4000000) only [↓(X_iload (pc' := 12) dX5_tryBases_10 rfl), ↓gI_6, ↓(X_iload (pc' := 14) dX5_tryBases_12 rfl), ↓gI_5, ↓(X_icmp_gt (tgt := 162) (pc' := 17) dX5_tryBases_14 (by decide) rfl), ↓(X_iload (pc' := 19) dX5_tryBases_17 rfl), ↓(X_aload_n (k := 0) (pc' := 20) dX5_tryBases_19 rfl rfl), ↓gR_0, ↓(X_getR (pc' := 23) fl_5_29 dX5_tryBases_20 rfl), kd_79, ↓(gV_c r0_79_3), kd_86, ln_86, ↓(X_iconst (pc' := 24) dX5_tryBases_23 rfl), ↓(X_iaload (pc' := 25) dX5_tryBases_24 rfl), ↓(X_icmp_gt (tgt := 162) (pc' := 28) dX5_tryBases_25 (by decide) rfl), rn_0, gV_s, ↓pI_c, ↓pII_c, ↓pL_c, ↓pLL_c, ↓pR_c, ↓pRI_c, ↓pRII_c, ↓pRIL_c, ↓pRR_c, ↓pV_c, ↓pVV_c, ↓gI_c, ↓gL_c, ↓gR_c, f2_0, f2_1, nk_n, nk_i, nk_r, ↓reduceIte, r32, r64, Nat.reduceAdd, Nat.reduceSub, Nat.reduceEqDiff, Nat.reduceLT, Nat.reduceLeDiff, Nat.reduceBEq, Int.reduceAdd, Int.reduceSub, Int.reduceMul, Int.reduceNeg, Int.reduceToNat, Int.reduceLE, Int.reduceLT, Int.reduceEq, Int.reduceNatCast', Int.reduceNatCast, Int.natCast_zero, Int.toNat_natCast, Int.toNat_zero, Int.toNat_one, List.length_cons, List.length_nil, true_and, and_true, and_self, true_or, or_true, false_or, or_false, Bool.not_true, Bool.not_false, Nat.lt_add_one, Nat.zero_lt_succ, N0, swL_n, swL_c, List.toList_toArray, false_implies, true_implies, implies_true, forall_const, not_false_eq_true, not_true_eq_false, and_false, false_and, h1, r1, r2, r3, e86]
    simp only [hK9]
    clear hK9 K9v
    split
    · rename_i h
      refine hfin M _ _ _ ?_
      rw [loopN_id]
      · exact hM
      · intro j hj1 hj2
        simp only [bas1]
        refine loopN_id _ _ _ (fun j2 _ _ => ?_)
        simp only [bas2]
        refine loopN_id _ _ _ (fun j3 _ _ => ?_)
        simp only [bas3, cand0, candS]
        rw [if_neg]
        intro q
        have := q.1
        omega
    · rename_i h
      refine J_rnG GM_fa (by omega) (by omega) (by omega) 2 _ _ _ _ (fun K9v hK9 => ?_)
      simp (maxSteps := 4000000) only [↓(X_iconst (pc' := 29) dX5_tryBases_28 rfl), ↓(X_istore (pc' := 31) dX5_tryBases_29 rfl), ↓sto_7, rn_0, gV_s, ↓pI_c, ↓pII_c, ↓pL_c, ↓pLL_c, ↓pR_c, ↓pRI_c, ↓pRII_c, ↓pRIL_c, ↓pRR_c, ↓pV_c, ↓pVV_c, ↓gI_c, ↓gL_c, ↓gR_c, f2_0, f2_1, nk_n, nk_i, nk_r, ↓reduceIte, r32, r64, Nat.reduceAdd, Nat.reduceSub, Nat.reduceEqDiff, Nat.reduceLT, Nat.reduceLeDiff, Nat.reduceBEq, Int.reduceAdd, Int.reduceSub, Int.reduceMul, Int.reduceNeg, Int.reduceToNat, Int.reduceLE, Int.reduceLT, Int.reduceEq, Int.reduceNatCast', Int.reduceNatCast, Int.natCast_zero, Int.toNat_natCast, Int.toNat_zero, Int.toNat_one, List.length_cons, List.length_nil, true_and, and_true, and_self, true_or, or_true, false_or, or_false, Bool.not_true, Bool.not_false, Nat.lt_add_one, Nat.zero_lt_succ, N0, swL_n, swL_c, List.toList_toArray, false_implies, true_implies, implies_true, forall_const, not_false_eq_true, not_true_eq_false, and_false, false_and, hw7]
      simp only [hK9]
      clear hK9 K9v
      have := ok_tb2 (D := D) (cy := cy) (l := l) (Φ := Φ) d i left a u tt tin hB hl (by omega) (by omega) (left + 1 - a) 0 M s w8 hw8 (by omega) hM (fun M' w7 w8 hw7 hw8 hM' => ?_)
      · exact this
      · refine J_rnG GM_fa (by omega) (by omega) (by omega) 2 _ _ _ _ (fun K9v hK9 => ?_)
        simp (maxSteps := 4000000) only [↓(X_iinc (pc' := 159) dX5_tryBases_156 rfl), ↓gI_6, ↓sto_6, ↓(X_goto (pc' := 10) dX5_tryBases_159 (by decide)), rn_0, gV_s, ↓pI_c, ↓pII_c, ↓pL_c, ↓pLL_c, ↓pR_c, ↓pRI_c, ↓pRII_c, ↓pRIL_c, ↓pRR_c, ↓pV_c, ↓pVV_c, ↓gI_c, ↓gL_c, ↓gR_c, f2_0, f2_1, nk_n, nk_i, nk_r, ↓reduceIte, r32, r64, Nat.reduceAdd, Nat.reduceSub, Nat.reduceEqDiff, Nat.reduceLT, Nat.reduceLeDiff, Nat.reduceBEq, Int.reduceAdd, Int.reduceSub, Int.reduceMul, Int.reduceNeg, Int.reduceToNat, Int.reduceLE, Int.reduceLT, Int.reduceEq, Int.reduceNatCast', Int.reduceNatCast, Int.natCast_zero, Int.toNat_natCast, Int.toNat_zero, Int.toNat_one, List.length_cons, List.length_nil, true_and, and_true, and_self, true_or, or_true, false_or, or_false, Bool.not_true, Bool.not_false, Nat.lt_add_one, Nat.zero_lt_succ, N0, swL_n, swL_c, List.toList_toArray, false_implies, true_implies, implies_true, forall_const, not_false_eq_true, not_true_eq_false, and_false, false_and]
        simp only [hK9]
        clear hK9 K9v
        have e1 : (a : Int) + 1 = ((a + 1 : Nat) : Int) := by omega
        rw [e1]
        exact ih (a + 1) M' _ _ _ hw7 hw8 (by omega) hM' hfin
set_option maxRecDepth 100000 in
set_option maxHeartbeats 4000000 in
theorem ok_tryBases {M : Nat → Nat → Int} (d i t : Nat) (u tin : Int) (s : Nat → Int) (hB : bOK M i u) (ht : t ≤ 10) (hs : RS M s) (hs2 : sOK s) : Ok l D cy (d + 5) 0 0 yX5_tryBases cX5_tryBases 9 (none) [.inr (.inr (some (79))), .inr (.inr (some (367 + 5 * i))), .inr (.inr (some (1))), .inl (tin), .inl ((t : Int))] (N0, R0, M) (fun o ν => o = .inl none ∧ ∃ M2 : Nat → Nat → Int, ν = (N0, R0, M2) ∧ bM M M2 (basesS (cand0 M i u (t : Int) tin) (10 - t) s)) := by
  refine Ok.intro (o := 5) (ini := false) [some (.inr (.inr (some (79)))), some (.inr (.inr (some (367 + 5 * i)))), some (.inr (.inr (some (1)))), some (.inl (tin)), some (.inl ((t : Int))), none, none, none, none] (by decide +kernel) rfl (fun h => by cases h) rfl (Nat.le_of_ble_eq_true rfl) rfl ?_
  refine J_rnG GM_fa (by omega) (by omega) (by omega) 6 _ _ _ _ (fun K9v hK9 => ?_)
  simp (maxSteps := 4000000) only [↓(X_bipush (pc' := 2) dX5_tryBases_0 rfl), ↓(X_iload (pc' := 4) dX5_tryBases_2 rfl), ↓gI_4, ↓(X_isub (pc' := 5) dX5_tryBases_4 rfl), ↓(X_istore (pc' := 7) dX5_tryBases_5 rfl), ↓sto_5, ↓(X_iconst (pc' := 8) dX5_tryBases_7 rfl), ↓(X_istore (pc' := 10) dX5_tryBases_8 rfl), ↓sto_6, rn_0, gV_s, ↓pI_c, ↓pII_c, ↓pL_c, ↓pLL_c, ↓pR_c, ↓pRI_c, ↓pRII_c, ↓pRIL_c, ↓pRR_c, ↓pV_c, ↓pVV_c, ↓gI_c, ↓gL_c, ↓gR_c, f2_0, f2_1, nk_n, nk_i, nk_r, ↓reduceIte, r32, r64, Nat.reduceAdd, Nat.reduceSub, Nat.reduceEqDiff, Nat.reduceLT, Nat.reduceLeDiff, Nat.reduceBEq, Int.reduceAdd, Int.reduceSub, Int.reduceMul, Int.reduceNeg, Int.reduceToNat, Int.reduceLE, Int.reduceLT, Int.reduceEq, Int.reduceNatCast', Int.reduceNatCast, Int.natCast_zero, Int.toNat_natCast, Int.toNat_zero, Int.toNat_one, List.length_cons, List.length_nil, true_and, and_true, and_self, true_or, or_true, false_or, or_false, Bool.not_true, Bool.not_false, Nat.lt_add_one, Nat.zero_lt_succ, N0, swL_n, swL_c, List.toList_toArray, false_implies, true_implies, implies_true, forall_const, not_false_eq_true, not_true_eq_false, and_false, false_and]
  simp only [hK9]
  clear hK9 K9v
  have e1 : (10 : Int) - (t : Int) = ((10 - t : Nat) : Int) := by omega
  rw [e1]
  have := ok_tb1 (D := D) (cy := cy) (l := l) (Φ := fun o ν => o = .inl none ∧ ∃ M2 : Nat → Nat → Int, ν = (N0, R0, M2) ∧ bM M M2 (basesS (cand0 M i u (t : Int) tin) (10 - t) s)) d i (10 - t) u (t : Int) tin hB (by omega) (10 - t + 1) 0 M s none none (nk_n.mpr trivial) (nk_n.mpr trivial) (by omega) ⟨fun _ _ _ _ _ => rfl, fun _ _ _ => rfl, hs, hs2⟩ (fun M' w6 w7 w8 hM' => ?_)
  · exact this
  · refine J_vret dX5_tryBases_162 rfl (by omega) (by omega) (⟨rfl, M', rfl, hM'⟩)
end C5
