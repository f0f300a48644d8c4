/-! the model's table of least costs -/
theorem TT_row {C C' : Nat → Nat → Int} {s r r' : Nat} (hs : s < 256) (h1 : ∀ k, k < 8 → s.testBit k = true → C r k = C' r' k) (h2 : ∀ j k, j < 8 → k < 8 → C j k = C' j k) : TT C s r = TT C' s r' := by
  rcases (show s = 0 ∨ s ≠ 0 by omega) with q | q
  · subst q
    rw [TT_0, TT_0]
  · rw [TT_eq hs q, TT_eq hs q]
    refine loopN_congr (T := 8) (fun k hk acc => lbS_congr (fun z => ?_) acc) 8 0 _ (by omega)
    obtain ⟨z1, z2, z3⟩ := pop_step s hs k hk z
    rw [h1 k hk z, TT_congr (pop (s - 2 ^ k)) (s - 2 ^ k) k rfl z2 (fun j hj _ => h2 k j hk hj) (fun i j hi hj _ _ _ => h2 i j hi hj)]
def VM (M : Nat → Nat → Int) (js : Nat → Nat) (s a : Nat) : Int := TT (CA M js a) s 8
theorem vm_row {M : Nat → Nat → Int} {js : Nat → Nat} {s a k : Nat} (hs : s < 256) (hk : k < 8) : VM M js s (js k) = TT (CA M js a) s k := by
  unfold VM
  refine TT_row hs (fun j hj _ => ?_) (fun i j hi hj => ?_)
  · simp only [CA]
    rw [if_pos trivial, if_neg (by omega)]
  · simp only [CA]
    rw [if_neg (by omega), if_neg (by omega)]
theorem washF_nn {a b : Nat → Int} : 0 ≤ washF a b := by
  rw [washF]
  split <;> omega
theorem cJ_bd {M : Nat → Nat → Int} {a b : Nat} (hJ : mJ M) (ha : a ≤ 16) (hb : b < 16) : 0 ≤ cJ M a b ∧ cJ M a b ≤ 600 := by
  rw [cJ]
  split
  · omega
  · exact washF_bd (hJ a (by omega)) (hJ b hb)
theorem CA_nn {M : Nat → Nat → Int} {js : Nat → Nat} {a : Nat} : ∀ r k, r ≤ 8 → k < 8 → 0 ≤ CA M js a r k := by
  intro r k _ _
  simp only [CA, cJ]
  split <;> split <;> first | exact washF_nn | exact Int.le_refl 0
def mtb (M1 M' : Nat → Nat → Int) (js : Nat → Nat) (s f : Nat) : Prop := (∀ x, x ≠ 465 → M' x = M1 x) ∧ (∀ s', s' < s → ∀ r, r ≤ 16 → M' 465 (17 * s' + r) = VM M1 js s' r) ∧ (∀ r, r < f → M' 465 (17 * s + r) = VM M1 js s r)
def jsOK (M1 : Nat → Nat → Int) (js : Nat → Nat) (N : Nat) : Prop := ∀ k, k < N → M1 466 k = (js k : Int) ∧ js k < 16
theorem mJ_congr {M M' : Nat → Nat → Int} (h : M' 454 = M 454) (hJ : mJ M) : mJ M' := by
  unfold mJ mcol at *
  rw [h]
  exact hJ
section MQ
variable {l : Launch} {D : va_G} {cy : Nat → ClassId}
set_option maxRecDepth 100000 in
set_option maxHeartbeats 4000000 in
theorem jj_o2 {M1 : Nat → Nat → Int} {Φ : Out → Mem → Prop} {js : Nat → Nat} (d N s a f : Nat) (hN8 : N ≤ 8) (hs : s < 256) (ha : a ≤ 16) (hjs : jsOK M1 js N) (hJ : mJ M1) (M' : Nat → Nat → Int) (hM : mtb M1 M' js s f) : ∀ (k j : Nat) (acc : Int) (w6 : Option AV), nk w6 → j + k = N → 0 ≤ acc → acc ≤ 1000000 → (∀ (acc' : Int) (w6 : Option AV), nk w6 → acc' = loopN (lbS (fun k => cJ M1 a (js k) + TT (CA M1 js a) (s - 2 ^ k) k) s) k j acc → J l D cy (GM l D cy 9 cX9_orders 7 (d + 3) 0 0 false (some .int) Φ) 157 [some (.inr (.inr (some 447))), some (.inl (N : Int)), some (.inl (s : Int)), some (.inl (a : Int)), some (.inl acc'), some (.inl (N : Int)), w6] [] (468, R0, M') 0 0) →
    J l D cy (GM l D cy 9 cX9_orders 7 (d + 3) 0 0 false (some .int) Φ) 70 [some (.inr (.inr (some 447))), some (.inl (N : Int)), some (.inl (s : Int)), some (.inl (a : Int)), some (.inl acc), some (.inl (j : Int)), w6] [] (468, R0, M') 0 0 := by
  intro k
  induction k with
  | zero =>
    intro j acc w6 hw6 hj ha1 ha2 hfin
    have e : j = N := by omega
    subst e
    have h1 : ¬ (j : Int) < (j : Int) := by omega
    have r1 : -2147483648 ≤ (j : Int) ∧ (j : Int) ≤ 2147483647 := by omega
    refine J_rnG GM_fa (by omega) (by omega) (by omega) 3 _ _ _ _ (fun K9v hK9 => ?_)
    simp (maxSteps := 4000000) only [↓(X_iload (pc' := 72) dX9_orders_70 rfl), ↓gI_5, ↓(X_iload_n (k := 1) (pc' := 73) dX9_orders_72 rfl rfl), ↓gI_1, ↓(X_icmp_ge (tgt := 157) (pc' := 76) dX9_orders_73 (by decide) rfl), rn_0, gV_s, ↓pI_c, ↓pII_c, ↓pL_c, ↓pLL_c, ↓pR_c, ↓pRI_c, ↓pRII_c, ↓pRIL_c, ↓pRR_c, ↓pV_c, ↓pVV_c, ↓gI_c, ↓gL_c, ↓gR_c, f2_0, f2_1, nk_n, nk_i, nk_r, ↓reduceIte, r32, r64, Nat.reduceAdd, Nat.reduceSub, Nat.reduceEqDiff, Nat.reduceLT, Nat.reduceLeDiff, Nat.reduceBEq, Int.reduceAdd, Int.reduceSub, Int.reduceMul, Int.reduceNeg, Int.reduceToNat, Int.reduceLE, Int.reduceLT, Int.reduceEq, Int.reduceNatCast', Int.reduceNatCast, Int.natCast_zero, Int.toNat_natCast, Int.toNat_zero, Int.toNat_one, List.length_cons, List.length_nil, true_and, and_true, and_self, true_or, or_true, false_or, or_false, Bool.not_true, Bool.not_false, Nat.lt_add_one, Nat.zero_lt_succ, N0, swL_n, swL_c, List.toList_toArray, false_implies, true_implies, implies_true, forall_const, not_false_eq_true, not_true_eq_false, and_false, false_and, h1, r1]
    simp only [hK9]
    clear hK9 K9v
    exact hfin acc _ hw6 rfl
  | succ k ih =>
    intro j acc w6 hw6 hj ha1 ha2 hfin
    have h1 : (j : Int) < (N : Int) := by omega
    have r1 : -2147483648 ≤ (j : Int) ∧ (j : Int) ≤ 2147483647 := by omega
    have r2 : -2147483648 ≤ (N : Int) ∧ (N : Int) ≤ 2147483647 := by omega
    have r3 := p2_bd j (by omega)
    have r4 : 0 ≤ (j : Int) ∧ (j : Int) < 31 := by omega
    have r5 : 0 ≤ (s : Int) ∧ (s : Int) ≤ 2147483647 := by omega
    have rA : -2147483648 ≤ (a : Int) ∧ (a : Int) ≤ 2147483647 := by omega
    have eb := bt_shr s hs j (by omega)
    rcases hb : s.testBit j with _ | _
    · rw [hb] at eb
      simp only [Bool.false_eq_true, if_false] at eb
      refine J_rnG GM_fa (by omega) (by omega) (by omega) 10 _ _ _ _ (fun K9v hK9 => ?_)
      simp (maxSteps := 4000000) only [↓(X_iload (pc' := 72) dX9_orders_70 rfl), ↓gI_5, ↓(X_iload_n (k := 1) (pc' := 73) dX9_orders_72 rfl rfl), ↓gI_1, ↓(X_icmp_ge (tgt := 157) (pc' := 76) dX9_orders_73 (by decide) rfl), ↓(X_iload_n (k := 2) (pc' := 77) dX9_orders_76 rfl rfl), ↓gI_2, ↓(X_iload (pc' := 79) dX9_orders_77 rfl), ↓(X_ishr (pc' := 80) dX9_orders_79 rfl), ↓(X_iconst (pc' := 81) dX9_orders_80 rfl), ↓(X_iand (pc' := 82) dX9_orders_81 rfl), ↓(X_iconst (pc' := 83) dX9_orders_82 rfl), ↓(X_icmp_ne (tgt := 151) (pc' := 86) dX9_orders_83 (by decide) rfl), rn_0, gV_s, ↓pI_c, ↓pII_c, ↓pL_c, ↓pLL_c, ↓pR_c, ↓pRI_c, ↓pRII_c, ↓pRIL_c, ↓pRR_c, ↓pV_c, ↓pVV_c, ↓gI_c, ↓gL_c, ↓gR_c, f2_0, f2_1, nk_n, nk_i, nk_r, ↓reduceIte, r32, r64, Nat.reduceAdd, Nat.reduceSub, Nat.reduceEqDiff, Nat.reduceLT, Nat.reduceLeDiff, Nat.reduceBEq, Int.reduceAdd, Int.reduceSub, Int.reduceMul, Int.reduceNeg, Int.reduceToNat, Int.reduceLE, Int.reduceLT, Int.reduceEq, Int.reduceNatCast', Int.reduceNatCast, Int.natCast_zero, Int.toNat_natCast, Int.toNat_zero, Int.toNat_one, List.length_cons, List.length_nil, true_and, and_true, and_self, true_or, or_true, false_or, or_false, Bool.not_true, Bool.not_false, Nat.lt_add_one, Nat.zero_lt_succ, N0, swL_n, swL_c, List.toList_toArray, false_implies, true_implies, implies_true, forall_const, not_false_eq_true, not_true_eq_false, and_false, false_and, h1, r1, r2, r4, r5, eb]
      simp only [hK9]
      clear hK9 K9v
      refine J_rnG GM_fa (by omega) (by omega) (by omega) 2 _ _ _ _ (fun K9v hK9 => ?_)
      simp (maxSteps := 4000000) only [↓(X_iinc (pc' := 154) dX9_orders_151 rfl), ↓gI_5, ↓sto_5, ↓(X_goto (pc' := 70) dX9_orders_154 (by decide)), rn_0, gV_s, ↓pI_c, ↓pII_c, ↓pL_c, ↓pLL_c, ↓pR_c, ↓pRI_c, ↓pRII_c, ↓pRIL_c, ↓pRR_c, ↓pV_c, ↓pVV_c, ↓gI_c, ↓gL_c, ↓gR_c, f2_0, f2_1, nk_n, nk_i, nk_r, ↓reduceIte, r32, r64, Nat.reduceAdd, Nat.reduceSub, Nat.reduceEqDiff, Nat.reduceLT, Nat.reduceLeDiff, Nat.reduceBEq, Int.reduceAdd, Int.reduceSub, Int.reduceMul, Int.reduceNeg, Int.reduceToNat, Int.reduceLE, Int.reduceLT, Int.reduceEq, Int.reduceNatCast', Int.reduceNatCast, Int.natCast_zero, Int.toNat_natCast, Int.toNat_zero, Int.toNat_one, List.length_cons, List.length_nil, true_and, and_true, and_self, true_or, or_true, false_or, or_false, Bool.not_true, Bool.not_false, Nat.lt_add_one, Nat.zero_lt_succ, N0, swL_n, swL_c, List.toList_toArray, false_implies, true_implies, implies_true, forall_const, not_false_eq_true, not_true_eq_false, and_false, false_and]
      simp only [hK9]
      clear hK9 K9v
      rw [show (j : Int) + 1 = ((j + 1 : Nat) : Int) by omega]
      refine ih (j + 1) acc w6 hw6 (by omega) ha1 ha2 (fun acc' w6 hw6 hacc => hfin acc' w6 hw6 ?_)
      rw [loopN, lbS, if_neg (by rw [hb]; decide)]
      exact hacc
    · rw [hb] at eb
      simp only [if_true] at eb
      have e2 := (bt_rm s hs j (by omega) hb).2
      obtain ⟨-, e3, e4⟩ := pop_step s hs j (by omega) hb
      obtain ⟨hm1, hm2⟩ := hjs j (by omega)
      have f466 : M' 466 = M1 466 := hM.1 466 (by decide)
      have i1 : (j : Int) < 8 := by omega
      have i2 : (0 : Int) ≤ (j : Int) := by omega
      have e5 : 17 * ((s - 2 ^ j : Nat) : Int) + (js j : Int) = ((17 * (s - 2 ^ j) + js j : Nat) : Int) := by omega
      have i3 : (0 : Int) ≤ ((17 * (s - 2 ^ j) + js j : Nat) : Int) ∧ ((17 * (s - 2 ^ j) + js j : Nat) : Int) < 4352 := by omega
      have hv : M' 465 (17 * (s - 2 ^ j) + js j) = TT (CA M1 js a) (s - 2 ^ j) j := by
        rw [hM.2.1 (s - 2 ^ j) (by omega) (js j) (by omega)]
        exact vm_row e3 (by omega)
      have hb1 := cJ_bd hJ ha hm2
      have hb2 := TT_bd (CA_nn (M := M1) (js := js) (a := a)) _ (s - 2 ^ j) j rfl e3 (by omega)
      have hmid : J l D cy (GM l D cy 9 cX9_orders 7 (d + 3) 0 0 false (some .int) Φ) 108 [some (.inr (.inr (some 447))), some (.inl (N : Int)), some (.inl (s : Int)), some (.inl (a : Int)), some (.inl acc), some (.inl (j : Int)), w6] [.inl (cJ M1 a (js j))] (468, R0, M') 0 0 := by
        obtain ⟨its, hits⟩ : ∃ its, its = cJ M1 a (js j) + TT (CA M1 js a) (s - 2 ^ j) j := ⟨_, rfl⟩
        have ri : -2147483648 ≤ its ∧ its ≤ 2147483647 := by omega
        have ra : -2147483648 ≤ acc ∧ acc ≤ 2147483647 := by omega
        have hfin' : (∀ (acc' : Int) (w6 : Option AV), nk w6 → acc' = loopN (lbS (fun k => cJ M1 a (js k) + TT (CA M1 js a) (s - 2 ^ k) k) s) k (j + 1) (if its < acc then its else acc) → J l D cy (GM l D cy 9 cX9_orders 7 (d + 3) 0 0 false (some .int) Φ) 157 [some (.inr (.inr (some 447))), some (.inl (N : Int)), some (.inl (s : Int)), some (.inl (a : Int)), some (.inl acc'), some (.inl (N : Int)), w6] [] (468, R0, M') 0 0) := fun acc' w6 hw6 hacc => hfin acc' w6 hw6 (by rw [loopN, lbS, if_pos hb, ← hits]; exact hacc)
        rcases (show its < acc ∨ ¬ its < acc by omega) with q | q
        · refine J_rnG GM_fa (by omega) (by omega) (by omega) 22 _ _ _ _ (fun K9v hK9 => ?_)
          simp (maxSteps := 4000000) only [↓(X_aload_n (k := 0) (pc' := 109) dX9_orders_108 rfl rfl), ↓gR_0, ↓(X_getR (pc' := 112) fl_9_66 dX9_orders_109 rfl), kd_447, ↓(gV_c r0_447_24), kd_465, ln_465, ↓(X_bipush (pc' := 114) dX9_orders_112 rfl), ↓(X_iload_n (k := 2) (pc' := 115) dX9_orders_114 rfl rfl), ↓gI_2, ↓(X_iconst (pc' := 116) dX9_orders_115 rfl), ↓(X_iload (pc' := 118) dX9_orders_116 rfl), ↓gI_5, ↓(X_ishl (pc' := 119) dX9_orders_118 rfl), ↓(X_iconst (pc' := 120) dX9_orders_119 rfl), ↓(X_ixor (pc' := 121) dX9_orders_120 rfl), ↓(X_iand (pc' := 122) dX9_orders_121 rfl), ↓(X_imul (pc' := 123) dX9_orders_122 rfl), ↓(X_aload_n (k := 0) (pc' := 124) dX9_orders_123 rfl rfl), ↓(X_getR (pc' := 127) fl_9_69 dX9_orders_124 rfl), ↓(gV_c r0_447_25), kd_466, ln_466, ↓(X_iload (pc' := 129) dX9_orders_127 rfl), ↓(X_iaload (pc' := 130) dX9_orders_129 rfl), ↓(X_iadd (pc' := 131) dX9_orders_130 rfl), ↓(X_iaload (pc' := 132) dX9_orders_131 rfl), ↓(X_iadd (pc' := 133) dX9_orders_132 rfl), ↓(X_istore (pc' := 135) dX9_orders_133 rfl), ↓sto_6, ↓(X_iload (pc' := 137) dX9_orders_135 rfl), ↓gI_6, ↓(X_iload (pc' := 139) dX9_orders_137 rfl), ↓gI_4, ↓(X_icmp_ge (tgt := 147) (pc' := 142) dX9_orders_139 (by decide) rfl), rn_0, gV_s, ↓pI_c, ↓pII_c, ↓pL_c, ↓pLL_c, ↓pR_c, ↓pRI_c, ↓pRII_c, ↓pRIL_c, ↓pRR_c, ↓pV_c, ↓pVV_c, ↓gI_c, ↓gL_c, ↓gR_c, f2_0, f2_1, nk_n, nk_i, nk_r, ↓reduceIte, r32, r64, Nat.reduceAdd, Nat.reduceSub, Nat.reduceEqDiff, Nat.reduceLT, Nat.reduceLeDiff, Nat.reduceBEq, Int.reduceAdd, Int.reduceSub, Int.reduceMul, Int.reduceNeg, Int.reduceToNat, Int.reduceLE, Int.reduceLT, Int.reduceEq, Int.reduceNatCast', Int.reduceNatCast, Int.natCast_zero, Int.toNat_natCast, Int.toNat_zero, Int.toNat_one, List.length_cons, List.length_nil, true_and, and_true, and_self, true_or, or_true, false_or, or_false, Bool.not_true, Bool.not_false, Nat.lt_add_one, Nat.zero_lt_succ, N0, swL_n, swL_c, List.toList_toArray, false_implies, true_implies, implies_true, forall_const, not_false_eq_true, not_true_eq_false, and_false, false_and, r3, r4, e2, e5, i1, i2, i3, f466, hm1, hv, ← hits, q, ri, ra]
          simp only [hK9]
          clear hK9 K9v
          refine J_rnG GM_fa (by omega) (by omega) (by omega) 5 _ _ _ _ (fun K9v hK9 => ?_)
          simp (maxSteps := 4000000) only [↓(X_iload (pc' := 144) dX9_orders_142 rfl), ↓gI_6, ↓(X_goto (pc' := 149) dX9_orders_144 (by decide)), ↓(X_istore (pc' := 151) dX9_orders_149 rfl), ↓sto_4, ↓(X_iinc (pc' := 154) dX9_orders_151 rfl), ↓gI_5, ↓sto_5, ↓(X_goto (pc' := 70) dX9_orders_154 (by decide)), rn_0, gV_s, ↓pI_c, ↓pII_c, ↓pL_c, ↓pLL_c, ↓pR_c, ↓pRI_c, ↓pRII_c, ↓pRIL_c, ↓pRR_c, ↓pV_c, ↓pVV_c, ↓gI_c, ↓gL_c, ↓gR_c, f2_0, f2_1, nk_n, nk_i, nk_r, ↓reduceIte, r32, r64, Nat.reduceAdd, Nat.reduceSub, Nat.reduceEqDiff, Nat.reduceLT, Nat.reduceLeDiff, Nat.reduceBEq, Int.reduceAdd, Int.reduceSub, Int.reduceMul, Int.reduceNeg, Int.reduceToNat, Int.reduceLE, Int.reduceLT, Int.reduceEq, Int.reduceNatCast', Int.reduceNatCast, Int.natCast_zero, Int.toNat_natCast, Int.toNat_zero, Int.toNat_one, List.length_cons, List.length_nil, true_and, and_true, and_self, true_or, or_true, false_or, or_false, Bool.not_true, Bool.not_false, Nat.lt_add_one, Nat.zero_lt_succ, N0, swL_n, swL_c, List.toList_toArray, false_implies, true_implies, implies_true, forall_const, not_false_eq_true, not_true_eq_false, and_false, false_and]
          simp only [hK9]
          clear hK9 K9v
          rw [show (j : Int) + 1 = ((j + 1 : Nat) : Int) by omega]
          rw [if_pos q] at hfin'
          exact ih (j + 1) its _ (nk_i.mpr trivial) (by omega) (by omega) (by omega) hfin'
        · refine J_rnG GM_fa (by omega) (by omega) (by omega) 22 _ _ _ _ (fun K9v hK9 => ?_)
          simp (maxSteps := 4000000) only [↓(X_aload_n (k := 0) (pc' := 109) dX9_orders_108 rfl rfl), ↓gR_0, ↓(X_getR (pc' := 112) fl_9_66 dX9_orders_109 rfl), kd_447, ↓(gV_c r0_447_24), kd_465, ln_465, ↓(X_bipush (pc' := 114) dX9_orders_112 rfl), ↓(X_iload_n (k := 2) (pc' := 115) dX9_orders_114 rfl rfl), ↓gI_2, ↓(X_iconst (pc' := 116) dX9_orders_115 rfl), ↓(X_iload (pc' := 118) dX9_orders_116 rfl), ↓gI_5, ↓(X_ishl (pc' := 119) dX9_orders_118 rfl), ↓(X_iconst (pc' := 120) dX9_orders_119 rfl), ↓(X_ixor (pc' := 121) dX9_orders_120 rfl), ↓(X_iand (pc' := 122) dX9_orders_121 rfl), ↓(X_imul (pc' := 123) dX9_orders_122 rfl), ↓(X_aload_n (k := 0) (pc' := 124) dX9_orders_123 rfl rfl), ↓(X_getR (pc' := 127) fl_9_69 dX9_orders_124 rfl), ↓(gV_c r0_447_25), kd_466, ln_466, ↓(X_iload (pc' := 129) dX9_orders_127 rfl), ↓(X_iaload (pc' := 130) dX9_orders_129 rfl), ↓(X_iadd (pc' := 131) dX9_orders_130 rfl), ↓(X_iaload (pc' := 132) dX9_orders_131 rfl), ↓(X_iadd (pc' := 133) dX9_orders_132 rfl), ↓(X_istore (pc' := 135) dX9_orders_133 rfl), ↓sto_6, ↓(X_iload (pc' := 137) dX9_orders_135 rfl), ↓gI_6, ↓(X_iload (pc' := 139) dX9_orders_137 rfl), ↓gI_4, ↓(X_icmp_ge (tgt := 147) (pc' := 142) dX9_orders_139 (by decide) rfl), rn_0, gV_s, ↓pI_c, ↓pII_c, ↓pL_c, ↓pLL_c, ↓pR_c, ↓pRI_c, ↓pRII_c, ↓pRIL_c, ↓pRR_c, ↓pV_c, ↓pVV_c, ↓gI_c, ↓gL_c, ↓gR_c, f2_0, f2_1, nk_n, nk_i, nk_r, ↓reduceIte, r32, r64, Nat.reduceAdd, Nat.reduceSub, Nat.reduceEqDiff, Nat.reduceLT, Nat.reduceLeDiff, Nat.reduceBEq, Int.reduceAdd, Int.reduceSub, Int.reduceMul, Int.reduceNeg, Int.reduceToNat, Int.reduceLE, Int.reduceLT, Int.reduceEq, Int.reduceNatCast', Int.reduceNatCast, Int.natCast_zero, Int.toNat_natCast, Int.toNat_zero, Int.toNat_one, List.length_cons, List.length_nil, true_and, and_true, and_self, true_or, or_true, false_or, or_false, Bool.not_true, Bool.not_false, Nat.lt_add_one, Nat.zero_lt_succ, N0, swL_n, swL_c, List.toList_toArray, false_implies, true_implies, implies_true, forall_const, not_false_eq_true, not_true_eq_false, and_false, false_and, r3, r4, e2, e5, i1, i2, i3, f466, hm1, hv, ← hits, q, ri, ra]
          simp only [hK9]
          clear hK9 K9v
          refine J_rnG GM_fa (by omega) (by omega) (by omega) 4 _ _ _ _ (fun K9v hK9 => ?_)
          simp (maxSteps := 4000000) only [↓(X_iload (pc' := 149) dX9_orders_147 rfl), ↓gI_4, ↓(X_istore (pc' := 151) dX9_orders_149 rfl), ↓sto_4, ↓(X_iinc (pc' := 154) dX9_orders_151 rfl), ↓gI_5, ↓sto_5, ↓(X_goto (pc' := 70) dX9_orders_154 (by decide)), rn_0, gV_s, ↓pI_c, ↓pII_c, ↓pL_c, ↓pLL_c, ↓pR_c, ↓pRI_c, ↓pRII_c, ↓pRIL_c, ↓pRR_c, ↓pV_c, ↓pVV_c, ↓gI_c, ↓gL_c, ↓gR_c, f2_0, f2_1, nk_n, nk_i, nk_r, ↓reduceIte, r32, r64, Nat.reduceAdd, Nat.reduceSub, Nat.reduceEqDiff, Nat.reduceLT, Nat.reduceLeDiff, Nat.reduceBEq, Int.reduceAdd, Int.reduceSub, Int.reduceMul, Int.reduceNeg, Int.reduceToNat, Int.reduceLE, Int.reduceLT, Int.reduceEq, Int.reduceNatCast', Int.reduceNatCast, Int.natCast_zero, Int.toNat_natCast, Int.toNat_zero, Int.toNat_one, List.length_cons, List.length_nil, true_and, and_true, and_self, true_or, or_true, false_or, or_false, Bool.not_true, Bool.not_false, Nat.lt_add_one, Nat.zero_lt_succ, N0, swL_n, swL_c, List.toList_toArray, false_implies, true_implies, implies_true, forall_const, not_false_eq_true, not_true_eq_false, and_false, false_and]
          simp only [hK9]
          clear hK9 K9v
          rw [show (j : Int) + 1 = ((j + 1 : Nat) : Int) by omega]
          rw [if_neg q] at hfin'
          exact ih (j + 1) acc _ (nk_i.mpr trivial) (by omega) ha1 ha2 hfin'
      rcases (show a = 16 ∨ ¬ a = 16 by omega) with q | q
      · subst q
        rw [cJ, if_pos rfl] at hmid
        refine J_rnG GM_fa (by omega) (by omega) (by omega) 10 _ _ _ _ (fun K9v hK9 => ?_)
        simp (maxSteps := 4000000) only [↓(X_iload (pc' := 72) dX9_orders_70 rfl), ↓gI_5, ↓(X_iload_n (k := 1) (pc' := 73) dX9_orders_72 rfl rfl), ↓gI_1, ↓(X_icmp_ge (tgt := 157) (pc' := 76) dX9_orders_73 (by decide) rfl), ↓(X_iload_n (k := 2) (pc' := 77) dX9_orders_76 rfl rfl), ↓gI_2, ↓(X_iload (pc' := 79) dX9_orders_77 rfl), ↓(X_ishr (pc' := 80) dX9_orders_79 rfl), ↓(X_iconst (pc' := 81) dX9_orders_80 rfl), ↓(X_iand (pc' := 82) dX9_orders_81 rfl), ↓(X_iconst (pc' := 83) dX9_orders_82 rfl), ↓(X_icmp_ne (tgt := 151) (pc' := 86) dX9_orders_83 (by decide) rfl), rn_0, gV_s, ↓pI_c, ↓pII_c, ↓pL_c, ↓pLL_c, ↓pR_c, ↓pRI_c, ↓pRII_c, ↓pRIL_c, ↓pRR_c, ↓pV_c, ↓pVV_c, ↓gI_c, ↓gL_c, ↓gR_c, f2_0, f2_1, nk_n, nk_i, nk_r, ↓reduceIte, r32, r64, Nat.reduceAdd, Nat.reduceSub, Nat.reduceEqDiff, Nat.reduceLT, Nat.reduceLeDiff, Nat.reduceBEq, Int.reduceAdd, Int.reduceSub, Int.reduceMul, Int.reduceNeg, Int.reduceToNat, Int.reduceLE, Int.reduceLT, Int.reduceEq, Int.reduceNatCast', Int.reduceNatCast, Int.natCast_zero, Int.toNat_natCast, Int.toNat_zero, Int.toNat_one, List.length_cons, List.length_nil, true_and, and_true, and_self, true_or, or_true, false_or, or_false, Bool.not_true, Bool.not_false, Nat.lt_add_one, Nat.zero_lt_succ, N0, swL_n, swL_c, List.toList_toArray, false_implies, true_implies, implies_true, forall_const, not_false_eq_true, not_true_eq_false, and_false, false_and, h1, r1, r2, r4, r5, eb]
        simp only [hK9]
        clear hK9 K9v
        refine J_rnG GM_fa (by omega) (by omega) (by omega) 5 _ _ _ _ (fun K9v hK9 => ?_)
        simp (maxSteps := 4000000) only [↓(X_iload_n (k := 3) (pc' := 87) dX9_orders_86 rfl rfl), ↓gI_3, ↓(X_bipush (pc' := 89) dX9_orders_87 rfl), ↓(X_icmp_ne (tgt := 96) (pc' := 92) dX9_orders_89 (by decide) rfl), ↓(X_iconst (pc' := 93) dX9_orders_92 rfl), ↓(X_goto (pc' := 108) dX9_orders_93 (by decide)), rn_0, gV_s, ↓pI_c, ↓pII_c, ↓pL_c, ↓pLL_c, ↓pR_c, ↓pRI_c, ↓pRII_c, ↓pRIL_c, ↓pRR_c, ↓pV_c, ↓pVV_c, ↓gI_c, ↓gL_c, ↓gR_c, f2_0, f2_1, nk_n, nk_i, nk_r, ↓reduceIte, r32, r64, Nat.reduceAdd, Nat.reduceSub, Nat.reduceEqDiff, Nat.reduceLT, Nat.reduceLeDiff, Nat.reduceBEq, Int.reduceAdd, Int.reduceSub, Int.reduceMul, Int.reduceNeg, Int.reduceToNat, Int.reduceLE, Int.reduceLT, Int.reduceEq, Int.reduceNatCast', Int.reduceNatCast, Int.natCast_zero, Int.toNat_natCast, Int.toNat_zero, Int.toNat_one, List.length_cons, List.length_nil, true_and, and_true, and_self, true_or, or_true, false_or, or_false, Bool.not_true, Bool.not_false, Nat.lt_add_one, Nat.zero_lt_succ, N0, swL_n, swL_c, List.toList_toArray, false_implies, true_implies, implies_true, forall_const, not_false_eq_true, not_true_eq_false, and_false, false_and]
        simp only [hK9]
        clear hK9 K9v
        exact hmid
      · have q' : ¬ (a : Int) = 16 := by omega
        rw [cJ, if_neg q] at hmid
        refine J_rnG GM_fa (by omega) (by omega) (by omega) 10 _ _ _ _ (fun K9v hK9 => ?_)
        simp (maxSteps := 4000000) only [↓(X_iload (pc' := 72) dX9_orders_70 rfl), ↓gI_5, ↓(X_iload_n (k := 1) (pc' := 73) dX9_orders_72 rfl rfl), ↓gI_1, ↓(X_icmp_ge (tgt := 157) (pc' := 76) dX9_orders_73 (by decide) rfl), ↓(X_iload_n (k := 2) (pc' := 77) dX9_orders_76 rfl rfl), ↓gI_2, ↓(X_iload (pc' := 79) dX9_orders_77 rfl), ↓(X_ishr (pc' := 80) dX9_orders_79 rfl), ↓(X_iconst (pc' := 81) dX9_orders_80 rfl), ↓(X_iand (pc' := 82) dX9_orders_81 rfl), ↓(X_iconst (pc' := 83) dX9_orders_82 rfl), ↓(X_icmp_ne (tgt := 151) (pc' := 86) dX9_orders_83 (by decide) rfl), rn_0, gV_s, ↓pI_c, ↓pII_c, ↓pL_c, ↓pLL_c, ↓pR_c, ↓pRI_c, ↓pRII_c, ↓pRIL_c, ↓pRR_c, ↓pV_c, ↓pVV_c, ↓gI_c, ↓gL_c, ↓gR_c, f2_0, f2_1, nk_n, nk_i, nk_r, ↓reduceIte, r32, r64, Nat.reduceAdd, Nat.reduceSub, Nat.reduceEqDiff, Nat.reduceLT, Nat.reduceLeDiff, Nat.reduceBEq, Int.reduceAdd, Int.reduceSub, Int.reduceMul, Int.reduceNeg, Int.reduceToNat, Int.reduceLE, Int.reduceLT, Int.reduceEq, Int.reduceNatCast', Int.reduceNatCast, Int.natCast_zero, Int.toNat_natCast, Int.toNat_zero, Int.toNat_one, List.length_cons, List.length_nil, true_and, and_true, and_self, true_or, or_true, false_or, or_false, Bool.not_true, Bool.not_false, Nat.lt_add_one, Nat.zero_lt_succ, N0, swL_n, swL_c, List.toList_toArray, false_implies, true_implies, implies_true, forall_const, not_false_eq_true, not_true_eq_false, and_false, false_and, h1, r1, r2, r4, r5, eb]
        simp only [hK9]
        clear hK9 K9v
        refine J_rnG GM_fa (by omega) (by omega) (by omega) 3 _ _ _ _ (fun K9v hK9 => ?_)
        simp (maxSteps := 4000000) only [↓(X_iload_n (k := 3) (pc' := 87) dX9_orders_86 rfl rfl), ↓gI_3, ↓(X_bipush (pc' := 89) dX9_orders_87 rfl), ↓(X_icmp_ne (tgt := 96) (pc' := 92) dX9_orders_89 (by decide) rfl), rn_0, gV_s, ↓pI_c, ↓pII_c, ↓pL_c, ↓pLL_c, ↓pR_c, ↓pRI_c, ↓pRII_c, ↓pRIL_c, ↓pRR_c, ↓pV_c, ↓pVV_c, ↓gI_c, ↓gL_c, ↓gR_c, f2_0, f2_1, nk_n, nk_i, nk_r, ↓reduceIte, r32, r64, Nat.reduceAdd, Nat.reduceSub, Nat.reduceEqDiff, Nat.reduceLT, Nat.reduceLeDiff, Nat.reduceBEq, Int.reduceAdd, Int.reduceSub, Int.reduceMul, Int.reduceNeg, Int.reduceToNat, Int.reduceLE, Int.reduceLT, Int.reduceEq, Int.reduceNatCast', Int.reduceNatCast, Int.natCast_zero, Int.toNat_natCast, Int.toNat_zero, Int.toNat_one, List.length_cons, List.length_nil, true_and, and_true, and_self, true_or, or_true, false_or, or_false, Bool.not_true, Bool.not_false, Nat.lt_add_one, Nat.zero_lt_succ, N0, swL_n, swL_c, List.toList_toArray, false_implies, true_implies, implies_true, forall_const, not_false_eq_true, not_true_eq_false, and_false, false_and, q', rA]
        simp only [hK9]
        clear hK9 K9v
        refine J_rnG GM_fa (by omega) (by omega) (by omega) 6 _ _ _ _ (fun K9v hK9 => ?_)
        simp (maxSteps := 4000000) only [↓(X_aload_n (k := 0) (pc' := 97) dX9_orders_96 rfl rfl), ↓gR_0, ↓(X_iload_n (k := 3) (pc' := 98) dX9_orders_97 rfl rfl), ↓gI_3, ↓(X_aload_n (k := 0) (pc' := 99) dX9_orders_98 rfl rfl), ↓(X_getR (pc' := 102) fl_9_69 dX9_orders_99 rfl), kd_447, ↓(gV_c r0_447_25), kd_466, ln_466, ↓(X_iload (pc' := 104) dX9_orders_102 rfl), ↓gI_5, ↓(X_iaload (pc' := 105) dX9_orders_104 rfl), rn_0, gV_s, ↓pI_c, ↓pII_c, ↓pL_c, ↓pLL_c, ↓pR_c, ↓pRI_c, ↓pRII_c, ↓pRIL_c, ↓pRR_c, ↓pV_c, ↓pVV_c, ↓gI_c, ↓gL_c, ↓gR_c, f2_0, f2_1, nk_n, nk_i, nk_r, ↓reduceIte, r32, r64, Nat.reduceAdd, Nat.reduceSub, Nat.reduceEqDiff, Nat.reduceLT, Nat.reduceLeDiff, Nat.reduceBEq, Int.reduceAdd, Int.reduceSub, Int.reduceMul, Int.reduceNeg, Int.reduceToNat, Int.reduceLE, Int.reduceLT, Int.reduceEq, Int.reduceNatCast', Int.reduceNatCast, Int.natCast_zero, Int.toNat_natCast, Int.toNat_zero, Int.toNat_one, List.length_cons, List.length_nil, true_and, and_true, and_self, true_or, or_true, false_or, or_false, Bool.not_true, Bool.not_false, Nat.lt_add_one, Nat.zero_lt_succ, N0, swL_n, swL_c, List.toList_toArray, false_implies, true_implies, implies_true, forall_const, not_false_eq_true, not_true_eq_false, and_false, false_and, i1, i2, f466, hm1]
        simp only [hK9]
        clear hK9 K9v
        refine J_callVd (ci := 9) GM_fa (om_wash (M := M') (d + 0) a (js j) (by omega) hm2 (mJ_congr (hM.1 454 (by decide)) hJ)) dX9_orders_105 k_9_153 (by omega) (Nat.le_of_ble_eq_true rfl) ⟨by omega, by omega⟩ rfl (by decide +kernel) rfl (by decide) (by simp only [N0]; omega) (by simp) rfl rfl ?_
        simp only [Option.toList, List.cons_append, List.nil_append]
        rw [show washF (mcol M' a) (mcol M' (js j)) = washF (mcol M1 a) (mcol M1 (js j)) by unfold mcol; rw [hM.1 454 (by decide)]]
        exact hmid
/-- what the inner loop folds is the table's entry -/
theorem vm_fold {M : Nat → Nat → Int} {js : Nat → Nat} {N s a : Nat} (hN8 : N ≤ 8) (hs : s < 2 ^ N) : loopN (lbS (fun k => cJ M a (js k) + TT (CA M js a) (s - 2 ^ k) k) s) N 0 (if s = 0 then 0 else 1000000) = VM M js s a := by
  have hs2 : s < 256 := Nat.lt_of_lt_of_le hs (Nat.pow_le_pow_right (by omega) hN8)
  rcases (show s = 0 ∨ ¬ s = 0 by omega) with q | q
  · subst q
    rw [if_pos rfl, VM, TT_0]
    refine loopN_id _ _ _ (fun j _ _ => ?_)
    rw [lbS, if_neg (by simp)]
  · rw [if_neg q, VM, TT_eq hs2 q, lb_n hs hN8]
    refine loopN_congr (T := 8) (fun k hk acc => lbS_congr (fun z => ?_) acc) 8 0 _ (by omega)
    simp only [CA]
    rw [if_pos trivial]
set_option maxRecDepth 100000 in
set_option maxHeartbeats 4000000 in
theorem jj_o3 {M1 : Nat → Nat → Int} {Φ : Out → Mem → Prop} {js : Nat → Nat} (d N s : Nat) (hN8 : N ≤ 8) (hs : s < 2 ^ N) (hjs : jsOK M1 js N) (hJ : mJ M1) : ∀ (k a : Nat) (M' : Nat → Nat → Int) (w4 w5 w6 : Option AV), nk w4 → nk w5 → nk w6 → a + k = 17 → mtb M1 M' js s a → (∀ (M' : Nat → Nat → Int) (w4 w5 w6 : Option AV), nk w4 → nk w5 → nk w6 → mtb M1 M' js (s + 1) 0 → J l D cy (GM l D cy 9 cX9_orders 7 (d + 3) 0 0 false (some .int) Φ) 176 [some (.inr (.inr (some 447))), some (.inl (N : Int)), some (.inl (s : Int)), some (.inl 17), w4, w5, w6] [] (468, R0, M') 0 0) →
    J l D cy (GM l D cy 9 cX9_orders 7 (d + 3) 0 0 false (some .int) Φ) 49 [some (.inr (.inr (some 447))), some (.inl (N : Int)), some (.inl (s : Int)), some (.inl (a : Int)), w4, w5, w6] [] (468, R0, M') 0 0 := by
  have hs2 : s < 256 := Nat.lt_of_lt_of_le hs (Nat.pow_le_pow_right (by omega) hN8)
  intro k
  induction k with
  | zero =>
    intro a M' w4 w5 w6 h4 h5 h6 ha hM hfin
    have e : a = 17 := by omega
    subst e
    refine J_rnG GM_fa (by omega) (by omega) (by omega) 3 _ _ _ _ (fun K9v hK9 => ?_)
    simp (maxSteps := 4000000) only [↓(X_iload_n (k := 3) (pc' := 50) dX9_orders_49 rfl rfl), ↓gI_3, ↓(X_bipush (pc' := 52) dX9_orders_50 rfl), ↓(X_icmp_gt (tgt := 176) (pc' := 55) dX9_orders_52 (by decide) rfl), rn_0, gV_s, ↓pI_c, ↓pII_c, ↓pL_c, ↓pLL_c, ↓pR_c, ↓pRI_c, ↓pRII_c, ↓pRIL_c, ↓pRR_c, ↓pV_c, ↓pVV_c, ↓gI_c, ↓gL_c, ↓gR_c, f2_0, f2_1, nk_n, nk_i, nk_r, ↓reduceIte, r32, r64, Nat.reduceAdd, Nat.reduceSub, Nat.reduceEqDiff, Nat.reduceLT, Nat.reduceLeDiff, Nat.reduceBEq, Int.reduceAdd, Int.reduceSub, Int.reduceMul, Int.reduceNeg, Int.reduceToNat, Int.reduceLE, Int.reduceLT, Int.reduceEq, Int.reduceNatCast', Int.reduceNatCast, Int.natCast_zero, Int.toNat_natCast, Int.toNat_zero, Int.toNat_one, List.length_cons, List.length_nil, true_and, and_true, and_self, true_or, or_true, false_or, or_false, Bool.not_true, Bool.not_false, Nat.lt_add_one, Nat.zero_lt_succ, N0, swL_n, swL_c, List.toList_toArray, false_implies, true_implies, implies_true, forall_const, not_false_eq_true, not_true_eq_false, and_false, false_and]
    simp only [hK9]
    clear hK9 K9v
    obtain ⟨m1, m2, m3⟩ := hM
    refine hfin M' _ _ _ h4 h5 h6 ⟨m1, fun s' hs' r hr => ?_, fun r hr => by omega⟩
    rcases (show s' < s ∨ s' = s by omega) with q | q
    · exact m2 s' q r hr
    · subst q
      exact m3 r (by omega)
  | succ k ih =>
    intro a M' w4 w5 w6 h4 h5 h6 ha hM hfin
    have h1 : ¬ (16 : Int) < (a : Int) := by omega
    have r1 : -2147483648 ≤ (a : Int) ∧ (a : Int) ≤ 2147483647 := by omega
    have r2 : -2147483648 ≤ (s : Int) ∧ (s : Int) ≤ 2147483647 := by omega
    have e5 : 17 * (s : Int) + (a : Int) = ((17 * s + a : Nat) : Int) := by omega
    have i3 : (0 : Int) ≤ ((17 * s + a : Nat) : Int) ∧ ((17 * s + a : Nat) : Int) < 4352 := by omega
    have hin : J l D cy (GM l D cy 9 cX9_orders 7 (d + 3) 0 0 false (some .int) Φ) 70 [some (.inr (.inr (some 447))), some (.inl (N : Int)), some (.inl (s : Int)), some (.inl (a : Int)), some (.inl (if s = 0 then 0 else 1000000)), some (.inl 0), w6] [] (468, R0, M') 0 0 := by
      refine jj_o2 d N s a a hN8 hs2 (by omega) hjs hJ M' hM N 0 _ w6 h6 (by omega) (by split <;> omega) (by split <;> omega) (fun acc' w6 hw6 hacc => ?_)
      rw [vm_fold hN8 hs] at hacc
      refine J_rnG GM_fa (by omega) (by omega) (by omega) 11 _ _ _ _ (fun K9v hK9 => ?_)
      simp (maxSteps := 4000000) only [↓(X_aload_n (k := 0) (pc' := 158) dX9_orders_157 rfl rfl), ↓gR_0, ↓(X_getR (pc' := 161) fl_9_66 dX9_orders_158 rfl), kd_447, ↓(gV_c r0_447_24), kd_465, ln_465, ↓(X_bipush (pc' := 163) dX9_orders_161 rfl), ↓(X_iload_n (k := 2) (pc' := 164) dX9_orders_163 rfl rfl), ↓gI_2, ↓(X_imul (pc' := 165) dX9_orders_164 rfl), ↓(X_iload_n (k := 3) (pc' := 166) dX9_orders_165 rfl rfl), ↓gI_3, ↓(X_iadd (pc' := 167) dX9_orders_166 rfl), ↓(X_iload (pc' := 169) dX9_orders_167 rfl), ↓gI_4, ↓(X_iastore (pc' := 170) dX9_orders_169 rfl), ↓(X_iinc (pc' := 173) dX9_orders_170 rfl), ↓sto_3, ↓(X_goto (pc' := 49) dX9_orders_173 (by decide)), rn_0, gV_s, ↓pI_c, ↓pII_c, ↓pL_c, ↓pLL_c, ↓pR_c, ↓pRI_c, ↓pRII_c, ↓pRIL_c, ↓pRR_c, ↓pV_c, ↓pVV_c, ↓gI_c, ↓gL_c, ↓gR_c, f2_0, f2_1, nk_n, nk_i, nk_r, ↓reduceIte, r32, r64, Nat.reduceAdd, Nat.reduceSub, Nat.reduceEqDiff, Nat.reduceLT, Nat.reduceLeDiff, Nat.reduceBEq, Int.reduceAdd, Int.reduceSub, Int.reduceMul, Int.reduceNeg, Int.reduceToNat, Int.reduceLE, Int.reduceLT, Int.reduceEq, Int.reduceNatCast', Int.reduceNatCast, Int.natCast_zero, Int.toNat_natCast, Int.toNat_zero, Int.toNat_one, List.length_cons, List.length_nil, true_and, and_true, and_self, true_or, or_true, false_or, or_false, Bool.not_true, Bool.not_false, Nat.lt_add_one, Nat.zero_lt_succ, N0, swL_n, swL_c, List.toList_toArray, false_implies, true_implies, implies_true, forall_const, not_false_eq_true, not_true_eq_false, and_false, false_and, e5, i3]
      simp only [hK9]
      clear hK9 K9v
      rw [show (a : Int) + 1 = ((a + 1 : Nat) : Int) by omega]
      refine ih (a + 1) _ _ _ _ (nk_i.mpr trivial) (nk_i.mpr trivial) hw6 (by omega) ⟨fun x hx => by rw [up2_r hx, hM.1 x hx], fun s' hs' r hr => ?_, fun r hr => ?_⟩ hfin
      · rw [up2_k (by omega)]
        exact hM.2.1 s' hs' r hr
      · rcases (show r = a ∨ r < a by omega) with q | q
        · rw [q, up2_s, hacc]
        · rw [up2_k (by omega)]
          exact hM.2.2 r q
    rcases (show s = 0 ∨ ¬ s = 0 by omega) with q | q
    · subst q
      rw [if_pos rfl] at hin
      refine J_rnG GM_fa (by omega) (by omega) (by omega) 5 _ _ _ _ (fun K9v hK9 => ?_)
      simp (maxSteps := 4000000) only [↓(X_iload_n (k := 3) (pc' := 50) dX9_orders_49 rfl rfl), ↓gI_3, ↓(X_bipush (pc' := 52) dX9_orders_50 rfl), ↓(X_icmp_gt (tgt := 176) (pc' := 55) dX9_orders_52 (by decide) rfl), ↓(X_iload_n (k := 2) (pc' := 56) dX9_orders_55 rfl rfl), ↓gI_2, ↓(X_if_ne (tgt := 63) (pc' := 59) dX9_orders_56 (by decide) rfl), rn_0, gV_s, ↓pI_c, ↓pII_c, ↓pL_c, ↓pLL_c, ↓pR_c, ↓pRI_c, ↓pRII_c, ↓pRIL_c, ↓pRR_c, ↓pV_c, ↓pVV_c, ↓gI_c, ↓gL_c, ↓gR_c, f2_0, f2_1, nk_n, nk_i, nk_r, ↓reduceIte, r32, r64, Nat.reduceAdd, Nat.reduceSub, Nat.reduceEqDiff, Nat.reduceLT, Nat.reduceLeDiff, Nat.reduceBEq, Int.reduceAdd, Int.reduceSub, Int.reduceMul, Int.reduceNeg, Int.reduceToNat, Int.reduceLE, Int.reduceLT, Int.reduceEq, Int.reduceNatCast', Int.reduceNatCast, Int.natCast_zero, Int.toNat_natCast, Int.toNat_zero, Int.toNat_one, List.length_cons, List.length_nil, true_and, and_true, and_self, true_or, or_true, false_or, or_false, Bool.not_true, Bool.not_false, Nat.lt_add_one, Nat.zero_lt_succ, N0, swL_n, swL_c, List.toList_toArray, false_implies, true_implies, implies_true, forall_const, not_false_eq_true, not_true_eq_false, and_false, false_and, h1, r1]
      simp only [hK9]
      clear hK9 K9v
      refine J_rnG GM_fa (by omega) (by omega) (by omega) 5 _ _ _ _ (fun K9v hK9 => ?_)
      simp (maxSteps := 4000000) only [↓(X_iconst (pc' := 60) dX9_orders_59 rfl), ↓(X_goto (pc' := 65) dX9_orders_60 (by decide)), ↓(X_istore (pc' := 67) dX9_orders_65 rfl), ↓sto_4, ↓(X_iconst (pc' := 68) dX9_orders_67 rfl), ↓(X_istore (pc' := 70) dX9_orders_68 rfl), ↓sto_5, rn_0, gV_s, ↓pI_c, ↓pII_c, ↓pL_c, ↓pLL_c, ↓pR_c, ↓pRI_c, ↓pRII_c, ↓pRIL_c, ↓pRR_c, ↓pV_c, ↓pVV_c, ↓gI_c, ↓gL_c, ↓gR_c, f2_0, f2_1, nk_n, nk_i, nk_r, ↓reduceIte, r32, r64, Nat.reduceAdd, Nat.reduceSub, Nat.reduceEqDiff, Nat.reduceLT, Nat.reduceLeDiff, Nat.reduceBEq, Int.reduceAdd, Int.reduceSub, Int.reduceMul, Int.reduceNeg, Int.reduceToNat, Int.reduceLE, Int.reduceLT, Int.reduceEq, Int.reduceNatCast', Int.reduceNatCast, Int.natCast_zero, Int.toNat_natCast, Int.toNat_zero, Int.toNat_one, List.length_cons, List.length_nil, true_and, and_true, and_self, true_or, or_true, false_or, or_false, Bool.not_true, Bool.not_false, Nat.lt_add_one, Nat.zero_lt_succ, N0, swL_n, swL_c, List.toList_toArray, false_implies, true_implies, implies_true, forall_const, not_false_eq_true, not_true_eq_false, and_false, false_and, h4, h5]
      simp only [hK9]
      clear hK9 K9v
      exact hin
    · have q' : ¬ (s : Int) = 0 := by omega
      rw [if_neg q] at hin
      refine J_rnG GM_fa (by omega) (by omega) (by omega) 5 _ _ _ _ (fun K9v hK9 => ?_)
      simp (maxSteps := 4000000) only [↓(X_iload_n (k := 3) (pc' := 50) dX9_orders_49 rfl rfl), ↓gI_3, ↓(X_bipush (pc' := 52) dX9_orders_50 rfl), ↓(X_icmp_gt (tgt := 176) (pc' := 55) dX9_orders_52 (by decide) rfl), ↓(X_iload_n (k := 2) (pc' := 56) dX9_orders_55 rfl rfl), ↓gI_2, ↓(X_if_ne (tgt := 63) (pc' := 59) dX9_orders_56 (by decide) rfl), rn_0, gV_s, ↓pI_c, ↓pII_c, ↓pL_c, ↓pLL_c, ↓pR_c, ↓pRI_c, ↓pRII_c, ↓pRIL_c, ↓pRR_c, ↓pV_c, ↓pVV_c, ↓gI_c, ↓gL_c, ↓gR_c, f2_0, f2_1, nk_n, nk_i, nk_r, ↓reduceIte, r32, r64, Nat.reduceAdd, Nat.reduceSub, Nat.reduceEqDiff, Nat.reduceLT, Nat.reduceLeDiff, Nat.reduceBEq, Int.reduceAdd, Int.reduceSub, Int.reduceMul, Int.reduceNeg, Int.reduceToNat, Int.reduceLE, Int.reduceLT, Int.reduceEq, Int.reduceNatCast', Int.reduceNatCast, Int.natCast_zero, Int.toNat_natCast, Int.toNat_zero, Int.toNat_one, List.length_cons, List.length_nil, true_and, and_true, and_self, true_or, or_true, false_or, or_false, Bool.not_true, Bool.not_false, Nat.lt_add_one, Nat.zero_lt_succ, N0, swL_n, swL_c, List.toList_toArray, false_implies, true_implies, implies_true, forall_const, not_false_eq_true, not_true_eq_false, and_false, false_and, h1, r1, q', r2]
      simp only [hK9]
      clear hK9 K9v
      refine J_rnG GM_fa (by omega) (by omega) (by omega) 4 _ _ _ _ (fun K9v hK9 => ?_)
      simp (maxSteps := 4000000) only [↓(X_ldc (pc' := 65) cst_9_152 dX9_orders_63 rfl), ↓(X_istore (pc' := 67) dX9_orders_65 rfl), ↓sto_4, ↓(X_iconst (pc' := 68) dX9_orders_67 rfl), ↓(X_istore (pc' := 70) dX9_orders_68 rfl), ↓sto_5, rn_0, gV_s, ↓pI_c, ↓pII_c, ↓pL_c, ↓pLL_c, ↓pR_c, ↓pRI_c, ↓pRII_c, ↓pRIL_c, ↓pRR_c, ↓pV_c, ↓pVV_c, ↓gI_c, ↓gL_c, ↓gR_c, f2_0, f2_1, nk_n, nk_i, nk_r, ↓reduceIte, r32, r64, Nat.reduceAdd, Nat.reduceSub, Nat.reduceEqDiff, Nat.reduceLT, Nat.reduceLeDiff, Nat.reduceBEq, Int.reduceAdd, Int.reduceSub, Int.reduceMul, Int.reduceNeg, Int.reduceToNat, Int.reduceLE, Int.reduceLT, Int.reduceEq, Int.reduceNatCast', Int.reduceNatCast, Int.natCast_zero, Int.toNat_natCast, Int.toNat_zero, Int.toNat_one, List.length_cons, List.length_nil, true_and, and_true, and_self, true_or, or_true, false_or, or_false, Bool.not_true, Bool.not_false, Nat.lt_add_one, Nat.zero_lt_succ, N0, swL_n, swL_c, List.toList_toArray, false_implies, true_implies, implies_true, forall_const, not_false_eq_true, not_true_eq_false, and_false, false_and, h4, h5]
      simp only [hK9]
      clear hK9 K9v
      exact hin
set_option maxRecDepth 100000 in
set_option maxHeartbeats 4000000 in
theorem jj_o4 {M1 : Nat → Nat → Int} {Φ : Out → Mem → Prop} {js : Nat → Nat} (d N : Nat) (hN8 : N ≤ 8) (hjs : jsOK M1 js N) (hJ : mJ M1) : ∀ (k s : Nat) (M' : Nat → Nat → Int) (w3 w4 w5 w6 : Option AV), nk w3 → nk w4 → nk w5 → nk w6 → s + k = 2 ^ N → mtb M1 M' js s 0 → (∀ (M' : Nat → Nat → Int), mtb M1 M' js (2 ^ N) 0 → Φ (.inl (some (.inl (N : Int)))) (N0, R0, M')) →
    J l D cy (GM l D cy 9 cX9_orders 7 (d + 3) 0 0 false (some .int) Φ) 40 [some (.inr (.inr (some 447))), some (.inl (N : Int)), some (.inl (s : Int)), w3, w4, w5, w6] [] (468, R0, M') 0 0 := by
  obtain ⟨b1, b2, b3, b4, b5, b6⟩ := bt_all N hN8
  have r3 : (1 * 2 ^ N : Int) ≤ 2147483647 := by omega
  have r4 : 0 ≤ (N : Int) ∧ (N : Int) < 31 := by omega
  intro k
  induction k with
  | zero =>
    intro s M' w3 w4 w5 w6 h3 h4 h5 h6 hs hM hfin
    have e : s = 2 ^ N := by omega
    have h1 : ¬ (s : Int) < ((2 ^ N : Nat) : Int) := by omega
    have r1 : -2147483648 ≤ (s : Int) ∧ (s : Int) ≤ 2147483647 := by omega
    have r5 : -2147483648 ≤ ((2 ^ N : Nat) : Int) ∧ ((2 ^ N : Nat) : Int) ≤ 2147483647 := by omega
    refine J_rnG GM_fa (by omega) (by omega) (by omega) 5 _ _ _ _ (fun K9v hK9 => ?_)
    simp (maxSteps := 4000000) only [↓(X_iload_n (k := 2) (pc' := 41) dX9_orders_40 rfl rfl), ↓gI_2, ↓(X_iconst (pc' := 42) dX9_orders_41 rfl), ↓(X_iload_n (k := 1) (pc' := 43) dX9_orders_42 rfl rfl), ↓gI_1, ↓(X_ishl (pc' := 44) dX9_orders_43 rfl), ↓(X_icmp_ge (tgt := 182) (pc' := 47) dX9_orders_44 (by decide) rfl), rn_0, gV_s, ↓pI_c, ↓pII_c, ↓pL_c, ↓pLL_c, ↓pR_c, ↓pRI_c, ↓pRII_c, ↓pRIL_c, ↓pRR_c, ↓pV_c, ↓pVV_c, ↓gI_c, ↓gL_c, ↓gR_c, f2_0, f2_1, nk_n, nk_i, nk_r, ↓reduceIte, r32, r64, Nat.reduceAdd, Nat.reduceSub, Nat.reduceEqDiff, Nat.reduceLT, Nat.reduceLeDiff, Nat.reduceBEq, Int.reduceAdd, Int.reduceSub, Int.reduceMul, Int.reduceNeg, Int.reduceToNat, Int.reduceLE, Int.reduceLT, Int.reduceEq, Int.reduceNatCast', Int.reduceNatCast, Int.natCast_zero, Int.toNat_natCast, Int.toNat_zero, Int.toNat_one, List.length_cons, List.length_nil, true_and, and_true, and_self, true_or, or_true, false_or, or_false, Bool.not_true, Bool.not_false, Nat.lt_add_one, Nat.zero_lt_succ, N0, swL_n, swL_c, List.toList_toArray, false_implies, true_implies, implies_true, forall_const, not_false_eq_true, not_true_eq_false, and_false, false_and, r3, r4, b6, h1, r1, r5]
    simp only [hK9]
    clear hK9 K9v
    refine J_rnG GM_fa (by omega) (by omega) (by omega) 1 _ _ _ _ (fun K9v hK9 => ?_)
    simp (maxSteps := 4000000) only [↓(X_iload_n (k := 1) (pc' := 183) dX9_orders_182 rfl rfl), ↓gI_1, rn_0, gV_s, ↓pI_c, ↓pII_c, ↓pL_c, ↓pLL_c, ↓pR_c, ↓pRI_c, ↓pRII_c, ↓pRIL_c, ↓pRR_c, ↓pV_c, ↓pVV_c, ↓gI_c, ↓gL_c, ↓gR_c, f2_0, f2_1, nk_n, nk_i, nk_r, ↓reduceIte, r32, r64, Nat.reduceAdd, Nat.reduceSub, Nat.reduceEqDiff, Nat.reduceLT, Nat.reduceLeDiff, Nat.reduceBEq, Int.reduceAdd, Int.reduceSub, Int.reduceMul, Int.reduceNeg, Int.reduceToNat, Int.reduceLE, Int.reduceLT, Int.reduceEq, Int.reduceNatCast', Int.reduceNatCast, Int.natCast_zero, Int.toNat_natCast, Int.toNat_zero, Int.toNat_one, List.length_cons, List.length_nil, true_and, and_true, and_self, true_or, or_true, false_or, or_false, Bool.not_true, Bool.not_false, Nat.lt_add_one, Nat.zero_lt_succ, N0, swL_n, swL_c, List.toList_toArray, false_implies, true_implies, implies_true, forall_const, not_false_eq_true, not_true_eq_false, and_false, false_and]
    simp only [hK9]
    clear hK9 K9v
    refine J_iret dX9_orders_183 rfl (by omega) (by omega) (hfin M' (by rw [← e]; exact hM))
  | succ k ih =>
    intro s M' w3 w4 w5 w6 h3 h4 h5 h6 hs hM hfin
    have h1 : (s : Int) < ((2 ^ N : Nat) : Int) := by omega
    have r1 : -2147483648 ≤ (s : Int) ∧ (s : Int) ≤ 2147483647 := by omega
    have r5 : -2147483648 ≤ ((2 ^ N : Nat) : Int) ∧ ((2 ^ N : Nat) : Int) ≤ 2147483647 := by omega
    refine J_rnG GM_fa (by omega) (by omega) (by omega) 5 _ _ _ _ (fun K9v hK9 => ?_)
    simp (maxSteps := 4000000) only [↓(X_iload_n (k := 2) (pc' := 41) dX9_orders_40 rfl rfl), ↓gI_2, ↓(X_iconst (pc' := 42) dX9_orders_41 rfl), ↓(X_iload_n (k := 1) (pc' := 43) dX9_orders_42 rfl rfl), ↓gI_1, ↓(X_ishl (pc' := 44) dX9_orders_43 rfl), ↓(X_icmp_ge (tgt := 182) (pc' := 47) dX9_orders_44 (by decide) rfl), rn_0, gV_s, ↓pI_c, ↓pII_c, ↓pL_c, ↓pLL_c, ↓pR_c, ↓pRI_c, ↓pRII_c, ↓pRIL_c, ↓pRR_c, ↓pV_c, ↓pVV_c, ↓gI_c, ↓gL_c, ↓gR_c, f2_0, f2_1, nk_n, nk_i, nk_r, ↓reduceIte, r32, r64, Nat.reduceAdd, Nat.reduceSub, Nat.reduceEqDiff, Nat.reduceLT, Nat.reduceLeDiff, Nat.reduceBEq, Int.reduceAdd, Int.reduceSub, Int.reduceMul, Int.reduceNeg, Int.reduceToNat, Int.reduceLE, Int.reduceLT, Int.reduceEq, Int.reduceNatCast', Int.reduceNatCast, Int.natCast_zero, Int.toNat_natCast, Int.toNat_zero, Int.toNat_one, List.length_cons, List.length_nil, true_and, and_true, and_self, true_or, or_true, false_or, or_false, Bool.not_true, Bool.not_false, Nat.lt_add_one, Nat.zero_lt_succ, N0, swL_n, swL_c, List.toList_toArray, false_implies, true_implies, implies_true, forall_const, not_false_eq_true, not_true_eq_false, and_false, false_and, r3, r4, b6, h1, r1, r5]
    simp only [hK9]
    clear hK9 K9v
    refine J_rnG GM_fa (by omega) (by omega) (by omega) 2 _ _ _ _ (fun K9v hK9 => ?_)
    simp (maxSteps := 4000000) only [↓(X_iconst (pc' := 48) dX9_orders_47 rfl), ↓(X_istore_n (k := 3) (pc' := 49) dX9_orders_48 rfl rfl), ↓sto_3, rn_0, gV_s, ↓pI_c, ↓pII_c, ↓pL_c, ↓pLL_c, ↓pR_c, ↓pRI_c, ↓pRII_c, ↓pRIL_c, ↓pRR_c, ↓pV_c, ↓pVV_c, ↓gI_c, ↓gL_c, ↓gR_c, f2_0, f2_1, nk_n, nk_i, nk_r, ↓reduceIte, r32, r64, Nat.reduceAdd, Nat.reduceSub, Nat.reduceEqDiff, Nat.reduceLT, Nat.reduceLeDiff, Nat.reduceBEq, Int.reduceAdd, Int.reduceSub, Int.reduceMul, Int.reduceNeg, Int.reduceToNat, Int.reduceLE, Int.reduceLT, Int.reduceEq, Int.reduceNatCast', Int.reduceNatCast, Int.natCast_zero, Int.toNat_natCast, Int.toNat_zero, Int.toNat_one, List.length_cons, List.length_nil, true_and, and_true, and_self, true_or, or_true, false_or, or_false, Bool.not_true, Bool.not_false, Nat.lt_add_one, Nat.zero_lt_succ, N0, swL_n, swL_c, List.toList_toArray, false_implies, true_implies, implies_true, forall_const, not_false_eq_true, not_true_eq_false, and_false, false_and, h3, h4, h5]
    simp only [hK9]
    clear hK9 K9v
    refine jj_o3 d N s hN8 (by omega) hjs hJ 17 0 M' w4 w5 w6 h4 h5 h6 (by omega) hM (fun M' w4 w5 w6 h4 h5 h6 hM => ?_)
    refine J_rnG GM_fa (by omega) (by omega) (by omega) 2 _ _ _ _ (fun K9v hK9 => ?_)
    simp (maxSteps := 4000000) only [↓(X_iinc (pc' := 179) dX9_orders_176 rfl), ↓gI_2, ↓sto_2, ↓(X_goto (pc' := 40) dX9_orders_179 (by decide)), rn_0, gV_s, ↓pI_c, ↓pII_c, ↓pL_c, ↓pLL_c, ↓pR_c, ↓pRI_c, ↓pRII_c, ↓pRIL_c, ↓pRR_c, ↓pV_c, ↓pVV_c, ↓gI_c, ↓gL_c, ↓gR_c, f2_0, f2_1, nk_n, nk_i, nk_r, ↓reduceIte, r32, r64, Nat.reduceAdd, Nat.reduceSub, Nat.reduceEqDiff, Nat.reduceLT, Nat.reduceLeDiff, Nat.reduceBEq, Int.reduceAdd, Int.reduceSub, Int.reduceMul, Int.reduceNeg, Int.reduceToNat, Int.reduceLE, Int.reduceLT, Int.reduceEq, Int.reduceNatCast', Int.reduceNatCast, Int.natCast_zero, Int.toNat_natCast, Int.toNat_zero, Int.toNat_one, List.length_cons, List.length_nil, true_and, and_true, and_self, true_or, or_true, false_or, or_false, Bool.not_true, Bool.not_false, Nat.lt_add_one, Nat.zero_lt_succ, N0, swL_n, swL_c, List.toList_toArray, false_implies, true_implies, implies_true, forall_const, not_false_eq_true, not_true_eq_false, and_false, false_and]
    simp only [hK9]
    clear hK9 K9v
    rw [show (s : Int) + 1 = ((s + 1 : Nat) : Int) by omega]
    exact ih (s + 1) M' _ _ _ _ (nk_i.mpr trivial) h4 h5 h6 (by omega) hM hfin
set_option maxRecDepth 100000 in
set_option maxHeartbeats 4000000 in
theorem om_orders {M : Nat → Nat → Int} (d n : Nat) (hn : M 447 7 = (n : Int)) (hn2 : n ≤ 16) (hst : ∀ i, i < 16 → 0 ≤ M 457 i ∧ M 457 i ≤ 2) (h8 : nMixm M n ≤ 8) (hJ : mJ M) : Ok l D cy (d + 3) 0 0 yX9_orders cX9_orders 7 (some (.int)) [.inr (.inr (some (447)))] (N0, R0, M) (fun o ν => o = .inl (some (.inl (nMixm M n : Int))) ∧ ∃ M2 : Nat → Nat → Int, ν = (N0, R0, M2) ∧ ∃ M1 : Nat → Nat → Int, mxI M M1 n ∧ mtb M1 M2 (mixAtm M n) (2 ^ nMixm M n) 0) := by
  refine Ok.intro (o := 9) (ini := false) [some (.inr (.inr (some (447)))), none, none, none, none, none, none] (by decide +kernel) rfl (fun h => by cases h) rfl (Nat.le_of_ble_eq_true rfl) rfl ?_
  refine J_rnG GM_fa (by omega) (by omega) (by omega) 4 _ _ _ _ (fun K9v hK9 => ?_)
  simp (maxSteps := 4000000) only [↓(X_iconst (pc' := 1) dX9_orders_0 rfl), ↓(X_istore_n (k := 1) (pc' := 2) dX9_orders_1 rfl rfl), ↓sto_1, ↓(X_iconst (pc' := 3) dX9_orders_2 rfl), ↓(X_istore_n (k := 2) (pc' := 4) dX9_orders_3 rfl rfl), ↓sto_2, rn_0, gV_s, ↓pI_c, ↓pII_c, ↓pL_c, ↓pLL_c, ↓pR_c, ↓pRI_c, ↓pRII_c, ↓pRIL_c, ↓pRR_c, ↓pV_c, ↓pVV_c, ↓gI_c, ↓gL_c, ↓gR_c, f2_0, f2_1, nk_n, nk_i, nk_r, ↓reduceIte, r32, r64, Nat.reduceAdd, Nat.reduceSub, Nat.reduceEqDiff, Nat.reduceLT, Nat.reduceLeDiff, Nat.reduceBEq, Int.reduceAdd, Int.reduceSub, Int.reduceMul, Int.reduceNeg, Int.reduceToNat, Int.reduceLE, Int.reduceLT, Int.reduceEq, Int.reduceNatCast', Int.reduceNatCast, Int.natCast_zero, Int.toNat_natCast, Int.toNat_zero, Int.toNat_one, List.length_cons, List.length_nil, true_and, and_true, and_self, true_or, or_true, false_or, or_false, Bool.not_true, Bool.not_false, Nat.lt_add_one, Nat.zero_lt_succ, N0, swL_n, swL_c, List.toList_toArray, false_implies, true_implies, implies_true, forall_const, not_false_eq_true, not_true_eq_false, and_false, false_and]
  simp only [hK9]
  clear hK9 K9v
  refine jj_o1 d n hn hn2 hst h8 (fun M1 hM1 => ?_) n 0 M (by omega) ⟨fun _ _ => rfl, fun k hk => by rw [nMixm] at hk; omega⟩
  refine J_rnG GM_fa (by omega) (by omega) (by omega) 2 _ _ _ _ (fun K9v hK9 => ?_)
  simp (maxSteps := 4000000) only [↓(X_iconst (pc' := 39) dX9_orders_38 rfl), ↓(X_istore_n (k := 2) (pc' := 40) dX9_orders_39 rfl rfl), ↓sto_2, rn_0, gV_s, ↓pI_c, ↓pII_c, ↓pL_c, ↓pLL_c, ↓pR_c, ↓pRI_c, ↓pRII_c, ↓pRIL_c, ↓pRR_c, ↓pV_c, ↓pVV_c, ↓gI_c, ↓gL_c, ↓gR_c, f2_0, f2_1, nk_n, nk_i, nk_r, ↓reduceIte, r32, r64, Nat.reduceAdd, Nat.reduceSub, Nat.reduceEqDiff, Nat.reduceLT, Nat.reduceLeDiff, Nat.reduceBEq, Int.reduceAdd, Int.reduceSub, Int.reduceMul, Int.reduceNeg, Int.reduceToNat, Int.reduceLE, Int.reduceLT, Int.reduceEq, Int.reduceNatCast', Int.reduceNatCast, Int.natCast_zero, Int.toNat_natCast, Int.toNat_zero, Int.toNat_one, List.length_cons, List.length_nil, true_and, and_true, and_self, true_or, or_true, false_or, or_false, Bool.not_true, Bool.not_false, Nat.lt_add_one, Nat.zero_lt_succ, N0, swL_n, swL_c, List.toList_toArray, false_implies, true_implies, implies_true, forall_const, not_false_eq_true, not_true_eq_false, and_false, false_and]
  simp only [hK9]
  clear hK9 K9v
  have h1p : 1 ≤ 2 ^ nMixm M n := Nat.one_le_two_pow
  exact jj_o4 (js := mixAtm M n) d (nMixm M n) h8 (fun k hk => ⟨hM1.2 k hk, by have := mixAtm_lt n k hk; omega⟩) (mJ_congr (hM1.1 454 (by decide)) hJ) (2 ^ nMixm M n) 0 M1 none none none none (nk_n.mpr trivial) (nk_n.mpr trivial) (nk_n.mpr trivial) (nk_n.mpr trivial) (by omega) ⟨fun _ _ => rfl, fun s' hs' => by omega, fun r hr => by omega⟩ (fun M' hM' => ⟨rfl, M', rfl, M1, hM1, hM'⟩)
end MQ
