/-! taking grams out of an ink -/
def ag1 (p : (Nat → Int) × (Nat → Int)) : (Nat → Int) × (Nat → Int) := (fun b => if b = gt4 p.2 then p.1 b + 1 else p.1 b, fun b => if b = gt4 p.2 then -1 else p.2 b)
def agK : Nat → (Nat → Int) × (Nat → Int) → (Nat → Int) × (Nat → Int)
  | 0, p => p
  | k + 1, p => agK k (ag1 p)
def wt (m : Nat → Int) : Int := m 0 + m 1 + m 2 + m 3
def tq (m : Nat → Int) (G : Int) : Nat → Int := fun b => m b * G / wt m
def tr (m : Nat → Int) (G : Int) : Nat → Int := fun b => m b * G % wt m
def tmiss (m : Nat → Int) (G : Int) : Int := G - tq m G 0 - tq m G 1 - tq m G 2 - tq m G 3
/-- what taking G milligrams out of m takes of each base -/
def takeF (m : Nat → Int) (G : Int) : Nat → Int := (agK (tmiss m G).toNat (tq m G, tr m G)).1
theorem gt4_congr {r r' : Nat → Int} (h : ∀ b, b < 4 → r b = r' b) : gt4 r = gt4 r' := by
  have h0 := h 0 (by omega)
  have h1 := h 1 (by omega)
  have h2 := h 2 (by omega)
  have h3 := h 3 (by omega)
  have ea : gt4a r = gt4a r' := by simp only [gt4a, h0, h1]
  have eb : gt4b r = gt4b r' := by
    have hl : gt4a r' < 4 := by unfold gt4a; split <;> omega
    simp only [gt4b, ea, h2, h _ hl]
  have hl : gt4b r' < 4 := by unfold gt4b gt4a; split <;> (try split) <;> omega
  simp only [gt4, eb, h3, h _ hl]
theorem agK_congr : ∀ (k : Nat) (p p' : (Nat → Int) × (Nat → Int)), (∀ b, b < 4 → p.1 b = p'.1 b ∧ p.2 b = p'.2 b) → ∀ b, b < 4 → (agK k p).1 b = (agK k p').1 b ∧ (agK k p).2 b = (agK k p').2 b
  | 0, p, p', h, b, hb => h b hb
  | k + 1, p, p', h, b, hb => by
    refine agK_congr k _ _ (fun b hb => ?_) b hb
    have e := gt4_congr (fun b hb => (h b hb).2)
    simp only [ag1, e, (h b hb).1, (h b hb).2, and_self]
section C2
variable {l : Launch} {D : va_G} {cy : Nat → ClassId}
set_option maxRecDepth 100000 in
set_option maxHeartbeats 4000000 in
theorem ok_meas2 {Φ : Out → Mem → Prop} (d q c : Nat) (hq : q = 76 ∨ q = 82) (g w G miss : Int) (e7 e8 : Option AV) : ∀ (k i : Nat) (M : Nat → Nat → Int), (i : Int) + k = miss → i + k ≤ 4 → (∀ b, b < 4 → -1 ≤ M (q + 2) b ∧ M (q + 2) b ≤ 2147483647) → (∀ M2 : Nat → Nat → Int, M2 (q + 1) = (agK k (M (q + 1), M (q + 2))).1 → (∀ x, x ≠ q + 1 → x ≠ q + 2 → M2 x = M x) → Φ (.inl none) (N0, R0, M2)) →
    J l D cy (GM l D cy 2 cX2_measure 9 (d + 2) 0 0 false none Φ) 102 [some (.inr (.inr (some q))), some (.inr (.inr (some c))), some (.inl g), some (.inl w), some (.inl G), some (.inl miss), some (.inl (i : Int)), e7, e8] [] (449, R0, M) 0 0 := by
  obtain ⟨a1, a2, a3, a4, a5, a6, a7, a8, a9, a10⟩ := lad_at hq
  intro k
  induction k with
  | zero =>
    intro i M hm h4 hr hΦ
    have hfin : J l D cy (GM l D cy 2 cX2_measure 9 (d + 2) 0 0 false none Φ) 125 [some (.inr (.inr (some q))), some (.inr (.inr (some c))), some (.inl g), some (.inl w), some (.inl G), some (.inl miss), some (.inl (i : Int)), e7, e8] [] (449, R0, M) 0 0 := by
      refine J_vret dX2_measure_125 rfl (by omega) (by omega) (hΦ M rfl (fun _ _ _ => rfl))
    have h5 : ¬ (i : Int) < miss := by omega
    refine J_rnG GM_fa (by omega) (by omega) (by omega) 3 _ _ _ _ (fun K9v hK9 => ?_)
    simp (maxSteps := 4000000) only [↓(X_iload (pc' := 104) dX2_measure_102 rfl), ↓gI_6, ↓(X_iconst (pc' := 105) dX2_measure_104 rfl), ↓(X_icmp_ge (tgt := 125) (pc' := 108) dX2_measure_105 (by decide) rfl), rn_0, gV_s, ↓pI_c, ↓pII_c, ↓pL_c, ↓pLL_c, ↓pR_c, ↓pRI_c, ↓pRII_c, ↓pRIL_c, ↓pRR_c, ↓pV_c, ↓pVV_c, ↓gI_c, ↓gL_c, ↓gR_c, f2_0, f2_1, nk_n, nk_i, nk_r, ↓reduceIte, r32, r64, Nat.reduceAdd, Nat.reduceSub, Nat.reduceEqDiff, Nat.reduceLT, Nat.reduceLeDiff, Nat.reduceBEq, Int.reduceAdd, Int.reduceSub, Int.reduceMul, Int.reduceNeg, Int.reduceToNat, Int.reduceLE, Int.reduceLT, Int.reduceEq, Int.reduceNatCast', Int.reduceNatCast, Int.natCast_zero, Int.toNat_natCast, Int.toNat_zero, Int.toNat_one, List.length_cons, List.length_nil, true_and, and_true, and_self, true_or, or_true, false_or, or_false, Bool.not_true, Bool.not_false, Nat.lt_add_one, Nat.zero_lt_succ, N0, swL_n, swL_c, List.toList_toArray, false_implies, true_implies, implies_true, forall_const, not_false_eq_true, not_true_eq_false, and_false, false_and]
    simp only [hK9]
    clear hK9 K9v
    repeat (refine And.intro (by first | omega | assumption | (refine ⟨?_, ?_⟩ <;> omega)) ?_)
    split
    · refine J_rnG GM_fa (by omega) (by omega) (by omega) 3 _ _ _ _ (fun K9v hK9 => ?_)
      simp (maxSteps := 4000000) only [↓(X_iload (pc' := 110) dX2_measure_108 rfl), ↓gI_6, ↓(X_iload (pc' := 112) dX2_measure_110 rfl), ↓gI_5, ↓(X_icmp_ge (tgt := 125) (pc' := 115) dX2_measure_112 (by decide) rfl), rn_0, gV_s, ↓pI_c, ↓pII_c, ↓pL_c, ↓pLL_c, ↓pR_c, ↓pRI_c, ↓pRII_c, ↓pRIL_c, ↓pRR_c, ↓pV_c, ↓pVV_c, ↓gI_c, ↓gL_c, ↓gR_c, f2_0, f2_1, nk_n, nk_i, nk_r, ↓reduceIte, r32, r64, Nat.reduceAdd, Nat.reduceSub, Nat.reduceEqDiff, Nat.reduceLT, Nat.reduceLeDiff, Nat.reduceBEq, Int.reduceAdd, Int.reduceSub, Int.reduceMul, Int.reduceNeg, Int.reduceToNat, Int.reduceLE, Int.reduceLT, Int.reduceEq, Int.reduceNatCast', Int.reduceNatCast, Int.natCast_zero, Int.toNat_natCast, Int.toNat_zero, Int.toNat_one, List.length_cons, List.length_nil, true_and, and_true, and_self, true_or, or_true, false_or, or_false, Bool.not_true, Bool.not_false, Nat.lt_add_one, Nat.zero_lt_succ, N0, swL_n, swL_c, List.toList_toArray, false_implies, true_implies, implies_true, forall_const, not_false_eq_true, not_true_eq_false, and_false, false_and, h5]
      simp only [hK9]
      clear hK9 K9v
      repeat (refine And.intro (by first | omega | assumption | (refine ⟨?_, ?_⟩ <;> omega)) ?_)
      exact hfin
    · exact hfin
  | succ k ih =>
    intro i M hm h4 hr hΦ
    have h5 : (i : Int) < miss := by omega
    have h6 : (i : Int) < 4 := by omega
    refine J_rnG GM_fa (by omega) (by omega) (by omega) 6 _ _ _ _ (fun K9v hK9 => ?_)
    simp (maxSteps := 4000000) only [↓(X_iload (pc' := 104) dX2_measure_102 rfl), ↓gI_6, ↓(X_iconst (pc' := 105) dX2_measure_104 rfl), ↓(X_icmp_ge (tgt := 125) (pc' := 108) dX2_measure_105 (by decide) rfl), ↓(X_iload (pc' := 110) dX2_measure_108 rfl), ↓(X_iload (pc' := 112) dX2_measure_110 rfl), ↓gI_5, ↓(X_icmp_ge (tgt := 125) (pc' := 115) dX2_measure_112 (by decide) rfl), rn_0, gV_s, ↓pI_c, ↓pII_c, ↓pL_c, ↓pLL_c, ↓pR_c, ↓pRI_c, ↓pRII_c, ↓pRIL_c, ↓pRR_c, ↓pV_c, ↓pVV_c, ↓gI_c, ↓gL_c, ↓gR_c, f2_0, f2_1, nk_n, nk_i, nk_r, ↓reduceIte, r32, r64, Nat.reduceAdd, Nat.reduceSub, Nat.reduceEqDiff, Nat.reduceLT, Nat.reduceLeDiff, Nat.reduceBEq, Int.reduceAdd, Int.reduceSub, Int.reduceMul, Int.reduceNeg, Int.reduceToNat, Int.reduceLE, Int.reduceLT, Int.reduceEq, Int.reduceNatCast', Int.reduceNatCast, Int.natCast_zero, Int.toNat_natCast, Int.toNat_zero, Int.toNat_one, List.length_cons, List.length_nil, true_and, and_true, and_self, true_or, or_true, false_or, or_false, Bool.not_true, Bool.not_false, Nat.lt_add_one, Nat.zero_lt_succ, N0, swL_n, swL_c, List.toList_toArray, false_implies, true_implies, implies_true, forall_const, not_false_eq_true, not_true_eq_false, and_false, false_and, h5, h6]
    simp only [hK9]
    clear hK9 K9v
    repeat (refine And.intro (by first | omega | assumption | (refine ⟨?_, ?_⟩ <;> omega)) ?_)
    refine J_rnG GM_fa (by omega) (by omega) (by omega) 1 _ _ _ _ (fun K9v hK9 => ?_)
    simp (maxSteps := 4000000) only [↓(X_aload_n (k := 0) (pc' := 116) dX2_measure_115 rfl rfl), ↓gR_0, rn_0, gV_s, ↓pI_c, ↓pII_c, ↓pL_c, ↓pLL_c, ↓pR_c, ↓pRI_c, ↓pRII_c, ↓pRIL_c, ↓pRR_c, ↓pV_c, ↓pVV_c, ↓gI_c, ↓gL_c, ↓gR_c, f2_0, f2_1, nk_n, nk_i, nk_r, ↓reduceIte, r32, r64, Nat.reduceAdd, Nat.reduceSub, Nat.reduceEqDiff, Nat.reduceLT, Nat.reduceLeDiff, Nat.reduceBEq, Int.reduceAdd, Int.reduceSub, Int.reduceMul, Int.reduceNeg, Int.reduceToNat, Int.reduceLE, Int.reduceLT, Int.reduceEq, Int.reduceNatCast', Int.reduceNatCast, Int.natCast_zero, Int.toNat_natCast, Int.toNat_zero, Int.toNat_one, List.length_cons, List.length_nil, true_and, and_true, and_self, true_or, or_true, false_or, or_false, Bool.not_true, Bool.not_false, Nat.lt_add_one, Nat.zero_lt_succ, N0, swL_n, swL_c, List.toList_toArray, false_implies, true_implies, implies_true, forall_const, not_false_eq_true, not_true_eq_false, and_false, false_and]
    simp only [hK9]
    clear hK9 K9v
    refine J_callVd (ci := 2) GM_fa (ok_atgr (M := M) d q hq (fun b hb => ⟨by have := hr b hb; omega, (hr b hb).2⟩)) dX2_measure_116 k_2_27 (by omega) (Nat.le_of_ble_eq_true rfl) ⟨by omega, by omega⟩ rfl (by exact a1) rfl (by decide) (by simp only [N0]; omega) (by simp) rfl rfl ?_
    simp only [Option.toList, List.nil_append]
    refine J_rnG GM_fa (by omega) (by omega) (by omega) 2 _ _ _ _ (fun K9v hK9 => ?_)
    simp (maxSteps := 4000000) only [↓(X_iinc (pc' := 122) dX2_measure_119 rfl), ↓gI_6, ↓sto_6, ↓(X_goto (pc' := 102) dX2_measure_122 (by decide)), rn_0, gV_s, ↓pI_c, ↓pII_c, ↓pL_c, ↓pLL_c, ↓pR_c, ↓pRI_c, ↓pRII_c, ↓pRIL_c, ↓pRR_c, ↓pV_c, ↓pVV_c, ↓gI_c, ↓gL_c, ↓gR_c, f2_0, f2_1, nk_n, nk_i, nk_r, ↓reduceIte, r32, r64, Nat.reduceAdd, Nat.reduceSub, Nat.reduceEqDiff, Nat.reduceLT, Nat.reduceLeDiff, Nat.reduceBEq, Int.reduceAdd, Int.reduceSub, Int.reduceMul, Int.reduceNeg, Int.reduceToNat, Int.reduceLE, Int.reduceLT, Int.reduceEq, Int.reduceNatCast', Int.reduceNatCast, Int.natCast_zero, Int.toNat_natCast, Int.toNat_zero, Int.toNat_one, List.length_cons, List.length_nil, true_and, and_true, and_self, true_or, or_true, false_or, or_false, Bool.not_true, Bool.not_false, Nat.lt_add_one, Nat.zero_lt_succ, N0, swL_n, swL_c, List.toList_toArray, false_implies, true_implies, implies_true, forall_const, not_false_eq_true, not_true_eq_false, and_false, false_and]
    simp only [hK9]
    clear hK9 K9v
    have e1 : (i : Int) + 1 = ((i + 1 : Nat) : Int) := by omega
    rw [e1]
    refine ih (i + 1) _ (by omega) (by omega) (fun b hb => ?_) (fun M2 h1 h2 => ?_)
    · have := hr b hb
      simp only [up2]
      split <;> (try split) <;> omega
    · refine hΦ M2 ?_ (fun x hx1 hx2 => ?_)
      · rw [h1]
        have e2 : ∀ M' : Nat → Nat → Int, M' = up2 (up2 M (q + 1) (gt4 (M (q + 2))) (M (q + 1) (gt4 (M (q + 2))) + 1)) (q + 2) (gt4 (M (q + 2))) (-1) → (M' (q + 1), M' (q + 2)) = ag1 (M (q + 1), M (q + 2)) := by
          intro M' hM'
          subst hM'
          simp only [ag1, Prod.mk.injEq]
          constructor
          · funext b
            simp only [up2]
            by_cases hb : b = gt4 (M (q + 2))
            · subst hb; simp
            · simp [hb]
          · funext b
            simp only [up2]
            by_cases hb : b = gt4 (M (q + 2))
            · subst hb; simp
            · simp [hb]
        show (agK k _).1 = (agK k (ag1 _)).1
        rw [← e2 _ rfl]
      · rw [h2 x hx1 hx2]
        funext b
        simp only [up2]
        rw [if_neg (fun q => hx2 q.1), if_neg (fun q => hx1 q.1)]
/-- an ink that a taking may take of -/
def ink4 (m : Nat → Int) : Prop := (0 ≤ m 0 ∧ m 0 ≤ 500000) ∧ (0 ≤ m 1 ∧ m 1 ≤ 500000) ∧ (0 ≤ m 2 ∧ m 2 ≤ 500000) ∧ (0 ≤ m 3 ∧ m 3 ≤ 500000) ∧ 0 < wt m
theorem mul_bd {a b A B : Int} (h1 : 0 ≤ a) (h2 : a ≤ A) (h3 : 0 ≤ b) (h4 : b ≤ B) : 0 ≤ a * b ∧ a * b ≤ A * B := ⟨Int.mul_nonneg h1 h3, Int.mul_le_mul h2 h4 h3 (Int.le_trans h1 h2)⟩
/-- the greatest rests sum up to less than four weights -/
theorem tmiss_bd {m : Nat → Int} {G : Int} (hm : ink4 m) (hG : 0 ≤ G) : 0 ≤ tmiss m G ∧ tmiss m G ≤ 3 := by
  obtain ⟨⟨a0, -⟩, ⟨a1, -⟩, ⟨a2, -⟩, ⟨a3, -⟩, hw⟩ := hm
  have e0 := Int.mul_ediv_add_emod (m 0 * G) (wt m)
  have e1 := Int.mul_ediv_add_emod (m 1 * G) (wt m)
  have e2 := Int.mul_ediv_add_emod (m 2 * G) (wt m)
  have e3 := Int.mul_ediv_add_emod (m 3 * G) (wt m)
  have l0 := Int.emod_nonneg (m 0 * G) (Int.ne_of_gt hw)
  have l1 := Int.emod_nonneg (m 1 * G) (Int.ne_of_gt hw)
  have l2 := Int.emod_nonneg (m 2 * G) (Int.ne_of_gt hw)
  have l3 := Int.emod_nonneg (m 3 * G) (Int.ne_of_gt hw)
  have u0 := Int.emod_lt_of_pos (m 0 * G) hw
  have u1 := Int.emod_lt_of_pos (m 1 * G) hw
  have u2 := Int.emod_lt_of_pos (m 2 * G) hw
  have u3 := Int.emod_lt_of_pos (m 3 * G) hw
  have key : wt m * tmiss m G = m 0 * G % wt m + m 1 * G % wt m + m 2 * G % wt m + m 3 * G % wt m := by
    simp only [tmiss, tq, Int.mul_sub]
    have : wt m * G = m 0 * G + m 1 * G + m 2 * G + m 3 * G := by simp only [wt, Int.add_mul]
    omega
  constructor
  · rcases (show tmiss m G < 0 ∨ 0 ≤ tmiss m G by omega) with h | h
    · have : wt m * tmiss m G < 0 := Int.mul_neg_of_pos_of_neg hw h
      omega
    · exact h
  · rcases (show 3 < tmiss m G ∨ tmiss m G ≤ 3 by omega) with h | h
    · have h4 : wt m * 4 ≤ wt m * tmiss m G := Int.mul_le_mul_of_nonneg_left h (Int.le_of_lt hw)
      omega
    · exact h
set_option maxRecDepth 100000 in
set_option maxHeartbeats 4000000 in
theorem ok_measure {M : Nat → Nat → Int} (d q c : Nat) (g : Int) (hq : q = 76 ∨ q = 82) (hk : kd c = 0) (hc : c < 449) (hcq : c ≠ q ∧ c + 1 ≠ q + 1 ∧ c + 1 ≠ q + 2) (hm : ink4 (M (c + 1))) (hg : 0 ≤ g ∧ g ≤ 500) : Ok l D cy (d + 2) 0 0 yX2_measure cX2_measure 9 (none) [.inr (.inr (some (q))), .inr (.inr (some (c))), .inl (g)] (N0, R0, M) (fun o ν => o = .inl none ∧ ∃ M2 : Nat → Nat → Int, ν = (N0, R0, M2) ∧ (∀ x, x ≠ q + 1 → x ≠ q + 2 → M2 x = M x) ∧ ∀ b, b < 4 → M2 (q + 1) b = takeF (M (c + 1)) (g * 1000) b) := by
  refine Ok.intro (o := 2) (ini := false) [some (.inr (.inr (some (q)))), some (.inr (.inr (some (c)))), some (.inl (g)), none, none, none, none, none, none] (by decide +kernel) rfl (fun h => by cases h) rfl (Nat.le_of_ble_eq_true rfl) rfl ?_
  obtain ⟨a1, a2, a3, a4, a5, a6, a7, a8, a9, a10⟩ := lad_at hq
  obtain ⟨b1, b2, b3, b4⟩ := ink_at c hc hk
  obtain ⟨⟨m0, m0'⟩, ⟨m1, m1'⟩, ⟨m2, m2'⟩, ⟨m3, m3'⟩, hw⟩ := id hm
  have hG : 0 ≤ g * 1000 ∧ g * 1000 ≤ 500000 := by omega
  refine J_rnG GM_fa (by omega) (by omega) (by omega) 1 _ _ _ _ (fun K9v hK9 => ?_)
  simp (maxSteps := 4000000) only [↓(X_aload_n (k := 1) (pc' := 1) dX2_measure_0 rfl rfl), ↓gR_1, rn_0, gV_s, ↓pI_c, ↓pII_c, ↓pL_c, ↓pLL_c, ↓pR_c, ↓pRI_c, ↓pRII_c, ↓pRIL_c, ↓pRR_c, ↓pV_c, ↓pVV_c, ↓gI_c, ↓gL_c, ↓gR_c, f2_0, f2_1, nk_n, nk_i, nk_r, ↓reduceIte, r32, r64, Nat.reduceAdd, Nat.reduceSub, Nat.reduceEqDiff, Nat.reduceLT, Nat.reduceLeDiff, Nat.reduceBEq, Int.reduceAdd, Int.reduceSub, Int.reduceMul, Int.reduceNeg, Int.reduceToNat, Int.reduceLE, Int.reduceLT, Int.reduceEq, Int.reduceNatCast', Int.reduceNatCast, Int.natCast_zero, Int.toNat_natCast, Int.toNat_zero, Int.toNat_one, List.length_cons, List.length_nil, true_and, and_true, and_self, true_or, or_true, false_or, or_false, Bool.not_true, Bool.not_false, Nat.lt_add_one, Nat.zero_lt_succ, N0, swL_n, swL_c, List.toList_toArray, false_implies, true_implies, implies_true, forall_const, not_false_eq_true, not_true_eq_false, and_false, false_and]
  simp only [hK9]
  clear hK9 K9v
  refine J_callVd (ci := 0) GM_fa (ok_weight (M := M) (d + 0) c hk hc) dX2_measure_1 k_2_18 (by omega) (Nat.le_of_ble_eq_true rfl) ⟨by omega, by omega⟩ rfl (by exact hk) rfl (by decide) (by simp only [N0]; omega) (by simp) rfl rfl ?_
  simp only [Option.toList, List.cons_append, List.nil_append]
  obtain ⟨w, hwd⟩ : ∃ w, w = wt (M (c + 1)) := ⟨_, rfl⟩
  have hwe : M (c + 1) 0 + M (c + 1) 1 + M (c + 1) 2 + M (c + 1) 3 = w := by rw [hwd]; rfl
  have hw0 : 0 < w := by rw [hwd]; exact hw
  rw [hwe]
  obtain ⟨G, hGd⟩ : ∃ G, G = g * 1000 := ⟨_, rfl⟩
  rw [← hGd] at hG
  have rw_ : -2147483648 ≤ w ∧ w ≤ 2147483647 := by omega
  have rwl : 0 < w ∧ w ≤ 9223372036854775807 := by omega
  have rG : -2147483648 ≤ G ∧ G ≤ 2147483647 := by omega
  have r0 : -2147483648 ≤ M (c + 1) 0 ∧ M (c + 1) 0 ≤ 2147483647 := by omega
  have r1 : -2147483648 ≤ M (c + 1) 1 ∧ M (c + 1) 1 ≤ 2147483647 := by omega
  have r2 : -2147483648 ≤ M (c + 1) 2 ∧ M (c + 1) 2 ≤ 2147483647 := by omega
  have r3 : -2147483648 ≤ M (c + 1) 3 ∧ M (c + 1) 3 ≤ 2147483647 := by omega
  have p0 : 0 ≤ M (c + 1) 0 * G ∧ M (c + 1) 0 * G ≤ 9223372036854775807 := by have := mul_bd m0 m0' hG.1 hG.2; omega
  have p1 : 0 ≤ M (c + 1) 1 * G ∧ M (c + 1) 1 * G ≤ 9223372036854775807 := by have := mul_bd m1 m1' hG.1 hG.2; omega
  have p2 : 0 ≤ M (c + 1) 2 * G ∧ M (c + 1) 2 * G ≤ 9223372036854775807 := by have := mul_bd m2 m2' hG.1 hG.2; omega
  have p3 : 0 ≤ M (c + 1) 3 * G ∧ M (c + 1) 3 * G ≤ 9223372036854775807 := by have := mul_bd m3 m3' hG.1 hG.2; omega
  have n1 : ¬ (c + 1 = q + 1) := hcq.2.1
  have n2 : ¬ (c + 1 = q + 2) := hcq.2.2
  have n3 : ¬ (q + 1 = q + 2) := by omega
  have n4 : ¬ (q + 2 = q + 1) := by omega
  refine J_rnG GM_fa (by omega) (by omega) (by omega) 7 _ _ _ _ (fun K9v hK9 => ?_)
  simp (maxSteps := 4000000) only [↓(X_istore_n (k := 3) (pc' := 5) dX2_measure_4 rfl rfl), ↓sto_3, ↓(X_iload_n (k := 2) (pc' := 6) dX2_measure_5 rfl rfl), ↓gI_2, ↓(X_sipush (pc' := 9) dX2_measure_6 rfl), ↓(X_imul (pc' := 10) dX2_measure_9 rfl), ↓(X_istore (pc' := 12) dX2_measure_10 rfl), ↓sto_4, ↓(X_iload (pc' := 14) dX2_measure_12 rfl), ↓gI_4, ↓(X_istore (pc' := 16) dX2_measure_14 rfl), ↓sto_5, rn_0, gV_s, ↓pI_c, ↓pII_c, ↓pL_c, ↓pLL_c, ↓pR_c, ↓pRI_c, ↓pRII_c, ↓pRIL_c, ↓pRR_c, ↓pV_c, ↓pVV_c, ↓gI_c, ↓gL_c, ↓gR_c, f2_0, f2_1, nk_n, nk_i, nk_r, ↓reduceIte, r32, r64, Nat.reduceAdd, Nat.reduceSub, Nat.reduceEqDiff, Nat.reduceLT, Nat.reduceLeDiff, Nat.reduceBEq, Int.reduceAdd, Int.reduceSub, Int.reduceMul, Int.reduceNeg, Int.reduceToNat, Int.reduceLE, Int.reduceLT, Int.reduceEq, Int.reduceNatCast', Int.reduceNatCast, Int.natCast_zero, Int.toNat_natCast, Int.toNat_zero, Int.toNat_one, List.length_cons, List.length_nil, true_and, and_true, and_self, true_or, or_true, false_or, or_false, Bool.not_true, Bool.not_false, Nat.lt_add_one, Nat.zero_lt_succ, N0, swL_n, swL_c, List.toList_toArray, false_implies, true_implies, implies_true, forall_const, not_false_eq_true, not_true_eq_false, and_false, false_and, ← hGd]
  simp only [hK9]
  clear hK9 K9v
  refine J_rnG GM_fa (by omega) (by omega) (by omega) 2 _ _ _ _ (fun K9v hK9 => ?_)
  simp (maxSteps := 4000000) only [↓(X_iconst (pc' := 17) dX2_measure_16 rfl), ↓(X_istore (pc' := 19) dX2_measure_17 rfl), ↓sto_6, rn_0, gV_s, ↓pI_c, ↓pII_c, ↓pL_c, ↓pLL_c, ↓pR_c, ↓pRI_c, ↓pRII_c, ↓pRIL_c, ↓pRR_c, ↓pV_c, ↓pVV_c, ↓gI_c, ↓gL_c, ↓gR_c, f2_0, f2_1, nk_n, nk_i, nk_r, ↓reduceIte, r32, r64, Nat.reduceAdd, Nat.reduceSub, Nat.reduceEqDiff, Nat.reduceLT, Nat.reduceLeDiff, Nat.reduceBEq, Int.reduceAdd, Int.reduceSub, Int.reduceMul, Int.reduceNeg, Int.reduceToNat, Int.reduceLE, Int.reduceLT, Int.reduceEq, Int.reduceNatCast', Int.reduceNatCast, Int.natCast_zero, Int.toNat_natCast, Int.toNat_zero, Int.toNat_one, List.length_cons, List.length_nil, true_and, and_true, and_self, true_or, or_true, false_or, or_false, Bool.not_true, Bool.not_false, Nat.lt_add_one, Nat.zero_lt_succ, N0, swL_n, swL_c, List.toList_toArray, false_implies, true_implies, implies_true, forall_const, not_false_eq_true, not_true_eq_false, and_false, false_and]
  simp only [hK9]
  clear hK9 K9v
  refine J_rnG GM_fa (by omega) (by omega) (by omega) 185 _ _ _ _ (fun K9v hK9 => ?_)
  simp (maxSteps := 4000000) only [↓(X_aload_n (k := 1) (pc' := 1) dX2_measure_0 rfl rfl), ↓gR_1, ↓(X_invokevirtual dX2_measure_1), ↓(X_istore_n (k := 3) (pc' := 5) dX2_measure_4 rfl rfl), ↓sto_3, ↓(X_iload_n (k := 2) (pc' := 6) dX2_measure_5 rfl rfl), ↓gI_2, ↓(X_sipush (pc' := 9) dX2_measure_6 rfl), ↓(X_imul (pc' := 10) dX2_measure_9 rfl), ↓(X_istore (pc' := 12) dX2_measure_10 rfl), ↓sto_4, ↓(X_iload (pc' := 14) dX2_measure_12 rfl), ↓gI_4, ↓(X_istore (pc' := 16) dX2_measure_14 rfl), ↓sto_5, ↓(X_iconst (pc' := 17) dX2_measure_16 rfl), ↓(X_istore (pc' := 19) dX2_measure_17 rfl), ↓sto_6, ↓(X_iload (pc' := 21) dX2_measure_19 rfl), ↓gI_6, ↓(X_iconst (pc' := 22) dX2_measure_21 rfl), ↓(X_icmp_ge (tgt := 99) (pc' := 25) dX2_measure_22 (by decide) rfl), ↓(X_aload_n (k := 1) (pc' := 26) dX2_measure_25 rfl rfl), ↓(X_getR (pc' := 29) fl_2_24 dX2_measure_26 rfl), kd_7, ↓(gV_c r0_7_0), kd_8, ln_8, kd_71, ↓(gV_c r0_71_0), kd_72, ln_72, ↓(X_iload (pc' := 31) dX2_measure_29 rfl), ↓(X_iaload (pc' := 32) dX2_measure_31 rfl), ↓(X_i2l (pc' := 33) dX2_measure_32 rfl), ↓(X_iload (pc' := 35) dX2_measure_33 rfl), ↓(X_i2l (pc' := 36) dX2_measure_35 rfl), ↓(X_lmul (pc' := 37) dX2_measure_36 rfl), ↓(X_lstore (pc' := 39) dX2_measure_37 rfl), ↓sto2_7, ↓(X_aload_n (k := 0) (pc' := 40) dX2_measure_39 rfl rfl), ↓gR_0, ↓(X_getR (pc' := 43) fl_2_9 dX2_measure_40 rfl), kd_76, ↓(gV_c r0_76_0), kd_77, ln_77, kd_82, ↓(gV_c r0_82_0), kd_83, ln_83, ↓(X_iload (pc' := 45) dX2_measure_43 rfl), ↓(X_iload_n (k := 3) (pc' := 46) dX2_measure_45 rfl rfl), ↓gI_3, ↓(X_if_le (tgt := 58) (pc' := 49) dX2_measure_46 (by decide) rfl), ↓(X_lload (pc' := 51) dX2_measure_49 rfl), ↓gL_7, ↓(X_iload_n (k := 3) (pc' := 52) dX2_measure_51 rfl rfl), ↓(X_i2l (pc' := 53) dX2_measure_52 rfl), ↓(X_ldiv (pc' := 54) dX2_measure_53 rfl), ↓(X_l2i (pc' := 55) dX2_measure_54 rfl), ↓(X_goto (pc' := 59) dX2_measure_55 (by decide)), ↓(X_iconst (pc' := 59) dX2_measure_58 rfl), ↓(X_iastore (pc' := 60) dX2_measure_59 rfl), ↓(X_aload_n (k := 0) (pc' := 61) dX2_measure_60 rfl rfl), ↓(X_getR (pc' := 64) fl_2_15 dX2_measure_61 rfl), ↓(gV_c r0_76_1), kd_78, ln_78, ↓(gV_c r0_82_1), kd_84, ln_84, ↓(X_iload (pc' := 66) dX2_measure_64 rfl), ↓(X_iload_n (k := 3) (pc' := 67) dX2_measure_66 rfl rfl), ↓(X_if_le (tgt := 79) (pc' := 70) dX2_measure_67 (by decide) rfl), ↓(X_lload (pc' := 72) dX2_measure_70 rfl), ↓(X_iload_n (k := 3) (pc' := 73) dX2_measure_72 rfl rfl), ↓(X_i2l (pc' := 74) dX2_measure_73 rfl), ↓(X_lrem (pc' := 75) dX2_measure_74 rfl), ↓(X_l2i (pc' := 76) dX2_measure_75 rfl), ↓(X_goto (pc' := 80) dX2_measure_76 (by decide)), ↓(X_iconst (pc' := 80) dX2_measure_79 rfl), ↓(X_iastore (pc' := 81) dX2_measure_80 rfl), ↓(X_iload (pc' := 83) dX2_measure_81 rfl), ↓gI_5, ↓(X_aload_n (k := 0) (pc' := 84) dX2_measure_83 rfl rfl), ↓(X_getR (pc' := 87) fl_2_9 dX2_measure_84 rfl), ↓(X_iload (pc' := 89) dX2_measure_87 rfl), ↓(X_iaload (pc' := 90) dX2_measure_89 rfl), ↓(X_isub (pc' := 91) dX2_measure_90 rfl), ↓(X_istore (pc' := 93) dX2_measure_91 rfl), ↓(X_iinc (pc' := 96) dX2_measure_93 rfl), ↓(X_goto (pc' := 19) dX2_measure_96 (by decide)), ↓(X_iconst (pc' := 100) dX2_measure_99 rfl), ↓(X_istore (pc' := 102) dX2_measure_100 rfl), ↓(X_iload (pc' := 104) dX2_measure_102 rfl), ↓(X_iconst (pc' := 105) dX2_measure_104 rfl), ↓(X_icmp_ge (tgt := 125) (pc' := 108) dX2_measure_105 (by decide) rfl), ↓(X_iload (pc' := 110) dX2_measure_108 rfl), ↓(X_iload (pc' := 112) dX2_measure_110 rfl), ↓(X_icmp_ge (tgt := 125) (pc' := 115) dX2_measure_112 (by decide) rfl), ↓(X_aload_n (k := 0) (pc' := 116) dX2_measure_115 rfl rfl), ↓(X_invokevirtual dX2_measure_116), ↓(X_iinc (pc' := 122) dX2_measure_119 rfl), ↓(X_goto (pc' := 102) dX2_measure_122 (by decide)), ↓(X_return_ dX2_measure_125), rn_0, gV_s, ↓pI_c, ↓pII_c, ↓pL_c, ↓pLL_c, ↓pR_c, ↓pRI_c, ↓pRII_c, ↓pRIL_c, ↓pRR_c, ↓pV_c, ↓pVV_c, ↓gI_c, ↓gL_c, ↓gR_c, f2_0, f2_1, nk_n, nk_i, nk_r, ↓reduceIte, r32, r64, Nat.reduceAdd, Nat.reduceSub, Nat.reduceEqDiff, Nat.reduceLT, Nat.reduceLeDiff, Nat.reduceBEq, Int.reduceAdd, Int.reduceSub, Int.reduceMul, Int.reduceNeg, Int.reduceToNat, Int.reduceLE, Int.reduceLT, Int.reduceEq, Int.reduceNatCast', Int.reduceNatCast, Int.natCast_zero, Int.toNat_natCast, Int.toNat_zero, Int.toNat_one, List.length_cons, List.length_nil, true_and, and_true, and_self, true_or, or_true, false_or, or_false, Bool.not_true, Bool.not_false, Nat.lt_add_one, Nat.zero_lt_succ, N0, swL_n, swL_c, List.toList_toArray, false_implies, true_implies, implies_true, forall_const, not_false_eq_true, not_true_eq_false, and_false, false_and, a1, ↓(gV_c a2), ↓(gV_c a3), a4, a5, a6, a7, a8, a9, a10, hk, hc, ↓(gV_c b1), b2, b3, b4, hw0, rw_, rwl, rG, r0, r1, r2, r3, p0, p1, p2, p3, up2_s, up2_c n1, up2_c n2, up2_c n3]
  simp only [hK9]
  clear hK9 K9v
  obtain ⟨t0, t3⟩ := tmiss_bd hm hG.1
  have e0 : M (c + 1) 0 * G / w = tq (M (c + 1)) G 0 := by rw [hwd]; rfl
  have e1 : M (c + 1) 1 * G / w = tq (M (c + 1)) G 1 := by rw [hwd]; rfl
  have e2 : M (c + 1) 2 * G / w = tq (M (c + 1)) G 2 := by rw [hwd]; rfl
  have e3 : M (c + 1) 3 * G / w = tq (M (c + 1)) G 3 := by rw [hwd]; rfl
  have f0 : M (c + 1) 0 * G % w = tr (M (c + 1)) G 0 := by rw [hwd]; rfl
  have f1 : M (c + 1) 1 * G % w = tr (M (c + 1)) G 1 := by rw [hwd]; rfl
  have f2 : M (c + 1) 2 * G % w = tr (M (c + 1)) G 2 := by rw [hwd]; rfl
  have f3 : M (c + 1) 3 * G % w = tr (M (c + 1)) G 3 := by rw [hwd]; rfl
  have em : G - M (c + 1) 0 * G / w - M (c + 1) 1 * G / w - M (c + 1) 2 * G / w - M (c + 1) 3 * G / w = tmiss (M (c + 1)) G := by rw [e0, e1, e2, e3]; rfl
  have u0 := Int.emod_lt_of_pos (M (c + 1) 0 * G) hw0
  have u1 := Int.emod_lt_of_pos (M (c + 1) 1 * G) hw0
  have u2 := Int.emod_lt_of_pos (M (c + 1) 2 * G) hw0
  have u3 := Int.emod_lt_of_pos (M (c + 1) 3 * G) hw0
  have v0 := Int.emod_nonneg (M (c + 1) 0 * G) (Int.ne_of_gt hw0)
  have v1 := Int.emod_nonneg (M (c + 1) 1 * G) (Int.ne_of_gt hw0)
  have v2 := Int.emod_nonneg (M (c + 1) 2 * G) (Int.ne_of_gt hw0)
  have v3 := Int.emod_nonneg (M (c + 1) 3 * G) (Int.ne_of_gt hw0)
  rw [em]
  generalize hM1 : up2 _ _ _ _ = M1
  have hA : ∀ x, x ≠ q + 1 → x ≠ q + 2 → M1 x = M x := by
    intro x hx1 hx2
    subst hM1
    funext b
    simp only [up2_c hx1, up2_c hx2]
  have hB : ∀ b, b < 4 → M1 (q + 1) b = tq (M (c + 1)) G b ∧ M1 (q + 2) b = tr (M (c + 1)) G b := by
    intro b hb
    subst hM1
    rcases (show b = 0 ∨ b = 1 ∨ b = 2 ∨ b = 3 by omega) with rfl | rfl | rfl | rfl <;> simp [up2, e0, e1, e2, e3, f0, f1, f2, f3]
  have hi := ok_meas2 (l := l) (D := D) (cy := cy) (Φ := fun o ν => o = .inl none ∧ ∃ M2 : Nat → Nat → Int, ν = (N0, R0, M2) ∧ (∀ x, x ≠ q + 1 → x ≠ q + 2 → M2 x = M x) ∧ ∀ b, b < 4 → M2 (q + 1) b = takeF (M (c + 1)) (g * 1000) b) d q c hq g w G (tmiss (M (c + 1)) G) (some (.inr (.inl (M (c + 1) 3 * G)))) none (tmiss (M (c + 1)) G).toNat 0 M1 (by omega) (by omega) (fun b hb => ?_) (fun M2 h1 h2 => ?_)
  · simpa using hi
  · rw [(hB b hb).2]
    rcases (show b = 0 ∨ b = 1 ∨ b = 2 ∨ b = 3 by omega) with rfl | rfl | rfl | rfl
    · rw [← f0]; omega
    · rw [← f1]; omega
    · rw [← f2]; omega
    · rw [← f3]; omega
  · refine ⟨rfl, M2, rfl, fun x hx1 hx2 => by rw [h2 x hx1 hx2, hA x hx1 hx2], fun b hb => ?_⟩
    rw [h1, ← hGd]
    exact (agK_congr _ _ _ hB b hb).1
end C2
