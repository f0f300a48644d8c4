/-! taking grams out of an ink -/
def ag1 (p : (Nat → Int) × (Nat → Int)) : (Nat → Int) × (Nat → Int) := (fun b => if b = gt4 p.2 then p.1 b + 1 else p.1 b, fun b => if b = gt4 p.2 then -1 else p.2 b)
def agK : Nat → (Nat → Int) × (Nat → Int) → (Nat → Int) × (Nat → Int)
  | 0, p => p
  | k + 1, p => agK k (ag1 p)
def wt (m : Nat → Int) : Int := m 0 + m 1 + m 2 + m 3
def tq (m : Nat → Int) (G : Int) : Nat → Int := fun b => m b * G / wt m
def tr (m : Nat → Int) (G : Int) : Nat → Int := fun b => m b * G % wt m
def tmiss (m : Nat → Int) (G : Int) : Int := G - tq m G 0 - tq m G 1 - tq m G 2 - tq m G 3
/-- what taking G milligrams out of m takes of each base -/
def takeF (m : Nat → Int) (G : Int) : Nat → Int := (agK (tmiss m G).toNat (tq m G, tr m G)).1
theorem gt4_congr {r r' : Nat → Int} (h : ∀ b, b < 4 → r b = r' b) : gt4 r = gt4 r' := by
  have h0 := h 0 (by omega)
  have h1 := h 1 (by omega)
  have h2 := h 2 (by omega)
  have h3 := h 3 (by omega)
  have ea : gt4a r = gt4a r' := by simp only [gt4a, h0, h1]
  have eb : gt4b r = gt4b r' := by
    have hl : gt4a r' < 4 := by unfold gt4a; split <;> omega
    simp only [gt4b, ea, h2, h _ hl]
  have hl : gt4b r' < 4 := by unfold gt4b gt4a; split <;> (try split) <;> omega
  simp only [gt4, eb, h3, h _ hl]
theorem agK_congr : ∀ (k : Nat) (p p' : (Nat → Int) × (Nat → Int)), (∀ b, b < 4 → p.1 b = p'.1 b ∧ p.2 b = p'.2 b) → ∀ b, b < 4 → (agK k p).1 b = (agK k p').1 b ∧ (agK k p).2 b = (agK k p').2 b
  | 0, p, p', h, b, hb => h b hb
  | k + 1, p, p', h, b, hb => by
    refine agK_congr k _ _ (fun b hb => ?_) b hb
    have e := gt4_congr (fun b hb => (h b hb).2)
    simp only [ag1, e, (h b hb).1, (h b hb).2, and_self]
section C2
variable {l : Launch} {D : va_G} {cy : Nat → ClassId}
set_option maxRecDepth 100000 in
set_option maxHeartbeats 4000000 in
theorem ok_meas2 {Φ : Out → Mem → Prop} (d q c : Nat) (hq : q = 76 ∨ q = 82) (g w G miss : Int) (e7 e8 : Option AV) : ∀ (k i : Nat) (M : Nat → Nat → Int), (i : Int) + k = miss → i + k ≤ 4 → (∀ b, b < 4 → -1 ≤ M (q + 2) b ∧ M (q + 2) b ≤ 2147483647) → (∀ M2 : Nat → Nat → Int, M2 (q + 1) = (agK k (M (q + 1), M (q + 2))).1 → (∀ x, x ≠ q + 1 → x ≠ q + 2 → M2 x = M x) → Φ (.inl none) (N0, R0, M2)) →
    J l D cy (GM l D cy 2 cX2_measure 9 (d + 2) 0 0 false none Φ) 102 [some (.inr (.inr (some q))), some (.inr (.inr (some c))), some (.inl g), some (.inl w), some (.inl G), some (.inl miss), some (.inl (i : Int)), e7, e8] [] (468, R0, M) 0 0 := by
  obtain ⟨a1, a2, a3, a4, a5, a6, a7, a8, a9, a10⟩ := lad_at hq
  intro k
  induction k with
  | zero =>
    intro i M hm h4 hr hΦ
    have hfin : J l D cy (GM l D cy 2 cX2_measure 9 (d + 2) 0 0 false none Φ) 125 [some (.inr (.inr (some q))), some (.inr (.inr (some c))), some (.inl g), some (.inl w), some (.inl G), some (.inl miss), some (.inl (i : Int)), e7, e8] [] (468, R0, M) 0 0 := by
      exact J_vret dX2_measure_125 rfl (by omega) (by omega) (hΦ M rfl (fun _ _ _ => rfl))
    have h5 : ¬ (i : Int) < miss := by omega
    refine J_rnG GM_fa (by omega) (by omega) (by omega) 3 _ _ _ _ (fun K9v hK9 => ?_)
    simp (maxSteps := 4000000) only [↓(X_iload (pc' := 104) dX2_measure_102 rfl), ↓gI_6, ↓(X_iconst (pc' := 105) dX2_measure_104 rfl), ↓(X_icmp_ge (tgt := 125) (pc' := 108) dX2_measure_105 (by decide) rfl), rn_0, gV_s, ↓pI_c, ↓pII_c, ↓pL_c, ↓pLL_c, ↓pR_c, ↓pRI_c, ↓pRII_c, ↓pRIL_c, ↓pRR_c, ↓pV_c, ↓pVV_c, ↓gI_c, ↓gL_c, ↓gR_c, f2_0, f2_1, nk_n, nk_i, nk_r, ↓reduceIte, r32, r64, Nat.reduceAdd, Nat.reduceSub, Nat.reduceEqDiff, Nat.reduceLT, Nat.reduceLeDiff, Nat.reduceBEq, Int.reduceAdd, Int.reduceSub, Int.reduceMul, Int.reduceNeg, Int.reduceToNat, Int.reduceLE, Int.reduceLT, Int.reduceEq, Int.reduceNatCast', Int.reduceNatCast, Int.natCast_zero, Int.toNat_natCast, Int.toNat_zero, Int.toNat_one, List.length_cons, List.length_nil, true_and, and_true, and_self, true_or, or_true, false_or, or_false, Bool.not_true, Bool.not_false, Nat.lt_add_one, Nat.zero_lt_succ, N0, swL_n, swL_c, List.toList_toArray, false_implies, true_implies, implies_true, forall_const, not_false_eq_true, not_true_eq_false, and_false, false_and]
    simp only [hK9]
    clear hK9 K9v
    repeat (refine And.intro (by first | omega | assumption | (refine ⟨?_, ?_⟩ <;> omega)) ?_)
    split
    · refine J_rnG GM_fa (by omega) (by omega) (by omega) 3 _ _ _ _ (fun K9v hK9 => ?_)
      simp (maxSteps := 4000000) only [↓(X_iload (pc' := 110) dX2_measure_108 rfl), ↓gI_6, ↓(X_iload (pc' := 112) dX2_measure_110 rfl), ↓gI_5, ↓(X_icmp_ge (tgt := 125) (pc' := 115) dX2_measure_112 (by decide) rfl), rn_0, gV_s, ↓pI_c, ↓pII_c, ↓pL_c, ↓pLL_c, ↓pR_c, ↓pRI_c, ↓pRII_c, ↓pRIL_c, ↓pRR_c, ↓pV_c, ↓pVV_c, ↓gI_c, ↓gL_c, ↓gR_c, f2_0, f2_1, nk_n, nk_i, nk_r, ↓reduceIte, r32, r64, Nat.reduceAdd, Nat.reduceSub, Nat.reduceEqDiff, Nat.reduceLT, Nat.reduceLeDiff, Nat.reduceBEq, Int.reduceAdd, Int.reduceSub, Int.reduceMul, Int.reduceNeg, Int.reduceToNat, Int.reduceLE, Int.reduceLT, Int.reduceEq, Int.reduceNatCast', Int.reduceNatCast, Int.natCast_zero, Int.toNat_natCast, Int.toNat_zero, Int.toNat_one, List.length_cons, List.length_nil, true_and, and_true, and_self, true_or, or_true, false_or, or_false, Bool.not_true, Bool.not_false, Nat.lt_add_one, Nat.zero_lt_succ, N0, swL_n, swL_c, List.toList_toArray, false_implies, true_implies, implies_true, forall_const, not_false_eq_true, not_true_eq_false, and_false, false_and, h5]
      simp only [hK9]
      clear hK9 K9v
      repeat (refine And.intro (by first | omega | assumption | (refine ⟨?_, ?_⟩ <;> omega)) ?_)
      exact hfin
    · exact hfin
  | succ k ih =>
    intro i M hm h4 hr hΦ
    have h5 : (i : Int) < miss := by omega
    have h6 : (i : Int) < 4 := by omega
    refine J_rnG GM_fa (by omega) (by omega) (by omega) 6 _ _ _ _ (fun K9v hK9 => ?_)
    simp (maxSteps := 4000000) only [↓(X_iload (pc' := 104) dX2_measure_102 rfl), ↓gI_6, ↓(X_iconst (pc' := 105) dX2_measure_104 rfl), ↓(X_icmp_ge (tgt := 125) (pc' := 108) dX2_measure_105 (by decide) rfl), ↓(X_iload (pc' := 110) dX2_measure_108 rfl), ↓(X_iload (pc' := 112) dX2_measure_110 rfl), ↓gI_5, ↓(X_icmp_ge (tgt := 125) (pc' := 115) dX2_measure_112 (by decide) rfl), rn_0, gV_s, ↓pI_c, ↓pII_c, ↓pL_c, ↓pLL_c, ↓pR_c, ↓pRI_c, ↓pRII_c, ↓pRIL_c, ↓pRR_c, ↓pV_c, ↓pVV_c, ↓gI_c, ↓gL_c, ↓gR_c, f2_0, f2_1, nk_n, nk_i, nk_r, ↓reduceIte, r32, r64, Nat.reduceAdd, Nat.reduceSub, Nat.reduceEqDiff, Nat.reduceLT, Nat.reduceLeDiff, Nat.reduceBEq, Int.reduceAdd, Int.reduceSub, Int.reduceMul, Int.reduceNeg, Int.reduceToNat, Int.reduceLE, Int.reduceLT, Int.reduceEq, Int.reduceNatCast', Int.reduceNatCast, Int.natCast_zero, Int.toNat_natCast, Int.toNat_zero, Int.toNat_one, List.length_cons, List.length_nil, true_and, and_true, and_self, true_or, or_true, false_or, or_false, Bool.not_true, Bool.not_false, Nat.lt_add_one, Nat.zero_lt_succ, N0, swL_n, swL_c, List.toList_toArray, false_implies, true_implies, implies_true, forall_const, not_false_eq_true, not_true_eq_false, and_false, false_and, h5, h6]
    simp only [hK9]
    clear hK9 K9v
    repeat (refine And.intro (by first | omega | assumption | (refine ⟨?_, ?_⟩ <;> omega)) ?_)
    refine J_rnG GM_fa (by omega) (by omega) (by omega) 1 _ _ _ _ (fun K9v hK9 => ?_)
    simp (maxSteps := 4000000) only [↓(X_aload_n (k := 0) (pc' := 116) dX2_measure_115 rfl rfl), ↓gR_0, rn_0, gV_s, ↓pI_c, ↓pII_c, ↓pL_c, ↓pLL_c, ↓pR_c, ↓pRI_c, ↓pRII_c, ↓pRIL_c, ↓pRR_c, ↓pV_c, ↓pVV_c, ↓gI_c, ↓gL_c, ↓gR_c, f2_0, f2_1, nk_n, nk_i, nk_r, ↓reduceIte, r32, r64, Nat.reduceAdd, Nat.reduceSub, Nat.reduceEqDiff, Nat.reduceLT, Nat.reduceLeDiff, Nat.reduceBEq, Int.reduceAdd, Int.reduceSub, Int.reduceMul, Int.reduceNeg, Int.reduceToNat, Int.reduceLE, Int.reduceLT, Int.reduceEq, Int.reduceNatCast', Int.reduceNatCast, Int.natCast_zero, Int.toNat_natCast, Int.toNat_zero, Int.toNat_one, List.length_cons, List.length_nil, true_and, and_true, and_self, true_or, or_true, false_or, or_false, Bool.not_true, Bool.not_false, Nat.lt_add_one, Nat.zero_lt_succ, N0, swL_n, swL_c, List.toList_toArray, false_implies, true_implies, implies_true, forall_const, not_false_eq_true, not_true_eq_false, and_false, false_and]
    simp only [hK9]
    clear hK9 K9v
    refine J_callVd GM_fa (ok_atgr (M := M) d q hq (fun b hb => ⟨by have := hr b hb; omega, (hr b hb).2⟩)) dX2_measure_116 k_2_27 (by omega) (Nat.le_of_ble_eq_true rfl) ⟨by omega, by omega⟩ rfl (by exact a1) rfl (by decide) (by simp only [N0]; omega) (by simp) rfl rfl ?_
    simp only [Option.toList, List.nil_append]
    refine J_rnG GM_fa (by omega) (by omega) (by omega) 2 _ _ _ _ (fun K9v hK9 => ?_)
    simp (maxSteps := 4000000) only [↓(X_iinc (pc' := 122) dX2_measure_119 rfl), ↓gI_6, ↓sto_6, ↓(X_goto (pc' := 102) dX2_measure_122 (by decide)), rn_0, gV_s, ↓pI_c, ↓pII_c, ↓pL_c, ↓pLL_c, ↓pR_c, ↓pRI_c, ↓pRII_c, ↓pRIL_c, ↓pRR_c, ↓pV_c, ↓pVV_c, ↓gI_c, ↓gL_c, ↓gR_c, f2_0, f2_1, nk_n, nk_i, nk_r, ↓reduceIte, r32, r64, Nat.reduceAdd, Nat.reduceSub, Nat.reduceEqDiff, Nat.reduceLT, Nat.reduceLeDiff, Nat.reduceBEq, Int.reduceAdd, Int.reduceSub, Int.reduceMul, Int.reduceNeg, Int.reduceToNat, Int.reduceLE, Int.reduceLT, Int.reduceEq, Int.reduceNatCast', Int.reduceNatCast, Int.natCast_zero, Int.toNat_natCast, Int.toNat_zero, Int.toNat_one, List.length_cons, List.length_nil, true_and, and_true, and_self, true_or, or_true, false_or, or_false, Bool.not_true, Bool.not_false, Nat.lt_add_one, Nat.zero_lt_succ, N0, swL_n, swL_c, List.toList_toArray, false_implies, true_implies, implies_true, forall_const, not_false_eq_true, not_true_eq_false, and_false, false_and]
    simp only [hK9]
    clear hK9 K9v
    have e1 : (i : Int) + 1 = ((i + 1 : Nat) : Int) := by omega
    rw [e1]
    refine ih (i + 1) _ (by omega) (by omega) (fun b hb => ?_) (fun M2 h1 h2 => ?_)
    · have := hr b hb
      simp only [up2]
      split <;> (try split) <;> omega
    · refine hΦ M2 ?_ (fun x hx1 hx2 => ?_)
      · rw [h1]
        have e2 : ∀ M' : Nat → Nat → Int, M' = up2 (up2 M (q + 1) (gt4 (M (q + 2))) (M (q + 1) (gt4 (M (q + 2))) + 1)) (q + 2) (gt4 (M (q + 2))) (-1) → (M' (q + 1), M' (q + 2)) = ag1 (M (q + 1), M (q + 2)) := by
          intro M' hM'
          subst hM'
          simp only [ag1, Prod.mk.injEq]
          constructor
          · funext b
            simp only [up2]
            by_cases hb : b = gt4 (M (q + 2))
            · subst hb; simp
            · simp [hb]
          · funext b
            simp only [up2]
            by_cases hb : b = gt4 (M (q + 2))
            · subst hb; simp
            · simp [hb]
        show (agK k _).1 = (agK k (ag1 _)).1
        rw [← e2 _ rfl]
      · rw [h2 x hx1 hx2]
        funext b
        simp only [up2]
        rw [if_neg (fun q => hx2 q.1), if_neg (fun q => hx1 q.1)]
end C2
