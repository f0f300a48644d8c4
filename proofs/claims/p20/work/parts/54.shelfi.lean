/-! the constructor of the shelf -/
theorem R0_6 {c k : Nat} (h : kd c = 6) : R0 c k = if k = 0 then some 2 else if k = 1 then some 7 else if k = 2 then some 9 else none := by
  unfold R0
  simp only [h]
  rcases k with _ | _ | _ | k <;> simp
theorem R0_9 {k : Nat} : R0 9 k = if k < 30 then some (10 + 2 * k) else none := by
  unfold R0
  simp [kd_9]
theorem R0_2' {k : Nat} : R0 2 k = if k < 4 then some (3 + k) else none := by
  unfold R0
  simp [kd_2]
theorem k10_0 : ∀ x, x < 7 → 3 ≤ x → kd x = 10 := by decide +kernel
/-- the shelf, i tins made -/
def RS6 (Rf : Nat → Nat → Option Nat) (i : Nat) : Nat → Nat → Option Nat := fun x k => if x = 9 then (if k < i then some (10 + 2 * k) else none) else rng 1 (10 + 2 * i) R0 Rf x k
theorem rs6_in {x k r i : Nat} (hi : i ≤ 30) (h1 : 1 ≤ x) (h2 : x < 10 + 2 * i) (h9 : x ≠ 9) (h : R0 x k = some r) : r < 10 + 2 * i := by
  rcases (show x = 1 ∨ x = 2 ∨ (3 ≤ x ∧ x < 7) ∨ x = 7 ∨ x = 8 ∨ 10 ≤ x by omega) with q | q | q | q | q | q
  · rw [q, R0_6 kd_1] at h
    rcases some_if h with e | e
    · omega
    · rcases some_if e with e | e
      · omega
      · rcases some_if e with e | e
        · omega
        · cases e
  · rw [q, R0_2'] at h
    split at h
    · cases h
      omega
    · cases h
  · rw [R0_arr (by omega) (Or.inl (k10_0 x q.2 q.1))] at h
    cases h
  · have := rg_ink (c := 7) (by decide) kd_7 x k r (by omega) (by omega) h
    omega
  · have := rg_ink (c := 7) (by decide) kd_7 x k r (by omega) (by omega) h
    omega
  · obtain ⟨t, ht⟩ : ∃ t, t = (x - 10) / 2 := ⟨_, rfl⟩
    obtain ⟨t1, -⟩ := tin_at t (by omega)
    have := rg_ink (c := 10 + 2 * t) (by omega) t1 x k r (by omega) (by omega) h
    omega
theorem rs6_W {Rf : Nat → Nat → Option Nat} {M : Nat → Nat → Int} {i : Nat} (hi : i ≤ 30) (h : W0 1 Rf M) (M' : Nat → Nat → Int) (hM : ∀ x k, 10 ≤ x → M' x k = 0) : W0 (10 + 2 * i) (RS6 Rf i) M' := by
  refine ⟨fun x k hx => ⟨?_, hM x k (by omega)⟩, fun x k r hx hr => ?_⟩
  · unfold RS6
    rw [if_neg (by omega), rng_out (by omega)]
    exact (h.1 x k (by omega)).1
  · unfold RS6 at hr
    split at hr
    · split at hr
      · cases hr
        omega
      · cases hr
    · rename_i h9
      rcases (show (1 ≤ x ∧ x < 10 + 2 * i) ∨ ¬ (1 ≤ x ∧ x < 10 + 2 * i) by omega) with e | e
      · rw [rng_in e] at hr
        exact rs6_in hi e.1 e.2 h9 hr
      · rw [rng_out e] at hr
        have := h.2 x k r (by omega) hr
        omega
theorem M0_z {x k : Nat} (h : x ≠ 4 ∧ x ≠ 5 ∧ x ≠ 6 ∧ x ≠ 74) : M0 x k = 0 := by
  obtain ⟨h1, h2, h3, h4⟩ := h
  simp [M0, h1, h2, h3, h4]
theorem M0_4 {k : Nat} : M0 4 k = if k = 0 then 100 else if k = 1 then 10 else if k = 2 then 20 else 0 := by
  rcases k with _ | _ | _ | k <;> simp [M0]
theorem M0_5 {k : Nat} : M0 5 k = if k = 0 then 20 else if k = 1 then 100 else if k = 2 then 10 else 0 := by
  rcases k with _ | _ | _ | k <;> simp [M0]
theorem M0_6 {k : Nat} : M0 6 k = if k = 0 then 90 else if k = 1 then 90 else if k = 2 then 90 else 0 := by
  rcases k with _ | _ | _ | k <;> simp [M0]
section MK3
variable {l : Launch} {D : va_G} {cy : Nat → ClassId}
set_option maxRecDepth 100000 in
set_option maxHeartbeats 4000000 in
theorem jj_s6 {Rf : Nat → Nat → Option Nat} {M M' : Nat → Nat → Int} {Φ : Out → Mem → Prop} (d : Nat) (hW9 : W0 1 Rf M) (hM : ∀ x k, 10 ≤ x → M' x k = 0) (hΦ : Φ (.inl none) (70, rng 1 70 R0 Rf, M')) : ∀ (k i : Nat), i + k = 30 →
    J l D cy (GM l D cy 6 cX6_init 2 (d + 4) 70 300 true none Φ) 115 [some (.inr (.inr (some 1))), some (.inl (i : Int))] [] (10 + 2 * i, RS6 Rf i, M') (8 + 2 * i) (51 + 5 * i) := by
  intro k
  induction k with
  | zero =>
    intro i hi
    have e : i = 30 := by omega
    subst e
    have eR : RS6 Rf 30 = rng 1 70 R0 Rf := by
      funext x k
      unfold RS6
      split
      · rename_i h
        subst h
        rw [rng_in (by omega), R0_9]
      · rfl
    refine J_rnG GM_fa (by omega) (by omega) (by omega) 3 _ _ _ _ (fun K9v hK9 => ?_)
    simp (maxSteps := 4000000) only [↓(X_iload_n (k := 1) (pc' := 116) dX6_init_115 rfl rfl), ↓gI_1, ↓(X_bipush (pc' := 118) dX6_init_116 rfl), ↓(X_icmp_ge (tgt := 140) (pc' := 121) dX6_init_118 (by decide) rfl), rn_0, gV_s, ↓pI_c, ↓pII_c, ↓pL_c, ↓pLL_c, ↓pR_c, ↓pRI_c, ↓pRII_c, ↓pRIL_c, ↓pRR_c, ↓pV_c, ↓pVV_c, ↓gI_c, ↓gL_c, ↓gR_c, f2_0, f2_1, nk_n, nk_i, nk_r, ↓reduceIte, r32, r64, Nat.reduceAdd, Nat.reduceSub, Nat.reduceEqDiff, Nat.reduceLT, Nat.reduceLeDiff, Nat.reduceBEq, Int.reduceAdd, Int.reduceSub, Int.reduceMul, Int.reduceNeg, Int.reduceToNat, Int.reduceLE, Int.reduceLT, Int.reduceEq, Int.reduceNatCast', Int.reduceNatCast, Int.natCast_zero, Int.toNat_natCast, Int.toNat_zero, Int.toNat_one, List.length_cons, List.length_nil, true_and, and_true, and_self, true_or, or_true, false_or, or_false, Bool.not_true, Bool.not_false, Nat.lt_add_one, Nat.zero_lt_succ, N0, swL_n, swL_c, List.toList_toArray, false_implies, true_implies, implies_true, forall_const, not_false_eq_true, not_true_eq_false, and_false, false_and]
    simp only [hK9]
    clear hK9 K9v
    rw [eR]
    refine J_vret dX6_init_140 rfl (by omega) (by omega) (hΦ)
  | succ k ih =>
    intro i hi
    obtain ⟨t1, t2, t3, t4, t5⟩ := tin_at i (by omega)
    have h1 : (i : Int) < 30 := by omega
    have r1 : -2147483648 ≤ (i : Int) ∧ (i : Int) ≤ 2147483647 := by omega
    have g9 : RS6 Rf i 1 2 = some 9 := by
      unfold RS6
      rw [if_neg (by decide), rng_in (by omega), R0_6 kd_1]
      rfl
    have hW : W0 (10 + 2 * i) (RS6 Rf i) M' := rs6_W (by omega) hW9 M' hM
    refine J_rnG GM_fa (by omega) (by omega) (by omega) 6 _ _ _ _ (fun K9v hK9 => ?_)
    simp (maxSteps := 4000000) only [↓(X_iload_n (k := 1) (pc' := 116) dX6_init_115 rfl rfl), ↓gI_1, ↓(X_bipush (pc' := 118) dX6_init_116 rfl), ↓(X_icmp_ge (tgt := 140) (pc' := 121) dX6_init_118 (by decide) rfl), ↓(X_aload_n (k := 0) (pc' := 122) dX6_init_121 rfl rfl), ↓gR_0, ↓(X_getR (pc' := 125) fl_6_24 dX6_init_122 rfl), kd_1, ↓(gV_c r0_1_2), kd_9, ln_9, ↓(X_iload_n (k := 1) (pc' := 126) dX6_init_125 rfl rfl), rn_0, gV_s, ↓pI_c, ↓pII_c, ↓pL_c, ↓pLL_c, ↓pR_c, ↓pRI_c, ↓pRII_c, ↓pRIL_c, ↓pRR_c, ↓pV_c, ↓pVV_c, ↓gI_c, ↓gL_c, ↓gR_c, f2_0, f2_1, nk_n, nk_i, nk_r, ↓reduceIte, r32, r64, Nat.reduceAdd, Nat.reduceSub, Nat.reduceEqDiff, Nat.reduceLT, Nat.reduceLeDiff, Nat.reduceBEq, Int.reduceAdd, Int.reduceSub, Int.reduceMul, Int.reduceNeg, Int.reduceToNat, Int.reduceLE, Int.reduceLT, Int.reduceEq, Int.reduceNatCast', Int.reduceNatCast, Int.natCast_zero, Int.toNat_natCast, Int.toNat_zero, Int.toNat_one, List.length_cons, List.length_nil, true_and, and_true, and_self, true_or, or_true, false_or, or_false, Bool.not_true, Bool.not_false, Nat.lt_add_one, Nat.zero_lt_succ, N0, swL_n, swL_c, List.toList_toArray, false_implies, true_implies, implies_true, forall_const, not_false_eq_true, not_true_eq_false, and_false, false_and, h1, r1, ↓(gV_c g9), kd_1, show 1 < 10 + 2 * i by omega]
    simp only [hK9]
    clear hK9 K9v
    refine J_newc (w := 1) GM_fa dX6_init_126 nk_6_17 (t1) rfl ?_ ?_ ?_ ?_ ?_
    · repeat (first | exact hW | with_reducible refine W0.up ?_ (by omega) | with_reducible refine W0.ur ?_ (by omega) (by omega) | with_reducible refine W0.mn ?_ (by omega) | with_reducible refine W0.new ?_)
    · omega
    · exact (inW_of (by simp [refs] <;> omega) (by simp [refs] <;> omega))
    · exact ⟨by omega, by omega⟩
    refine J_rnG GM_fa (by omega) (by omega) (by omega) 1 _ _ _ _ (fun K9v hK9 => ?_)
    simp (maxSteps := 4000000) only [↓(X_dup (pc' := 130) dX6_init_129 rfl), rn_0, gV_s, ↓pI_c, ↓pII_c, ↓pL_c, ↓pLL_c, ↓pR_c, ↓pRI_c, ↓pRII_c, ↓pRIL_c, ↓pRR_c, ↓pV_c, ↓pVV_c, ↓gI_c, ↓gL_c, ↓gR_c, f2_0, f2_1, nk_n, nk_i, nk_r, ↓reduceIte, r32, r64, Nat.reduceAdd, Nat.reduceSub, Nat.reduceEqDiff, Nat.reduceLT, Nat.reduceLeDiff, Nat.reduceBEq, Int.reduceAdd, Int.reduceSub, Int.reduceMul, Int.reduceNeg, Int.reduceToNat, Int.reduceLE, Int.reduceLT, Int.reduceEq, Int.reduceNatCast', Int.reduceNatCast, Int.natCast_zero, Int.toNat_natCast, Int.toNat_zero, Int.toNat_one, List.length_cons, List.length_nil, true_and, and_true, and_self, true_or, or_true, false_or, or_false, Bool.not_true, Bool.not_false, Nat.lt_add_one, Nat.zero_lt_succ, N0, swL_n, swL_c, List.toList_toArray, false_implies, true_implies, implies_true, forall_const, not_false_eq_true, not_true_eq_false, and_false, false_and]
    simp only [hK9]
    clear hK9 K9v
    refine J_callId GM_fa (on_Ink (d + 1) (10 + 2 * i) (by omega) t1 hW) dX6_init_130 k_6_19 (by omega) (Nat.le_of_ble_eq_true rfl) ⟨by omega, by omega⟩ rfl (by simp) rfl ?_ ?_ ?_
    · exact (inW_of (by simp [refs] <;> omega) (by simp [refs] <;> omega))
    · first | decide | (show _ ≤ 1000000; omega)
    refine J_astQ GM_fa dX6_init_133 (Or.inl ⟨rfl, rfl⟩) kd_9 (t1) ?_ ?_ ?_ ?_ ?_
    · omega
    · omega
    · omega
    · rw [ln_9]; omega
    refine J_rnG GM_fa (by omega) (by omega) (by omega) 2 _ _ _ _ (fun K9v hK9 => ?_)
    simp (maxSteps := 4000000) only [↓(X_iinc (pc' := 137) dX6_init_134 rfl), ↓gI_1, ↓sto_1, ↓(X_goto (pc' := 115) dX6_init_137 (by decide)), rn_0, gV_s, ↓pI_c, ↓pII_c, ↓pL_c, ↓pLL_c, ↓pR_c, ↓pRI_c, ↓pRII_c, ↓pRIL_c, ↓pRR_c, ↓pV_c, ↓pVV_c, ↓gI_c, ↓gL_c, ↓gR_c, f2_0, f2_1, nk_n, nk_i, nk_r, ↓reduceIte, r32, r64, Nat.reduceAdd, Nat.reduceSub, Nat.reduceEqDiff, Nat.reduceLT, Nat.reduceLeDiff, Nat.reduceBEq, Int.reduceAdd, Int.reduceSub, Int.reduceMul, Int.reduceNeg, Int.reduceToNat, Int.reduceLE, Int.reduceLT, Int.reduceEq, Int.reduceNatCast', Int.reduceNatCast, Int.natCast_zero, Int.toNat_natCast, Int.toNat_zero, Int.toNat_one, List.length_cons, List.length_nil, true_and, and_true, and_self, true_or, or_true, false_or, or_false, Bool.not_true, Bool.not_false, Nat.lt_add_one, Nat.zero_lt_succ, N0, swL_n, swL_c, List.toList_toArray, false_implies, true_implies, implies_true, forall_const, not_false_eq_true, not_true_eq_false, and_false, false_and]
    simp only [hK9]
    clear hK9 K9v
    have eR : upR (rng (10 + 2 * i) (10 + 2 * i + 2) R0 (RS6 Rf i)) 9 i (some (10 + 2 * i)) = RS6 Rf (i + 1) := by
      funext x k9
      rcases (show x = 9 ∨ (10 + 2 * i ≤ x ∧ x < 10 + 2 * i + 2) ∨ (x ≠ 9 ∧ ¬ (10 + 2 * i ≤ x ∧ x < 10 + 2 * i + 2)) by omega) with q | q | q
      · subst q
        rcases (show k9 = i ∨ k9 ≠ i by omega) with e | e
        · subst e
          simp [upR, RS6]
        · have e1 : RS6 Rf (i + 1) 9 k9 = RS6 Rf i 9 k9 := by
            unfold RS6
            rw [if_pos rfl, if_pos rfl]
            simp only [show (k9 < i + 1) = (k9 < i) from propext ⟨fun h => by omega, fun h => by omega⟩]
          rw [e1]
          unfold upR
          rw [if_neg (fun h => e h.2), rng_out (by omega)]
      · have e1 : RS6 Rf (i + 1) x k9 = R0 x k9 := by
          unfold RS6
          rw [if_neg (by omega), rng_in (by omega)]
        rw [e1]
        unfold upR
        rw [if_neg (by omega), rng_in q]
      · have e1 : RS6 Rf (i + 1) x k9 = RS6 Rf i x k9 := by
          unfold RS6
          rw [if_neg q.1, if_neg q.1]
          unfold rng
          simp only [show (1 ≤ x ∧ x < 10 + 2 * (i + 1)) = (1 ≤ x ∧ x < 10 + 2 * i) from propext ⟨fun h => by omega, fun h => by omega⟩]
        rw [e1]
        unfold upR
        rw [if_neg (fun h => q.1 h.1), rng_out q.2]
    rw [eR, show (i : Int) + 1 = ((i + 1 : Nat) : Int) by omega, show 10 + 2 * i + 2 = 10 + 2 * (i + 1) by omega, show 8 + 2 * i + 1 + 1 = 8 + 2 * (i + 1) by omega, show 51 + 5 * i + 1 + 4 = 51 + 5 * (i + 1) by omega]
    exact ih (i + 1) (by omega)
set_option maxRecDepth 100000 in
set_option maxHeartbeats 4000000 in
theorem on_Shelf {Rf : Nat → Nat → Option Nat} {M : Nat → Nat → Int} (d : Nat) (hW9 : W0 1 Rf M) : Ok l D cy (d + 4) 70 300 yX6_init cX6_init 2 (none) [.inr (.inr (some (1)))] ((2, Rf, M)) (det none (70, rng 1 70 R0 Rf, rng 1 70 M0 M)) := by
  refine Ok.intro (o := 6) (ini := true) [some (.inr (.inr (some (1)))), none] (by decide +kernel) rfl (fun _ => rfl) rfl (Nat.le_of_ble_eq_true rfl) rfl ?_
  have hW := W0.new hW9
  refine J_rnG GM_fa (by omega) (by omega) (by omega) 4 _ _ _ _ (fun K9v hK9 => ?_)
  simp (maxSteps := 4000000) only [↓(X_aload_n (k := 0) (pc' := 1) dX6_init_0 rfl rfl), ↓gR_0, ↓(X_obj (pc' := 4) jd_6_3 dX6_init_1 rfl), ↓(X_aload_n (k := 0) (pc' := 5) dX6_init_4 rfl rfl), ↓(X_iconst (pc' := 6) dX6_init_5 rfl), rn_0, gV_s, ↓pI_c, ↓pII_c, ↓pL_c, ↓pLL_c, ↓pR_c, ↓pRI_c, ↓pRII_c, ↓pRIL_c, ↓pRR_c, ↓pV_c, ↓pVV_c, ↓gI_c, ↓gL_c, ↓gR_c, f2_0, f2_1, nk_n, nk_i, nk_r, ↓reduceIte, r32, r64, Nat.reduceAdd, Nat.reduceSub, Nat.reduceEqDiff, Nat.reduceLT, Nat.reduceLeDiff, Nat.reduceBEq, Int.reduceAdd, Int.reduceSub, Int.reduceMul, Int.reduceNeg, Int.reduceToNat, Int.reduceLE, Int.reduceLT, Int.reduceEq, Int.reduceNatCast', Int.reduceNatCast, Int.natCast_zero, Int.toNat_natCast, Int.toNat_zero, Int.toNat_one, List.length_cons, List.length_nil, true_and, and_true, and_self, true_or, or_true, false_or, or_false, Bool.not_true, Bool.not_false, Nat.lt_add_one, Nat.zero_lt_succ, N0, swL_n, swL_c, List.toList_toArray, false_implies, true_implies, implies_true, forall_const, not_false_eq_true, not_true_eq_false, and_false, false_and]
  simp only [hK9]
  clear hK9 K9v
  refine J_newA (N := 4) GM_fa dX6_init_6 ak_6_9 (by decide +kernel) (by decide +kernel) (by decide) ?_ ?_ ?_ ?_ ?_
  · repeat (first | exact hW | with_reducible refine W0.up ?_ (by omega) | with_reducible refine W0.ur ?_ (by omega) (by omega) | with_reducible refine W0.mn ?_ (by omega) | with_reducible refine W0.new ?_)
  · omega
  · exact (inW_of (by simp [refs] <;> omega) (by simp [refs] <;> omega))
  · exact ⟨by omega, by omega⟩
  refine J_rnG GM_fa (by omega) (by omega) (by omega) 3 _ _ _ _ (fun K9v hK9 => ?_)
  simp (maxSteps := 4000000) only [↓(X_dup (pc' := 10) dX6_init_9 rfl), ↓(X_iconst (pc' := 11) dX6_init_10 rfl), ↓(X_iconst (pc' := 12) dX6_init_11 rfl), rn_0, gV_s, ↓pI_c, ↓pII_c, ↓pL_c, ↓pLL_c, ↓pR_c, ↓pRI_c, ↓pRII_c, ↓pRIL_c, ↓pRR_c, ↓pV_c, ↓pVV_c, ↓gI_c, ↓gL_c, ↓gR_c, f2_0, f2_1, nk_n, nk_i, nk_r, ↓reduceIte, r32, r64, Nat.reduceAdd, Nat.reduceSub, Nat.reduceEqDiff, Nat.reduceLT, Nat.reduceLeDiff, Nat.reduceBEq, Int.reduceAdd, Int.reduceSub, Int.reduceMul, Int.reduceNeg, Int.reduceToNat, Int.reduceLE, Int.reduceLT, Int.reduceEq, Int.reduceNatCast', Int.reduceNatCast, Int.natCast_zero, Int.toNat_natCast, Int.toNat_zero, Int.toNat_one, List.length_cons, List.length_nil, true_and, and_true, and_self, true_or, or_true, false_or, or_false, Bool.not_true, Bool.not_false, Nat.lt_add_one, Nat.zero_lt_succ, N0, swL_n, swL_c, List.toList_toArray, false_implies, true_implies, implies_true, forall_const, not_false_eq_true, not_true_eq_false, and_false, false_and]
  simp only [hK9]
  clear hK9 K9v
  refine J_newI (N := 3) GM_fa dX6_init_12 (by decide +kernel) (by decide +kernel) (by decide) ?_ ?_ ?_ ?_ ?_
  · repeat (first | exact hW | with_reducible refine W0.up ?_ (by omega) | with_reducible refine W0.ur ?_ (by omega) (by omega) | with_reducible refine W0.mn ?_ (by omega) | with_reducible refine W0.new ?_)
  · omega
  · exact (inW_of (by simp [refs] <;> omega) (by simp [refs] <;> omega))
  · exact ⟨by omega, by omega⟩
  refine J_rnG GM_fa (by omega) (by omega) (by omega) 12 _ _ _ _ (fun K9v hK9 => ?_)
  simp (maxSteps := 4000000) only [↓(X_dup (pc' := 15) dX6_init_14 rfl), ↓(X_iconst (pc' := 16) dX6_init_15 rfl), ↓(X_iconst (pc' := 17) dX6_init_16 rfl), ↓(X_iastore (pc' := 18) dX6_init_17 rfl), ↓(X_dup (pc' := 19) dX6_init_18 rfl), ↓(X_iconst (pc' := 20) dX6_init_19 rfl), ↓(X_iconst (pc' := 21) dX6_init_20 rfl), ↓(X_iastore (pc' := 22) dX6_init_21 rfl), ↓(X_dup (pc' := 23) dX6_init_22 rfl), ↓(X_iconst (pc' := 24) dX6_init_23 rfl), ↓(X_iconst (pc' := 25) dX6_init_24 rfl), ↓(X_iastore (pc' := 26) dX6_init_25 rfl), rn_0, gV_s, ↓pI_c, ↓pII_c, ↓pL_c, ↓pLL_c, ↓pR_c, ↓pRI_c, ↓pRII_c, ↓pRIL_c, ↓pRR_c, ↓pV_c, ↓pVV_c, ↓gI_c, ↓gL_c, ↓gR_c, f2_0, f2_1, nk_n, nk_i, nk_r, ↓reduceIte, r32, r64, Nat.reduceAdd, Nat.reduceSub, Nat.reduceEqDiff, Nat.reduceLT, Nat.reduceLeDiff, Nat.reduceBEq, Int.reduceAdd, Int.reduceSub, Int.reduceMul, Int.reduceNeg, Int.reduceToNat, Int.reduceLE, Int.reduceLT, Int.reduceEq, Int.reduceNatCast', Int.reduceNatCast, Int.natCast_zero, Int.toNat_natCast, Int.toNat_zero, Int.toNat_one, List.length_cons, List.length_nil, true_and, and_true, and_self, true_or, or_true, false_or, or_false, Bool.not_true, Bool.not_false, Nat.lt_add_one, Nat.zero_lt_succ, N0, swL_n, swL_c, List.toList_toArray, false_implies, true_implies, implies_true, forall_const, not_false_eq_true, not_true_eq_false, and_false, false_and, kd_3, ln_3]
  simp only [hK9]
  clear hK9 K9v
  refine J_astI GM_fa dX6_init_26 ?_ ?_ ?_ ?_ ?_ ?_ ?_
  · decide +kernel
  · decide +kernel
  · omega
  · omega
  · decide
  · decide +kernel
  refine J_rnG GM_fa (by omega) (by omega) (by omega) 3 _ _ _ _ (fun K9v hK9 => ?_)
  simp (maxSteps := 4000000) only [↓(X_dup (pc' := 28) dX6_init_27 rfl), ↓(X_iconst (pc' := 29) dX6_init_28 rfl), ↓(X_iconst (pc' := 30) dX6_init_29 rfl), rn_0, gV_s, ↓pI_c, ↓pII_c, ↓pL_c, ↓pLL_c, ↓pR_c, ↓pRI_c, ↓pRII_c, ↓pRIL_c, ↓pRR_c, ↓pV_c, ↓pVV_c, ↓gI_c, ↓gL_c, ↓gR_c, f2_0, f2_1, nk_n, nk_i, nk_r, ↓reduceIte, r32, r64, Nat.reduceAdd, Nat.reduceSub, Nat.reduceEqDiff, Nat.reduceLT, Nat.reduceLeDiff, Nat.reduceBEq, Int.reduceAdd, Int.reduceSub, Int.reduceMul, Int.reduceNeg, Int.reduceToNat, Int.reduceLE, Int.reduceLT, Int.reduceEq, Int.reduceNatCast', Int.reduceNatCast, Int.natCast_zero, Int.toNat_natCast, Int.toNat_zero, Int.toNat_one, List.length_cons, List.length_nil, true_and, and_true, and_self, true_or, or_true, false_or, or_false, Bool.not_true, Bool.not_false, Nat.lt_add_one, Nat.zero_lt_succ, N0, swL_n, swL_c, List.toList_toArray, false_implies, true_implies, implies_true, forall_const, not_false_eq_true, not_true_eq_false, and_false, false_and]
  simp only [hK9]
  clear hK9 K9v
  refine J_newI (N := 3) GM_fa dX6_init_30 (by decide +kernel) (by decide +kernel) (by decide) ?_ ?_ ?_ ?_ ?_
  · repeat (first | exact hW | with_reducible refine W0.up ?_ (by omega) | with_reducible refine W0.ur ?_ (by omega) (by omega) | with_reducible refine W0.mn ?_ (by omega) | with_reducible refine W0.new ?_)
  · omega
  · exact (inW_of (by simp [refs] <;> omega) (by simp [refs] <;> omega))
  · exact ⟨by omega, by omega⟩
  refine J_rnG GM_fa (by omega) (by omega) (by omega) 12 _ _ _ _ (fun K9v hK9 => ?_)
  simp (maxSteps := 4000000) only [↓(X_dup (pc' := 33) dX6_init_32 rfl), ↓(X_iconst (pc' := 34) dX6_init_33 rfl), ↓(X_bipush (pc' := 36) dX6_init_34 rfl), ↓(X_iastore (pc' := 37) dX6_init_36 rfl), ↓(X_dup (pc' := 38) dX6_init_37 rfl), ↓(X_iconst (pc' := 39) dX6_init_38 rfl), ↓(X_bipush (pc' := 41) dX6_init_39 rfl), ↓(X_iastore (pc' := 42) dX6_init_41 rfl), ↓(X_dup (pc' := 43) dX6_init_42 rfl), ↓(X_iconst (pc' := 44) dX6_init_43 rfl), ↓(X_bipush (pc' := 46) dX6_init_44 rfl), ↓(X_iastore (pc' := 47) dX6_init_46 rfl), rn_0, gV_s, ↓pI_c, ↓pII_c, ↓pL_c, ↓pLL_c, ↓pR_c, ↓pRI_c, ↓pRII_c, ↓pRIL_c, ↓pRR_c, ↓pV_c, ↓pVV_c, ↓gI_c, ↓gL_c, ↓gR_c, f2_0, f2_1, nk_n, nk_i, nk_r, ↓reduceIte, r32, r64, Nat.reduceAdd, Nat.reduceSub, Nat.reduceEqDiff, Nat.reduceLT, Nat.reduceLeDiff, Nat.reduceBEq, Int.reduceAdd, Int.reduceSub, Int.reduceMul, Int.reduceNeg, Int.reduceToNat, Int.reduceLE, Int.reduceLT, Int.reduceEq, Int.reduceNatCast', Int.reduceNatCast, Int.natCast_zero, Int.toNat_natCast, Int.toNat_zero, Int.toNat_one, List.length_cons, List.length_nil, true_and, and_true, and_self, true_or, or_true, false_or, or_false, Bool.not_true, Bool.not_false, Nat.lt_add_one, Nat.zero_lt_succ, N0, swL_n, swL_c, List.toList_toArray, false_implies, true_implies, implies_true, forall_const, not_false_eq_true, not_true_eq_false, and_false, false_and, kd_4, ln_4]
  simp only [hK9]
  clear hK9 K9v
  refine J_astI GM_fa dX6_init_47 ?_ ?_ ?_ ?_ ?_ ?_ ?_
  · decide +kernel
  · decide +kernel
  · omega
  · omega
  · decide
  · decide +kernel
  refine J_rnG GM_fa (by omega) (by omega) (by omega) 3 _ _ _ _ (fun K9v hK9 => ?_)
  simp (maxSteps := 4000000) only [↓(X_dup (pc' := 49) dX6_init_48 rfl), ↓(X_iconst (pc' := 50) dX6_init_49 rfl), ↓(X_iconst (pc' := 51) dX6_init_50 rfl), rn_0, gV_s, ↓pI_c, ↓pII_c, ↓pL_c, ↓pLL_c, ↓pR_c, ↓pRI_c, ↓pRII_c, ↓pRIL_c, ↓pRR_c, ↓pV_c, ↓pVV_c, ↓gI_c, ↓gL_c, ↓gR_c, f2_0, f2_1, nk_n, nk_i, nk_r, ↓reduceIte, r32, r64, Nat.reduceAdd, Nat.reduceSub, Nat.reduceEqDiff, Nat.reduceLT, Nat.reduceLeDiff, Nat.reduceBEq, Int.reduceAdd, Int.reduceSub, Int.reduceMul, Int.reduceNeg, Int.reduceToNat, Int.reduceLE, Int.reduceLT, Int.reduceEq, Int.reduceNatCast', Int.reduceNatCast, Int.natCast_zero, Int.toNat_natCast, Int.toNat_zero, Int.toNat_one, List.length_cons, List.length_nil, true_and, and_true, and_self, true_or, or_true, false_or, or_false, Bool.not_true, Bool.not_false, Nat.lt_add_one, Nat.zero_lt_succ, N0, swL_n, swL_c, List.toList_toArray, false_implies, true_implies, implies_true, forall_const, not_false_eq_true, not_true_eq_false, and_false, false_and]
  simp only [hK9]
  clear hK9 K9v
  refine J_newI (N := 3) GM_fa dX6_init_51 (by decide +kernel) (by decide +kernel) (by decide) ?_ ?_ ?_ ?_ ?_
  · repeat (first | exact hW | with_reducible refine W0.up ?_ (by omega) | with_reducible refine W0.ur ?_ (by omega) (by omega) | with_reducible refine W0.mn ?_ (by omega) | with_reducible refine W0.new ?_)
  · omega
  · exact (inW_of (by simp [refs] <;> omega) (by simp [refs] <;> omega))
  · exact ⟨by omega, by omega⟩
  refine J_rnG GM_fa (by omega) (by omega) (by omega) 12 _ _ _ _ (fun K9v hK9 => ?_)
  simp (maxSteps := 4000000) only [↓(X_dup (pc' := 54) dX6_init_53 rfl), ↓(X_iconst (pc' := 55) dX6_init_54 rfl), ↓(X_bipush (pc' := 57) dX6_init_55 rfl), ↓(X_iastore (pc' := 58) dX6_init_57 rfl), ↓(X_dup (pc' := 59) dX6_init_58 rfl), ↓(X_iconst (pc' := 60) dX6_init_59 rfl), ↓(X_bipush (pc' := 62) dX6_init_60 rfl), ↓(X_iastore (pc' := 63) dX6_init_62 rfl), ↓(X_dup (pc' := 64) dX6_init_63 rfl), ↓(X_iconst (pc' := 65) dX6_init_64 rfl), ↓(X_bipush (pc' := 67) dX6_init_65 rfl), ↓(X_iastore (pc' := 68) dX6_init_67 rfl), rn_0, gV_s, ↓pI_c, ↓pII_c, ↓pL_c, ↓pLL_c, ↓pR_c, ↓pRI_c, ↓pRII_c, ↓pRIL_c, ↓pRR_c, ↓pV_c, ↓pVV_c, ↓gI_c, ↓gL_c, ↓gR_c, f2_0, f2_1, nk_n, nk_i, nk_r, ↓reduceIte, r32, r64, Nat.reduceAdd, Nat.reduceSub, Nat.reduceEqDiff, Nat.reduceLT, Nat.reduceLeDiff, Nat.reduceBEq, Int.reduceAdd, Int.reduceSub, Int.reduceMul, Int.reduceNeg, Int.reduceToNat, Int.reduceLE, Int.reduceLT, Int.reduceEq, Int.reduceNatCast', Int.reduceNatCast, Int.natCast_zero, Int.toNat_natCast, Int.toNat_zero, Int.toNat_one, List.length_cons, List.length_nil, true_and, and_true, and_self, true_or, or_true, false_or, or_false, Bool.not_true, Bool.not_false, Nat.lt_add_one, Nat.zero_lt_succ, N0, swL_n, swL_c, List.toList_toArray, false_implies, true_implies, implies_true, forall_const, not_false_eq_true, not_true_eq_false, and_false, false_and, kd_5, ln_5]
  simp only [hK9]
  clear hK9 K9v
  refine J_astI GM_fa dX6_init_68 ?_ ?_ ?_ ?_ ?_ ?_ ?_
  · decide +kernel
  · decide +kernel
  · omega
  · omega
  · decide
  · decide +kernel
  refine J_rnG GM_fa (by omega) (by omega) (by omega) 3 _ _ _ _ (fun K9v hK9 => ?_)
  simp (maxSteps := 4000000) only [↓(X_dup (pc' := 70) dX6_init_69 rfl), ↓(X_iconst (pc' := 71) dX6_init_70 rfl), ↓(X_iconst (pc' := 72) dX6_init_71 rfl), rn_0, gV_s, ↓pI_c, ↓pII_c, ↓pL_c, ↓pLL_c, ↓pR_c, ↓pRI_c, ↓pRII_c, ↓pRIL_c, ↓pRR_c, ↓pV_c, ↓pVV_c, ↓gI_c, ↓gL_c, ↓gR_c, f2_0, f2_1, nk_n, nk_i, nk_r, ↓reduceIte, r32, r64, Nat.reduceAdd, Nat.reduceSub, Nat.reduceEqDiff, Nat.reduceLT, Nat.reduceLeDiff, Nat.reduceBEq, Int.reduceAdd, Int.reduceSub, Int.reduceMul, Int.reduceNeg, Int.reduceToNat, Int.reduceLE, Int.reduceLT, Int.reduceEq, Int.reduceNatCast', Int.reduceNatCast, Int.natCast_zero, Int.toNat_natCast, Int.toNat_zero, Int.toNat_one, List.length_cons, List.length_nil, true_and, and_true, and_self, true_or, or_true, false_or, or_false, Bool.not_true, Bool.not_false, Nat.lt_add_one, Nat.zero_lt_succ, N0, swL_n, swL_c, List.toList_toArray, false_implies, true_implies, implies_true, forall_const, not_false_eq_true, not_true_eq_false, and_false, false_and]
  simp only [hK9]
  clear hK9 K9v
  refine J_newI (N := 3) GM_fa dX6_init_72 (by decide +kernel) (by decide +kernel) (by decide) ?_ ?_ ?_ ?_ ?_
  · repeat (first | exact hW | with_reducible refine W0.up ?_ (by omega) | with_reducible refine W0.ur ?_ (by omega) (by omega) | with_reducible refine W0.mn ?_ (by omega) | with_reducible refine W0.new ?_)
  · omega
  · exact (inW_of (by simp [refs] <;> omega) (by simp [refs] <;> omega))
  · exact ⟨by omega, by omega⟩
  refine J_rnG GM_fa (by omega) (by omega) (by omega) 12 _ _ _ _ (fun K9v hK9 => ?_)
  simp (maxSteps := 4000000) only [↓(X_dup (pc' := 75) dX6_init_74 rfl), ↓(X_iconst (pc' := 76) dX6_init_75 rfl), ↓(X_bipush (pc' := 78) dX6_init_76 rfl), ↓(X_iastore (pc' := 79) dX6_init_78 rfl), ↓(X_dup (pc' := 80) dX6_init_79 rfl), ↓(X_iconst (pc' := 81) dX6_init_80 rfl), ↓(X_bipush (pc' := 83) dX6_init_81 rfl), ↓(X_iastore (pc' := 84) dX6_init_83 rfl), ↓(X_dup (pc' := 85) dX6_init_84 rfl), ↓(X_iconst (pc' := 86) dX6_init_85 rfl), ↓(X_bipush (pc' := 88) dX6_init_86 rfl), ↓(X_iastore (pc' := 89) dX6_init_88 rfl), rn_0, gV_s, ↓pI_c, ↓pII_c, ↓pL_c, ↓pLL_c, ↓pR_c, ↓pRI_c, ↓pRII_c, ↓pRIL_c, ↓pRR_c, ↓pV_c, ↓pVV_c, ↓gI_c, ↓gL_c, ↓gR_c, f2_0, f2_1, nk_n, nk_i, nk_r, ↓reduceIte, r32, r64, Nat.reduceAdd, Nat.reduceSub, Nat.reduceEqDiff, Nat.reduceLT, Nat.reduceLeDiff, Nat.reduceBEq, Int.reduceAdd, Int.reduceSub, Int.reduceMul, Int.reduceNeg, Int.reduceToNat, Int.reduceLE, Int.reduceLT, Int.reduceEq, Int.reduceNatCast', Int.reduceNatCast, Int.natCast_zero, Int.toNat_natCast, Int.toNat_zero, Int.toNat_one, List.length_cons, List.length_nil, true_and, and_true, and_self, true_or, or_true, false_or, or_false, Bool.not_true, Bool.not_false, Nat.lt_add_one, Nat.zero_lt_succ, N0, swL_n, swL_c, List.toList_toArray, false_implies, true_implies, implies_true, forall_const, not_false_eq_true, not_true_eq_false, and_false, false_and, kd_6, ln_6]
  simp only [hK9]
  clear hK9 K9v
  refine J_astI GM_fa dX6_init_89 ?_ ?_ ?_ ?_ ?_ ?_ ?_
  · decide +kernel
  · decide +kernel
  · omega
  · omega
  · decide
  · decide +kernel
  refine J_rnG GM_fa (by omega) (by omega) (by omega) 2 _ _ _ _ (fun K9v hK9 => ?_)
  simp (maxSteps := 4000000) only [↓(X_putR (pc' := 93) fl_6_11 dX6_init_90 rfl), kd_1, ↓(gV_c r0_1_0), kd_2, ln_2, ↓(X_aload_n (k := 0) (pc' := 94) dX6_init_93 rfl rfl), ↓gR_0, rn_0, gV_s, ↓pI_c, ↓pII_c, ↓pL_c, ↓pLL_c, ↓pR_c, ↓pRI_c, ↓pRII_c, ↓pRIL_c, ↓pRR_c, ↓pV_c, ↓pVV_c, ↓gI_c, ↓gL_c, ↓gR_c, f2_0, f2_1, nk_n, nk_i, nk_r, ↓reduceIte, r32, r64, Nat.reduceAdd, Nat.reduceSub, Nat.reduceEqDiff, Nat.reduceLT, Nat.reduceLeDiff, Nat.reduceBEq, Int.reduceAdd, Int.reduceSub, Int.reduceMul, Int.reduceNeg, Int.reduceToNat, Int.reduceLE, Int.reduceLT, Int.reduceEq, Int.reduceNatCast', Int.reduceNatCast, Int.natCast_zero, Int.toNat_natCast, Int.toNat_zero, Int.toNat_one, List.length_cons, List.length_nil, true_and, and_true, and_self, true_or, or_true, false_or, or_false, Bool.not_true, Bool.not_false, Nat.lt_add_one, Nat.zero_lt_succ, N0, swL_n, swL_c, List.toList_toArray, false_implies, true_implies, implies_true, forall_const, not_false_eq_true, not_true_eq_false, and_false, false_and, kd_1]
  simp only [hK9]
  clear hK9 K9v
  generalize hM2 : up2 _ 6 2 90 = M2
  generalize hR2 : upR _ 1 0 _ = R2
  have hWb : W0 7 R2 M2 := by
    subst hM2
    subst hR2
    repeat (first | exact hW | with_reducible refine W0.up ?_ (by omega) | with_reducible refine W0.ur ?_ (by omega) (by omega) | with_reducible refine W0.mn ?_ (by omega) | with_reducible refine W0.new ?_)
  have hW := hWb
  refine J_newc (w := 1) GM_fa dX6_init_94 nk_6_17 (by decide +kernel) rfl ?_ ?_ ?_ ?_ ?_
  · repeat (first | exact hW | with_reducible refine W0.up ?_ (by omega) | with_reducible refine W0.ur ?_ (by omega) (by omega) | with_reducible refine W0.mn ?_ (by omega) | with_reducible refine W0.new ?_)
  · omega
  · exact (inW_of (by simp [refs] <;> omega) (by simp [refs] <;> omega))
  · exact ⟨by omega, by omega⟩
  refine J_rnG GM_fa (by omega) (by omega) (by omega) 1 _ _ _ _ (fun K9v hK9 => ?_)
  simp (maxSteps := 4000000) only [↓(X_dup (pc' := 98) dX6_init_97 rfl), rn_0, gV_s, ↓pI_c, ↓pII_c, ↓pL_c, ↓pLL_c, ↓pR_c, ↓pRI_c, ↓pRII_c, ↓pRIL_c, ↓pRR_c, ↓pV_c, ↓pVV_c, ↓gI_c, ↓gL_c, ↓gR_c, f2_0, f2_1, nk_n, nk_i, nk_r, ↓reduceIte, r32, r64, Nat.reduceAdd, Nat.reduceSub, Nat.reduceEqDiff, Nat.reduceLT, Nat.reduceLeDiff, Nat.reduceBEq, Int.reduceAdd, Int.reduceSub, Int.reduceMul, Int.reduceNeg, Int.reduceToNat, Int.reduceLE, Int.reduceLT, Int.reduceEq, Int.reduceNatCast', Int.reduceNatCast, Int.natCast_zero, Int.toNat_natCast, Int.toNat_zero, Int.toNat_one, List.length_cons, List.length_nil, true_and, and_true, and_self, true_or, or_true, false_or, or_false, Bool.not_true, Bool.not_false, Nat.lt_add_one, Nat.zero_lt_succ, N0, swL_n, swL_c, List.toList_toArray, false_implies, true_implies, implies_true, forall_const, not_false_eq_true, not_true_eq_false, and_false, false_and]
  simp only [hK9]
  clear hK9 K9v
  refine J_callId GM_fa (on_Ink (d + 1) 7 (by decide) kd_7 hWb) dX6_init_98 k_6_19 (by omega) (Nat.le_of_ble_eq_true rfl) ⟨by omega, by omega⟩ rfl (by simp) rfl ?_ ?_ ?_
  · exact (inW_of (by simp [refs] <;> omega) (by simp [refs] <;> omega))
  · first | decide | (show _ ≤ 1000000; omega)
  have hW : W0 9 (rng 7 9 R0 R2) M2 := by
    have := W0.rg (c := 7) (n' := 9) (f := M2) hWb (by omega) (rg_ink (by decide) kd_7)
    rwa [rng_same] at this
  refine J_rnG GM_fa (by omega) (by omega) (by omega) 3 _ _ _ _ (fun K9v hK9 => ?_)
  simp (maxSteps := 4000000) only [↓(X_putR (pc' := 104) fl_6_20 dX6_init_101 rfl), kd_1, ↓(gV_c r0_1_1), kd_7, ↓(X_aload_n (k := 0) (pc' := 105) dX6_init_104 rfl rfl), ↓gR_0, ↓(X_bipush (pc' := 107) dX6_init_105 rfl), rn_0, gV_s, ↓pI_c, ↓pII_c, ↓pL_c, ↓pLL_c, ↓pR_c, ↓pRI_c, ↓pRII_c, ↓pRIL_c, ↓pRR_c, ↓pV_c, ↓pVV_c, ↓gI_c, ↓gL_c, ↓gR_c, f2_0, f2_1, nk_n, nk_i, nk_r, ↓reduceIte, r32, r64, Nat.reduceAdd, Nat.reduceSub, Nat.reduceEqDiff, Nat.reduceLT, Nat.reduceLeDiff, Nat.reduceBEq, Int.reduceAdd, Int.reduceSub, Int.reduceMul, Int.reduceNeg, Int.reduceToNat, Int.reduceLE, Int.reduceLT, Int.reduceEq, Int.reduceNatCast', Int.reduceNatCast, Int.natCast_zero, Int.toNat_natCast, Int.toNat_zero, Int.toNat_one, List.length_cons, List.length_nil, true_and, and_true, and_self, true_or, or_true, false_or, or_false, Bool.not_true, Bool.not_false, Nat.lt_add_one, Nat.zero_lt_succ, N0, swL_n, swL_c, List.toList_toArray, false_implies, true_implies, implies_true, forall_const, not_false_eq_true, not_true_eq_false, and_false, false_and, kd_1]
  simp only [hK9]
  clear hK9 K9v
  refine J_newQ (N := 30) (kk := 12) GM_fa dX6_init_107 qk_6_17 (by decide +kernel) (by decide +kernel) (by decide) ?_ ?_ ?_ ?_ ?_
  · repeat (first | exact hW | with_reducible refine W0.up ?_ (by omega) | with_reducible refine W0.ur ?_ (by omega) (by omega) | with_reducible refine W0.mn ?_ (by omega) | with_reducible refine W0.new ?_)
  · omega
  · exact (inW_of (by simp [refs] <;> omega) (by simp [refs] <;> omega))
  · exact ⟨by omega, by omega⟩
  refine J_rnG GM_fa (by omega) (by omega) (by omega) 3 _ _ _ _ (fun K9v hK9 => ?_)
  simp (maxSteps := 4000000) only [↓(X_putR (pc' := 113) fl_6_24 dX6_init_110 rfl), kd_1, ↓(gV_c r0_1_2), kd_9, ln_9, ↓(X_iconst (pc' := 114) dX6_init_113 rfl), ↓(X_istore_n (k := 1) (pc' := 115) dX6_init_114 rfl rfl), ↓sto_1, rn_0, gV_s, ↓pI_c, ↓pII_c, ↓pL_c, ↓pLL_c, ↓pR_c, ↓pRI_c, ↓pRII_c, ↓pRIL_c, ↓pRR_c, ↓pV_c, ↓pVV_c, ↓gI_c, ↓gL_c, ↓gR_c, f2_0, f2_1, nk_n, nk_i, nk_r, ↓reduceIte, r32, r64, Nat.reduceAdd, Nat.reduceSub, Nat.reduceEqDiff, Nat.reduceLT, Nat.reduceLeDiff, Nat.reduceBEq, Int.reduceAdd, Int.reduceSub, Int.reduceMul, Int.reduceNeg, Int.reduceToNat, Int.reduceLE, Int.reduceLT, Int.reduceEq, Int.reduceNatCast', Int.reduceNatCast, Int.natCast_zero, Int.toNat_natCast, Int.toNat_zero, Int.toNat_one, List.length_cons, List.length_nil, true_and, and_true, and_self, true_or, or_true, false_or, or_false, Bool.not_true, Bool.not_false, Nat.lt_add_one, Nat.zero_lt_succ, N0, swL_n, swL_c, List.toList_toArray, false_implies, true_implies, implies_true, forall_const, not_false_eq_true, not_true_eq_false, and_false, false_and, kd_1]
  simp only [hK9]
  clear hK9 K9v
  have hRe : upR (upR (rng 7 9 R0 R2) 1 1 (some 7)) 1 2 (some 9) = RS6 Rf 0 := by
    funext x k
    have hz := fun y (hy : 1 ≤ y) => (hW9.1 y k hy).1
    unfold RS6
    rcases (show x = 1 ∨ x = 2 ∨ (3 ≤ x ∧ x < 7) ∨ (7 ≤ x ∧ x < 9) ∨ x = 9 ∨ ¬ (1 ≤ x ∧ x < 10) by omega) with q | q | q | q | q | q
    · subst q
      rw [if_neg (by omega), rng_in (by omega), R0_6 kd_1]
      rcases (show k = 0 ∨ k = 1 ∨ k = 2 ∨ 2 < k by omega) with h | h | h | h
      · subst h; subst hR2; simp [upR, rng]
      · subst h; subst hR2; simp [upR, rng]
      · subst h; subst hR2; simp [upR, rng]
      · subst hR2
        simp [upR, rng, hz 1 (by omega), show k ≠ 0 by omega, show k ≠ 1 by omega, show k ≠ 2 by omega]
    · subst q
      rw [if_neg (by omega), rng_in (by omega), R0_2']
      rcases (show k = 0 ∨ k = 1 ∨ k = 2 ∨ k = 3 ∨ 3 < k by omega) with h | h | h | h | h
      · subst h; subst hR2; simp [upR, rng]
      · subst h; subst hR2; simp [upR, rng]
      · subst h; subst hR2; simp [upR, rng]
      · subst h; subst hR2; simp [upR, rng]
      · subst hR2
        simp [upR, rng, hz 2 (by omega), show k ≠ 0 by omega, show k ≠ 1 by omega, show k ≠ 2 by omega, show k ≠ 3 by omega, show ¬ k < 4 by omega]
    · rw [if_neg (by omega), rng_in (by omega), R0_arr (by omega) (Or.inl (k10_0 x q.2 q.1))]
      subst hR2
      simp [upR, rng, hz x (by omega), show x ≠ 1 by omega, show x ≠ 2 by omega, show ¬ 7 ≤ x by omega]
    · rw [if_neg (by omega), rng_in (by omega)]
      simp [upR, rng, q.1, q.2, show x ≠ 1 by omega]
    · subst q
      rw [if_pos rfl, if_neg (by omega)]
      subst hR2
      simp [upR, rng, hz 9 (by omega)]
    · rw [if_neg (by omega), rng_out (by omega)]
      subst hR2
      simp [upR, rng, show x ≠ 1 by omega, show x ≠ 2 by omega, show ¬ (7 ≤ x ∧ x < 9) by omega]
  have hMe : M2 = rng 1 70 M0 M := by
    funext x k
    have hz := fun y (hy : 1 ≤ y) => (hW9.1 y k hy).2
    subst hM2
    rcases (show x = 3 ∨ x = 4 ∨ x = 5 ∨ x = 6 ∨ (1 ≤ x ∧ x < 70 ∧ x ≠ 3 ∧ x ≠ 4 ∧ x ≠ 5 ∧ x ≠ 6) ∨ ¬ (1 ≤ x ∧ x < 70) by omega) with q | q | q | q | q | q
    · subst q
      rw [rng_in (by omega), M0_z (by decide)]
      rcases (show k = 0 ∨ k = 1 ∨ k = 2 ∨ 2 < k by omega) with h | h | h | h
      · subst h; simp [up2]
      · subst h; simp [up2]
      · subst h; simp [up2]
      · simp [up2, hz 3 (by omega), show k ≠ 0 by omega, show k ≠ 1 by omega, show k ≠ 2 by omega]
    · subst q
      rw [rng_in (by omega), M0_4]
      rcases (show k = 0 ∨ k = 1 ∨ k = 2 ∨ 2 < k by omega) with h | h | h | h
      · subst h; simp [up2]
      · subst h; simp [up2]
      · subst h; simp [up2]
      · simp [up2, hz 4 (by omega), show k ≠ 0 by omega, show k ≠ 1 by omega, show k ≠ 2 by omega]
    · subst q
      rw [rng_in (by omega), M0_5]
      rcases (show k = 0 ∨ k = 1 ∨ k = 2 ∨ 2 < k by omega) with h | h | h | h
      · subst h; simp [up2]
      · subst h; simp [up2]
      · subst h; simp [up2]
      · simp [up2, hz 5 (by omega), show k ≠ 0 by omega, show k ≠ 1 by omega, show k ≠ 2 by omega]
    · subst q
      rw [rng_in (by omega), M0_6]
      rcases (show k = 0 ∨ k = 1 ∨ k = 2 ∨ 2 < k by omega) with h | h | h | h
      · subst h; simp [up2]
      · subst h; simp [up2]
      · subst h; simp [up2]
      · simp [up2, hz 6 (by omega), show k ≠ 0 by omega, show k ≠ 1 by omega, show k ≠ 2 by omega]
    · obtain ⟨q1, q2, q3, q4, q5, q6⟩ := q
      rw [rng_in (by omega), M0_z (by omega)]
      simp [up2, hz x (by omega), q3, q4, q5, q6]
    · rw [rng_out q]
      simp [up2, show x ≠ 3 by omega, show x ≠ 4 by omega, show x ≠ 5 by omega, show x ≠ 6 by omega]
  have hM10 : ∀ x k, 10 ≤ x → M2 x k = 0 := by
    intro x k hx
    rw [hMe]
    rcases (show (1 ≤ x ∧ x < 70) ∨ ¬ (1 ≤ x ∧ x < 70) by omega) with q | q
    · rw [rng_in q, M0_z (by omega)]
    · rw [rng_out q]
      exact (hW9.1 x k (by omega)).2
  rw [hRe]
  exact jj_s6 d hW9 hM10 ⟨rfl, by rw [hMe]⟩ 30 0 (by omega)
end MK3
