/-! the constructor of the press room -/
theorem R0_8 {c k : Nat} (h : kd c = 8) : R0 c k = if k = 0 then some 1 else if k = 1 then some 70 else if k = 2 then some 71 else if k = 3 then some 73 else if k = 4 then some 74 else if k = 5 then some 76 else if k = 6 then some 79 else if k = 7 then some 89 else none := by
  unfold R0
  simp only [h]
  rcases k with _ | _ | _ | _ | _ | _ | _ | _ | k <;> simp
theorem R0_73 {k : Nat} : R0 73 k = if k < 16 then some (367 + 5 * k) else none := by
  unfold R0
  simp [kd_73]
theorem rg_shelf : ∀ x k r, 1 ≤ x → x < 70 → R0 x k = some r → r < 70 := by
  intro x k r h1 h2 h
  rcases (show x = 9 ∨ x ≠ 9 by omega) with q | q
  · rw [q, R0_9] at h
    split at h
    · cases h
      omega
    · cases h
  · exact rs6_in (i := 30) (by omega) h1 h2 q h
theorem rg_search : ∀ x k r, 79 ≤ x → x < 89 → R0 x k = some r → r < 89 := by
  intro x k r h1 h2 h
  rcases (show x = 79 ∨ (80 ≤ x ∧ x < 82) ∨ (82 ≤ x ∧ x < 85) ∨ 85 ≤ x by omega) with q | q | q | q
  · rw [q, R0_5 kd_79] at h
    rcases some_if h with e | h
    · omega
    rcases some_if h with e | h
    · omega
    rcases some_if h with e | h
    · omega
    rcases some_if h with e | h
    · omega
    rcases some_if h with e | h
    · omega
    rcases some_if h with e | h
    · omega
    cases h
  · have := rg_rec x k r q.1 q.2 h
    omega
  · have := rg_lad (Or.inr rfl) x k r q.1 q.2 h
    omega
  · have hk : kd x = 10 := by
      rcases (show x = 85 ∨ x = 86 ∨ x = 87 ∨ x = 88 by omega) with h | h | h | h <;> subst h <;> decide +kernel
    rw [R0_arr (by omega) (Or.inl hk)] at h
    cases h
theorem rg_plan : ∀ x k r, 89 ≤ x → x < 367 → R0 x k = some r → r < 367 := by
  intro x k r h1 h2 h
  rcases (show x = 89 ∨ x = 91 ∨ x = 100 ∨ x = 110 ∨ (90 ≤ x ∧ x ≠ 91 ∧ x ≠ 100 ∧ x ≠ 110) by omega) with q | q | q | q | q
  · rw [q, R0_7 kd_89] at h
    rcases some_if h with e | h
    · omega
    rcases some_if h with e | h
    · omega
    rcases some_if h with e | h
    · omega
    rcases some_if h with e | h
    · omega
    cases h
  · rw [q, R0_91] at h
    split at h
    · cases h
      omega
    · cases h
  · rw [q, R0_100] at h
    split at h
    · cases h
      omega
    · cases h
  · rw [q, R0_110] at h
    split at h
    · cases h
      omega
    · cases h
  · rw [R0_arr (by omega) (Or.inl (k10_pl x h2 q.1 q.2.1 q.2.2.1 q.2.2.2))] at h
    cases h
theorem rg_job {i : Nat} (hi : i < 16) : ∀ x k r, 367 + 5 * i ≤ x → x < 367 + 5 * i + 5 → R0 x k = some r → r < 367 + 5 * i + 5 := by
  intro x k r h1 h2 h
  obtain ⟨a1, a2, a3, a4, a5, a6, a7, a8, r1, r2, r3, -, -⟩ := job_at i hi
  rcases (show x = 367 + 5 * i ∨ x = 368 + 5 * i ∨ x = 369 + 5 * i ∨ (370 + 5 * i ≤ x) by omega) with q | q | q | q
  · rw [q, R0_1 a1] at h
    rcases some_if h with e | h
    · omega
    rcases some_if h with e | h
    · omega
    rcases some_if h with e | h
    · omega
    cases h
  · rw [q, R0_arr (by omega) (Or.inl a2)] at h
    cases h
  · rw [q, R0_arr (by omega) (Or.inl a4)] at h
    cases h
  · have := rg_ink (c := 370 + 5 * i) (by omega) a6 x k r q (by omega) h
    omega
/-- the press room, i jobs made -/
def RS8 (Rf : Nat → Nat → Option Nat) (i : Nat) : Nat → Nat → Option Nat := fun x k => if x = 73 then (if k < i then some (367 + 5 * k) else none) else rng 0 (367 + 5 * i) R0 Rf x k
theorem rs8_in {x k r i : Nat} (hi : i ≤ 16) (h2 : x < 367 + 5 * i) (h9 : x ≠ 73) (h : R0 x k = some r) : r < 367 + 5 * i := by
  rcases (show x = 0 ∨ (1 ≤ x ∧ x < 70) ∨ x = 70 ∨ (71 ≤ x ∧ x < 73) ∨ (74 ≤ x ∧ x < 76) ∨ (76 ≤ x ∧ x < 79) ∨ (79 ≤ x ∧ x < 89) ∨ (89 ≤ x ∧ x < 367) ∨ 367 ≤ x by omega) with q | q | q | q | q | q | q | q | q
  · rw [q, R0_8 kd_0] at h
    rcases some_if h with e | h
    · omega
    rcases some_if h with e | h
    · omega
    rcases some_if h with e | h
    · omega
    rcases some_if h with e | h
    · omega
    rcases some_if h with e | h
    · omega
    rcases some_if h with e | h
    · omega
    rcases some_if h with e | h
    · omega
    rcases some_if h with e | h
    · omega
    cases h
  · have := rg_shelf x k r q.1 q.2 h
    omega
  · rw [q, R0_arr (by decide) (Or.inl kd_70)] at h
    cases h
  · have := rg_ink (c := 71) (by decide) kd_71 x k r q.1 q.2 h
    omega
  · have := rg_press x k r q.1 q.2 h
    omega
  · have := rg_lad (Or.inl rfl) x k r q.1 q.2 h
    omega
  · have := rg_search x k r q.1 q.2 h
    omega
  · have := rg_plan x k r q.1 q.2 h
    omega
  · obtain ⟨t, ht⟩ : ∃ t, t = (x - 367) / 5 := ⟨_, rfl⟩
    have := rg_job (i := t) (by omega) x k r (by omega) (by omega) h
    omega
theorem rs8_W {Rf : Nat → Nat → Option Nat} {M : Nat → Nat → Int} {i : Nat} (hi : i ≤ 16) (h : W0 0 Rf M) (M' : Nat → Nat → Int) (hM : ∀ x k, 367 ≤ x → M' x k = 0) : W0 (367 + 5 * i) (RS8 Rf i) M' := by
  refine ⟨fun x k hx => ⟨?_, hM x k (by omega)⟩, fun x k r hx hr => ?_⟩
  · unfold RS8
    rw [if_neg (by omega), rng_out (by omega)]
    exact (h.1 x k (by omega)).1
  · unfold RS8 at hr
    split at hr
    · split at hr
      · cases hr
        omega
      · cases hr
    · rename_i h9
      rw [rng_in (by omega)] at hr
      exact rs8_in hi hx h9 hr
section MK4
variable {l : Launch} {D : va_G} {cy : Nat → ClassId}
set_option maxRecDepth 100000 in
set_option maxHeartbeats 4000000 in
theorem jj_s8 {Rf : Nat → Nat → Option Nat} {M M' : Nat → Nat → Int} {Φ : Out → Mem → Prop} (d : Nat) (hW9 : W0 0 Rf M) (hM : ∀ x k, 367 ≤ x → M' x k = 0) (hΦ : Φ (.inl none) (447, rng 0 447 R0 Rf, M')) : ∀ (k i : Nat), i + k = 16 →
    J l D cy (GM l D cy 8 cX8_init 2 (d + 5) 600 5000 true none Φ) 88 [some (.inr (.inr (some 0))), some (.inl (i : Int))] [] (367 + 5 * i, RS8 Rf i, M') (391 + 5 * i) (3395 + 19 * i) := by
  intro k
  induction k with
  | zero =>
    intro i hi
    have e : i = 16 := by omega
    subst e
    have eR : RS8 Rf 16 = rng 0 447 R0 Rf := by
      funext x k
      unfold RS8
      split
      · rename_i h
        subst h
        rw [rng_in (by omega), R0_73]
      · rfl
    refine J_rnG GM_fa (by omega) (by omega) (by omega) 3 _ _ _ _ (fun K9v hK9 => ?_)
    simp (maxSteps := 4000000) only [↓(X_iload_n (k := 1) (pc' := 89) dX8_init_88 rfl rfl), ↓gI_1, ↓(X_bipush (pc' := 91) dX8_init_89 rfl), ↓(X_icmp_ge (tgt := 113) (pc' := 94) dX8_init_91 (by decide) rfl), rn_0, gV_s, ↓pI_c, ↓pII_c, ↓pL_c, ↓pLL_c, ↓pR_c, ↓pRI_c, ↓pRII_c, ↓pRIL_c, ↓pRR_c, ↓pV_c, ↓pVV_c, ↓gI_c, ↓gL_c, ↓gR_c, f2_0, f2_1, nk_n, nk_i, nk_r, ↓reduceIte, r32, r64, Nat.reduceAdd, Nat.reduceSub, Nat.reduceEqDiff, Nat.reduceLT, Nat.reduceLeDiff, Nat.reduceBEq, Int.reduceAdd, Int.reduceSub, Int.reduceMul, Int.reduceNeg, Int.reduceToNat, Int.reduceLE, Int.reduceLT, Int.reduceEq, Int.reduceNatCast', Int.reduceNatCast, Int.natCast_zero, Int.toNat_natCast, Int.toNat_zero, Int.toNat_one, List.length_cons, List.length_nil, true_and, and_true, and_self, true_or, or_true, false_or, or_false, Bool.not_true, Bool.not_false, Nat.lt_add_one, Nat.zero_lt_succ, N0, swL_n, swL_c, List.toList_toArray, false_implies, true_implies, implies_true, forall_const, not_false_eq_true, not_true_eq_false, and_false, false_and]
    simp only [hK9]
    clear hK9 K9v
    rw [eR]
    refine J_vret dX8_init_113 rfl (by omega) (by omega) (hΦ)
  | succ k ih =>
    intro i hi
    obtain ⟨a1, -⟩ := job_at i (by omega)
    have h1 : (i : Int) < 16 := by omega
    have r1 : -2147483648 ≤ (i : Int) ∧ (i : Int) ≤ 2147483647 := by omega
    have g9 : RS8 Rf i 0 3 = some 73 := by
      unfold RS8
      rw [if_neg (by decide), rng_in (by omega), R0_8 kd_0]
      rfl
    have hW : W0 (367 + 5 * i) (RS8 Rf i) M' := rs8_W (by omega) hW9 M' hM
    refine J_rnG GM_fa (by omega) (by omega) (by omega) 6 _ _ _ _ (fun K9v hK9 => ?_)
    simp (maxSteps := 4000000) only [↓(X_iload_n (k := 1) (pc' := 89) dX8_init_88 rfl rfl), ↓gI_1, ↓(X_bipush (pc' := 91) dX8_init_89 rfl), ↓(X_icmp_ge (tgt := 113) (pc' := 94) dX8_init_91 (by decide) rfl), ↓(X_aload_n (k := 0) (pc' := 95) dX8_init_94 rfl rfl), ↓gR_0, ↓(X_getR (pc' := 98) fl_8_29 dX8_init_95 rfl), kd_0, ↓(gV_c r0_0_3), kd_73, ln_73, ↓(X_iload_n (k := 1) (pc' := 99) dX8_init_98 rfl rfl), rn_0, gV_s, ↓pI_c, ↓pII_c, ↓pL_c, ↓pLL_c, ↓pR_c, ↓pRI_c, ↓pRII_c, ↓pRIL_c, ↓pRR_c, ↓pV_c, ↓pVV_c, ↓gI_c, ↓gL_c, ↓gR_c, f2_0, f2_1, nk_n, nk_i, nk_r, ↓reduceIte, r32, r64, Nat.reduceAdd, Nat.reduceSub, Nat.reduceEqDiff, Nat.reduceLT, Nat.reduceLeDiff, Nat.reduceBEq, Int.reduceAdd, Int.reduceSub, Int.reduceMul, Int.reduceNeg, Int.reduceToNat, Int.reduceLE, Int.reduceLT, Int.reduceEq, Int.reduceNatCast', Int.reduceNatCast, Int.natCast_zero, Int.toNat_natCast, Int.toNat_zero, Int.toNat_one, List.length_cons, List.length_nil, true_and, and_true, and_self, true_or, or_true, false_or, or_false, Bool.not_true, Bool.not_false, Nat.lt_add_one, Nat.zero_lt_succ, N0, swL_n, swL_c, List.toList_toArray, false_implies, true_implies, implies_true, forall_const, not_false_eq_true, not_true_eq_false, and_false, false_and, h1, r1, ↓(gV_c g9), kd_0, show 0 < 367 + 5 * i by omega]
    simp only [hK9]
    clear hK9 K9v
    refine J_newc (w := 8) GM_fa dX8_init_99 nk_8_27 (a1) rfl ?_ ?_ ?_ ?_ ?_
    · repeat (first | exact hW | with_reducible refine W0.up ?_ (by omega) | with_reducible refine W0.ur ?_ (by omega) (by omega) | with_reducible refine W0.mn ?_ (by omega) | with_reducible refine W0.new ?_)
    · omega
    · exact (inW_of (by simp [refs] <;> omega) (by simp [refs] <;> omega))
    · exact ⟨by omega, by omega⟩
    refine J_rnG GM_fa (by omega) (by omega) (by omega) 1 _ _ _ _ (fun K9v hK9 => ?_)
    simp (maxSteps := 4000000) only [↓(X_dup (pc' := 103) dX8_init_102 rfl), rn_0, gV_s, ↓pI_c, ↓pII_c, ↓pL_c, ↓pLL_c, ↓pR_c, ↓pRI_c, ↓pRII_c, ↓pRIL_c, ↓pRR_c, ↓pV_c, ↓pVV_c, ↓gI_c, ↓gL_c, ↓gR_c, f2_0, f2_1, nk_n, nk_i, nk_r, ↓reduceIte, r32, r64, Nat.reduceAdd, Nat.reduceSub, Nat.reduceEqDiff, Nat.reduceLT, Nat.reduceLeDiff, Nat.reduceBEq, Int.reduceAdd, Int.reduceSub, Int.reduceMul, Int.reduceNeg, Int.reduceToNat, Int.reduceLE, Int.reduceLT, Int.reduceEq, Int.reduceNatCast', Int.reduceNatCast, Int.natCast_zero, Int.toNat_natCast, Int.toNat_zero, Int.toNat_one, List.length_cons, List.length_nil, true_and, and_true, and_self, true_or, or_true, false_or, or_false, Bool.not_true, Bool.not_false, Nat.lt_add_one, Nat.zero_lt_succ, N0, swL_n, swL_c, List.toList_toArray, false_implies, true_implies, implies_true, forall_const, not_false_eq_true, not_true_eq_false, and_false, false_and]
    simp only [hK9]
    clear hK9 K9v
    refine J_callId GM_fa (on_Job (d + 1) i (367 + 5 * i) (by omega) rfl hW) dX8_init_103 k_8_61 (by omega) (Nat.le_of_ble_eq_true rfl) ⟨by omega, by omega⟩ rfl (by simp) rfl ?_ ?_ ?_
    · exact (inW_of (by simp [refs] <;> omega) (by simp [refs] <;> omega))
    · first | decide | (show _ ≤ 1000000; omega)
    refine J_astQ GM_fa dX8_init_106 (Or.inr ⟨rfl, rfl⟩) kd_73 (a1) ?_ ?_ ?_ ?_ ?_
    · omega
    · omega
    · omega
    · rw [ln_73]; omega
    refine J_rnG GM_fa (by omega) (by omega) (by omega) 2 _ _ _ _ (fun K9v hK9 => ?_)
    simp (maxSteps := 4000000) only [↓(X_iinc (pc' := 110) dX8_init_107 rfl), ↓gI_1, ↓sto_1, ↓(X_goto (pc' := 88) dX8_init_110 (by decide)), rn_0, gV_s, ↓pI_c, ↓pII_c, ↓pL_c, ↓pLL_c, ↓pR_c, ↓pRI_c, ↓pRII_c, ↓pRIL_c, ↓pRR_c, ↓pV_c, ↓pVV_c, ↓gI_c, ↓gL_c, ↓gR_c, f2_0, f2_1, nk_n, nk_i, nk_r, ↓reduceIte, r32, r64, Nat.reduceAdd, Nat.reduceSub, Nat.reduceEqDiff, Nat.reduceLT, Nat.reduceLeDiff, Nat.reduceBEq, Int.reduceAdd, Int.reduceSub, Int.reduceMul, Int.reduceNeg, Int.reduceToNat, Int.reduceLE, Int.reduceLT, Int.reduceEq, Int.reduceNatCast', Int.reduceNatCast, Int.natCast_zero, Int.toNat_natCast, Int.toNat_zero, Int.toNat_one, List.length_cons, List.length_nil, true_and, and_true, and_self, true_or, or_true, false_or, or_false, Bool.not_true, Bool.not_false, Nat.lt_add_one, Nat.zero_lt_succ, N0, swL_n, swL_c, List.toList_toArray, false_implies, true_implies, implies_true, forall_const, not_false_eq_true, not_true_eq_false, and_false, false_and]
    simp only [hK9]
    clear hK9 K9v
    have eR : upR (rng (367 + 5 * i) (367 + 5 * i + 5) R0 (RS8 Rf i)) 73 i (some (367 + 5 * i)) = RS8 Rf (i + 1) := by
      funext x k9
      rcases (show x = 73 ∨ (367 + 5 * i ≤ x ∧ x < 367 + 5 * i + 5) ∨ (x ≠ 73 ∧ ¬ (367 + 5 * i ≤ x ∧ x < 367 + 5 * i + 5)) by omega) with q | q | q
      · subst q
        rcases (show k9 = i ∨ k9 ≠ i by omega) with e | e
        · subst e
          simp [upR, RS8]
        · have e1 : RS8 Rf (i + 1) 73 k9 = RS8 Rf i 73 k9 := by
            unfold RS8
            rw [if_pos rfl, if_pos rfl]
            simp only [show (k9 < i + 1) = (k9 < i) from propext ⟨fun h => by omega, fun h => by omega⟩]
          rw [e1]
          unfold upR
          rw [if_neg (fun h => e h.2), rng_out (by omega)]
      · have e1 : RS8 Rf (i + 1) x k9 = R0 x k9 := by
          unfold RS8
          rw [if_neg (by omega), rng_in (by omega)]
        rw [e1]
        unfold upR
        rw [if_neg (by omega), rng_in q]
      · have e1 : RS8 Rf (i + 1) x k9 = RS8 Rf i x k9 := by
          unfold RS8
          rw [if_neg q.1, if_neg q.1]
          unfold rng
          simp only [show (0 ≤ x ∧ x < 367 + 5 * (i + 1)) = (0 ≤ x ∧ x < 367 + 5 * i) from propext ⟨fun h => by omega, fun h => by omega⟩]
        rw [e1]
        unfold upR
        rw [if_neg (fun h => q.1 h.1), rng_out q.2]
    rw [eR, show (i : Int) + 1 = ((i + 1 : Nat) : Int) by omega, show 367 + 5 * i + 5 = 367 + 5 * (i + 1) by omega, show 391 + 5 * i + 1 + 4 = 391 + 5 * (i + 1) by omega, show 3395 + 19 * i + 8 + 11 = 3395 + 19 * (i + 1) by omega]
    exact ih (i + 1) (by omega)
set_option maxRecDepth 100000 in
set_option maxHeartbeats 4000000 in
theorem on_Kitchen {Rf : Nat → Nat → Option Nat} {M : Nat → Nat → Int} (d : Nat) (hW9 : W0 0 Rf M) : Ok l D cy (d + 5) 600 5000 yX8_init cX8_init 2 (none) [.inr (.inr (some (0)))] ((1, Rf, M)) (det none (447, rng 0 447 R0 Rf, rng 0 447 M0 M)) := by
  refine Ok.intro (o := 8) (ini := true) [some (.inr (.inr (some (0)))), none] (by decide +kernel) rfl (fun _ => rfl) rfl (Nat.le_of_ble_eq_true rfl) rfl ?_
  have hW := W0.new hW9
  refine J_rnG GM_fa (by omega) (by omega) (by omega) 3 _ _ _ _ (fun K9v hK9 => ?_)
  simp (maxSteps := 4000000) only [↓(X_aload_n (k := 0) (pc' := 1) dX8_init_0 rfl rfl), ↓gR_0, ↓(X_obj (pc' := 4) jd_8_1 dX8_init_1 rfl), ↓(X_aload_n (k := 0) (pc' := 5) dX8_init_4 rfl rfl), rn_0, gV_s, ↓pI_c, ↓pII_c, ↓pL_c, ↓pLL_c, ↓pR_c, ↓pRI_c, ↓pRII_c, ↓pRIL_c, ↓pRR_c, ↓pV_c, ↓pVV_c, ↓gI_c, ↓gL_c, ↓gR_c, f2_0, f2_1, nk_n, nk_i, nk_r, ↓reduceIte, r32, r64, Nat.reduceAdd, Nat.reduceSub, Nat.reduceEqDiff, Nat.reduceLT, Nat.reduceLeDiff, Nat.reduceBEq, Int.reduceAdd, Int.reduceSub, Int.reduceMul, Int.reduceNeg, Int.reduceToNat, Int.reduceLE, Int.reduceLT, Int.reduceEq, Int.reduceNatCast', Int.reduceNatCast, Int.natCast_zero, Int.toNat_natCast, Int.toNat_zero, Int.toNat_one, List.length_cons, List.length_nil, true_and, and_true, and_self, true_or, or_true, false_or, or_false, Bool.not_true, Bool.not_false, Nat.lt_add_one, Nat.zero_lt_succ, N0, swL_n, swL_c, List.toList_toArray, false_implies, true_implies, implies_true, forall_const, not_false_eq_true, not_true_eq_false, and_false, false_and]
  simp only [hK9]
  clear hK9 K9v
  refine J_newc (w := 4) GM_fa dX8_init_5 nk_8_7 (by decide +kernel) rfl ?_ ?_ ?_ ?_ ?_
  · repeat (first | exact hW | with_reducible refine W0.up ?_ (by omega) | with_reducible refine W0.ur ?_ (by omega) (by omega) | with_reducible refine W0.mn ?_ (by omega) | with_reducible refine W0.new ?_)
  · omega
  · exact (inW_of (by simp [refs] <;> omega) (by simp [refs] <;> omega))
  · exact ⟨by omega, by omega⟩
  refine J_rnG GM_fa (by omega) (by omega) (by omega) 1 _ _ _ _ (fun K9v hK9 => ?_)
  simp (maxSteps := 4000000) only [↓(X_dup (pc' := 9) dX8_init_8 rfl), rn_0, gV_s, ↓pI_c, ↓pII_c, ↓pL_c, ↓pLL_c, ↓pR_c, ↓pRI_c, ↓pRII_c, ↓pRIL_c, ↓pRR_c, ↓pV_c, ↓pVV_c, ↓gI_c, ↓gL_c, ↓gR_c, f2_0, f2_1, nk_n, nk_i, nk_r, ↓reduceIte, r32, r64, Nat.reduceAdd, Nat.reduceSub, Nat.reduceEqDiff, Nat.reduceLT, Nat.reduceLeDiff, Nat.reduceBEq, Int.reduceAdd, Int.reduceSub, Int.reduceMul, Int.reduceNeg, Int.reduceToNat, Int.reduceLE, Int.reduceLT, Int.reduceEq, Int.reduceNatCast', Int.reduceNatCast, Int.natCast_zero, Int.toNat_natCast, Int.toNat_zero, Int.toNat_one, List.length_cons, List.length_nil, true_and, and_true, and_self, true_or, or_true, false_or, or_false, Bool.not_true, Bool.not_false, Nat.lt_add_one, Nat.zero_lt_succ, N0, swL_n, swL_c, List.toList_toArray, false_implies, true_implies, implies_true, forall_const, not_false_eq_true, not_true_eq_false, and_false, false_and]
  simp only [hK9]
  clear hK9 K9v
  refine J_callId GM_fa (on_Shelf d hW) dX8_init_9 k_8_9 (by omega) (Nat.le_of_ble_eq_true rfl) ⟨by omega, by omega⟩ rfl (by simp) rfl ?_ ?_ ?_
  · exact (inW_of (by simp [refs] <;> omega) (by simp [refs] <;> omega))
  · first | decide | (show _ ≤ 1000000; omega)
  have hW := W0.rg (c := 1) (n' := 70) (f := M0) hW (by omega) rg_shelf
  generalize hR1 : rng 1 70 R0 Rf = R1 at hW ⊢
  generalize hM1 : rng 1 70 M0 M = M1 at hW ⊢
  refine J_rnG GM_fa (by omega) (by omega) (by omega) 3 _ _ _ _ (fun K9v hK9 => ?_)
  simp (maxSteps := 4000000) only [↓(X_putR (pc' := 15) fl_8_10 dX8_init_12 rfl), kd_0, ↓(gV_c r0_0_0), kd_1, ↓(X_aload_n (k := 0) (pc' := 16) dX8_init_15 rfl rfl), ↓gR_0, ↓(X_iconst (pc' := 17) dX8_init_16 rfl), rn_0, gV_s, ↓pI_c, ↓pII_c, ↓pL_c, ↓pLL_c, ↓pR_c, ↓pRI_c, ↓pRII_c, ↓pRIL_c, ↓pRR_c, ↓pV_c, ↓pVV_c, ↓gI_c, ↓gL_c, ↓gR_c, f2_0, f2_1, nk_n, nk_i, nk_r, ↓reduceIte, r32, r64, Nat.reduceAdd, Nat.reduceSub, Nat.reduceEqDiff, Nat.reduceLT, Nat.reduceLeDiff, Nat.reduceBEq, Int.reduceAdd, Int.reduceSub, Int.reduceMul, Int.reduceNeg, Int.reduceToNat, Int.reduceLE, Int.reduceLT, Int.reduceEq, Int.reduceNatCast', Int.reduceNatCast, Int.natCast_zero, Int.toNat_natCast, Int.toNat_zero, Int.toNat_one, List.length_cons, List.length_nil, true_and, and_true, and_self, true_or, or_true, false_or, or_false, Bool.not_true, Bool.not_false, Nat.lt_add_one, Nat.zero_lt_succ, N0, swL_n, swL_c, List.toList_toArray, false_implies, true_implies, implies_true, forall_const, not_false_eq_true, not_true_eq_false, and_false, false_and, kd_0]
  simp only [hK9]
  clear hK9 K9v
  refine J_newI (N := 4) GM_fa dX8_init_17 (by decide +kernel) (by decide +kernel) (by decide) ?_ ?_ ?_ ?_ ?_
  · repeat (first | exact hW | with_reducible refine W0.up ?_ (by omega) | with_reducible refine W0.ur ?_ (by omega) (by omega) | with_reducible refine W0.mn ?_ (by omega) | with_reducible refine W0.new ?_)
  · omega
  · exact (inW_of (by simp [refs] <;> omega) (by simp [refs] <;> omega))
  · exact ⟨by omega, by omega⟩
  refine J_rnG GM_fa (by omega) (by omega) (by omega) 2 _ _ _ _ (fun K9v hK9 => ?_)
  simp (maxSteps := 4000000) only [↓(X_putR (pc' := 22) fl_8_16 dX8_init_19 rfl), kd_0, ↓(gV_c r0_0_1), kd_70, ln_70, ↓(X_aload_n (k := 0) (pc' := 23) dX8_init_22 rfl rfl), ↓gR_0, rn_0, gV_s, ↓pI_c, ↓pII_c, ↓pL_c, ↓pLL_c, ↓pR_c, ↓pRI_c, ↓pRII_c, ↓pRIL_c, ↓pRR_c, ↓pV_c, ↓pVV_c, ↓gI_c, ↓gL_c, ↓gR_c, f2_0, f2_1, nk_n, nk_i, nk_r, ↓reduceIte, r32, r64, Nat.reduceAdd, Nat.reduceSub, Nat.reduceEqDiff, Nat.reduceLT, Nat.reduceLeDiff, Nat.reduceBEq, Int.reduceAdd, Int.reduceSub, Int.reduceMul, Int.reduceNeg, Int.reduceToNat, Int.reduceLE, Int.reduceLT, Int.reduceEq, Int.reduceNatCast', Int.reduceNatCast, Int.natCast_zero, Int.toNat_natCast, Int.toNat_zero, Int.toNat_one, List.length_cons, List.length_nil, true_and, and_true, and_self, true_or, or_true, false_or, or_false, Bool.not_true, Bool.not_false, Nat.lt_add_one, Nat.zero_lt_succ, N0, swL_n, swL_c, List.toList_toArray, false_implies, true_implies, implies_true, forall_const, not_false_eq_true, not_true_eq_false, and_false, false_and, kd_0]
  simp only [hK9]
  clear hK9 K9v
  generalize hR2 : upR (upR R1 0 0 _) 0 1 _ = R2
  have hWb : W0 71 R2 M1 := by
    subst hR2
    repeat (first | exact hW | with_reducible refine W0.up ?_ (by omega) | with_reducible refine W0.ur ?_ (by omega) (by omega) | with_reducible refine W0.mn ?_ (by omega) | with_reducible refine W0.new ?_)
  have hW := hWb
  refine J_newc (w := 1) GM_fa dX8_init_23 nk_8_20 (by decide +kernel) rfl ?_ ?_ ?_ ?_ ?_
  · repeat (first | exact hW | with_reducible refine W0.up ?_ (by omega) | with_reducible refine W0.ur ?_ (by omega) (by omega) | with_reducible refine W0.mn ?_ (by omega) | with_reducible refine W0.new ?_)
  · omega
  · exact (inW_of (by simp [refs] <;> omega) (by simp [refs] <;> omega))
  · exact ⟨by omega, by omega⟩
  refine J_rnG GM_fa (by omega) (by omega) (by omega) 1 _ _ _ _ (fun K9v hK9 => ?_)
  simp (maxSteps := 4000000) only [↓(X_dup (pc' := 27) dX8_init_26 rfl), rn_0, gV_s, ↓pI_c, ↓pII_c, ↓pL_c, ↓pLL_c, ↓pR_c, ↓pRI_c, ↓pRII_c, ↓pRIL_c, ↓pRR_c, ↓pV_c, ↓pVV_c, ↓gI_c, ↓gL_c, ↓gR_c, f2_0, f2_1, nk_n, nk_i, nk_r, ↓reduceIte, r32, r64, Nat.reduceAdd, Nat.reduceSub, Nat.reduceEqDiff, Nat.reduceLT, Nat.reduceLeDiff, Nat.reduceBEq, Int.reduceAdd, Int.reduceSub, Int.reduceMul, Int.reduceNeg, Int.reduceToNat, Int.reduceLE, Int.reduceLT, Int.reduceEq, Int.reduceNatCast', Int.reduceNatCast, Int.natCast_zero, Int.toNat_natCast, Int.toNat_zero, Int.toNat_one, List.length_cons, List.length_nil, true_and, and_true, and_self, true_or, or_true, false_or, or_false, Bool.not_true, Bool.not_false, Nat.lt_add_one, Nat.zero_lt_succ, N0, swL_n, swL_c, List.toList_toArray, false_implies, true_implies, implies_true, forall_const, not_false_eq_true, not_true_eq_false, and_false, false_and]
  simp only [hK9]
  clear hK9 K9v
  refine J_callId GM_fa (on_Ink (d + 2) 71 (by decide) kd_71 hWb) dX8_init_27 k_8_22 (by omega) (Nat.le_of_ble_eq_true rfl) ⟨by omega, by omega⟩ rfl (by simp) rfl ?_ ?_ ?_
  · exact (inW_of (by simp [refs] <;> omega) (by simp [refs] <;> omega))
  · first | decide | (show _ ≤ 1000000; omega)
  have hW : W0 73 (rng 71 73 R0 R2) M1 := by
    have := W0.rg (c := 71) (n' := 73) (f := M1) hWb (by omega) (rg_ink (by decide) kd_71)
    rwa [rng_same] at this
  refine J_rnG GM_fa (by omega) (by omega) (by omega) 3 _ _ _ _ (fun K9v hK9 => ?_)
  simp (maxSteps := 4000000) only [↓(X_putR (pc' := 33) fl_8_23 dX8_init_30 rfl), kd_0, ↓(gV_c r0_0_2), kd_71, ↓(X_aload_n (k := 0) (pc' := 34) dX8_init_33 rfl rfl), ↓gR_0, ↓(X_bipush (pc' := 36) dX8_init_34 rfl), rn_0, gV_s, ↓pI_c, ↓pII_c, ↓pL_c, ↓pLL_c, ↓pR_c, ↓pRI_c, ↓pRII_c, ↓pRIL_c, ↓pRR_c, ↓pV_c, ↓pVV_c, ↓gI_c, ↓gL_c, ↓gR_c, f2_0, f2_1, nk_n, nk_i, nk_r, ↓reduceIte, r32, r64, Nat.reduceAdd, Nat.reduceSub, Nat.reduceEqDiff, Nat.reduceLT, Nat.reduceLeDiff, Nat.reduceBEq, Int.reduceAdd, Int.reduceSub, Int.reduceMul, Int.reduceNeg, Int.reduceToNat, Int.reduceLE, Int.reduceLT, Int.reduceEq, Int.reduceNatCast', Int.reduceNatCast, Int.natCast_zero, Int.toNat_natCast, Int.toNat_zero, Int.toNat_one, List.length_cons, List.length_nil, true_and, and_true, and_self, true_or, or_true, false_or, or_false, Bool.not_true, Bool.not_false, Nat.lt_add_one, Nat.zero_lt_succ, N0, swL_n, swL_c, List.toList_toArray, false_implies, true_implies, implies_true, forall_const, not_false_eq_true, not_true_eq_false, and_false, false_and, kd_0]
  simp only [hK9]
  clear hK9 K9v
  refine J_newQ (N := 16) (kk := 13) GM_fa dX8_init_36 qk_8_27 (by decide +kernel) (by decide +kernel) (by decide) ?_ ?_ ?_ ?_ ?_
  · repeat (first | exact hW | with_reducible refine W0.up ?_ (by omega) | with_reducible refine W0.ur ?_ (by omega) (by omega) | with_reducible refine W0.mn ?_ (by omega) | with_reducible refine W0.new ?_)
  · omega
  · exact (inW_of (by simp [refs] <;> omega) (by simp [refs] <;> omega))
  · exact ⟨by omega, by omega⟩
  refine J_rnG GM_fa (by omega) (by omega) (by omega) 2 _ _ _ _ (fun K9v hK9 => ?_)
  simp (maxSteps := 4000000) only [↓(X_putR (pc' := 42) fl_8_29 dX8_init_39 rfl), kd_0, ↓(gV_c r0_0_3), kd_73, ln_73, ↓(X_aload_n (k := 0) (pc' := 43) dX8_init_42 rfl rfl), ↓gR_0, rn_0, gV_s, ↓pI_c, ↓pII_c, ↓pL_c, ↓pLL_c, ↓pR_c, ↓pRI_c, ↓pRII_c, ↓pRIL_c, ↓pRR_c, ↓pV_c, ↓pVV_c, ↓gI_c, ↓gL_c, ↓gR_c, f2_0, f2_1, nk_n, nk_i, nk_r, ↓reduceIte, r32, r64, Nat.reduceAdd, Nat.reduceSub, Nat.reduceEqDiff, Nat.reduceLT, Nat.reduceLeDiff, Nat.reduceBEq, Int.reduceAdd, Int.reduceSub, Int.reduceMul, Int.reduceNeg, Int.reduceToNat, Int.reduceLE, Int.reduceLT, Int.reduceEq, Int.reduceNatCast', Int.reduceNatCast, Int.natCast_zero, Int.toNat_natCast, Int.toNat_zero, Int.toNat_one, List.length_cons, List.length_nil, true_and, and_true, and_self, true_or, or_true, false_or, or_false, Bool.not_true, Bool.not_false, Nat.lt_add_one, Nat.zero_lt_succ, N0, swL_n, swL_c, List.toList_toArray, false_implies, true_implies, implies_true, forall_const, not_false_eq_true, not_true_eq_false, and_false, false_and, kd_0]
  simp only [hK9]
  clear hK9 K9v
  generalize hR3 : upR (upR (rng 71 73 R0 R2) 0 2 _) 0 3 _ = R3
  have hWb : W0 74 R3 M1 := by
    subst hR3
    repeat (first | exact hW | with_reducible refine W0.up ?_ (by omega) | with_reducible refine W0.ur ?_ (by omega) (by omega) | with_reducible refine W0.mn ?_ (by omega) | with_reducible refine W0.new ?_)
  have hW := hWb
  refine J_newc (w := 3) GM_fa dX8_init_43 nk_8_33 (by decide +kernel) rfl ?_ ?_ ?_ ?_ ?_
  · repeat (first | exact hW | with_reducible refine W0.up ?_ (by omega) | with_reducible refine W0.ur ?_ (by omega) (by omega) | with_reducible refine W0.mn ?_ (by omega) | with_reducible refine W0.new ?_)
  · omega
  · exact (inW_of (by simp [refs] <;> omega) (by simp [refs] <;> omega))
  · exact ⟨by omega, by omega⟩
  refine J_rnG GM_fa (by omega) (by omega) (by omega) 1 _ _ _ _ (fun K9v hK9 => ?_)
  simp (maxSteps := 4000000) only [↓(X_dup (pc' := 47) dX8_init_46 rfl), rn_0, gV_s, ↓pI_c, ↓pII_c, ↓pL_c, ↓pLL_c, ↓pR_c, ↓pRI_c, ↓pRII_c, ↓pRIL_c, ↓pRR_c, ↓pV_c, ↓pVV_c, ↓gI_c, ↓gL_c, ↓gR_c, f2_0, f2_1, nk_n, nk_i, nk_r, ↓reduceIte, r32, r64, Nat.reduceAdd, Nat.reduceSub, Nat.reduceEqDiff, Nat.reduceLT, Nat.reduceLeDiff, Nat.reduceBEq, Int.reduceAdd, Int.reduceSub, Int.reduceMul, Int.reduceNeg, Int.reduceToNat, Int.reduceLE, Int.reduceLT, Int.reduceEq, Int.reduceNatCast', Int.reduceNatCast, Int.natCast_zero, Int.toNat_natCast, Int.toNat_zero, Int.toNat_one, List.length_cons, List.length_nil, true_and, and_true, and_self, true_or, or_true, false_or, or_false, Bool.not_true, Bool.not_false, Nat.lt_add_one, Nat.zero_lt_succ, N0, swL_n, swL_c, List.toList_toArray, false_implies, true_implies, implies_true, forall_const, not_false_eq_true, not_true_eq_false, and_false, false_and]
  simp only [hK9]
  clear hK9 K9v
  refine J_callId GM_fa (on_Press (d + 2) hWb) dX8_init_47 k_8_35 (by omega) (Nat.le_of_ble_eq_true rfl) ⟨by omega, by omega⟩ rfl (by simp) rfl ?_ ?_ ?_
  · exact (inW_of (by simp [refs] <;> omega) (by simp [refs] <;> omega))
  · first | decide | (show _ ≤ 1000000; omega)
  have hW : W0 76 (rng 74 76 R0 R3) (up2 M1 74 1 1) := by
    have := W0.rg (c := 74) (n' := 76) (f := M1) hWb (by omega) rg_press
    rw [rng_same] at this
    exact W0.up this (by omega)
  generalize hM2 : up2 M1 74 1 1 = M2 at hW ⊢
  refine J_rnG GM_fa (by omega) (by omega) (by omega) 2 _ _ _ _ (fun K9v hK9 => ?_)
  simp (maxSteps := 4000000) only [↓(X_putR (pc' := 53) fl_8_36 dX8_init_50 rfl), kd_0, ↓(gV_c r0_0_4), kd_74, ↓(X_aload_n (k := 0) (pc' := 54) dX8_init_53 rfl rfl), ↓gR_0, rn_0, gV_s, ↓pI_c, ↓pII_c, ↓pL_c, ↓pLL_c, ↓pR_c, ↓pRI_c, ↓pRII_c, ↓pRIL_c, ↓pRR_c, ↓pV_c, ↓pVV_c, ↓gI_c, ↓gL_c, ↓gR_c, f2_0, f2_1, nk_n, nk_i, nk_r, ↓reduceIte, r32, r64, Nat.reduceAdd, Nat.reduceSub, Nat.reduceEqDiff, Nat.reduceLT, Nat.reduceLeDiff, Nat.reduceBEq, Int.reduceAdd, Int.reduceSub, Int.reduceMul, Int.reduceNeg, Int.reduceToNat, Int.reduceLE, Int.reduceLT, Int.reduceEq, Int.reduceNatCast', Int.reduceNatCast, Int.natCast_zero, Int.toNat_natCast, Int.toNat_zero, Int.toNat_one, List.length_cons, List.length_nil, true_and, and_true, and_self, true_or, or_true, false_or, or_false, Bool.not_true, Bool.not_false, Nat.lt_add_one, Nat.zero_lt_succ, N0, swL_n, swL_c, List.toList_toArray, false_implies, true_implies, implies_true, forall_const, not_false_eq_true, not_true_eq_false, and_false, false_and, kd_0]
  simp only [hK9]
  clear hK9 K9v
  generalize hR4 : upR (rng 74 76 R0 R3) 0 4 _ = R4
  have hWb : W0 76 R4 M2 := by
    subst hR4
    repeat (first | exact hW | with_reducible refine W0.up ?_ (by omega) | with_reducible refine W0.ur ?_ (by omega) (by omega) | with_reducible refine W0.mn ?_ (by omega) | with_reducible refine W0.new ?_)
  have hW := hWb
  refine J_newc (w := 2) GM_fa dX8_init_54 nk_8_40 (by decide +kernel) rfl ?_ ?_ ?_ ?_ ?_
  · repeat (first | exact hW | with_reducible refine W0.up ?_ (by omega) | with_reducible refine W0.ur ?_ (by omega) (by omega) | with_reducible refine W0.mn ?_ (by omega) | with_reducible refine W0.new ?_)
  · omega
  · exact (inW_of (by simp [refs] <;> omega) (by simp [refs] <;> omega))
  · exact ⟨by omega, by omega⟩
  refine J_rnG GM_fa (by omega) (by omega) (by omega) 1 _ _ _ _ (fun K9v hK9 => ?_)
  simp (maxSteps := 4000000) only [↓(X_dup (pc' := 58) dX8_init_57 rfl), rn_0, gV_s, ↓pI_c, ↓pII_c, ↓pL_c, ↓pLL_c, ↓pR_c, ↓pRI_c, ↓pRII_c, ↓pRIL_c, ↓pRR_c, ↓pV_c, ↓pVV_c, ↓gI_c, ↓gL_c, ↓gR_c, f2_0, f2_1, nk_n, nk_i, nk_r, ↓reduceIte, r32, r64, Nat.reduceAdd, Nat.reduceSub, Nat.reduceEqDiff, Nat.reduceLT, Nat.reduceLeDiff, Nat.reduceBEq, Int.reduceAdd, Int.reduceSub, Int.reduceMul, Int.reduceNeg, Int.reduceToNat, Int.reduceLE, Int.reduceLT, Int.reduceEq, Int.reduceNatCast', Int.reduceNatCast, Int.natCast_zero, Int.toNat_natCast, Int.toNat_zero, Int.toNat_one, List.length_cons, List.length_nil, true_and, and_true, and_self, true_or, or_true, false_or, or_false, Bool.not_true, Bool.not_false, Nat.lt_add_one, Nat.zero_lt_succ, N0, swL_n, swL_c, List.toList_toArray, false_implies, true_implies, implies_true, forall_const, not_false_eq_true, not_true_eq_false, and_false, false_and]
  simp only [hK9]
  clear hK9 K9v
  refine J_callId GM_fa (on_Ladle (d + 2) 76 (Or.inl rfl) hWb) dX8_init_58 k_8_42 (by omega) (Nat.le_of_ble_eq_true rfl) ⟨by omega, by omega⟩ rfl (by simp) rfl ?_ ?_ ?_
  · exact (inW_of (by simp [refs] <;> omega) (by simp [refs] <;> omega))
  · first | decide | (show _ ≤ 1000000; omega)
  have hW : W0 79 (rng 76 79 R0 R4) M2 := by
    have := W0.rg (c := 76) (n' := 79) (f := M2) hWb (by omega) (rg_lad (Or.inl rfl))
    rwa [rng_same] at this
  refine J_rnG GM_fa (by omega) (by omega) (by omega) 2 _ _ _ _ (fun K9v hK9 => ?_)
  simp (maxSteps := 4000000) only [↓(X_putR (pc' := 64) fl_8_43 dX8_init_61 rfl), kd_0, ↓(gV_c r0_0_5), kd_76, ↓(X_aload_n (k := 0) (pc' := 65) dX8_init_64 rfl rfl), ↓gR_0, rn_0, gV_s, ↓pI_c, ↓pII_c, ↓pL_c, ↓pLL_c, ↓pR_c, ↓pRI_c, ↓pRII_c, ↓pRIL_c, ↓pRR_c, ↓pV_c, ↓pVV_c, ↓gI_c, ↓gL_c, ↓gR_c, f2_0, f2_1, nk_n, nk_i, nk_r, ↓reduceIte, r32, r64, Nat.reduceAdd, Nat.reduceSub, Nat.reduceEqDiff, Nat.reduceLT, Nat.reduceLeDiff, Nat.reduceBEq, Int.reduceAdd, Int.reduceSub, Int.reduceMul, Int.reduceNeg, Int.reduceToNat, Int.reduceLE, Int.reduceLT, Int.reduceEq, Int.reduceNatCast', Int.reduceNatCast, Int.natCast_zero, Int.toNat_natCast, Int.toNat_zero, Int.toNat_one, List.length_cons, List.length_nil, true_and, and_true, and_self, true_or, or_true, false_or, or_false, Bool.not_true, Bool.not_false, Nat.lt_add_one, Nat.zero_lt_succ, N0, swL_n, swL_c, List.toList_toArray, false_implies, true_implies, implies_true, forall_const, not_false_eq_true, not_true_eq_false, and_false, false_and, kd_0]
  simp only [hK9]
  clear hK9 K9v
  generalize hR5 : upR (rng 76 79 R0 R4) 0 5 _ = R5
  have hWb : W0 79 R5 M2 := by
    subst hR5
    repeat (first | exact hW | with_reducible refine W0.up ?_ (by omega) | with_reducible refine W0.ur ?_ (by omega) (by omega) | with_reducible refine W0.mn ?_ (by omega) | with_reducible refine W0.new ?_)
  have hW := hWb
  refine J_newc (w := 8) GM_fa dX8_init_65 nk_8_47 (by decide +kernel) rfl ?_ ?_ ?_ ?_ ?_
  · repeat (first | exact hW | with_reducible refine W0.up ?_ (by omega) | with_reducible refine W0.ur ?_ (by omega) (by omega) | with_reducible refine W0.mn ?_ (by omega) | with_reducible refine W0.new ?_)
  · omega
  · exact (inW_of (by simp [refs] <;> omega) (by simp [refs] <;> omega))
  · exact ⟨by omega, by omega⟩
  refine J_rnG GM_fa (by omega) (by omega) (by omega) 1 _ _ _ _ (fun K9v hK9 => ?_)
  simp (maxSteps := 4000000) only [↓(X_dup (pc' := 69) dX8_init_68 rfl), rn_0, gV_s, ↓pI_c, ↓pII_c, ↓pL_c, ↓pLL_c, ↓pR_c, ↓pRI_c, ↓pRII_c, ↓pRIL_c, ↓pRR_c, ↓pV_c, ↓pVV_c, ↓gI_c, ↓gL_c, ↓gR_c, f2_0, f2_1, nk_n, nk_i, nk_r, ↓reduceIte, r32, r64, Nat.reduceAdd, Nat.reduceSub, Nat.reduceEqDiff, Nat.reduceLT, Nat.reduceLeDiff, Nat.reduceBEq, Int.reduceAdd, Int.reduceSub, Int.reduceMul, Int.reduceNeg, Int.reduceToNat, Int.reduceLE, Int.reduceLT, Int.reduceEq, Int.reduceNatCast', Int.reduceNatCast, Int.natCast_zero, Int.toNat_natCast, Int.toNat_zero, Int.toNat_one, List.length_cons, List.length_nil, true_and, and_true, and_self, true_or, or_true, false_or, or_false, Bool.not_true, Bool.not_false, Nat.lt_add_one, Nat.zero_lt_succ, N0, swL_n, swL_c, List.toList_toArray, false_implies, true_implies, implies_true, forall_const, not_false_eq_true, not_true_eq_false, and_false, false_and]
  simp only [hK9]
  clear hK9 K9v
  refine J_callId GM_fa (on_Search d hWb) dX8_init_69 k_8_49 (by omega) (Nat.le_of_ble_eq_true rfl) ⟨by omega, by omega⟩ rfl (by simp) rfl ?_ ?_ ?_
  · exact (inW_of (by simp [refs] <;> omega) (by simp [refs] <;> omega))
  · first | decide | (show _ ≤ 1000000; omega)
  have hW : W0 89 (rng 79 89 R0 R5) M2 := by
    have := W0.rg (c := 79) (n' := 89) (f := M2) hWb (by omega) rg_search
    rwa [rng_same] at this
  refine J_rnG GM_fa (by omega) (by omega) (by omega) 2 _ _ _ _ (fun K9v hK9 => ?_)
  simp (maxSteps := 4000000) only [↓(X_putR (pc' := 75) fl_8_50 dX8_init_72 rfl), kd_0, ↓(gV_c r0_0_6), kd_79, ↓(X_aload_n (k := 0) (pc' := 76) dX8_init_75 rfl rfl), ↓gR_0, rn_0, gV_s, ↓pI_c, ↓pII_c, ↓pL_c, ↓pLL_c, ↓pR_c, ↓pRI_c, ↓pRII_c, ↓pRIL_c, ↓pRR_c, ↓pV_c, ↓pVV_c, ↓gI_c, ↓gL_c, ↓gR_c, f2_0, f2_1, nk_n, nk_i, nk_r, ↓reduceIte, r32, r64, Nat.reduceAdd, Nat.reduceSub, Nat.reduceEqDiff, Nat.reduceLT, Nat.reduceLeDiff, Nat.reduceBEq, Int.reduceAdd, Int.reduceSub, Int.reduceMul, Int.reduceNeg, Int.reduceToNat, Int.reduceLE, Int.reduceLT, Int.reduceEq, Int.reduceNatCast', Int.reduceNatCast, Int.natCast_zero, Int.toNat_natCast, Int.toNat_zero, Int.toNat_one, List.length_cons, List.length_nil, true_and, and_true, and_self, true_or, or_true, false_or, or_false, Bool.not_true, Bool.not_false, Nat.lt_add_one, Nat.zero_lt_succ, N0, swL_n, swL_c, List.toList_toArray, false_implies, true_implies, implies_true, forall_const, not_false_eq_true, not_true_eq_false, and_false, false_and, kd_0]
  simp only [hK9]
  clear hK9 K9v
  generalize hR6 : upR (rng 79 89 R0 R5) 0 6 _ = R6
  have hWb : W0 89 R6 M2 := by
    subst hR6
    repeat (first | exact hW | with_reducible refine W0.up ?_ (by omega) | with_reducible refine W0.ur ?_ (by omega) (by omega) | with_reducible refine W0.mn ?_ (by omega) | with_reducible refine W0.new ?_)
  have hW := hWb
  refine J_newc (w := 5) GM_fa dX8_init_76 nk_8_54 (by decide +kernel) rfl ?_ ?_ ?_ ?_ ?_
  · repeat (first | exact hW | with_reducible refine W0.up ?_ (by omega) | with_reducible refine W0.ur ?_ (by omega) (by omega) | with_reducible refine W0.mn ?_ (by omega) | with_reducible refine W0.new ?_)
  · omega
  · exact (inW_of (by simp [refs] <;> omega) (by simp [refs] <;> omega))
  · exact ⟨by omega, by omega⟩
  refine J_rnG GM_fa (by omega) (by omega) (by omega) 1 _ _ _ _ (fun K9v hK9 => ?_)
  simp (maxSteps := 4000000) only [↓(X_dup (pc' := 80) dX8_init_79 rfl), rn_0, gV_s, ↓pI_c, ↓pII_c, ↓pL_c, ↓pLL_c, ↓pR_c, ↓pRI_c, ↓pRII_c, ↓pRIL_c, ↓pRR_c, ↓pV_c, ↓pVV_c, ↓gI_c, ↓gL_c, ↓gR_c, f2_0, f2_1, nk_n, nk_i, nk_r, ↓reduceIte, r32, r64, Nat.reduceAdd, Nat.reduceSub, Nat.reduceEqDiff, Nat.reduceLT, Nat.reduceLeDiff, Nat.reduceBEq, Int.reduceAdd, Int.reduceSub, Int.reduceMul, Int.reduceNeg, Int.reduceToNat, Int.reduceLE, Int.reduceLT, Int.reduceEq, Int.reduceNatCast', Int.reduceNatCast, Int.natCast_zero, Int.toNat_natCast, Int.toNat_zero, Int.toNat_one, List.length_cons, List.length_nil, true_and, and_true, and_self, true_or, or_true, false_or, or_false, Bool.not_true, Bool.not_false, Nat.lt_add_one, Nat.zero_lt_succ, N0, swL_n, swL_c, List.toList_toArray, false_implies, true_implies, implies_true, forall_const, not_false_eq_true, not_true_eq_false, and_false, false_and]
  simp only [hK9]
  clear hK9 K9v
  refine J_callId GM_fa (on_Plan d hWb) dX8_init_80 k_8_56 (by omega) (Nat.le_of_ble_eq_true rfl) ⟨by omega, by omega⟩ rfl (by simp) rfl ?_ ?_ ?_
  · exact (inW_of (by simp [refs] <;> omega) (by simp [refs] <;> omega))
  · first | decide | (show _ ≤ 1000000; omega)
  refine J_rnG GM_fa (by omega) (by omega) (by omega) 3 _ _ _ _ (fun K9v hK9 => ?_)
  simp (maxSteps := 4000000) only [↓(X_putR (pc' := 86) fl_8_57 dX8_init_83 rfl), kd_0, ↓(gV_c r0_0_7), kd_89, ↓(X_iconst (pc' := 87) dX8_init_86 rfl), ↓(X_istore_n (k := 1) (pc' := 88) dX8_init_87 rfl rfl), ↓sto_1, rn_0, gV_s, ↓pI_c, ↓pII_c, ↓pL_c, ↓pLL_c, ↓pR_c, ↓pRI_c, ↓pRII_c, ↓pRIL_c, ↓pRR_c, ↓pV_c, ↓pVV_c, ↓gI_c, ↓gL_c, ↓gR_c, f2_0, f2_1, nk_n, nk_i, nk_r, ↓reduceIte, r32, r64, Nat.reduceAdd, Nat.reduceSub, Nat.reduceEqDiff, Nat.reduceLT, Nat.reduceLeDiff, Nat.reduceBEq, Int.reduceAdd, Int.reduceSub, Int.reduceMul, Int.reduceNeg, Int.reduceToNat, Int.reduceLE, Int.reduceLT, Int.reduceEq, Int.reduceNatCast', Int.reduceNatCast, Int.natCast_zero, Int.toNat_natCast, Int.toNat_zero, Int.toNat_one, List.length_cons, List.length_nil, true_and, and_true, and_self, true_or, or_true, false_or, or_false, Bool.not_true, Bool.not_false, Nat.lt_add_one, Nat.zero_lt_succ, N0, swL_n, swL_c, List.toList_toArray, false_implies, true_implies, implies_true, forall_const, not_false_eq_true, not_true_eq_false, and_false, false_and, kd_0]
  simp only [hK9]
  clear hK9 K9v
  have hRe : upR (rng 89 367 R0 R6) 0 7 (some 89) = RS8 Rf 0 := by
    subst hR6 hR5 hR4 hR3 hR2 hR1
    funext x k
    have hz := fun y => (hW9.1 y k (Nat.zero_le y)).1
    unfold RS8
    rcases (show x = 0 ∨ (1 ≤ x ∧ x < 70) ∨ x = 70 ∨ (71 ≤ x ∧ x < 73) ∨ x = 73 ∨ (74 ≤ x ∧ x < 76) ∨ (76 ≤ x ∧ x < 79) ∨ (79 ≤ x ∧ x < 89) ∨ (89 ≤ x ∧ x < 367) ∨ 367 ≤ x by omega) with q | q | q | q | q | q | q | q | q | q
    · subst q
      rw [if_neg (by omega), rng_in (by omega), R0_8 kd_0]
      rcases (show k = 0 ∨ k = 1 ∨ k = 2 ∨ k = 3 ∨ k = 4 ∨ k = 5 ∨ k = 6 ∨ k = 7 ∨ 7 < k by omega) with h | h | h | h | h | h | h | h | h
      · subst h; simp [upR, rng]
      · subst h; simp [upR, rng]
      · subst h; simp [upR, rng]
      · subst h; simp [upR, rng]
      · subst h; simp [upR, rng]
      · subst h; simp [upR, rng]
      · subst h; simp [upR, rng]
      · subst h; simp [upR, rng]
      · simp [upR, rng, hz 0, show k ≠ 0 by omega, show k ≠ 1 by omega, show k ≠ 2 by omega, show k ≠ 3 by omega, show k ≠ 4 by omega, show k ≠ 5 by omega, show k ≠ 6 by omega, show k ≠ 7 by omega]
    · rw [if_neg (by omega), rng_in (by omega)]
      simp [upR, rng, q.1, q.2, show x ≠ 0 by omega, show ¬ 89 ≤ x by omega, show ¬ 79 ≤ x by omega, show ¬ 76 ≤ x by omega, show ¬ 74 ≤ x by omega, show ¬ 71 ≤ x by omega]
    · subst q
      rw [if_neg (by omega), rng_in (by omega), R0_arr (by decide) (Or.inl kd_70)]
      simp [upR, rng, hz 70]
    · rw [if_neg (by omega), rng_in (by omega)]
      simp [upR, rng, q.1, q.2, show x ≠ 0 by omega, show ¬ 89 ≤ x by omega, show ¬ 79 ≤ x by omega, show ¬ 76 ≤ x by omega, show ¬ 74 ≤ x by omega]
    · subst q
      rw [if_pos rfl, if_neg (by omega)]
      simp [upR, rng, hz 73]
    · rw [if_neg (by omega), rng_in (by omega)]
      simp [upR, rng, q.1, q.2, show x ≠ 0 by omega, show ¬ 89 ≤ x by omega, show ¬ 79 ≤ x by omega, show ¬ 76 ≤ x by omega]
    · rw [if_neg (by omega), rng_in (by omega)]
      simp [upR, rng, q.1, q.2, show x ≠ 0 by omega, show ¬ 89 ≤ x by omega, show ¬ 79 ≤ x by omega]
    · rw [if_neg (by omega), rng_in (by omega)]
      simp [upR, rng, q.1, q.2, show x ≠ 0 by omega, show ¬ 89 ≤ x by omega]
    · rw [if_neg (by omega), rng_in (by omega)]
      simp [upR, rng, q.1, q.2, show x ≠ 0 by omega]
    · rw [if_neg (by omega), rng_out (by omega)]
      simp [upR, rng, show x ≠ 0 by omega, show ¬ x < 367 by omega, show ¬ x < 89 by omega, show ¬ x < 79 by omega, show ¬ x < 76 by omega, show ¬ x < 73 by omega, show ¬ x < 70 by omega]
  have hMe : M2 = rng 0 447 M0 M := by
    subst hM2 hM1
    funext x k
    have hz := fun y => (hW9.1 y k (Nat.zero_le y)).2
    rcases (show x = 74 ∨ (x < 70 ∧ 1 ≤ x) ∨ (x < 447 ∧ (x = 0 ∨ 70 ≤ x) ∧ x ≠ 74) ∨ 447 ≤ x by omega) with q | q | q | q
    · subst q
      rw [rng_in (by omega)]
      rcases (show k = 1 ∨ k ≠ 1 by omega) with h | h
      · subst h
        simp [up2, M0]
      · simp [up2, M0, rng, h, hz 74]
    · rw [up2_c (by omega), rng_in (by omega), rng_in (by omega)]
    · rw [up2_c (by omega), rng_out (by omega), rng_in (by omega), M0_z (by omega), hz x]
    · rw [up2_c (by omega), rng_out (by omega), rng_out (by omega)]
  have hM367 : ∀ x k, 367 ≤ x → M2 x k = 0 := by
    intro x k hx
    rw [hMe]
    rcases (show x < 447 ∨ 447 ≤ x by omega) with q | q
    · rw [rng_in (by omega), M0_z (by omega)]
    · rw [rng_out (by omega)]
      exact (hW9.1 x k (by omega)).2
  rw [hRe]
  exact jj_s8 d hW9 hM367 ⟨rfl, by rw [hMe]⟩ 16 0 (by omega)
end MK4
