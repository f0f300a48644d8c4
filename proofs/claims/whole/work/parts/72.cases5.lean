/-! THE LAW'S CASES: washes, setBase, tins, wear -/
section LB5
variable {l : Launch} {D : va_G} {cy : Nat → ClassId} {b L : Nat} {xs : Nat → Int32} {ca sl : Nat} {M : Nat → Nat → Int} {i n T : Nat} {w5 w6 : Option AV}
theorem Inv_wash {M3 M4 : Nat → Nat → Int} {c : Nat} (h : Inv M n T) (h3 : ∀ x, ¬ scrP x → x ≠ 467 → M3 x = M x) (hw : wOK M3) (hm : mO M3 M4 c) : Inv M4 n T := by
  obtain ⟨m1, m2, m3⟩ := hm
  refine Inv_congr h (fun x hx => ?_) (fun k k1 k2 => ?_) (wOK_congr hw (fun x _ _ => ?_))
  · unfold core at hx
    rw [m1 x (by omega) (by omega) (by omega), h3 x (by unfold scrP; omega) (by omega)]
  · rw [m2 k k2, h3 447 (by unfold scrP; omega) (by omega)]
  · rw [m1 x (by omega) (by omega) (by omega)]
theorem VM_m {M3 : Nat → Nat → Int} (h : Inv M n T) (h3 : ∀ x, ¬ scrP x → x ≠ 467 → M3 x = M x) : nMixm M3 n = nMix M n ∧ VM M3 (mixAtm M3 n) (2 ^ nMixm M3 n - 1) (bg M3) = TT (cMM M n) (2 ^ nMix M n - 1) 8 ∧ r32 (TT (cMM M n) (2 ^ nMix M n - 1) 8) ∧ firstV (CA M3 (mixAtm M3 n) (bg M3)) (nMixm M3 n) (fun k => (mixAtm M3 n k : Int)) = firstV (cMM M n) (nMix M n) (fun k => (mixAt M n k : Int)) := by
  have e454 := h3 454 (by unfold scrP; omega) (by omega)
  have e457 := h3 457 (by unfold scrP; omega) (by omega)
  have e447 := h3 447 (by unfold scrP; omega) (by omega)
  have h6 := h.2.2.2.2.2.1
  have n3 := h.1.1.2.2
  have eN := nMix_m h6 n n3
  have e2 : mixAtm M3 n = mixAtm M n := funext (fun k => mixAtm_congr e457 n k)
  have eb : bg M3 = bg M := by simp only [bg, e447]
  have eC := CA_congr e454
  have h8 := h.mix8
  have hp := pw2 h8
  rw [eN] at h8 hp
  rw [nMixm_congr e457, e2, eb, eN]
  have et : TT (cMM M n) (2 ^ nMixm M n - 1) 8 = TT (CA M (mixAtm M n) (bg M)) (2 ^ nMixm M n - 1) 8 := h.TTe hp.1 (Or.inl rfl)
  refine ⟨rfl, ?_, ?_, ?_⟩
  · simp only [VM, eC]
    exact et.symm
  · rw [et]
    have := TT_bd (C := CA M (mixAtm M n) (bg M)) CA_nn _ (2 ^ nMixm M n - 1) 8 rfl (by omega) (by omega)
    exact r32_of (by omega)
  · rw [eC]
    unfold firstV
    rw [et]
    obtain ⟨c1, c2⟩ := h.costs _ rfl
    rw [firstF_runs (runs' := fun k => (mixAt M n k : Int)) (nMixm M n) 0 (fun k _ hk => by rw [mixAt_m h6 n k n3])]
    refine firstF_congr _ 0 (fun k _ hk => ?_)
    rw [c1 k (by omega), h.TTe (Nat.lt_of_le_of_lt (Nat.sub_le _ _) hp.1) (Or.inr (by omega))]
theorem firstF_b {F runs : Nat → Int} {cost : Int} : ∀ (k j : Nat), (∀ q, j ≤ q → q < j + k → r32 (runs q)) → r32 (firstF F cost runs k j)
  | 0, _, _ => by simp [firstF, r32]
  | k + 1, j, h => by
    rw [firstF]
    split
    · exact h j (by omega) (by omega)
    · exact firstF_b k (j + 1) (fun q h1 h2 => h q (by omega) (by omega))
theorem first_b (h : Inv M n T) : r32 (firstV (cMM M n) (nMix M n) (fun k => (mixAt M n k : Int))) := by
  unfold firstV
  refine firstF_b _ 0 (fun q _ hq => ?_)
  have n3 := h.1.1.2.2
  rw [mixAt_m h.2.2.2.2.2.1 n q n3]
  have := mixAtm_lt (M := M) n q (by rw [← nMix_m h.2.2.2.2.2.1 n n3]; omega)
  exact r32_of (by omega)
theorem lc_washesByAll (hl9 : l.stackTraces = false) (h : Inv M n T) (hi : i + 5 < L) (hL : L ≤ 3072) (hc : ca + 3 ≤ 601024) (hs : sl + 18 ≤ 7293034) (K : NX l D cy b L xs i ca sl) : J l D cy (GL l D cy b L xs) 930 [some (.inr (.inr (some 1000000))), some (.inr (.inr (some 0))), some (.inr (.inr (some 447))), some (.inr (.inr (some 467))), some (.inl (i : Int)), w5, w6] [] (N0, R0, M) ca sl := by
  obtain ⟨⟨⟨n1, n2, n3⟩, -⟩, -⟩ := id h
  have hle : (if nMix M n ≤ 7 then 0 else 1) ≤ 1 := by split <;> omega
  obtain ⟨-, -, hr, -⟩ := VM_m (M3 := M) h (fun _ _ _ => rfl)
  refine hw_washesByAll (dW := 12) (dM := 5) (code := (if nMix M n ≤ 7 then 0 else 1)) hi hL hc hs (by decide) (by decide) (Nat.le_trans hle (by decide)) (ow_washesByAll 0 (val := TT (cMM M n) (2 ^ nMix M n - 1) 8) (P := fun M2 => (∀ x, ¬ scrP x → M2 x = M x) ∧ wOK M2) hle (fun _ => hr) (ok_washesByAll hl9 0 n n1 n3 h.hst h.mix8 h.jc h.pr h.2.2.2.2.2.2.2.2.2)) (fun M3 hQ => ?_) K
  obtain ⟨M2, ⟨hP1, hP2⟩, hM3⟩ := hQ
  have hE : ∀ x, x ≠ 467 → M3 x = M2 x := fun x hx => by
    by_cases q : (if nMix M n ≤ 7 then 0 else 1) = 0
    · rw [hM3, if_pos q]
      funext k
      exact up2_c hx
    · rw [hM3, if_neg q]
  have h3 : ∀ x, ¬ scrP x → x ≠ 467 → M3 x = M x := fun x h1 hx => by rw [hE x hx, hP1 x h1]
  have hw3 : wOK M3 := wOK_congr hP2 (fun x h1 h2 => hE x (by omega))
  have e457 := h3 457 (by unfold scrP; omega) (by omega)
  have e454 := h3 454 (by unfold scrP; omega) (by omega)
  have e447 := h3 447 (by unfold scrP; omega) (by omega)
  obtain ⟨v1, v2, -, -⟩ := VM_m h h3
  refine Ok.post (om_washesByAll 0 n (by rw [e447]; exact n2) n3 (h.mst e457) (by rw [v1]; exact h.mix8) (h.mJ e454) (by rw [e447]; exact h.lst)) (fun o ν ho => ?_)
  rw [v2, v1] at ho
  obtain ⟨rfl, M4, rfl, hm⟩ := ho
  refine ⟨_, M4, n, T, rfl, rfl, hm.2.2, fun q => ⟨?_, ?_⟩, Inv_wash h h3 hw3 hm⟩
  · have q7 : nMix M n ≤ 7 := by
      split at q
      · assumption
      · omega
    rw [hm.1 467 (by decide) (by decide) (by decide), hM3, if_pos q, if_pos q7, up2_s]
  · split
    · exact hr
    · exact r32_of (by omega)
set_option maxRecDepth 100000 in
set_option maxHeartbeats 4000000 in
theorem lc_washes (hl9 : l.stackTraces = false) (h : Inv M n T) (hi : i + 5 < L) (hL : L ≤ 3072) (hc : ca + 3 ≤ 601024) (hs : sl + 18 ≤ 7293034) (K : NX l D cy b L xs i ca sl) : J l D cy (GL l D cy b L xs) 917 [some (.inr (.inr (some 1000000))), some (.inr (.inr (some 0))), some (.inr (.inr (some 447))), some (.inr (.inr (some 467))), some (.inl (i : Int)), w5, w6] [] (N0, R0, M) ca sl := by
  obtain ⟨⟨⟨n1, n2, n3⟩, -⟩, -⟩ := id h
  refine J_rnG GL_fa (by omega) (by omega) (by omega) 1 _ _ _ _ (fun K9v hK9 => ?_)
  simp (maxSteps := 4000000) only [↓(X_aload_n (k := 1) (pc' := 918) dL_law_917 rfl rfl), ↓gR_1, rn_0, gV_s, ↓pI_c, ↓pII_c, ↓pL_c, ↓pLL_c, ↓pR_c, ↓pRI_c, ↓pRII_c, ↓pRIL_c, ↓pRR_c, ↓pV_c, ↓pVV_c, ↓gI_c, ↓gL_c, ↓gR_c, f2_0, f2_1, nk_n, nk_i, nk_r, ↓reduceIte, r32, r64, Nat.reduceAdd, Nat.reduceSub, Nat.reduceEqDiff, Nat.reduceLT, Nat.reduceLeDiff, Nat.reduceBEq, Int.reduceAdd, Int.reduceSub, Int.reduceMul, Int.reduceNeg, Int.reduceToNat, Int.reduceLE, Int.reduceLT, Int.reduceEq, Int.reduceNatCast', Int.reduceNatCast, Int.natCast_zero, Int.toNat_natCast, Int.toNat_zero, Int.toNat_one, List.length_cons, List.length_nil, true_and, and_true, and_self, true_or, or_true, false_or, or_false, Bool.not_true, Bool.not_false, Nat.lt_add_one, Nat.zero_lt_succ, N0, swL_n, swL_c, List.toList_toArray, false_implies, true_implies, implies_true, forall_const, not_false_eq_true, not_true_eq_false, and_false, false_and]
  simp only [hK9]
  clear hK9 K9v
  refine J_callV (ci := 8) GL_fa (ok_washes 0 n n1 n3 h.hst h.mix8 h.jc h.pr h.2.2.2.2.2.2.2.2.2) (by first | exact calm_det | assumption | (intro q9 ν9 h9; obtain ⟨h8, h6, M9, h7, -⟩ := h9; exact ⟨⟨_, h8⟩, by rw [h7]; rfl⟩) | (intro q9 ν9 h9; obtain ⟨h8, M9, h7, -⟩ := h9; first | exact ⟨⟨_, h8⟩, by rw [h7]; rfl⟩ | exact ⟨⟨_, h7⟩, by rw [h8]; rfl⟩ | exact ⟨⟨_, h7⟩, by rw [h8]⟩)) dL_law_918 k_10_111 (by omega) (Nat.le_of_ble_eq_true rfl) ⟨by omega, by omega⟩ rfl (by decide +kernel) rfl (by decide) (by simp only [N0]; omega) (by simp) rfl (fun v ν hv => ?_)
  obtain ⟨h1, M2, rfl, hP1, hP2⟩ := hv
  cases h1
  have h3 : ∀ x, ¬ scrP x → x ≠ 467 → M2 x = M x := fun x h1 hx => hP1 x h1
  have e457 := h3 457 (by unfold scrP; omega) (by omega)
  have e454 := h3 454 (by unfold scrP; omega) (by omega)
  have e447 := h3 447 (by unfold scrP; omega) (by omega)
  obtain ⟨v1, v2, v3, v4⟩ := VM_m h h3
  simp only [Option.toList, List.cons_append, List.nil_append]
  refine J_rnG GL_fa (by omega) (by omega) (by omega) 1 _ _ _ _ (fun K9v hK9 => ?_)
  simp (maxSteps := 4000000) only [↓(X_aload_n (k := 2) (pc' := 922) dL_law_921 rfl rfl), ↓gR_2, rn_0, gV_s, ↓pI_c, ↓pII_c, ↓pL_c, ↓pLL_c, ↓pR_c, ↓pRI_c, ↓pRII_c, ↓pRIL_c, ↓pRR_c, ↓pV_c, ↓pVV_c, ↓gI_c, ↓gL_c, ↓gR_c, f2_0, f2_1, nk_n, nk_i, nk_r, ↓reduceIte, r32, r64, Nat.reduceAdd, Nat.reduceSub, Nat.reduceEqDiff, Nat.reduceLT, Nat.reduceLeDiff, Nat.reduceBEq, Int.reduceAdd, Int.reduceSub, Int.reduceMul, Int.reduceNeg, Int.reduceToNat, Int.reduceLE, Int.reduceLT, Int.reduceEq, Int.reduceNatCast', Int.reduceNatCast, Int.natCast_zero, Int.toNat_natCast, Int.toNat_zero, Int.toNat_one, List.length_cons, List.length_nil, true_and, and_true, and_self, true_or, or_true, false_or, or_false, Bool.not_true, Bool.not_false, Nat.lt_add_one, Nat.zero_lt_succ, N0, swL_n, swL_c, List.toList_toArray, false_implies, true_implies, implies_true, forall_const, not_false_eq_true, not_true_eq_false, and_false, false_and]
  simp only [hK9]
  clear hK9 K9v
  refine J_callV (ci := 9) GL_fa (om_washes 0 n (by rw [e447]; exact n2) n3 (h.mst e457) (by rw [v1]; exact h.mix8) (h.mJ e454) (by rw [e447]; exact h.lst)) (by first | exact calm_det | assumption | (intro q9 ν9 h9; obtain ⟨h8, h6, M9, h7, -⟩ := h9; exact ⟨⟨_, h8⟩, by rw [h7]; rfl⟩) | (intro q9 ν9 h9; obtain ⟨h8, M9, h7, -⟩ := h9; first | exact ⟨⟨_, h8⟩, by rw [h7]; rfl⟩ | exact ⟨⟨_, h7⟩, by rw [h8]; rfl⟩ | exact ⟨⟨_, h7⟩, by rw [h8]⟩)) dL_law_922 k_10_114 (by omega) (Nat.le_of_ble_eq_true rfl) ⟨by omega, by omega⟩ rfl (by decide +kernel) rfl (by decide) (by simp only [N0]; omega) (by simp) rfl (fun v ν hv => ?_)
  obtain ⟨h1, M4, rfl, hm⟩ := hv
  cases h1
  rw [v2]
  have hr := v3
  simp only [r32] at hr
  simp only [Option.toList, List.cons_append, List.nil_append]
  generalize TT (cMM M n) (2 ^ nMix M n - 1) 8 = v9 at hr ⊢
  refine J_rnG GL_fa (by omega) (by omega) (by omega) 1 _ _ _ _ (fun K9v hK9 => ?_)
  simp (maxSteps := 4000000) only [↓(X_icmp_eq (tgt := 1068) (pc' := 928) dL_law_925 (by decide) rfl), rn_0, gV_s, ↓pI_c, ↓pII_c, ↓pL_c, ↓pLL_c, ↓pR_c, ↓pRI_c, ↓pRII_c, ↓pRIL_c, ↓pRR_c, ↓pV_c, ↓pVV_c, ↓gI_c, ↓gL_c, ↓gR_c, f2_0, f2_1, nk_n, nk_i, nk_r, ↓reduceIte, r32, r64, Nat.reduceAdd, Nat.reduceSub, Nat.reduceEqDiff, Nat.reduceLT, Nat.reduceLeDiff, Nat.reduceBEq, Int.reduceAdd, Int.reduceSub, Int.reduceMul, Int.reduceNeg, Int.reduceToNat, Int.reduceLE, Int.reduceLT, Int.reduceEq, Int.reduceNatCast', Int.reduceNatCast, Int.natCast_zero, Int.toNat_natCast, Int.toNat_zero, Int.toNat_one, List.length_cons, List.length_nil, true_and, and_true, and_self, true_or, or_true, false_or, or_false, Bool.not_true, Bool.not_false, Nat.lt_add_one, Nat.zero_lt_succ, N0, swL_n, swL_c, List.toList_toArray, false_implies, true_implies, implies_true, forall_const, not_false_eq_true, not_true_eq_false, and_false, false_and, hr.1, hr.2]
  simp only [hK9]
  clear hK9 K9v
  repeat (refine And.intro (by first | omega | assumption | (refine ⟨?_, ?_⟩ <;> omega)) ?_)
  exact J_wd (by omega) (by omega) (K M4 n T _ _ (Inv_wash h h3 hP2 hm))
set_option maxRecDepth 100000 in
set_option maxHeartbeats 4000000 in
theorem lc_firstRun (hl9 : l.stackTraces = false) (h : Inv M n T) (hi : i + 5 < L) (hL : L ≤ 3072) (hc : ca + 3 ≤ 601024) (hs : sl + 18 ≤ 7293034) (K : NX l D cy b L xs i ca sl) : J l D cy (GL l D cy b L xs) 974 [some (.inr (.inr (some 1000000))), some (.inr (.inr (some 0))), some (.inr (.inr (some 447))), some (.inr (.inr (some 467))), some (.inl (i : Int)), w5, w6] [] (N0, R0, M) ca sl := by
  obtain ⟨⟨⟨n1, n2, n3⟩, -⟩, -⟩ := id h
  refine J_rnG GL_fa (by omega) (by omega) (by omega) 1 _ _ _ _ (fun K9v hK9 => ?_)
  simp (maxSteps := 4000000) only [↓(X_aload_n (k := 1) (pc' := 975) dL_law_974 rfl rfl), ↓gR_1, rn_0, gV_s, ↓pI_c, ↓pII_c, ↓pL_c, ↓pLL_c, ↓pR_c, ↓pRI_c, ↓pRII_c, ↓pRIL_c, ↓pRR_c, ↓pV_c, ↓pVV_c, ↓gI_c, ↓gL_c, ↓gR_c, f2_0, f2_1, nk_n, nk_i, nk_r, ↓reduceIte, r32, r64, Nat.reduceAdd, Nat.reduceSub, Nat.reduceEqDiff, Nat.reduceLT, Nat.reduceLeDiff, Nat.reduceBEq, Int.reduceAdd, Int.reduceSub, Int.reduceMul, Int.reduceNeg, Int.reduceToNat, Int.reduceLE, Int.reduceLT, Int.reduceEq, Int.reduceNatCast', Int.reduceNatCast, Int.natCast_zero, Int.toNat_natCast, Int.toNat_zero, Int.toNat_one, List.length_cons, List.length_nil, true_and, and_true, and_self, true_or, or_true, false_or, or_false, Bool.not_true, Bool.not_false, Nat.lt_add_one, Nat.zero_lt_succ, N0, swL_n, swL_c, List.toList_toArray, false_implies, true_implies, implies_true, forall_const, not_false_eq_true, not_true_eq_false, and_false, false_and]
  simp only [hK9]
  clear hK9 K9v
  refine J_callV (ci := 8) GL_fa (ok_firstRun 0 n n1 n3 h.hst h.mix8 h.jc h.pr h.2.2.2.2.2.2.2.2.2) (by first | exact calm_det | assumption | (intro q9 ν9 h9; obtain ⟨h8, h6, M9, h7, -⟩ := h9; exact ⟨⟨_, h8⟩, by rw [h7]; rfl⟩) | (intro q9 ν9 h9; obtain ⟨h8, M9, h7, -⟩ := h9; first | exact ⟨⟨_, h8⟩, by rw [h7]; rfl⟩ | exact ⟨⟨_, h7⟩, by rw [h8]; rfl⟩ | exact ⟨⟨_, h7⟩, by rw [h8]⟩)) dL_law_975 k_10_119 (by omega) (Nat.le_of_ble_eq_true rfl) ⟨by omega, by omega⟩ rfl (by decide +kernel) rfl (by decide) (by simp only [N0]; omega) (by simp) rfl (fun v ν hv => ?_)
  obtain ⟨h1, M2, rfl, hP1, hP2⟩ := hv
  cases h1
  have h3 : ∀ x, ¬ scrP x → x ≠ 467 → M2 x = M x := fun x h1 hx => hP1 x h1
  have e457 := h3 457 (by unfold scrP; omega) (by omega)
  have e454 := h3 454 (by unfold scrP; omega) (by omega)
  have e447 := h3 447 (by unfold scrP; omega) (by omega)
  obtain ⟨v1, v2, v3, v4⟩ := VM_m h h3
  simp only [Option.toList, List.cons_append, List.nil_append]
  refine J_rnG GL_fa (by omega) (by omega) (by omega) 1 _ _ _ _ (fun K9v hK9 => ?_)
  simp (maxSteps := 4000000) only [↓(X_aload_n (k := 2) (pc' := 979) dL_law_978 rfl rfl), ↓gR_2, rn_0, gV_s, ↓pI_c, ↓pII_c, ↓pL_c, ↓pLL_c, ↓pR_c, ↓pRI_c, ↓pRII_c, ↓pRIL_c, ↓pRR_c, ↓pV_c, ↓pVV_c, ↓gI_c, ↓gL_c, ↓gR_c, f2_0, f2_1, nk_n, nk_i, nk_r, ↓reduceIte, r32, r64, Nat.reduceAdd, Nat.reduceSub, Nat.reduceEqDiff, Nat.reduceLT, Nat.reduceLeDiff, Nat.reduceBEq, Int.reduceAdd, Int.reduceSub, Int.reduceMul, Int.reduceNeg, Int.reduceToNat, Int.reduceLE, Int.reduceLT, Int.reduceEq, Int.reduceNatCast', Int.reduceNatCast, Int.natCast_zero, Int.toNat_natCast, Int.toNat_zero, Int.toNat_one, List.length_cons, List.length_nil, true_and, and_true, and_self, true_or, or_true, false_or, or_false, Bool.not_true, Bool.not_false, Nat.lt_add_one, Nat.zero_lt_succ, N0, swL_n, swL_c, List.toList_toArray, false_implies, true_implies, implies_true, forall_const, not_false_eq_true, not_true_eq_false, and_false, false_and]
  simp only [hK9]
  clear hK9 K9v
  refine J_callV (ci := 9) GL_fa (om_firstRun 0 n (by rw [e447]; exact n2) n3 (h.mst e457) (by rw [v1]; exact h.mix8) (h.mJ e454) (by rw [e447]; exact h.lst)) (by first | exact calm_det | assumption | (intro q9 ν9 h9; obtain ⟨h8, h6, M9, h7, -⟩ := h9; exact ⟨⟨_, h8⟩, by rw [h7]; rfl⟩) | (intro q9 ν9 h9; obtain ⟨h8, M9, h7, -⟩ := h9; first | exact ⟨⟨_, h8⟩, by rw [h7]; rfl⟩ | exact ⟨⟨_, h7⟩, by rw [h8]; rfl⟩ | exact ⟨⟨_, h7⟩, by rw [h8]⟩)) dL_law_979 k_10_122 (by omega) (Nat.le_of_ble_eq_true rfl) ⟨by omega, by omega⟩ rfl (by decide +kernel) rfl (by decide) (by simp only [N0]; omega) (by simp) rfl (fun v ν hv => ?_)
  obtain ⟨h1, M4, rfl, hm⟩ := hv
  cases h1
  rw [v4]
  have hr := first_b h
  simp only [r32] at hr
  simp only [Option.toList, List.cons_append, List.nil_append]
  generalize firstV (cMM M n) (nMix M n) (fun k => (mixAt M n k : Int)) = v9 at hr ⊢
  refine J_rnG GL_fa (by omega) (by omega) (by omega) 1 _ _ _ _ (fun K9v hK9 => ?_)
  simp (maxSteps := 4000000) only [↓(X_icmp_eq (tgt := 1068) (pc' := 985) dL_law_982 (by decide) rfl), rn_0, gV_s, ↓pI_c, ↓pII_c, ↓pL_c, ↓pLL_c, ↓pR_c, ↓pRI_c, ↓pRII_c, ↓pRIL_c, ↓pRR_c, ↓pV_c, ↓pVV_c, ↓gI_c, ↓gL_c, ↓gR_c, f2_0, f2_1, nk_n, nk_i, nk_r, ↓reduceIte, r32, r64, Nat.reduceAdd, Nat.reduceSub, Nat.reduceEqDiff, Nat.reduceLT, Nat.reduceLeDiff, Nat.reduceBEq, Int.reduceAdd, Int.reduceSub, Int.reduceMul, Int.reduceNeg, Int.reduceToNat, Int.reduceLE, Int.reduceLT, Int.reduceEq, Int.reduceNatCast', Int.reduceNatCast, Int.natCast_zero, Int.toNat_natCast, Int.toNat_zero, Int.toNat_one, List.length_cons, List.length_nil, true_and, and_true, and_self, true_or, or_true, false_or, or_false, Bool.not_true, Bool.not_false, Nat.lt_add_one, Nat.zero_lt_succ, N0, swL_n, swL_c, List.toList_toArray, false_implies, true_implies, implies_true, forall_const, not_false_eq_true, not_true_eq_false, and_false, false_and, hr.1, hr.2]
  simp only [hK9]
  clear hK9 K9v
  repeat (refine And.intro (by first | omega | assumption | (refine ⟨?_, ?_⟩ <;> omega)) ?_)
  exact J_wd (by omega) (by omega) (K M4 n T _ _ (Inv_wash h h3 hP2 hm))
set_option maxRecDepth 100000 in
set_option maxHeartbeats 4000000 in
theorem lc_tins (hl9 : l.stackTraces = false) (h : Inv M n T) (hi : i + 5 < L) (hL : L ≤ 3072) (hc : ca + 3 ≤ 601024) (hs : sl + 18 ≤ 7293034) (K : NX l D cy b L xs i ca sl) : J l D cy (GL l D cy b L xs) 700 [some (.inr (.inr (some 1000000))), some (.inr (.inr (some 0))), some (.inr (.inr (some 447))), some (.inr (.inr (some 467))), some (.inl (i : Int)), w5, w6] [] (N0, R0, M) ca sl := by
  obtain ⟨⟨-, ⟨f1, f2, t3⟩, -⟩, -⟩ := id h
  refine J_rnG GL_fa (by omega) (by omega) (by omega) 1 _ _ _ _ (fun K9v hK9 => ?_)
  simp (maxSteps := 4000000) only [↓(X_aload_n (k := 1) (pc' := 701) dL_law_700 rfl rfl), ↓gR_1, rn_0, gV_s, ↓pI_c, ↓pII_c, ↓pL_c, ↓pLL_c, ↓pR_c, ↓pRI_c, ↓pRII_c, ↓pRIL_c, ↓pRR_c, ↓pV_c, ↓pVV_c, ↓gI_c, ↓gL_c, ↓gR_c, f2_0, f2_1, nk_n, nk_i, nk_r, ↓reduceIte, r32, r64, Nat.reduceAdd, Nat.reduceSub, Nat.reduceEqDiff, Nat.reduceLT, Nat.reduceLeDiff, Nat.reduceBEq, Int.reduceAdd, Int.reduceSub, Int.reduceMul, Int.reduceNeg, Int.reduceToNat, Int.reduceLE, Int.reduceLT, Int.reduceEq, Int.reduceNatCast', Int.reduceNatCast, Int.natCast_zero, Int.toNat_natCast, Int.toNat_zero, Int.toNat_one, List.length_cons, List.length_nil, true_and, and_true, and_self, true_or, or_true, false_or, or_false, Bool.not_true, Bool.not_false, Nat.lt_add_one, Nat.zero_lt_succ, N0, swL_n, swL_c, List.toList_toArray, false_implies, true_implies, implies_true, forall_const, not_false_eq_true, not_true_eq_false, and_false, false_and]
  simp only [hK9]
  clear hK9 K9v
  refine J_callVd (ci := 8) GL_fa (ok_tins 0) dL_law_701 k_10_98 (by omega) (Nat.le_of_ble_eq_true rfl) ⟨by omega, by omega⟩ rfl (by decide +kernel) rfl (by decide) (by simp only [N0]; omega) (by simp) rfl rfl ?_
  simp only [Option.toList, List.cons_append, List.nil_append]
  refine J_rnG GL_fa (by omega) (by omega) (by omega) 1 _ _ _ _ (fun K9v hK9 => ?_)
  simp (maxSteps := 4000000) only [↓(X_aload_n (k := 2) (pc' := 705) dL_law_704 rfl rfl), ↓gR_2, rn_0, gV_s, ↓pI_c, ↓pII_c, ↓pL_c, ↓pLL_c, ↓pR_c, ↓pRI_c, ↓pRII_c, ↓pRIL_c, ↓pRR_c, ↓pV_c, ↓pVV_c, ↓gI_c, ↓gL_c, ↓gR_c, f2_0, f2_1, nk_n, nk_i, nk_r, ↓reduceIte, r32, r64, Nat.reduceAdd, Nat.reduceSub, Nat.reduceEqDiff, Nat.reduceLT, Nat.reduceLeDiff, Nat.reduceBEq, Int.reduceAdd, Int.reduceSub, Int.reduceMul, Int.reduceNeg, Int.reduceToNat, Int.reduceLE, Int.reduceLT, Int.reduceEq, Int.reduceNatCast', Int.reduceNatCast, Int.natCast_zero, Int.toNat_natCast, Int.toNat_zero, Int.toNat_one, List.length_cons, List.length_nil, true_and, and_true, and_self, true_or, or_true, false_or, or_false, Bool.not_true, Bool.not_false, Nat.lt_add_one, Nat.zero_lt_succ, N0, swL_n, swL_c, List.toList_toArray, false_implies, true_implies, implies_true, forall_const, not_false_eq_true, not_true_eq_false, and_false, false_and]
  simp only [hK9]
  clear hK9 K9v
  refine J_callVd (ci := 9) GL_fa (om_tins 0) dL_law_705 k_10_101 (by omega) (Nat.le_of_ble_eq_true rfl) ⟨by omega, by omega⟩ rfl (by decide +kernel) rfl (by decide) (by simp only [N0]; omega) (by simp) rfl rfl ?_
  simp only [Option.toList, List.cons_append, List.nil_append]
  rw [f1, f2]
  refine J_rnG GL_fa (by omega) (by omega) (by omega) 1 _ _ _ _ (fun K9v hK9 => ?_)
  simp (maxSteps := 4000000) only [↓(X_icmp_eq (tgt := 1068) (pc' := 711) dL_law_708 (by decide) rfl), rn_0, gV_s, ↓pI_c, ↓pII_c, ↓pL_c, ↓pLL_c, ↓pR_c, ↓pRI_c, ↓pRII_c, ↓pRIL_c, ↓pRR_c, ↓pV_c, ↓pVV_c, ↓gI_c, ↓gL_c, ↓gR_c, f2_0, f2_1, nk_n, nk_i, nk_r, ↓reduceIte, r32, r64, Nat.reduceAdd, Nat.reduceSub, Nat.reduceEqDiff, Nat.reduceLT, Nat.reduceLeDiff, Nat.reduceBEq, Int.reduceAdd, Int.reduceSub, Int.reduceMul, Int.reduceNeg, Int.reduceToNat, Int.reduceLE, Int.reduceLT, Int.reduceEq, Int.reduceNatCast', Int.reduceNatCast, Int.natCast_zero, Int.toNat_natCast, Int.toNat_zero, Int.toNat_one, List.length_cons, List.length_nil, true_and, and_true, and_self, true_or, or_true, false_or, or_false, Bool.not_true, Bool.not_false, Nat.lt_add_one, Nat.zero_lt_succ, N0, swL_n, swL_c, List.toList_toArray, false_implies, true_implies, implies_true, forall_const, not_false_eq_true, not_true_eq_false, and_false, false_and]
  simp only [hK9]
  clear hK9 K9v
  repeat (refine And.intro (by first | omega | assumption | (refine ⟨?_, ?_⟩ <;> omega)) ?_)
  exact J_wd (by omega) (by omega) (K _ n T _ _ (Inv_th h))
set_option maxRecDepth 100000 in
set_option maxHeartbeats 4000000 in
theorem lc_wear (hl9 : l.stackTraces = false) (h : Inv M n T) (hi : i + 5 < L) (hL : L ≤ 3072) (hc : ca + 3 ≤ 601024) (hs : sl + 18 ≤ 7293034) (K : NX l D cy b L xs i ca sl) : J l D cy (GL l D cy b L xs) 987 [some (.inr (.inr (some 1000000))), some (.inr (.inr (some 0))), some (.inr (.inr (some 447))), some (.inr (.inr (some 467))), some (.inl (i : Int)), w5, w6] [] (N0, R0, M) ca sl := by
  obtain ⟨⟨-, -, -, -, ⟨f1, w2, w3⟩⟩, -⟩ := id h
  have f2 : M 447 17 = M 447 17 := rfl
  refine J_rnG GL_fa (by omega) (by omega) (by omega) 1 _ _ _ _ (fun K9v hK9 => ?_)
  simp (maxSteps := 4000000) only [↓(X_aload_n (k := 1) (pc' := 988) dL_law_987 rfl rfl), ↓gR_1, rn_0, gV_s, ↓pI_c, ↓pII_c, ↓pL_c, ↓pLL_c, ↓pR_c, ↓pRI_c, ↓pRII_c, ↓pRIL_c, ↓pRR_c, ↓pV_c, ↓pVV_c, ↓gI_c, ↓gL_c, ↓gR_c, f2_0, f2_1, nk_n, nk_i, nk_r, ↓reduceIte, r32, r64, Nat.reduceAdd, Nat.reduceSub, Nat.reduceEqDiff, Nat.reduceLT, Nat.reduceLeDiff, Nat.reduceBEq, Int.reduceAdd, Int.reduceSub, Int.reduceMul, Int.reduceNeg, Int.reduceToNat, Int.reduceLE, Int.reduceLT, Int.reduceEq, Int.reduceNatCast', Int.reduceNatCast, Int.natCast_zero, Int.toNat_natCast, Int.toNat_zero, Int.toNat_one, List.length_cons, List.length_nil, true_and, and_true, and_self, true_or, or_true, false_or, or_false, Bool.not_true, Bool.not_false, Nat.lt_add_one, Nat.zero_lt_succ, N0, swL_n, swL_c, List.toList_toArray, false_implies, true_implies, implies_true, forall_const, not_false_eq_true, not_true_eq_false, and_false, false_and]
  simp only [hK9]
  clear hK9 K9v
  refine J_callVd (ci := 8) GL_fa (ok_wear 0) dL_law_988 k_10_123 (by omega) (Nat.le_of_ble_eq_true rfl) ⟨by omega, by omega⟩ rfl (by decide +kernel) rfl (by decide) (by simp only [N0]; omega) (by simp) rfl rfl ?_
  simp only [Option.toList, List.cons_append, List.nil_append]
  refine J_rnG GL_fa (by omega) (by omega) (by omega) 1 _ _ _ _ (fun K9v hK9 => ?_)
  simp (maxSteps := 4000000) only [↓(X_aload_n (k := 2) (pc' := 992) dL_law_991 rfl rfl), ↓gR_2, rn_0, gV_s, ↓pI_c, ↓pII_c, ↓pL_c, ↓pLL_c, ↓pR_c, ↓pRI_c, ↓pRII_c, ↓pRIL_c, ↓pRR_c, ↓pV_c, ↓pVV_c, ↓gI_c, ↓gL_c, ↓gR_c, f2_0, f2_1, nk_n, nk_i, nk_r, ↓reduceIte, r32, r64, Nat.reduceAdd, Nat.reduceSub, Nat.reduceEqDiff, Nat.reduceLT, Nat.reduceLeDiff, Nat.reduceBEq, Int.reduceAdd, Int.reduceSub, Int.reduceMul, Int.reduceNeg, Int.reduceToNat, Int.reduceLE, Int.reduceLT, Int.reduceEq, Int.reduceNatCast', Int.reduceNatCast, Int.natCast_zero, Int.toNat_natCast, Int.toNat_zero, Int.toNat_one, List.length_cons, List.length_nil, true_and, and_true, and_self, true_or, or_true, false_or, or_false, Bool.not_true, Bool.not_false, Nat.lt_add_one, Nat.zero_lt_succ, N0, swL_n, swL_c, List.toList_toArray, false_implies, true_implies, implies_true, forall_const, not_false_eq_true, not_true_eq_false, and_false, false_and]
  simp only [hK9]
  clear hK9 K9v
  refine J_callVd (ci := 9) GL_fa (om_wear 0) dL_law_992 k_10_126 (by omega) (Nat.le_of_ble_eq_true rfl) ⟨by omega, by omega⟩ rfl (by decide +kernel) rfl (by decide) (by simp only [N0]; omega) (by simp) rfl rfl ?_
  simp only [Option.toList, List.cons_append, List.nil_append]
  rw [f1, f2]
  refine J_rnG GL_fa (by omega) (by omega) (by omega) 1 _ _ _ _ (fun K9v hK9 => ?_)
  simp (maxSteps := 4000000) only [↓(X_icmp_eq (tgt := 1068) (pc' := 998) dL_law_995 (by decide) rfl), rn_0, gV_s, ↓pI_c, ↓pII_c, ↓pL_c, ↓pLL_c, ↓pR_c, ↓pRI_c, ↓pRII_c, ↓pRIL_c, ↓pRR_c, ↓pV_c, ↓pVV_c, ↓gI_c, ↓gL_c, ↓gR_c, f2_0, f2_1, nk_n, nk_i, nk_r, ↓reduceIte, r32, r64, Nat.reduceAdd, Nat.reduceSub, Nat.reduceEqDiff, Nat.reduceLT, Nat.reduceLeDiff, Nat.reduceBEq, Int.reduceAdd, Int.reduceSub, Int.reduceMul, Int.reduceNeg, Int.reduceToNat, Int.reduceLE, Int.reduceLT, Int.reduceEq, Int.reduceNatCast', Int.reduceNatCast, Int.natCast_zero, Int.toNat_natCast, Int.toNat_zero, Int.toNat_one, List.length_cons, List.length_nil, true_and, and_true, and_self, true_or, or_true, false_or, or_false, Bool.not_true, Bool.not_false, Nat.lt_add_one, Nat.zero_lt_succ, N0, swL_n, swL_c, List.toList_toArray, false_implies, true_implies, implies_true, forall_const, not_false_eq_true, not_true_eq_false, and_false, false_and]
  simp only [hK9]
  clear hK9 K9v
  repeat (refine And.intro (by first | omega | assumption | (refine ⟨?_, ?_⟩ <;> omega)) ?_)
  exact J_wd (by omega) (by omega) (K _ n T _ _ (Inv_th h))
set_option maxRecDepth 100000 in
set_option maxHeartbeats 4000000 in
theorem lc_setBase (hl9 : l.stackTraces = false) (h : Inv M n T) (hi : i + 5 < L) (hL : L ≤ 3072) (hc : ca + 3 ≤ 601024) (hs : sl + 18 ≤ 7293034) (K : NX l D cy b L xs i ca sl) : J l D cy (GL l D cy b L xs) 124 [some (.inr (.inr (some 1000000))), some (.inr (.inr (some 0))), some (.inr (.inr (some 447))), some (.inr (.inr (some 467))), some (.inl (i : Int)), w5, w6] [] (N0, R0, M) ca sl := by
  have hz1 := i32_r (xs (i + 1))
  have hz2 := i32_r (xs (i + 2))
  have hz3 := i32_r (xs (i + 3))
  have hz4 := i32_r (xs (i + 4))
  generalize e1 : (xs (i + 1)).toInt = z1 at hz1
  generalize e2 : (xs (i + 2)).toInt = z2 at hz2
  generalize e3 : (xs (i + 3)).toInt = z3 at hz3
  generalize e4 : (xs (i + 4)).toInt = z4 at hz4
  obtain ⟨⟨-, -, -, ⟨y1, y2⟩, -⟩, -⟩ := id h
  refine J_rnG GL_fa (by omega) (by omega) (by omega) 5 _ _ _ _ (fun K9v hK9 => ?_)
  simp (maxSteps := 4000000) only [↓(X_aload_n (k := 1) (pc' := 125) dL_law_124 rfl rfl), ↓gR_1, ↓(X_aload_n (k := 0) (pc' := 126) dL_law_125 rfl rfl), ↓gR_0, ↓(X_iload (pc' := 128) dL_law_126 rfl), ↓gI_4, ↓(X_iconst (pc' := 129) dL_law_128 rfl), ↓(X_iadd (pc' := 130) dL_law_129 rfl), rn_0, gV_s, ↓pI_c, ↓pII_c, ↓pL_c, ↓pLL_c, ↓pR_c, ↓pRI_c, ↓pRII_c, ↓pRIL_c, ↓pRR_c, ↓pV_c, ↓pVV_c, ↓gI_c, ↓gL_c, ↓gR_c, f2_0, f2_1, nk_n, nk_i, nk_r, ↓reduceIte, r32, r64, Nat.reduceAdd, Nat.reduceSub, Nat.reduceEqDiff, Nat.reduceLT, Nat.reduceLeDiff, Nat.reduceBEq, Int.reduceAdd, Int.reduceSub, Int.reduceMul, Int.reduceNeg, Int.reduceToNat, Int.reduceLE, Int.reduceLT, Int.reduceEq, Int.reduceNatCast', Int.reduceNatCast, Int.natCast_zero, Int.toNat_natCast, Int.toNat_zero, Int.toNat_one, List.length_cons, List.length_nil, true_and, and_true, and_self, true_or, or_true, false_or, or_false, Bool.not_true, Bool.not_false, Nat.lt_add_one, Nat.zero_lt_succ, N0, swL_n, swL_c, List.toList_toArray, false_implies, true_implies, implies_true, forall_const, not_false_eq_true, not_true_eq_false, and_false, false_and, hi]
  simp only [hK9]
  clear hK9 K9v
  refine J_sldE (k := i + 1) dL_law_130 (by omega) (by omega) hL (by simp only [N0]; omega) ?_
  rw [e1]
  refine J_rnG GL_fa (by omega) (by omega) (by omega) 4 _ _ _ _ (fun K9v hK9 => ?_)
  simp (maxSteps := 4000000) only [↓(X_aload_n (k := 0) (pc' := 132) dL_law_131 rfl rfl), ↓gR_0, ↓(X_iload (pc' := 134) dL_law_132 rfl), ↓gI_4, ↓(X_iconst (pc' := 135) dL_law_134 rfl), ↓(X_iadd (pc' := 136) dL_law_135 rfl), rn_0, gV_s, ↓pI_c, ↓pII_c, ↓pL_c, ↓pLL_c, ↓pR_c, ↓pRI_c, ↓pRII_c, ↓pRIL_c, ↓pRR_c, ↓pV_c, ↓pVV_c, ↓gI_c, ↓gL_c, ↓gR_c, f2_0, f2_1, nk_n, nk_i, nk_r, ↓reduceIte, r32, r64, Nat.reduceAdd, Nat.reduceSub, Nat.reduceEqDiff, Nat.reduceLT, Nat.reduceLeDiff, Nat.reduceBEq, Int.reduceAdd, Int.reduceSub, Int.reduceMul, Int.reduceNeg, Int.reduceToNat, Int.reduceLE, Int.reduceLT, Int.reduceEq, Int.reduceNatCast', Int.reduceNatCast, Int.natCast_zero, Int.toNat_natCast, Int.toNat_zero, Int.toNat_one, List.length_cons, List.length_nil, true_and, and_true, and_self, true_or, or_true, false_or, or_false, Bool.not_true, Bool.not_false, Nat.lt_add_one, Nat.zero_lt_succ, N0, swL_n, swL_c, List.toList_toArray, false_implies, true_implies, implies_true, forall_const, not_false_eq_true, not_true_eq_false, and_false, false_and, hi]
  simp only [hK9]
  clear hK9 K9v
  refine J_sldE (k := i + 2) dL_law_136 (by omega) (by omega) hL (by simp only [N0]; omega) ?_
  rw [e2]
  refine J_rnG GL_fa (by omega) (by omega) (by omega) 4 _ _ _ _ (fun K9v hK9 => ?_)
  simp (maxSteps := 4000000) only [↓(X_aload_n (k := 0) (pc' := 138) dL_law_137 rfl rfl), ↓gR_0, ↓(X_iload (pc' := 140) dL_law_138 rfl), ↓gI_4, ↓(X_iconst (pc' := 141) dL_law_140 rfl), ↓(X_iadd (pc' := 142) dL_law_141 rfl), rn_0, gV_s, ↓pI_c, ↓pII_c, ↓pL_c, ↓pLL_c, ↓pR_c, ↓pRI_c, ↓pRII_c, ↓pRIL_c, ↓pRR_c, ↓pV_c, ↓pVV_c, ↓gI_c, ↓gL_c, ↓gR_c, f2_0, f2_1, nk_n, nk_i, nk_r, ↓reduceIte, r32, r64, Nat.reduceAdd, Nat.reduceSub, Nat.reduceEqDiff, Nat.reduceLT, Nat.reduceLeDiff, Nat.reduceBEq, Int.reduceAdd, Int.reduceSub, Int.reduceMul, Int.reduceNeg, Int.reduceToNat, Int.reduceLE, Int.reduceLT, Int.reduceEq, Int.reduceNatCast', Int.reduceNatCast, Int.natCast_zero, Int.toNat_natCast, Int.toNat_zero, Int.toNat_one, List.length_cons, List.length_nil, true_and, and_true, and_self, true_or, or_true, false_or, or_false, Bool.not_true, Bool.not_false, Nat.lt_add_one, Nat.zero_lt_succ, N0, swL_n, swL_c, List.toList_toArray, false_implies, true_implies, implies_true, forall_const, not_false_eq_true, not_true_eq_false, and_false, false_and, hi]
  simp only [hK9]
  clear hK9 K9v
  refine J_sldE (k := i + 3) dL_law_142 (by omega) (by omega) hL (by simp only [N0]; omega) ?_
  rw [e3]
  refine J_rnG GL_fa (by omega) (by omega) (by omega) 4 _ _ _ _ (fun K9v hK9 => ?_)
  simp (maxSteps := 4000000) only [↓(X_aload_n (k := 0) (pc' := 144) dL_law_143 rfl rfl), ↓gR_0, ↓(X_iload (pc' := 146) dL_law_144 rfl), ↓gI_4, ↓(X_iconst (pc' := 147) dL_law_146 rfl), ↓(X_iadd (pc' := 148) dL_law_147 rfl), rn_0, gV_s, ↓pI_c, ↓pII_c, ↓pL_c, ↓pLL_c, ↓pR_c, ↓pRI_c, ↓pRII_c, ↓pRIL_c, ↓pRR_c, ↓pV_c, ↓pVV_c, ↓gI_c, ↓gL_c, ↓gR_c, f2_0, f2_1, nk_n, nk_i, nk_r, ↓reduceIte, r32, r64, Nat.reduceAdd, Nat.reduceSub, Nat.reduceEqDiff, Nat.reduceLT, Nat.reduceLeDiff, Nat.reduceBEq, Int.reduceAdd, Int.reduceSub, Int.reduceMul, Int.reduceNeg, Int.reduceToNat, Int.reduceLE, Int.reduceLT, Int.reduceEq, Int.reduceNatCast', Int.reduceNatCast, Int.natCast_zero, Int.toNat_natCast, Int.toNat_zero, Int.toNat_one, List.length_cons, List.length_nil, true_and, and_true, and_self, true_or, or_true, false_or, or_false, Bool.not_true, Bool.not_false, Nat.lt_add_one, Nat.zero_lt_succ, N0, swL_n, swL_c, List.toList_toArray, false_implies, true_implies, implies_true, forall_const, not_false_eq_true, not_true_eq_false, and_false, false_and, hi]
  simp only [hK9]
  clear hK9 K9v
  refine J_sldE (k := i + 4) dL_law_148 (by omega) (by omega) hL (by simp only [N0]; omega) ?_
  rw [e4]
  refine J_callSW (ow_setBase 0 z1 z2 z3 z4 (val := 0) (code := cSB (M 0 9) z1 z2 z3 z4) (P := fun M2 => M2 = if cSB (M 0 9) z1 z2 z3 z4 = 0 then up2 (up2 (up2 M (3 + z1.toNat) 0 z2) (3 + z1.toNat) 1 z3) (3 + z1.toNat) 2 z4 else M) cSB_le (fun _ => r32_of (by omega)) (Ok.post (ok_setBase hl9 0 z1 z2 z3 z4 hz1 hz2 hz3 hz4 (by omega)) (fun o ν ho => ⟨ho.1, _, ho.2, rfl⟩))) dL_law_149 kw_64 (by omega) (Nat.le_of_ble_eq_true rfl) ⟨by omega, by omega⟩ rfl (Nat.le_of_ble_eq_true rfl) rfl (fun q ν h => by obtain ⟨h1, M3, h2, -⟩ := h; exact ⟨⟨_, h1⟩, by rw [h2]; rfl⟩) (fun v ν hv => ?_)
  obtain ⟨h1, M3, rfl, hQ⟩ := hv
  cases h1
  have e15 : M3 447 15 = M 0 9 := by
    rw [hQ, y1]
    split
    · rename_i q
      have q4 : 0 ≤ z1 ∧ z1 ≤ 3 := by
        unfold cSB at q
        split at q
        · rename_i q2
          exact q2.1
        · omega
      rw [up2_c (by omega), up2_c (by omega), up2_c (by omega)]
    · rfl
  simp only [Option.toList, List.cons_append, List.nil_append]
  refine J_rnG GL_fa (by omega) (by omega) (by omega) 6 _ _ _ _ (fun K9v hK9 => ?_)
  simp (maxSteps := 4000000) only [↓(X_istore (pc' := 154) dL_law_152 rfl), ↓sto_5, ↓(X_aload_n (k := 2) (pc' := 155) dL_law_154 rfl rfl), ↓gR_2, ↓(X_aload_n (k := 0) (pc' := 156) dL_law_155 rfl rfl), ↓gR_0, ↓(X_iload (pc' := 158) dL_law_156 rfl), ↓gI_4, ↓(X_iconst (pc' := 159) dL_law_158 rfl), ↓(X_iadd (pc' := 160) dL_law_159 rfl), rn_0, gV_s, ↓pI_c, ↓pII_c, ↓pL_c, ↓pLL_c, ↓pR_c, ↓pRI_c, ↓pRII_c, ↓pRIL_c, ↓pRR_c, ↓pV_c, ↓pVV_c, ↓gI_c, ↓gL_c, ↓gR_c, f2_0, f2_1, nk_n, nk_i, nk_r, ↓reduceIte, r32, r64, Nat.reduceAdd, Nat.reduceSub, Nat.reduceEqDiff, Nat.reduceLT, Nat.reduceLeDiff, Nat.reduceBEq, Int.reduceAdd, Int.reduceSub, Int.reduceMul, Int.reduceNeg, Int.reduceToNat, Int.reduceLE, Int.reduceLT, Int.reduceEq, Int.reduceNatCast', Int.reduceNatCast, Int.natCast_zero, Int.toNat_natCast, Int.toNat_zero, Int.toNat_one, List.length_cons, List.length_nil, true_and, and_true, and_self, true_or, or_true, false_or, or_false, Bool.not_true, Bool.not_false, Nat.lt_add_one, Nat.zero_lt_succ, N0, swL_n, swL_c, List.toList_toArray, false_implies, true_implies, implies_true, forall_const, not_false_eq_true, not_true_eq_false, and_false, false_and, hi]
  simp only [hK9]
  clear hK9 K9v
  refine J_sldE (k := i + 1) dL_law_160 (by omega) (by omega) hL (by simp only [N0]; omega) ?_
  rw [e1]
  refine J_rnG GL_fa (by omega) (by omega) (by omega) 4 _ _ _ _ (fun K9v hK9 => ?_)
  simp (maxSteps := 4000000) only [↓(X_aload_n (k := 0) (pc' := 162) dL_law_161 rfl rfl), ↓gR_0, ↓(X_iload (pc' := 164) dL_law_162 rfl), ↓gI_4, ↓(X_iconst (pc' := 165) dL_law_164 rfl), ↓(X_iadd (pc' := 166) dL_law_165 rfl), rn_0, gV_s, ↓pI_c, ↓pII_c, ↓pL_c, ↓pLL_c, ↓pR_c, ↓pRI_c, ↓pRII_c, ↓pRIL_c, ↓pRR_c, ↓pV_c, ↓pVV_c, ↓gI_c, ↓gL_c, ↓gR_c, f2_0, f2_1, nk_n, nk_i, nk_r, ↓reduceIte, r32, r64, Nat.reduceAdd, Nat.reduceSub, Nat.reduceEqDiff, Nat.reduceLT, Nat.reduceLeDiff, Nat.reduceBEq, Int.reduceAdd, Int.reduceSub, Int.reduceMul, Int.reduceNeg, Int.reduceToNat, Int.reduceLE, Int.reduceLT, Int.reduceEq, Int.reduceNatCast', Int.reduceNatCast, Int.natCast_zero, Int.toNat_natCast, Int.toNat_zero, Int.toNat_one, List.length_cons, List.length_nil, true_and, and_true, and_self, true_or, or_true, false_or, or_false, Bool.not_true, Bool.not_false, Nat.lt_add_one, Nat.zero_lt_succ, N0, swL_n, swL_c, List.toList_toArray, false_implies, true_implies, implies_true, forall_const, not_false_eq_true, not_true_eq_false, and_false, false_and, hi]
  simp only [hK9]
  clear hK9 K9v
  refine J_sldE (k := i + 2) dL_law_166 (by omega) (by omega) hL (by simp only [N0]; omega) ?_
  rw [e2]
  refine J_rnG GL_fa (by omega) (by omega) (by omega) 4 _ _ _ _ (fun K9v hK9 => ?_)
  simp (maxSteps := 4000000) only [↓(X_aload_n (k := 0) (pc' := 168) dL_law_167 rfl rfl), ↓gR_0, ↓(X_iload (pc' := 170) dL_law_168 rfl), ↓gI_4, ↓(X_iconst (pc' := 171) dL_law_170 rfl), ↓(X_iadd (pc' := 172) dL_law_171 rfl), rn_0, gV_s, ↓pI_c, ↓pII_c, ↓pL_c, ↓pLL_c, ↓pR_c, ↓pRI_c, ↓pRII_c, ↓pRIL_c, ↓pRR_c, ↓pV_c, ↓pVV_c, ↓gI_c, ↓gL_c, ↓gR_c, f2_0, f2_1, nk_n, nk_i, nk_r, ↓reduceIte, r32, r64, Nat.reduceAdd, Nat.reduceSub, Nat.reduceEqDiff, Nat.reduceLT, Nat.reduceLeDiff, Nat.reduceBEq, Int.reduceAdd, Int.reduceSub, Int.reduceMul, Int.reduceNeg, Int.reduceToNat, Int.reduceLE, Int.reduceLT, Int.reduceEq, Int.reduceNatCast', Int.reduceNatCast, Int.natCast_zero, Int.toNat_natCast, Int.toNat_zero, Int.toNat_one, List.length_cons, List.length_nil, true_and, and_true, and_self, true_or, or_true, false_or, or_false, Bool.not_true, Bool.not_false, Nat.lt_add_one, Nat.zero_lt_succ, N0, swL_n, swL_c, List.toList_toArray, false_implies, true_implies, implies_true, forall_const, not_false_eq_true, not_true_eq_false, and_false, false_and, hi]
  simp only [hK9]
  clear hK9 K9v
  refine J_sldE (k := i + 3) dL_law_172 (by omega) (by omega) hL (by simp only [N0]; omega) ?_
  rw [e3]
  refine J_rnG GL_fa (by omega) (by omega) (by omega) 4 _ _ _ _ (fun K9v hK9 => ?_)
  simp (maxSteps := 4000000) only [↓(X_aload_n (k := 0) (pc' := 174) dL_law_173 rfl rfl), ↓gR_0, ↓(X_iload (pc' := 176) dL_law_174 rfl), ↓gI_4, ↓(X_iconst (pc' := 177) dL_law_176 rfl), ↓(X_iadd (pc' := 178) dL_law_177 rfl), rn_0, gV_s, ↓pI_c, ↓pII_c, ↓pL_c, ↓pLL_c, ↓pR_c, ↓pRI_c, ↓pRII_c, ↓pRIL_c, ↓pRR_c, ↓pV_c, ↓pVV_c, ↓gI_c, ↓gL_c, ↓gR_c, f2_0, f2_1, nk_n, nk_i, nk_r, ↓reduceIte, r32, r64, Nat.reduceAdd, Nat.reduceSub, Nat.reduceEqDiff, Nat.reduceLT, Nat.reduceLeDiff, Nat.reduceBEq, Int.reduceAdd, Int.reduceSub, Int.reduceMul, Int.reduceNeg, Int.reduceToNat, Int.reduceLE, Int.reduceLT, Int.reduceEq, Int.reduceNatCast', Int.reduceNatCast, Int.natCast_zero, Int.toNat_natCast, Int.toNat_zero, Int.toNat_one, List.length_cons, List.length_nil, true_and, and_true, and_self, true_or, or_true, false_or, or_false, Bool.not_true, Bool.not_false, Nat.lt_add_one, Nat.zero_lt_succ, N0, swL_n, swL_c, List.toList_toArray, false_implies, true_implies, implies_true, forall_const, not_false_eq_true, not_true_eq_false, and_false, false_and, hi]
  simp only [hK9]
  clear hK9 K9v
  refine J_sldE (k := i + 4) dL_law_178 (by omega) (by omega) hL (by simp only [N0]; omega) ?_
  rw [e4]
  refine J_callVd (ci := 9) GL_fa (om_setBase 0 z1 z2 z3 z4 hz1 hz2 hz3 hz4 (by rw [e15]; omega)) dL_law_179 k_10_69 (by omega) (Nat.le_of_ble_eq_true rfl) ⟨by omega, by omega⟩ rfl (by decide +kernel) rfl (by decide) (by simp only [N0]; omega) (by simp) rfl rfl ?_
  have hI : ∃ M4 : Nat → Nat → Int, (if cSB (M3 447 15) z1 z2 z3 z4 = 0 then up2 (up2 (up2 (th M3 0) 448 (3 * z1.toNat) z2) 448 (3 * z1.toNat + 1) z3) 448 (3 * z1.toNat + 2) z4 else th M3 (cSB (M3 447 15) z1 z2 z3 z4)) = M4 ∧ M4 447 26 = (cSB (M 0 9) z1 z2 z3 z4 : Int) ∧ Inv M4 n T := by
    refine ⟨_, rfl, ?_⟩
    rw [e15]
    by_cases hc0 : cSB (M 0 9) z1 z2 z3 z4 = 0
    · rw [if_pos hc0] at hQ ⊢
      subst hQ
      have q4 : (0 ≤ z1 ∧ z1 ≤ 3) ∧ P3 z2 z3 z4 := by
        unfold cSB at hc0
        split at hc0
        · assumption
        · omega
      refine ⟨?_, inv_setBase h (by omega) q4.2⟩
      rw [hc0]
      simp only [th]
      rw [up2_c (by omega), up2_c (by omega), up2_c (by omega), up2_s]
    · rw [if_neg hc0] at hQ ⊢
      subst hQ
      exact ⟨up2_s, Inv_th h⟩
  obtain ⟨M4, e9, hth, hI⟩ := hI
  rw [e9]
  simp only [Option.toList, List.cons_append, List.nil_append]
  have hle : cSB (M 0 9) z1 z2 z3 z4 ≤ 2 := cSB_le
  generalize cSB (M 0 9) z1 z2 z3 z4 = code at hth hle ⊢
  refine J_rnG GL_fa (by omega) (by omega) (by omega) 1 _ _ _ _ (fun K9v hK9 => ?_)
  simp (maxSteps := 4000000) only [↓(X_aload_n (k := 2) (pc' := 183) dL_law_182 rfl rfl), ↓gR_2, rn_0, gV_s, ↓pI_c, ↓pII_c, ↓pL_c, ↓pLL_c, ↓pR_c, ↓pRI_c, ↓pRII_c, ↓pRIL_c, ↓pRR_c, ↓pV_c, ↓pVV_c, ↓gI_c, ↓gL_c, ↓gR_c, f2_0, f2_1, nk_n, nk_i, nk_r, ↓reduceIte, r32, r64, Nat.reduceAdd, Nat.reduceSub, Nat.reduceEqDiff, Nat.reduceLT, Nat.reduceLeDiff, Nat.reduceBEq, Int.reduceAdd, Int.reduceSub, Int.reduceMul, Int.reduceNeg, Int.reduceToNat, Int.reduceLE, Int.reduceLT, Int.reduceEq, Int.reduceNatCast', Int.reduceNatCast, Int.natCast_zero, Int.toNat_natCast, Int.toNat_zero, Int.toNat_one, List.length_cons, List.length_nil, true_and, and_true, and_self, true_or, or_true, false_or, or_false, Bool.not_true, Bool.not_false, Nat.lt_add_one, Nat.zero_lt_succ, N0, swL_n, swL_c, List.toList_toArray, false_implies, true_implies, implies_true, forall_const, not_false_eq_true, not_true_eq_false, and_false, false_and]
  simp only [hK9]
  clear hK9 K9v
  refine J_callVd (ci := 9) GL_fa (om_thrown 0) dL_law_183 k_10_70 (by omega) (Nat.le_of_ble_eq_true rfl) ⟨by omega, by omega⟩ rfl (by decide +kernel) rfl (by decide) (by simp only [N0]; omega) (by simp) rfl rfl ?_
  simp only [Option.toList, List.cons_append, List.nil_append, hth]
  refine J_rnG GL_fa (by omega) (by omega) (by omega) 2 _ _ _ _ (fun K9v hK9 => ?_)
  simp (maxSteps := 4000000) only [↓(X_iload (pc' := 188) dL_law_186 rfl), ↓gI_5, ↓(X_icmp_eq (tgt := 193) (pc' := 191) dL_law_188 (by decide) rfl), rn_0, gV_s, ↓pI_c, ↓pII_c, ↓pL_c, ↓pLL_c, ↓pR_c, ↓pRI_c, ↓pRII_c, ↓pRIL_c, ↓pRR_c, ↓pV_c, ↓pVV_c, ↓gI_c, ↓gL_c, ↓gR_c, f2_0, f2_1, nk_n, nk_i, nk_r, ↓reduceIte, r32, r64, Nat.reduceAdd, Nat.reduceSub, Nat.reduceEqDiff, Nat.reduceLT, Nat.reduceLeDiff, Nat.reduceBEq, Int.reduceAdd, Int.reduceSub, Int.reduceMul, Int.reduceNeg, Int.reduceToNat, Int.reduceLE, Int.reduceLT, Int.reduceEq, Int.reduceNatCast', Int.reduceNatCast, Int.natCast_zero, Int.toNat_natCast, Int.toNat_zero, Int.toNat_one, List.length_cons, List.length_nil, true_and, and_true, and_self, true_or, or_true, false_or, or_false, Bool.not_true, Bool.not_false, Nat.lt_add_one, Nat.zero_lt_succ, N0, swL_n, swL_c, List.toList_toArray, false_implies, true_implies, implies_true, forall_const, not_false_eq_true, not_true_eq_false, and_false, false_and]
  simp only [hK9]
  clear hK9 K9v
  repeat (refine And.intro (by first | omega | assumption | (refine ⟨?_, ?_⟩ <;> omega)) ?_)
  refine J_rnG GL_fa (by omega) (by omega) (by omega) 1 _ _ _ _ (fun K9v hK9 => ?_)
  simp (maxSteps := 4000000) only [↓(X_goto (pc' := 1068) dL_law_193 (by decide)), rn_0, gV_s, ↓pI_c, ↓pII_c, ↓pL_c, ↓pLL_c, ↓pR_c, ↓pRI_c, ↓pRII_c, ↓pRIL_c, ↓pRR_c, ↓pV_c, ↓pVV_c, ↓gI_c, ↓gL_c, ↓gR_c, f2_0, f2_1, nk_n, nk_i, nk_r, ↓reduceIte, r32, r64, Nat.reduceAdd, Nat.reduceSub, Nat.reduceEqDiff, Nat.reduceLT, Nat.reduceLeDiff, Nat.reduceBEq, Int.reduceAdd, Int.reduceSub, Int.reduceMul, Int.reduceNeg, Int.reduceToNat, Int.reduceLE, Int.reduceLT, Int.reduceEq, Int.reduceNatCast', Int.reduceNatCast, Int.natCast_zero, Int.toNat_natCast, Int.toNat_zero, Int.toNat_one, List.length_cons, List.length_nil, true_and, and_true, and_self, true_or, or_true, false_or, or_false, Bool.not_true, Bool.not_false, Nat.lt_add_one, Nat.zero_lt_succ, N0, swL_n, swL_c, List.toList_toArray, false_implies, true_implies, implies_true, forall_const, not_false_eq_true, not_true_eq_false, and_false, false_and]
  simp only [hK9]
  clear hK9 K9v
  exact J_wd (by omega) (by omega) (K M4 n T _ _ hI)
end LB5
