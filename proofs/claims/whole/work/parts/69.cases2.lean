/-! THE LAW'S CASES: more of them -/
section LB2
variable {l : Launch} {D : va_G} {cy : Nat → ClassId} {b L : Nat} {xs : Nat → Int32} {ca sl : Nat} {M : Nat → Nat → Int} {i n T : Nat} {w5 w6 : Option AV}
theorem cJob_0 {n a b c g gap : Int} (h : cJob n a b c g gap = 0) : P3 a b c ∧ ((10 ≤ g ∧ g ≤ 500) ∧ g % 10 = 0) ∧ (0 ≤ gap ∧ gap ≤ 300) ∧ n < 16 := by
  unfold cJob at h
  split at h
  · rename_i q
    split at h
    · exact ⟨q.1, q.2.1, q.2.2, by assumption⟩
    · omega
  · omega
theorem cState_le {n z : Int} : cState n z ≤ 1 := by unfold cState; (repeat' split) <;> omega
theorem cState_0 {n z : Int} (h : cState n z = 0) : 0 ≤ z ∧ z < n := by
  unfold cState at h
  split at h
  · assumption
  · omega
theorem cInTin_le {n z b : Int} : cInTin n z b ≤ 2 := by unfold cInTin; (repeat' split) <;> omega
theorem cInTin_0 {n z b : Int} (h : cInTin n z b = 0) : (0 ≤ z ∧ z < n) ∧ 0 ≤ b ∧ b ≤ 3 := by
  unfold cInTin at h
  split at h
  · split at h
    · exact ⟨by assumption, by assumption⟩
    · omega
  · omega
theorem lc_pass (hl9 : l.stackTraces = false) (h : Inv M n T) (hi : i + 5 < L) (hL : L ≤ 3072) (hc : ca + 3 ≤ 601024) (hs : sl + 18 ≤ 7293034) (K : NX l D cy b L xs i ca sl) : J l D cy (GL l D cy b L xs) 588 [some (.inr (.inr (some 1000000))), some (.inr (.inr (some 0))), some (.inr (.inr (some 447))), some (.inr (.inr (some 467))), some (.inl (i : Int)), w5, w6] [] (N0, R0, M) ca sl := by
  have hz1 := i32_r (xs (i + 1))
  generalize e1 : (xs (i + 1)).toInt = z1 at hz1
  obtain ⟨⟨-, -, ⟨d1, d2, d3⟩, -⟩, -⟩ := id h
  refine hw_pass (dW := 7) (dM := 3) (code := cPass (M 0 10) z1) e1 hi hL hc hs (by decide) (by decide) (Nat.le_trans cPass_le (by decide)) (ow_pass 0 z1 (val := M 0 10 + z1) (P := fun M2 => M2 = if cPass (M 0 10) z1 = 0 then up2 M 0 10 (M 0 10 + z1) else M) cPass_le (fun q => by have := cPass_0 q; exact r32_of (by omega)) (Ok.post (ok_pass hl9 0 z1 hz1 (by omega)) (fun o ν ho => ⟨ho.1, _, ho.2, rfl⟩))) (fun M3 hQ => ?_) K
  obtain ⟨M2, hP, hM3⟩ := hQ
  by_cases hc0 : cPass (M 0 10) z1 = 0
  · rw [if_pos hc0] at hM3
    rw [if_pos hc0] at hP
    subst hP hM3
    have q1 := cPass_0 hc0
    have e0 : ∀ k, (up2 (up2 M 0 10 (M 0 10 + z1)) 467 0 (M 0 10 + z1)) 447 k = M 447 k := fun k => by simp [up2]
    refine Ok.post (om_pass 0 z1 hz1 (by rw [e0]; omega)) (fun o ν ho => ?_)
    obtain ⟨rfl, rfl⟩ := ho
    rw [e0, ← d1, if_pos hc0, if_pos hc0, hc0]
    refine ⟨_, _, n, T, rfl, rfl, by simp [up2], fun _ => ⟨by simp [up2], r32_of (by omega)⟩, Inv_467 (inv_pass h (z := z1) (by omega)) (fun x hx => ?_)⟩
    funext k
    simp only [up2, hx, false_and, if_false, d1]
  · rw [if_neg hc0] at hM3
    rw [if_neg hc0] at hP
    subst hP hM3
    refine Ok.post (om_pass 0 z1 hz1 (by omega)) (fun o ν ho => ?_)
    obtain ⟨rfl, rfl⟩ := ho
    rw [← d1, if_neg hc0, if_neg hc0]
    exact AF_no h hc0
theorem lc_job (hl9 : l.stackTraces = false) (h : Inv M n T) (hi : i + 5 < L) (hL : L ≤ 3072) (hc : ca + 3 ≤ 601024) (hs : sl + 18 ≤ 7293034) (K : NX l D cy b L xs i ca sl) : J l D cy (GL l D cy b L xs) 264 [some (.inr (.inr (some 1000000))), some (.inr (.inr (some 0))), some (.inr (.inr (some 447))), some (.inr (.inr (some 467))), some (.inl (i : Int)), w5, w6] [] (N0, R0, M) ca sl := by
  have hz1 := i32_r (xs (i + 1))
  have hz2 := i32_r (xs (i + 2))
  have hz3 := i32_r (xs (i + 3))
  have hz4 := i32_r (xs (i + 4))
  have hz5 := i32_r (xs (i + 5))
  generalize e1 : (xs (i + 1)).toInt = z1 at hz1
  generalize e2 : (xs (i + 2)).toInt = z2 at hz2
  generalize e3 : (xs (i + 3)).toInt = z3 at hz3
  generalize e4 : (xs (i + 4)).toInt = z4 at hz4
  generalize e5 : (xs (i + 5)).toInt = z5 at hz5
  obtain ⟨⟨⟨n1, n2, n3⟩, -⟩, -⟩ := id h
  refine hw_job (dW := 7) (dM := 3) (code := cJob (M 0 8) z1 z2 z3 z4 z5) e1 e2 e3 e4 e5 hi hL hc hs (by decide) (by decide) (Nat.le_trans cJob_le (by decide)) (ow_job 0 z1 z2 z3 z4 z5 (val := M 0 8) (P := fun M2 => M2 = if cJob (M 0 8) z1 z2 z3 z4 z5 = 0 then up2 (up2 (up2 (up2 (up2 (up2 M (368 + 5 * n) 0 z1) (368 + 5 * n) 1 z2) (368 + 5 * n) 2 z3) (367 + 5 * n) 3 z4) (367 + 5 * n) 4 z5) 0 8 (M 0 8 + 1) else M) cJob_le (fun q => r32_of (by omega)) (Ok.post (ok_job hl9 0 n z1 z2 z3 z4 z5 hz1 hz2 hz3 hz4 hz5 n1 n3) (fun o ν ho => ⟨ho.1, _, ho.2, rfl⟩))) (fun M3 hQ => ?_) K
  obtain ⟨M2, hP, hM3⟩ := hQ
  by_cases hc0 : cJob (M 0 8) z1 z2 z3 z4 z5 = 0
  · rw [if_pos hc0] at hM3
    rw [if_pos hc0] at hP
    subst hP hM3
    obtain ⟨q1, q2, q3, q4⟩ := cJob_0 hc0
    have e7 : (up2 (up2 (up2 (up2 (up2 (up2 (up2 M (368 + 5 * n) 0 z1) (368 + 5 * n) 1 z2) (368 + 5 * n) 2 z3) (367 + 5 * n) 3 z4) (367 + 5 * n) 4 z5) 0 8 (M 0 8 + 1)) 467 0 (M 0 8)) 447 7 = (n : Int) := by
      rw [up2_c (by omega), up2_c (by omega), up2_c (by omega), up2_c (by omega), up2_c (by omega), up2_c (by omega), up2_c (by omega), n2]
    refine Ok.post (om_job 0 n z1 z2 z3 z4 z5 hz1 hz2 hz3 hz4 hz5 e7 n3) (fun o ν ho => ?_)
    obtain ⟨rfl, rfl⟩ := ho
    have hc1 := hc0
    rw [n1] at hc1
    rw [if_pos hc1, if_pos hc1, hc0]
    refine ⟨_, _, n + 1, T, rfl, rfl, by simp [up2], fun _ => ⟨?_, r32_of (by omega)⟩, Inv_467 (inv_job h (by omega) q1 q2 q3) (fun x hx => ?_)⟩
    · simp only [th]
      rw [up2_c (by omega), up2_c (by omega), up2_c (by omega), up2_c (by omega), up2_c (by omega), up2_c (by omega), up2_c (by omega), up2_s, n1]
    · funext k
      simp only [up2, hx, false_and, if_false]
  · rw [if_neg hc0] at hM3
    rw [if_neg hc0] at hP
    subst hP hM3
    refine Ok.post (om_job 0 n z1 z2 z3 z4 z5 hz1 hz2 hz3 hz4 hz5 n2 n3) (fun o ν ho => ?_)
    obtain ⟨rfl, rfl⟩ := ho
    rw [n1] at hc0 ⊢
    rw [if_neg hc0, if_neg hc0]
    exact AF_no h hc0
theorem lc_state (hl9 : l.stackTraces = false) (h : Inv M n T) (hi : i + 5 < L) (hL : L ≤ 3072) (hc : ca + 3 ≤ 601024) (hs : sl + 18 ≤ 7293034) (K : NX l D cy b L xs i ca sl) : J l D cy (GL l D cy b L xs) 644 [some (.inr (.inr (some 1000000))), some (.inr (.inr (some 0))), some (.inr (.inr (some 447))), some (.inr (.inr (some 467))), some (.inl (i : Int)), w5, w6] [] (N0, R0, M) ca sl := by
  have hz1 := i32_r (xs (i + 1))
  generalize e1 : (xs (i + 1)).toInt = z1 at hz1
  obtain ⟨⟨⟨n1, n2, n3⟩, -⟩, -, -, -, -, h6, -⟩ := id h
  refine hw_state (dW := 8) (dM := 3) (code := cState (n : Int) z1) e1 hi hL hc hs (by decide) (by decide) (Nat.le_trans cState_le (by decide)) (ow_state 0 z1 (val := M (367 + 5 * z1.toNat) 5) (P := fun M2 => M2 = M) cState_le (fun q => by have := cState_0 q; have := h6 z1.toNat (by omega); exact r32_of (by omega)) (Ok.post (ok_state hl9 0 n z1 hz1 n1 n3) (fun o ν ho => ⟨ho.1, _, ho.2, rfl⟩))) (fun M3 hQ => ?_) K
  obtain ⟨M2, hP, hM3⟩ := hQ
  by_cases hc0 : cState (n : Int) z1 = 0
  · rw [if_pos hc0] at hM3
    subst hP hM3
    have e4 : ∀ x k, x ≠ 467 → (up2 M2 467 0 (M2 (367 + 5 * z1.toNat) 5)) x k = M2 x k := fun x k hx => up2_c hx
    refine Ok.post (om_state 0 n z1 hz1 (by rw [e4 _ _ (by omega)]; exact n2) n3) (fun o ν ho => ?_)
    obtain ⟨rfl, rfl⟩ := ho
    have q1 := cState_0 hc0
    have h6z := h6 z1.toNat (by omega)
    rw [if_pos hc0, e4 _ _ (by omega)]
    refine ⟨_, _, n, T, rfl, rfl, up2_s, fun _ => ⟨?_, ?_⟩, Inv_th (Inv_467 h (fun x hx => by funext k; exact e4 x k hx))⟩
    
    · simp only [th]
      rw [up2_c (by omega), up2_s]
      exact h6z.1
    · exact r32_of (by omega)
  · rw [if_neg hc0] at hM3
    subst hP hM3
    refine Ok.post (om_state 0 n z1 hz1 n2 n3) (fun o ν ho => ?_)
    obtain ⟨rfl, rfl⟩ := ho
    rw [if_neg hc0]
    exact AF_no h hc0
theorem lc_inTin (hl9 : l.stackTraces = false) (h : Inv M n T) (hi : i + 5 < L) (hL : L ≤ 3072) (hc : ca + 3 ≤ 601024) (hs : sl + 18 ≤ 7293034) (K : NX l D cy b L xs i ca sl) : J l D cy (GL l D cy b L xs) 713 [some (.inr (.inr (some 1000000))), some (.inr (.inr (some 0))), some (.inr (.inr (some 447))), some (.inr (.inr (some 467))), some (.inl (i : Int)), w5, w6] [] (N0, R0, M) ca sl := by
  have hz1 := i32_r (xs (i + 1))
  have hz2 := i32_r (xs (i + 2))
  generalize e1 : (xs (i + 1)).toInt = z1 at hz1
  generalize e2 : (xs (i + 2)).toInt = z2 at hz2
  obtain ⟨⟨-, ⟨t1, t2, t3⟩, -⟩, -, -, h4, -⟩ := id h
  refine hw_inTin (dW := 8) (dM := 3) (code := cInTin (T : Int) z1 z2) e1 e2 hi hL hc hs (by decide) (by decide) (Nat.le_trans cInTin_le (by decide)) (ow_inTin 0 z1 z2 (val := M (11 + 2 * z1.toNat) z2.toNat) (P := fun M2 => M2 = M) cInTin_le (fun q => by
    obtain ⟨q1, q2⟩ := cInTin_0 q
    obtain ⟨-, ⟨g0, g1, g2, g3⟩, -⟩ := h4 z1.toNat (by omega)
    rcases (show z2.toNat = 0 ∨ z2.toNat = 1 ∨ z2.toNat = 2 ∨ z2.toNat = 3 by omega) with e | e | e | e <;> (rw [e]; exact r32_of (by omega))) (Ok.post (ok_inTin hl9 0 T z1 z2 hz1 hz2 t1 t3) (fun o ν ho => ⟨ho.1, _, ho.2, rfl⟩))) (fun M3 hQ => ?_) K
  obtain ⟨M2, hP, hM3⟩ := hQ
  by_cases hc0 : cInTin (T : Int) z1 z2 = 0
  · rw [if_pos hc0] at hM3
    subst hP hM3
    have e4 : ∀ x k, x ≠ 467 → (up2 M2 467 0 (M2 (11 + 2 * z1.toNat) z2.toNat)) x k = M2 x k := fun x k hx => up2_c hx
    refine Ok.post (om_inTin 0 T z1 z2 hz1 hz2 (by rw [e4 _ _ (by omega)]; exact t2) t3) (fun o ν ho => ?_)
    obtain ⟨rfl, rfl⟩ := ho
    obtain ⟨q1, q2⟩ := cInTin_0 hc0
    obtain ⟨g9, ⟨g0, g1, g2, g3⟩, -⟩ := h4 z1.toNat (by omega)
    have g9 := g9 z2.toNat (by omega)
    rw [if_pos hc0, e4 _ _ (by omega)]
    refine ⟨_, _, n, T, rfl, rfl, up2_s, fun _ => ⟨?_, ?_⟩, Inv_th (Inv_467 h (fun x hx => by funext k; exact e4 x k hx))⟩
    
    · simp only [th]
      rw [up2_c (by omega), up2_s]
      exact g9
    · rw [← g9]
      rcases (show z2.toNat = 0 ∨ z2.toNat = 1 ∨ z2.toNat = 2 ∨ z2.toNat = 3 by omega) with e | e | e | e <;> (rw [e]; exact r32_of (by omega))
  · rw [if_neg hc0] at hM3
    subst hP hM3
    refine Ok.post (om_inTin 0 T z1 z2 hz1 hz2 t2 t3) (fun o ν ho => ?_)
    obtain ⟨rfl, rfl⟩ := ho
    rw [if_neg hc0]
    exact AF_no h hc0
end LB2
