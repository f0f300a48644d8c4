/-! THE LAW'S CASES: what the class answers, the model answers -/
theorem r32_of {z : Int} (h : -2147483648 ≤ z ∧ z ≤ 2147483647) : r32 z := h
theorem Inv_467 {M M' : Nat → Nat → Int} {n T : Nat} (h : Inv M' n T) (hE : ∀ x, x ≠ 467 → M x = M' x) : Inv M n T := Inv_congr h (fun x hx => hE x (by unfold core at hx; omega)) (fun k _ _ => by rw [hE 447 (by decide)]) (wOK_congr h.2.2.2.2.2.2.2.2.2 (fun x h1 h2 => hE x (by omega)))
theorem Inv_th {M : Nat → Nat → Int} {n T c : Nat} (h : Inv M n T) : Inv (th M c) n T := Inv_congr h (fun x hx => by funext k; exact up2_c (by unfold core at hx; omega)) (fun k _ h2 => up2_k h2) (wOK_congr h.2.2.2.2.2.2.2.2.2 (fun x h1 h2 => by funext k; exact up2_c (by omega)))
theorem AF_no {code : Nat} {v : Int} {M : Nat → Nat → Int} {n T : Nat} (hI : Inv M n T) (hc : code ≠ 0) : AF code (.inl (some (.inl v))) (N0, R0, th M code) := ⟨v, _, n, T, rfl, rfl, up2_s, fun h => absurd h hc, Inv_th hI⟩
section LB
variable {l : Launch} {D : va_G} {cy : Nat → ClassId} {b L : Nat} {xs : Nat → Int32} {ca sl : Nat} {M : Nat → Nat → Int} {i n T : Nat} {w5 w6 : Option AV}
theorem cBuy_le {w z g : Int} : cBuy w z g ≤ 2 := by unfold cBuy; (repeat' split) <;> omega
theorem cPass_le {w z : Int} : cPass w z ≤ 2 := by unfold cPass; (repeat' split) <;> omega
theorem cJob_le {n a b c g gap : Int} : cJob n a b c g gap ≤ 2 := by unfold cJob; (repeat' split) <;> omega
theorem cSB_le {w z a b c : Int} : cSB w z a b c ≤ 2 := by unfold cSB; (repeat' split) <;> omega
theorem cBuy_congr {w w' z g : Int} (h : 0 ≤ z ∧ z ≤ 3 → w = w') : cBuy w z g = cBuy w' z g := by
  unfold cBuy
  by_cases q : 0 ≤ z ∧ z ≤ 3
  · rw [h q]
  · rw [if_neg (fun h => q h.1), if_neg (fun h => q h.1)]
theorem cBuy_0 {w z g : Int} (h : cBuy w z g = 0) : (0 ≤ z ∧ z ≤ 3) ∧ (1 ≤ g ∧ g ≤ 5000) ∧ w + g ≤ 100000 := by
  unfold cBuy at h
  split at h
  · rename_i q
    split at h
    · exact ⟨q.1, q.2, by assumption⟩
    · omega
  · omega
theorem cPass_0 {w z : Int} (h : cPass w z = 0) : (1 ≤ z ∧ z ≤ 100) ∧ w + z ≤ 10000 := by
  unfold cPass at h
  split at h
  · rename_i q
    split at h
    · exact ⟨q, by assumption⟩
    · omega
  · omega
theorem lc_buy (hl9 : l.stackTraces = false) (h : Inv M n T) (hi : i + 5 < L) (hL : L ≤ 3072) (hc : ca + 3 ≤ 601024) (hs : sl + 18 ≤ 7293034) (K : NX l D cy b L xs i ca sl) : J l D cy (GL l D cy b L xs) 196 [some (.inr (.inr (some 1000000))), some (.inr (.inr (some 0))), some (.inr (.inr (some 447))), some (.inr (.inr (some 467))), some (.inl (i : Int)), w5, w6] [] (N0, R0, M) ca sl := by
  have hz1 := i32_r (xs (i + 1))
  have hz2 := i32_r (xs (i + 2))
  generalize e1 : (xs (i + 1)).toInt = z1 at hz1
  generalize e2 : (xs (i + 2)).toInt = z2 at hz2
  have h3 := h.2.2.1
  have cc : cBuy (M 449 z1.toNat) z1 z2 = cBuy (M 70 z1.toNat) z1 z2 := cBuy_congr (fun q => ((h3 z1.toNat (by omega)).1).symm)
  have hr : cBuy (M 70 z1.toNat) z1 z2 = 0 → r32 (M 8 z1.toNat + z2 * 1000) := fun q => by
    obtain ⟨q1, q2, q3⟩ := cBuy_0 q
    have := h3 z1.toNat (by omega)
    exact r32_of (by omega)
  refine hw_buy (dW := 7) (dM := 3) (code := cBuy (M 70 z1.toNat) z1 z2) e1 e2 hi hL hc hs (by decide) (by decide) (Nat.le_trans cBuy_le (by decide)) (ow_buy 0 z1 z2 (val := M 8 z1.toNat + z2 * 1000) (P := fun M2 => M2 = if cBuy (M 70 z1.toNat) z1 z2 = 0 then up2 (up2 M 70 z1.toNat (M 70 z1.toNat + z2)) 8 z1.toNat (M 8 z1.toNat + z2 * 1000) else M) cBuy_le hr (Ok.post (ok_buy hl9 0 z1 z2 hz1 hz2 (fun b hb => ?_)) (fun o ν ho => ⟨ho.1, _, ho.2, rfl⟩))) (fun M3 hQ => ?_) K
  · have := h3 b hb
    omega
  obtain ⟨M2, hP, hM3⟩ := hQ
  by_cases hc0 : cBuy (M 70 z1.toNat) z1 z2 = 0
  · rw [if_pos hc0] at hP hM3
    subst hP hM3
    obtain ⟨q1, q2, q3⟩ := cBuy_0 hc0
    have h3z := h3 z1.toNat (by omega)
    refine Ok.post (om_buy 0 z1 z2 hz1 hz2 (fun b hb => ?_)) (fun o ν ho => ?_)
    · have := h3 b hb
      simp only [up2, Nat.reduceEqDiff, false_and, if_false]
      omega
    · obtain ⟨rfl, rfl⟩ := ho
      have e449 : ∀ k, (up2 (up2 (up2 M 70 z1.toNat (M 70 z1.toNat + z2)) 8 z1.toNat (M 8 z1.toNat + z2 * 1000)) 467 0 (M 8 z1.toNat + z2 * 1000)) 449 k = M 449 k := fun k => by simp [up2]
      have e450 : ∀ k, (up2 (up2 (up2 M 70 z1.toNat (M 70 z1.toNat + z2)) 8 z1.toNat (M 8 z1.toNat + z2 * 1000)) 467 0 (M 8 z1.toNat + z2 * 1000)) 450 k = M 450 k := fun k => by simp [up2]
      rw [e449, e450, cc, if_pos hc0, if_pos hc0, hc0]
      refine ⟨_, _, n, T, rfl, rfl, by simp [up2], fun _ => ⟨?_, ?_⟩, Inv_467 (inv_buy h (j := z1.toNat) (g := z2) (by omega) (by omega)) (fun x hx => ?_)⟩
      · simp [up2]
        omega
      · exact r32_of (by omega)
      · funext k
        simp only [up2, hx, false_and, if_false]
  · rw [if_neg hc0] at hP hM3
    subst hP hM3
    refine Ok.post (om_buy 0 z1 z2 hz1 hz2 (fun b hb => ?_)) (fun o ν ho => ?_)
    · have := h3 b hb
      omega
    · obtain ⟨rfl, rfl⟩ := ho
      rw [cc, if_neg hc0, if_neg hc0]
      exact AF_no h hc0
end LB
