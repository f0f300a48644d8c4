/-! THE LAW'S CASES: recipe, mix, print -/
section LB4
variable {l : Launch} {D : va_G} {cy : Nat → ClassId} {b L : Nat} {xs : Nat → Int32} {ca sl : Nat} {M : Nat → Nat → Int} {i n T : Nat} {w5 w6 : Option AV}
theorem cRec_le {n z w st fd : Int} : cRec n z w st fd ≤ 3 := by unfold cRec; (repeat' split) <;> omega
theorem cRec_0 {n z w st fd : Int} (h : cRec n z w st fd = 0) : (0 ≤ z ∧ z < n) ∧ (0 ≤ w ∧ w ≤ 6) ∧ st = 0 ∧ fd = 1 := by
  unfold cRec at h
  split at h
  · split at h
    · split at h
      · rename_i q
        exact ⟨by assumption, by assumption, q.1, q.2⟩
      · omega
    · omega
  · omega
theorem cRec_congr {n z w st st' fd : Int} (h : 0 ≤ z ∧ z < n → st = st') : cRec n z w st fd = cRec n z w st' fd := by
  unfold cRec
  by_cases q : 0 ≤ z ∧ z < n
  · rw [h q]
  · rw [if_neg q, if_neg q]
theorem cMix_le {n z st nm fd : Int} : cMix n z st nm fd ≤ 2 := by unfold cMix; (repeat' split) <;> omega
theorem cMix_0 {n z st nm fd : Int} (h : cMix n z st nm fd = 0) : (0 ≤ z ∧ z < n) ∧ st = 0 ∧ nm < 8 ∧ fd = 1 := by
  unfold cMix at h
  split at h
  · split at h
    · rename_i q
      exact ⟨by assumption, q.1, q.2.1, q.2.2⟩
    · omega
  · omega
theorem cMix_congr {n z st st' nm fd : Int} (h : 0 ≤ z ∧ z < n → st = st') : cMix n z st nm fd = cMix n z st' nm fd := by
  unfold cMix
  by_cases q : 0 ≤ z ∧ z < n
  · rw [h q]
  · rw [if_neg q, if_neg q]
theorem cPrint_le {n z u g st t : Int} : cPrint n z u g st t ≤ 3 := by unfold cPrint; (repeat' split) <;> omega
theorem cPrint_0 {n z u g st t : Int} (h : cPrint n z u g st t = 0) : (0 ≤ z ∧ z < n) ∧ (1 ≤ u ∧ u ≤ g) ∧ st = 1 ∧ (u < g → t < 30) := by
  unfold cPrint at h
  split at h
  · split at h
    · split at h
      · rename_i q
        exact ⟨by assumption, by assumption, q.1, q.2⟩
      · omega
    · omega
  · omega
theorem cPrint_congr {n z u g g' st st' t : Int} (h : 0 ≤ z ∧ z < n → g = g' ∧ st = st') : cPrint n z u g st t = cPrint n z u g' st' t := by
  unfold cPrint
  by_cases q : 0 ≤ z ∧ z < n
  · rw [(h q).1, (h q).2]
  · rw [if_neg q, if_neg q]
theorem Inv.find (h : Inv M n T) {j : Nat} (hj : j < n) (hf : findF M j T 0 = 1) : (-1 ≤ findF M j T 3 ∧ findF M j T 3 < (T : Int)) ∧ (0 ≤ findF M j T 2 ∧ findF M j T 2 ≤ 10) ∧ (0 ≤ findF M j T 4 ∧ findF M j T 4 ≤ 300) ∧ ∀ b, b < 4 → 0 ≤ findF M j T (5 + b) ∧ findF M j T (5 + b) ≤ 10 := by
  obtain ⟨g0, g1, g2⟩ := h.good j
  obtain ⟨g3, g5, g6, g7, g8, g9, g10, g11⟩ := g2 hf
  obtain ⟨k1, k2, k3, k4, k5, k6, k7, k8⟩ := h.2.2.2.2.1 j hj
  have h2 : 0 ≤ findF M j T 2 ∧ findF M j T 2 ≤ 10 ∧ -1 ≤ findF M j T 3 ∧ findF M j T 3 < (T : Int) := by
    rcases g3 with ⟨a, c⟩ | ⟨t, tt, c1, c2, c3, c4, c5, -⟩ <;> omega
  refine ⟨⟨h2.2.2.1, h2.2.2.2⟩, ⟨h2.1, h2.2.1⟩, ⟨g10, by omega⟩, fun b hb => ?_⟩
  rcases (show b = 0 ∨ b = 1 ∨ b = 2 ∨ b = 3 by omega) with e | e | e | e <;> (subst e; simp only [Nat.reduceAdd]; omega)
theorem tell_b (h : Inv M n T) {j : Nat} {w : Int} (hj : j < n) (hw : 0 ≤ w ∧ w ≤ 6) (hf : findF M j T 0 = 1) : r32 (tellS (findF M j T) w) := by
  obtain ⟨h3, h2, h4, h5⟩ := h.find hj hf
  have hT := h.1.2.1.2.2
  unfold tellS
  split
  · exact r32_of (by omega)
  · split
    · exact r32_of (by omega)
    · split
      · exact r32_of (by omega)
      · have := h5 w.toNat (by omega)
        exact r32_of (by omega)
theorem mixMm_467 {M2 M4 C I : Nat → Nat → Int} {gr v : Int} {f : Nat → Int} {j : Nat} (h : mixMm (up2 M2 467 0 v) M4 C I gr f j) : mixMm M2 (up2 M4 467 0 (M2 467 0)) C I gr f j := by
  have e2 : ∀ x k, x ≠ 467 → (up2 M2 467 0 v) x k = M2 x k := fun x k hx => up2_c hx
  have e4 : ∀ x k, x ≠ 467 → (up2 M4 467 0 (M2 467 0)) x k = M4 x k := fun x k hx => up2_c hx
  unfold mixMm at *
  simp only [e2 447 _ (by decide), e2 450 _ (by decide), e2 452 _ (by decide), e2 454 _ (by decide), e2 457 _ (by decide), e2 459 _ (by decide)] at h
  simp only [e4 447 _ (by decide), e4 450 _ (by decide), e4 452 _ (by decide), e4 454 _ (by decide), e4 457 _ (by decide), e4 459 _ (by decide)]
  refine ⟨fun x h1 h2 h3 h4 h5 h6 h7 h8 h9 h10 h11 => ?_, h.2⟩
  have h0 := h.1 x h1 h2 h3 h4 h5 h6 h7 h8 h9 h10 h11
  funext k
  by_cases hx : x = 467
  · subst hx
    by_cases hk : k = 0
    · subst hk
      rw [up2_s]
    · rw [up2_k hk, h0, up2_k hk]
  · rw [e4 x k hx, h0, e2 x k hx]
theorem printMm_467 {M2 M4 : Nat → Nat → Int} {v u ch : Int} {j T : Nat} (h : printMm (up2 M2 467 0 v) M4 j T u ch) : printMm M2 (up2 M4 467 0 (M2 467 0)) j T u ch := by
  have e2 : ∀ x k, x ≠ 467 → (up2 M2 467 0 v) x k = M2 x k := fun x k hx => up2_c hx
  have e4 : ∀ x k, x ≠ 467 → (up2 M4 467 0 (M2 467 0)) x k = M4 x k := fun x k hx => up2_c hx
  unfold printMm at *
  simp only [e2 447 _ (by decide), e2 451 _ (by decide), e2 452 _ (by decide), e2 455 _ (by decide), e2 457 _ (by decide), e2 458 _ (by decide), e2 459 _ (by decide)] at h
  simp only [e4 447 _ (by decide), e4 451 _ (by decide), e4 452 _ (by decide), e4 457 _ (by decide), e4 458 _ (by decide)]
  refine ⟨fun x h1 h2 h3 h4 h5 h6 h7 => ?_, h.2⟩
  have h0 := h.1 x h1 h2 h3 h4 h5 h6 h7
  funext k
  by_cases hx : x = 467
  · subst hx
    by_cases hk : k = 0
    · subst hk
      rw [up2_s]
    · rw [up2_k hk, h0, up2_k hk]
  · rw [e4 x k hx, h0, e2 x k hx]
theorem Inv_mS {M3 M4 : Nat → Nat → Int} {c : Nat} (h : Inv M n T) (h3 : ∀ x, ¬ scrF x → x ≠ 467 → M3 x = M x) (hm : mS M3 M4 c) : Inv M4 n T := by
  obtain ⟨m1, m2, m3⟩ := hm
  refine Inv_congr h (fun x hx => ?_) (fun k k1 k2 => ?_) (wOK_congr h.2.2.2.2.2.2.2.2.2 (fun x _ _ => ?_))
  · unfold core at hx
    rw [m1 x (by omega) (by omega) (by omega) (by omega) (by omega) (by omega), h3 x (by unfold scrF; omega) (by omega)]
  · rw [m2 k k1 k2, h3 447 (by unfold scrF; omega) (by omega)]
  · rw [m1 x (by omega) (by omega) (by omega) (by omega) (by omega) (by omega), h3 x (by unfold scrF; omega) (by omega)]
theorem lc_recipe (hl9 : l.stackTraces = false) (h : Inv M n T) (hi : i + 5 < L) (hL : L ≤ 3072) (hc : ca + 3 ≤ 601024) (hs : sl + 18 ≤ 7293034) (K : NX l D cy b L xs i ca sl) : J l D cy (GL l D cy b L xs) 368 [some (.inr (.inr (some 1000000))), some (.inr (.inr (some 0))), some (.inr (.inr (some 447))), some (.inr (.inr (some 467))), some (.inl (i : Int)), w5, w6] [] (N0, R0, M) ca sl := by
  have hz1 := i32_r (xs (i + 1))
  have hz2 := i32_r (xs (i + 2))
  generalize e1 : (xs (i + 1)).toInt = z1 at hz1
  generalize e2 : (xs (i + 2)).toInt = z2 at hz2
  obtain ⟨⟨⟨n1, n2, n3⟩, ⟨t1, t2, t3⟩, -⟩, -, -, -, -, h6, -⟩ := id h
  have hv : cRec (n : Int) z1 z2 (M (367 + 5 * z1.toNat) 5) (findF M z1.toNat T 0) = 0 → r32 (tellS (findF M z1.toNat T) z2) := fun q => by
    obtain ⟨q1, q2, q3, q4⟩ := cRec_0 q
    exact tell_b h (by omega) q2 q4
  refine hw_recipe (dW := 9) (dM := 6) (code := cRec (n : Int) z1 z2 (M (367 + 5 * z1.toNat) 5) (findF M z1.toNat T 0)) e1 e2 hi hL hc hs (by decide) (by decide) cRec_le (ow_recipe 0 z1 z2 (val := tellS (findF M z1.toNat T) z2) (P := fun M2 => ∀ x, ¬ scrF x → M2 x = M x) cRec_le hv (ok_recipe hl9 0 n T z1 z2 hz1 hz2 n1 n3 h.hst (fun i hi => (h.kk i hi).1))) (fun M3 hQ => ?_) K
  obtain ⟨M2, hP, hM3⟩ := hQ
  have h3 : ∀ x, ¬ scrF x → x ≠ 467 → M3 x = M x := fun x h1 hx => by
    rw [hM3]
    split
    · funext k; rw [up2_c hx, hP x h1]
    · exact hP x h1
  have h3b : ∀ x, 447 ≤ x → x ≠ 467 → M3 x = M x := fun x h1 hx => h3 x (by unfold scrF; omega) hx
  have e457 := h3b 457 (by omega) (by omega)
  have e447 := h3b 447 (by omega) (by omega)
  refine Ok.post (om_recipe (s := fun j => st0 M (M (367 + 5 * j) 4)) 0 n T z1 z2 hz1 hz2 (by rw [e447]; exact n2) n3 (h.mst e457) (h.all (fun x h1 h2 => h3b x (by omega) (by omega)) (by rw [e447])) (fun j => ⟨rfl, rfl⟩)) (fun o ν ho => ?_)
  have ho2 : o = .inl (some (.inl (if cRec (n : Int) z1 z2 (M3 457 z1.toNat) (findF M z1.toNat T 0) = 0 then tellS (findF M z1.toNat T) z2 else 0))) ∧ ∃ M4 : Nat → Nat → Int, ν = (N0, R0, M4) ∧ mS M3 M4 (cRec (n : Int) z1 z2 (M3 457 z1.toNat) (findF M z1.toNat T 0)) := ho
  have cc : cRec (n : Int) z1 z2 (M3 457 z1.toNat) (findF M z1.toNat T 0) = cRec (n : Int) z1 z2 (M (367 + 5 * z1.toNat) 5) (findF M z1.toNat T 0) := cRec_congr (fun q => by rw [e457]; exact ((h6 z1.toNat (by omega)).1).symm)
  rw [cc] at ho2
  obtain ⟨rfl, M4, rfl, hm⟩ := ho2
  refine ⟨_, M4, n, T, rfl, rfl, hm.2.2, fun q => ⟨?_, ?_⟩, Inv_mS h h3 hm⟩
  · rw [if_pos q, hm.1 467 (by decide) (by decide) (by decide) (by decide) (by decide) (by decide), hM3, if_pos q, up2_s]
  · rw [if_pos q]
    exact hv q
theorem lc_mix (hl9 : l.stackTraces = false) (h : Inv M n T) (hi : i + 5 < L) (hL : L ≤ 3072) (hc : ca + 3 ≤ 601024) (hs : sl + 18 ≤ 7293034) (K : NX l D cy b L xs i ca sl) : J l D cy (GL l D cy b L xs) 436 [some (.inr (.inr (some 1000000))), some (.inr (.inr (some 0))), some (.inr (.inr (some 447))), some (.inr (.inr (some 467))), some (.inl (i : Int)), w5, w6] [] (N0, R0, M) ca sl := by
  have hz1 := i32_r (xs (i + 1))
  generalize e1 : (xs (i + 1)).toInt = z1 at hz1
  obtain ⟨⟨⟨n1, n2, n3⟩, ⟨t1, t2, t3⟩, -⟩, -, -, -, -, h6, -⟩ := id h
  have hv : cMix (n : Int) z1 (M (367 + 5 * z1.toNat) 5) (nMix M n : Int) (findF M z1.toNat T 0) = 0 → r32 (findF M z1.toNat T 4) := fun q => by
    obtain ⟨q1, q2, q3, q4⟩ := cMix_0 q
    have := h.find (j := z1.toNat) (by omega) q4
    exact r32_of (by omega)
  refine hw_mix (dW := 9) (dM := 6) (code := cMix (n : Int) z1 (M (367 + 5 * z1.toNat) 5) (nMix M n : Int) (findF M z1.toNat T 0)) e1 hi hL hc hs (by decide) (by decide) (Nat.le_trans cMix_le (by decide)) (ow_mix 0 z1 (val := findF M z1.toNat T 4) (P := fun M2 => (cMix (n : Int) z1 (M (367 + 5 * z1.toNat) 5) (nMix M n : Int) (findF M z1.toNat T 0) ≠ 0 → ∀ x, ¬ scrF x → M2 x = M x) ∧ (cMix (n : Int) z1 (M (367 + 5 * z1.toNat) 5) (nMix M n : Int) (findF M z1.toNat T 0) = 0 → mixM M M2 (findF M z1.toNat T) z1.toNat)) cMix_le hv (ok_mix hl9 0 n T z1 hz1 n1 n3 h.hst h.kk (fun i hi q => (h6 i (by omega)).2.2.2.2.2.1 (by rw [← (h6 i (by omega)).1]; exact q)))) (fun M3 hQ => ?_) K
  obtain ⟨M2, ⟨hP1, hP2⟩, hM3⟩ := hQ
  have h3b : ∀ x, 447 ≤ x → x ≠ 467 → M3 x = M x := fun x h1 hx => by
    have h2 : M2 x = M x := by
      by_cases hc0 : cMix (n : Int) z1 (M (367 + 5 * z1.toNat) 5) (nMix M n : Int) (findF M z1.toNat T 0) = 0
      · obtain ⟨q1, q2, q3, q4⟩ := cMix_0 hc0
        have hf := h.find (j := z1.toNat) (by omega) q4
        exact (hP2 hc0).1 x (by unfold scrF; omega) (by omega) (by omega) (by omega) (by omega) (by omega) (by omega) (by omega) (fun _ => by omega)
      · exact hP1 hc0 x (by unfold scrF; omega)
    rw [hM3]
    split
    · funext k; rw [up2_c hx, h2]
    · exact h2
  have e457 := h3b 457 (by omega) (by omega)
  have e447 := h3b 447 (by omega) (by omega)
  refine Ok.post (om_mix (s := fun j => st0 M (M (367 + 5 * j) 4)) 0 n T z1 hz1 (by rw [e447]; exact n2) n3 (h.mst e457) (h.all (fun x h1 h2 => h3b x (by omega) (by omega)) (by rw [e447])) (fun j => ⟨rfl, rfl⟩)) (fun o ν ho => ?_)
  have ho2 : o = .inl (some (.inl (if cMix (n : Int) z1 (M3 457 z1.toNat) (nMixm M3 n : Int) (findF M z1.toNat T 0) = 0 then findF M z1.toNat T 4 else 0))) ∧ ∃ M4 : Nat → Nat → Int, ν = (N0, R0, M4) ∧ (cMix (n : Int) z1 (M3 457 z1.toNat) (nMixm M3 n : Int) (findF M z1.toNat T 0) ≠ 0 → mS M3 M4 (cMix (n : Int) z1 (M3 457 z1.toNat) (nMixm M3 n : Int) (findF M z1.toNat T 0))) ∧ (cMix (n : Int) z1 (M3 457 z1.toNat) (nMixm M3 n : Int) (findF M z1.toNat T 0) = 0 → mixMm M3 M4 (fun b => M (3 + b)) (fun t => M (11 + 2 * t)) (M (367 + 5 * z1.toNat) 3 / 10) (findF M z1.toNat T) z1.toNat) := ho
  have cc : cMix (n : Int) z1 (M3 457 z1.toNat) (nMixm M3 n : Int) (findF M z1.toNat T 0) = cMix (n : Int) z1 (M (367 + 5 * z1.toNat) 5) (nMix M n : Int) (findF M z1.toNat T 0) := by
    rw [nMixm_congr e457, ← nMix_m h6 n n3]
    exact cMix_congr (fun q => by rw [e457]; exact ((h6 z1.toNat (by omega)).1).symm)
  rw [cc] at ho2
  obtain ⟨rfl, M4, rfl, hm1, hm2⟩ := ho2
  by_cases hc0 : cMix (n : Int) z1 (M (367 + 5 * z1.toNat) 5) (nMix M n : Int) (findF M z1.toNat T 0) = 0
  · have hm := hm2 hc0
    have hcl := hP2 hc0
    obtain ⟨q1, q2, q3, q4⟩ := cMix_0 hc0
    rw [if_pos hc0] at hM3 ⊢
    subst hM3
    refine ⟨_, M4, n, T, rfl, rfl, ?_, fun q => ⟨?_, hv q⟩, ?_⟩
    · rw [hm.2.2.1, hc0]
      rfl
    · rw [hm.1 467 (by decide) (by decide) (by decide) (by decide) (by decide) (by decide) (by decide) (by decide) (by decide) (by decide) (by decide), up2_s]
    · refine Inv_467 (inv_mix h (j := z1.toNat) (by omega) ?_ ?_ q4 (h.good z1.toNat) hcl (mixMm_467 hm)) (fun x hx => by funext k; exact (up2_c hx).symm)
      · rw [← (h6 z1.toNat (by omega)).1]
        exact q2
      · rw [nMix_m h6 n n3] at q3
        omega
  · have hm := hm1 hc0
    have hcl := hP1 hc0
    rw [if_neg hc0] at hM3 ⊢
    subst hM3
    exact ⟨_, M4, n, T, rfl, rfl, hm.2.2, fun q => absurd q hc0, Inv_mS h (fun x h1 _ => hcl x h1) hm⟩
theorem lc_print (hl9 : l.stackTraces = false) (h : Inv M n T) (hi : i + 5 < L) (hL : L ≤ 3072) (hc : ca + 3 ≤ 601024) (hs : sl + 18 ≤ 7293034) (K : NX l D cy b L xs i ca sl) : J l D cy (GL l D cy b L xs) 492 [some (.inr (.inr (some 1000000))), some (.inr (.inr (some 0))), some (.inr (.inr (some 447))), some (.inr (.inr (some 467))), some (.inl (i : Int)), w5, w6] [] (N0, R0, M) ca sl := by
  have hz1 := i32_r (xs (i + 1))
  have hz2 := i32_r (xs (i + 2))
  have hz3 := i32_r (xs (i + 3))
  generalize e1 : (xs (i + 1)).toInt = z1 at hz1
  generalize e2 : (xs (i + 2)).toInt = z2 at hz2
  generalize e3 : (xs (i + 3)).toInt = z3 at hz3
  obtain ⟨⟨⟨n1, n2, n3⟩, ⟨t1, t2, t3⟩, -, -, ⟨w1, w2, w3⟩⟩, -, -, -, h5, h6, -⟩ := id h
  have hch : (if z3 = 0 then 0 else 1 : Int) = 0 ∨ (if z3 = 0 then 0 else 1 : Int) = 1 := by
    split
    · exact Or.inl rfl
    · exact Or.inr rfl
  have hv : cPrint (n : Int) z1 z2 (M (367 + 5 * z1.toNat) 3) (M (367 + 5 * z1.toNat) 5) (T : Int) = 0 → r32 (if z2 < M (367 + 5 * z1.toNat) 3 then (T : Int) else -1) := fun q => by
    split <;> exact r32_of (by omega)
  have hI9 : ∀ i, i < n → M 457 i = 1 → ink4 (M (371 + 5 * i)) ∧ ∀ b, b < 4 → M (371 + 5 * i) b = M 459 (4 * i + b) := fun i hi q => by
    obtain ⟨k1, k2, k3⟩ := (h6 i (by omega)).2.2.2.2.2.2 q
    exact ⟨k2, k1⟩
  refine hw_print (dW := 9) (dM := 4) (code := cPrint (n : Int) z1 z2 (M (367 + 5 * z1.toNat) 3) (M (367 + 5 * z1.toNat) 5) (T : Int)) e1 e2 e3 hz3 hi hL hc hs (by decide) (by decide) cPrint_le (ow_print 0 z1 z2 (if z3 = 0 then 0 else 1) (val := if z2 < M (367 + 5 * z1.toNat) 3 then (T : Int) else -1) (P := fun M2 => (cPrint (n : Int) z1 z2 (M (367 + 5 * z1.toNat) 3) (M (367 + 5 * z1.toNat) 5) (T : Int) ≠ 0 → M2 = M) ∧ (cPrint (n : Int) z1 z2 (M (367 + 5 * z1.toNat) 3) (M (367 + 5 * z1.toNat) 5) (T : Int) = 0 → printM M M2 z1.toNat T z2 (if z3 = 0 then 0 else 1))) cPrint_le hv (ok_print hl9 0 n T z1 z2 (if z3 = 0 then 0 else 1) hz1 hz2 hch n1 n3 t1 t3 h.hst (fun i hi => by have := h5 i hi; omega) (fun i hi q => (hI9 i hi (by rw [← (h6 i (by omega)).1]; exact q)).1) (by omega))) (fun M3 hQ => ?_) K
  obtain ⟨M2, ⟨hP1, hP2⟩, hM3⟩ := hQ
  have h3b : ∀ x, 447 ≤ x → x ≠ 467 → M3 x = M x := fun x h1 hx => by
    have h2 : M2 x = M x := by
      by_cases hc0 : cPrint (n : Int) z1 z2 (M (367 + 5 * z1.toNat) 3) (M (367 + 5 * z1.toNat) 5) (T : Int) = 0
      · obtain ⟨q1, q2, q3, q4⟩ := cPrint_0 hc0
        exact (hP2 hc0).1 x (by omega) (by omega) (by omega) (by omega) (by omega) (by omega) (by omega) (fun _ => by omega)
      · rw [hP1 hc0]
    rw [hM3]
    split
    · funext k; rw [up2_c hx, h2]
    · exact h2
  have e457 := h3b 457 (by omega) (by omega)
  have e455 := h3b 455 (by omega) (by omega)
  have e459 := h3b 459 (by omega) (by omega)
  have e447 := h3b 447 (by omega) (by omega)
  refine Ok.post (om_print 0 n T z1 z2 (if z3 = 0 then 0 else 1) hz1 hz2 hch (by rw [e447]; exact n2) n3 (by rw [e447]; exact t2) t3 (h.mst e457) (fun i hi => by rw [e455]; have := h5 i hi; omega) (fun i hi q => by
    rw [e457] at q
    obtain ⟨k1, k2⟩ := hI9 i hi q
    simp only [ink4, wt, e459, ← k2 0 (by omega), ← k2 1 (by omega), ← k2 2 (by omega), ← k2 3 (by omega)]
    exact k1) (by rw [e447]; exact ⟨w2, w3⟩)) (fun o ν ho => ?_)
  have cc : cPrint (n : Int) z1 z2 (M3 455 z1.toNat) (M3 457 z1.toNat) (T : Int) = cPrint (n : Int) z1 z2 (M (367 + 5 * z1.toNat) 3) (M (367 + 5 * z1.toNat) 5) (T : Int) := cPrint_congr (fun q => by
    rw [e455, e457]
    exact ⟨((h5 z1.toNat (by omega)).2.2.1).symm, ((h6 z1.toNat (by omega)).1).symm⟩)
  rw [cc] at ho
  obtain ⟨rfl, M4, rfl, hm1, hm2⟩ := ho
  by_cases hc0 : cPrint (n : Int) z1 z2 (M (367 + 5 * z1.toNat) 3) (M (367 + 5 * z1.toNat) 5) (T : Int) = 0
  · have hm := hm2 hc0
    have hcl := hP2 hc0
    obtain ⟨q1, q2, q3, q4⟩ := cPrint_0 hc0
    have e3z := (h5 z1.toNat (by omega)).2.2.1
    rw [if_pos hc0, e455, ← e3z]
    rw [if_pos hc0] at hM3
    subst hM3
    refine ⟨_, M4, n, (if z2 < M 455 z1.toNat then T + 1 else T), rfl, rfl, ?_, fun q => ⟨?_, hv q⟩, ?_⟩
    · rw [hm.2.2.1, hc0]
      rfl
    · rw [hm.1 467 (by decide) (by decide) (by decide) (by decide) (by decide) (by decide) (by decide), up2_s]
    · refine Inv_467 (inv_print h (j := z1.toNat) (by omega) (by omega) ?_ (fun q => ?_) hch hcl (printMm_467 hm)) (fun x hx => by funext k; exact (up2_c hx).symm)
      · rw [← (h6 z1.toNat (by omega)).1]
        exact q3
      · have := q4 (by omega)
        omega
  · have hm := hm1 hc0
    have hcl := hP1 hc0
    rw [if_neg hc0] at hM3 ⊢
    subst hM3 hcl
    exact ⟨_, M4, n, T, rfl, rfl, hm.2.2, fun q => absurd q hc0, Inv_mS h (fun x _ _ => rfl) hm⟩
end LB4
