/-! printing keeps what stays true -/
theorem cnt2_up {M M' : Nat → Nat → Int} {j : Nat} (h1 : M' 457 j = 2) (h2 : M 457 j ≠ 2) (h3 : ∀ i, i ≠ j → M' 457 i = M 457 i) : ∀ k, cnt2 M' k = cnt2 M k + if j < k then 1 else 0
  | 0 => by simp [cnt2]
  | k + 1 => by
    rw [cnt2, cnt2, cnt2_up h1 h2 h3 k]
    rcases (show k = j ∨ k ≠ j by omega) with e | e
    · subst e
      rw [if_pos h1, if_neg h2, if_neg (by omega), if_pos (by omega)]
    · rw [h3 k e]
      rcases (show j < k ∨ ¬ j < k by omega) with q | q
      · simp only [q, show j < k + 1 by omega, if_true]
        omega
      · simp only [q, show ¬ j < k + 1 by omega, if_false]
        omega
theorem nMixm_down {M M' : Nat → Nat → Int} (h : ∀ i, M' 457 i = 1 → M 457 i = 1) : ∀ k, nMixm M' k ≤ nMixm M k
  | 0 => Nat.le_refl 0
  | k + 1 => by
    have := nMixm_down h k
    rw [nMixm, nMixm]
    split
    · rename_i q
      rw [if_pos (h k q)]
      omega
    · split <;> omega
theorem inv_print {M M1 M2 : Nat → Nat → Int} {n T j : Nat} {u ch : Int} (h : Inv M n T) (hj : j < n) (hu : 1 ≤ u ∧ u ≤ M 455 j) (hs : M 457 j = 1) (hT9 : u < M 455 j → T < 30) (hch : ch = 0 ∨ ch = 1) (hc : printM M M1 j T u ch) (hm : printMm M1 M2 j T u ch) : Inv M2 n (if u < M 455 j then T + 1 else T) := by
  obtain ⟨a1, a2, a3, a4, a5, a6, a7, a8, a9, a10⟩ := h
  obtain ⟨c1, c2, c3, c4, c5, c6, c7⟩ := hc
  obtain ⟨m1, m2, m3, m4, m5, m6, m7, m8, m9, m10, m11, m12⟩ := hm
  obtain ⟨⟨n1, n2, n3⟩, ⟨t1, t2, t3⟩, ⟨d1, d2, d3⟩, ⟨e1, e2⟩, w1, w2, w3⟩ := id a1
  obtain ⟨-, -, g1, g2, g3, -, -, -⟩ := a5 j hj
  have s6 := a6 j (by omega)
  obtain ⟨k1, k2, k3⟩ := s6.2.2.2.2.2.2 hs
  have hlv : (u < M (367 + 5 * j) 3) = (u < M 455 j) := by rw [g1]
  rw [hlv] at c1 c3
  have E1 : ∀ x, 447 ≤ x → M1 x = M x := fun x hx => c1 x (by omega) (by omega) (by omega) (by omega) (by omega) (by omega) (by omega) (fun _ => ⟨by omega, by have := t3; omega⟩)
  have L : ∀ x, x < 447 → M2 x = M1 x := fun x hx => m1 x (by omega) (by omega) (by omega) (by omega) (by omega) (by omega) (by omega)
  have q : ∀ x, x < 447 → x ≠ 77 → x ≠ 78 → x ≠ 371 + 5 * j → x ≠ 72 → x ≠ 74 → x ≠ 75 → x ≠ 367 + 5 * j → x ≠ 1 → (u < M 455 j → x ≠ 11 + 2 * T) → M2 x = M x := fun x h0 h1 h2 h3 h4 h5 h6 h7 h8 h9 => by rw [L x h0, c1 x h1 h2 h3 h4 h5 h6 h7 (fun z => ⟨h8, h9 z⟩)]
  have q2 : ∀ x, 448 ≤ x → x ≠ 451 → x ≠ 452 → x ≠ 457 → x ≠ 458 → x ≠ 461 → x ≠ 462 → M2 x = M x := fun x h0 h1 h2 h3 h4 h5 h6 => by rw [m1 x (by omega) h1 h2 h3 h4 h5 h6, E1 x (by omega)]
  have Q : ∀ x, ((x < 77 ∨ x = 85 ∨ (89 ≤ x ∧ x < 447)) ∧ x ≠ 371 + 5 * j ∧ x ≠ 72 ∧ x ≠ 74 ∧ x ≠ 75 ∧ x ≠ 367 + 5 * j ∧ x ≠ 1 ∧ x ≠ 11 + 2 * T) → M2 x = M x := fun x hx => q x (by omega) (by omega) (by omega) hx.2.1 hx.2.2.1 hx.2.2.2.1 hx.2.2.2.2.1 hx.2.2.2.2.2.1 hx.2.2.2.2.2.2.1 (fun _ => hx.2.2.2.2.2.2.2)
  rw [E1 455 (by omega)] at m4 m8
  rw [E1 459 (by omega)] at m7 m8
  rw [E1 451 (by omega)] at m7
  rw [E1 452 (by omega)] at m8
  rw [E1 447 (by omega)] at m2 m6 m11
  rw [E1 457 (by omega)] at m10
  rw [E1 458 (by omega)] at m12
  have hG : 0 ≤ u * 1000 ∧ u * 1000 ≤ wt (M (371 + 5 * j)) := by omega
  have tkb := take_bd k2 hG.1 hG.2
  have tks := take_sum k2 hG.1
  have tkc : ∀ b, b < 4 → takeF (fun b => M 459 (4 * j + b)) (u * 1000) b = takeF (M (371 + 5 * j)) (u * 1000) b := takeF_congr (fun b hb => (k1 b hb).symm)
  have hcnt : cnt2 M2 16 = cnt2 M 16 + 1 := by
    rw [cnt2_up m9 (by omega) m10 16, if_pos (by omega)]
  obtain ⟨i1, i2, i3, i4, i5⟩ := id k2
  have inkb : ∀ b, b < 4 → 0 ≤ M (371 + 5 * j) b ∧ M (371 + 5 * j) b ≤ 500000 := by
    intro b hb
    rcases (show b = 0 ∨ b = 1 ∨ b = 2 ∨ b = 3 by omega) with rfl | rfl | rfl | rfl
    · exact i1
    · exact i2
    · exact i3
    · exact i4
  have w17 : 0 ≤ wearF (M 447 17) u ∧ wearF (M 447 17) u ≤ 9 := by
    unfold wearF
    split <;> omega
  refine ⟨⟨⟨?_, ?_, n3⟩, ⟨?_, ?_, ?_⟩, ⟨?_, ?_, ?_⟩, ⟨?_, ?_⟩, ?_, ?_, ?_⟩, I2_congr (fun b hb => Q _ (by omega)) (q2 _ (by omega) (by omega) (by omega) (by omega) (by omega) (by omega) (by omega)) (Q _ (by omega)) a2, fun b hb => ?_, fun t ht => ?_, ?_, fun i hi => ?_, fun i hi => ?_, Or.inr ⟨?_, ?_, ?_, fun p hp => ?_⟩, ?_, wOK_congr a10 (fun x _ _ => Q x (by omega))⟩
  · rw [Q 0 (by omega)]; exact n1
  · rw [m2 7 (by decide) (by decide) (by decide) (by decide)]; exact n2
  · split
    · rename_i z
      rw [L 1 (by omega), (c3 z).1]
      omega
    · rename_i z
      rw [L 1 (by omega), c1 1 (by omega) (by omega) (by omega) (by omega) (by omega) (by omega) (by omega) (fun y => absurd y z)]
      exact t1
  · rw [m4]
    split <;> omega
  · split
    · rename_i z
      have := hT9 z
      omega
    · exact t3
  · rw [Q 0 (by omega), m2 0 (by decide) (by decide) (by decide) (by decide)]; exact d1
  · rw [m2 0 (by decide) (by decide) (by decide) (by decide)]; exact d2
  · rw [m2 0 (by decide) (by decide) (by decide) (by decide)]; exact d3
  · rw [Q 0 (by omega), m2 15 (by decide) (by decide) (by decide) (by decide)]; exact e1
  · rw [m2 15 (by decide) (by decide) (by decide) (by decide)]; exact e2
  · rw [L 74 (by omega), c6, m6, w1]
  · rw [m6]; exact w17.1
  · rw [m6]; exact w17.2
  · have hb3 := a3 b hb
    have tb := tkb b hb
    have ib := inkb b hb
    rw [hcnt, Q 70 (by omega), Q 8 (by omega), L 72 (by omega), c2 b hb, q2 449 (by omega) (by omega) (by omega) (by omega) (by omega) (by omega) (by omega), q2 450 (by omega) (by omega) (by omega) (by omega) (by omega) (by omega) (by omega), m7 b hb, tkc b hb]
    omega
  · have ht' : t < T ∨ (t = T ∧ u < M 455 j) := by
      split at ht
      · rename_i z
        rcases (show t < T ∨ t = T by omega) with y | y
        · exact Or.inl y
        · exact Or.inr ⟨y, z⟩
      · exact Or.inl ht
    rcases ht' with y | ⟨y, z⟩
    · have h4 := a4 t y
      rw [Q (11 + 2 * t) (by omega)]
      refine ⟨fun b hb => ?_, h4.2⟩
      rw [m8, if_neg (by omega)]
      exact h4.1 b hb
    · subst y
      have v : ∀ b, b < 4 → M2 (11 + 2 * t) b = M (371 + 5 * j) b - takeF (M (371 + 5 * j)) (u * 1000) b := fun b hb => by rw [L _ (by omega), (c3 z).2 b hb]
      refine ⟨fun b hb => ?_, ?_, ?_⟩
      · rw [v b hb, m8, if_pos ⟨z, by omega, by omega⟩, show 4 * t + b - 4 * t = b by omega, tkc b hb, ← k1 b hb]
      · have v0 := v 0 (by omega)
        have v1 := v 1 (by omega)
        have v2 := v 2 (by omega)
        have v3 := v 3 (by omega)
        have b0 := tkb 0 (by omega)
        have b1 := tkb 1 (by omega)
        have b2 := tkb 2 (by omega)
        have b3 := tkb 3 (by omega)
        simp only [tin4]
        omega
      · have v0 := v 0 (by omega)
        have v1 := v 1 (by omega)
        have v2 := v 2 (by omega)
        have v3 := v 3 (by omega)
        simp only [wt] at tks k3 ⊢
        rw [v0, v1, v2, v3]
        omega
  · refine I5_congr (fun i hi => ?_) (fun i hi => Q _ (by omega)) (q2 _ (by omega) (by omega) (by omega) (by omega) (by omega) (by omega) (by omega)) (q2 _ (by omega) (by omega) (by omega) (by omega) (by omega) (by omega) (by omega)) (q2 _ (by omega) (by omega) (by omega) (by omega) (by omega) (by omega) (by omega)) a5
    rcases (show i = j ∨ i ≠ j by omega) with y | y
    · subst y
      rw [L _ (by omega), c7, c7]
      simp
    · rw [Q _ (by omega)]
      exact ⟨rfl, rfl⟩
  · have h6 := a6 i hi
    rcases (show i = j ∨ i ≠ j by omega) with y | y
    · subst y
      rw [L (367 + 5 * i) (by omega), c7, m9, Q (369 + 5 * i) (by omega), q2 454 (by omega) (by omega) (by omega) (by omega) (by omega) (by omega) (by omega)]
      exact ⟨by simp, by omega, fun z => by omega, h6.2.2.2.1, h6.2.2.2.2.1, fun z => by omega, fun z => by omega⟩
    · rw [Q (367 + 5 * i) (by omega), m10 i y, Q (369 + 5 * i) (by omega), Q (371 + 5 * i) (by omega), q2 454 (by omega) (by omega) (by omega) (by omega) (by omega) (by omega) (by omega), q2 459 (by omega) (by omega) (by omega) (by omega) (by omega) (by omega) (by omega), q2 455 (by omega) (by omega) (by omega) (by omega) (by omega) (by omega) (by omega)]
      exact h6
  · have h7 := a7 i hi
    rw [m2 0 (by decide) (by decide) (by decide) (by decide)]
    rcases (show i = j ∨ i ≠ j by omega) with y | y
    · subst y
      rw [L (367 + 5 * i) (by omega), c7, c7, m11]
      simp only [show ((6 : Nat) = 5) = False by decide, show ((7 : Nat) = 5) = False by decide, show ((7 : Nat) = 6) = False by decide, if_false, if_true]
      rw [d1]
      rcases hch with z | z
      · subst z
        simp
        omega
      · subst z
        simp
        omega
    · rw [Q (367 + 5 * i) (by omega), m12 i y]
      exact h7
  · rw [m5]
    omega
  · rw [L 74 (by omega)]
    exact c5
  · rw [m5, Int.toNat_natCast]
    exact m9
  · rw [m5, Int.toNat_natCast, L 75 (by omega), c4 p hp, q2 454 (by omega) (by omega) (by omega) (by omega) (by omega) (by omega) (by omega)]
    exact s6.2.2.2.1 p hp
  · refine Nat.le_trans (nMixm_down (fun i hi => ?_) n) a9
    rcases (show i = j ∨ i ≠ j by omega) with y | y
    · rw [y]
      exact hs
    · rw [← m10 i y]
      exact hi
