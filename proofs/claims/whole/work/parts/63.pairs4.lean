/-! mixing keeps what stays true -/
theorem cnt2_eq {M M' : Nat → Nat → Int} (h : ∀ i, (M' 457 i = 2) = (M 457 i = 2)) : ∀ k, cnt2 M' k = cnt2 M k
  | 0 => rfl
  | k + 1 => by
    rw [cnt2, cnt2, cnt2_eq h k]
    simp only [h k]
theorem nMixm_up {M M' : Nat → Nat → Int} {j : Nat} (h : ∀ i, i ≠ j → M' 457 i = M 457 i) : ∀ k, nMixm M' k ≤ nMixm M k + 1
  | 0 => by simp [nMixm]
  | k + 1 => by
    have ih := nMixm_up h k
    rcases (show k = j ∨ k ≠ j by omega) with e | e
    · have e2 : nMixm M' k = nMixm M k := by
        have : ∀ m, m ≤ j → nMixm M' m = nMixm M m := by
          intro m
          induction m with
          | zero => intro _; rfl
          | succ m ihm => intro hm; rw [nMixm, nMixm, ihm (by omega), h m (by omega)]
        exact this k (by omega)
      rw [nMixm, nMixm, e2]
      split <;> split <;> omega
    · rw [nMixm, nMixm, h k e]
      split <;> omega
theorem inv_mix {M M1 M2 : Nat → Nat → Int} {n T j : Nat} {s : Nat → Int} (h : Inv M n T) (hj : j < n) (hst : M 457 j = 0) (hnm : nMixm M n < 8) (hs : s 0 = 1) (hg : goodS (fun b => M 8 b / (M (367 + 5 * j) 3 / 10 * 1000)) (M (367 + 5 * j) 3 / 10) (M (367 + 5 * j) 4) (fun t => M (11 + 2 * t)) T s) (hc : mixM M M1 s j) (hm : mixMm M1 M2 (fun b => M (3 + b)) (fun t => M (11 + 2 * t)) (M (367 + 5 * j) 3 / 10) s j) : Inv M2 n T := by
  obtain ⟨a1, a2, a3, a4, a5, a6, a7, a8, a9, a10⟩ := h
  obtain ⟨c1, c2, c3, c4, c5⟩ := hc
  obtain ⟨m1, m2, m3, m4, m5, m6, m7, m8, m9, m10, m11, m12⟩ := hm
  obtain ⟨⟨n1, n2, n3⟩, ⟨t1, t2, t3⟩, ⟨d1, d2, d3⟩, ⟨e1, e2⟩, w1, w2, w3⟩ := id a1
  obtain ⟨-, -, g1, g2, g3, -, -, -⟩ := a5 j hj
  have s6 := a6 j (by omega)
  have hgr : 1 ≤ M (367 + 5 * j) 3 / 10 ∧ M (367 + 5 * j) 3 / 10 ≤ 50 := by omega
  obtain ⟨k1, k2, k3, k4, k5, k6, k7⟩ := inkI_ok hgr (fun t ht => (a4 t ht).2.1) hg hs
  have htin : ∀ (z : 0 ≤ s 3), (s 3).toNat < T := by
    intro z
    rcases k1 with ⟨y, -⟩ | ⟨t, tt, y1, -, -, y2, -⟩
    · omega
    · omega
  have etk : ∀ b, tkS M s j b = tkI (fun t => M (11 + 2 * t)) (M (367 + 5 * j) 3 / 10) s b := fun b => rfl
  have eink : inkS M s j = inkI (fun t => M (11 + 2 * t)) (M (367 + 5 * j) 3 / 10) s := rfl
  have ewp : ∀ p, wpart M (inkS M s j) p = wpC (fun b => M (3 + b)) (inkS M s j) p := fun p => rfl
  rw [← eink] at k3 k4 m6 m9
  have E1 : ∀ x, 447 ≤ x → M1 x = M x := fun x hx => c1 x (by unfold scrF; omega) (by omega) (by omega) (by omega) (by omega) (by omega) (by omega) (by omega) (fun z => by have := htin z; omega)
  have L : ∀ x, x < 447 → M2 x = M1 x := fun x hx => m1 x (by omega) (by omega) (by omega) (by omega) (by omega) (by omega) (by omega) (by omega) (by omega) (by omega) (by omega)
  have q : ∀ x, ((x < 77 ∨ x = 85 ∨ (89 ≤ x ∧ x < 447)) ∧ x ≠ 0 ∧ x ≠ 8 ∧ x ≠ 371 + 5 * j ∧ x ≠ 369 + 5 * j ∧ x ≠ 367 + 5 * j) → (0 ≤ s 3 → x ≠ 11 + 2 * (s 3).toNat) → M2 x = M x := fun x hx hz => by rw [L x (by omega), c1 x (by unfold scrF; omega) (by omega) (by omega) hx.2.1 hx.2.2.1 hx.2.2.2.1 hx.2.2.2.2.1 hx.2.2.2.2.2 hz]
  have Q : ∀ x, ((x < 11 ∨ (71 ≤ x ∧ x < 77) ∨ x = 70 ∨ x = 85 ∨ (89 ≤ x ∧ x < 447)) ∧ x ≠ 0 ∧ x ≠ 8 ∧ x ≠ 371 + 5 * j ∧ x ≠ 369 + 5 * j ∧ x ≠ 367 + 5 * j) → M2 x = M x := fun x hx => q x (by omega) (fun z => by have := htin z; omega)
  have q2 : ∀ x, 448 ≤ x → x ≠ 450 → x ≠ 452 → x ≠ 454 → x ≠ 457 → x ≠ 459 → x < 460 → M2 x = M x := fun x h0 h1 h2 h3 h4 h5 h6 => by rw [m1 x (by omega) h1 h2 h3 h4 h5 (by omega) (by omega) (by omega) (by omega) (by omega), E1 x (by omega)]
  rw [E1 447 (by omega)] at m2
  rw [E1 450 (by omega)] at m5
  rw [E1 459 (by omega)] at m7
  rw [E1 452 (by omega)] at m8
  rw [E1 454 (by omega)] at m10
  rw [E1 457 (by omega)] at m12
  have v450 : ∀ b, b < 4 → M2 8 b = M 8 b - s (5 + b) * (M (367 + 5 * j) 3 / 10 * 1000) := fun b hb => by rw [L 8 (by omega), (c2 b hb).1]
  have hwt : wt (inkS M s j) = 1000 * M 455 j := by omega
  have hcol : ∀ p, p < 3 → M2 (369 + 5 * j) p = wpart M (inkS M s j) p / wt (inkS M s j) := fun p hp => by rw [L _ (by omega), c3 p hp]
  have h2q : ∀ i, (M2 457 i = 2) = (M 457 i = 2) := by
    intro i
    rcases (show i = j ∨ i ≠ j by omega) with y | y
    · rw [y, m11, hst]
      exact propext ⟨fun z => by omega, fun z => by omega⟩
    · rw [m12 i y]
  refine ⟨⟨⟨?_, ?_, n3⟩, ⟨?_, ?_, t3⟩, ⟨?_, ?_, ?_⟩, ⟨?_, ?_⟩, ?_, ?_, ?_⟩, I2_congr (fun b hb => Q _ (by omega)) (q2 _ (by omega) (by omega) (by omega) (by omega) (by omega) (by omega) (by omega)) (Q _ (by omega)) a2, fun b hb => ?_, fun t ht => ?_, ?_, fun i hi => ?_, fun i hi => ?_, ?_, ?_, wOK_congr a10 (fun x _ _ => Q x (by omega))⟩
  · rw [L 0 (by omega), c5, if_neg (by decide)]; exact n1
  · rw [m2 7 (by decide) (by decide) (by decide)]; exact n2
  · rw [Q 1 (by omega)]; exact t1
  · rw [m2 5 (by decide) (by decide) (by decide)]; exact t2
  · rw [L 0 (by omega), c5, if_neg (by decide), m2 0 (by decide) (by decide) (by decide)]; exact d1
  · rw [m2 0 (by decide) (by decide) (by decide)]; exact d2
  · rw [m2 0 (by decide) (by decide) (by decide)]; exact d3
  · rw [L 0 (by omega), c5, if_pos rfl, m4]
  · rw [m4]; exact Or.inr rfl
  · rw [Q 74 (by omega), m2 17 (by decide) (by decide) (by decide)]; exact w1
  · rw [m2 17 (by decide) (by decide) (by decide)]; exact w2
  · rw [m2 17 (by decide) (by decide) (by decide)]; exact w3
  · have hb3 := a3 b hb
    have kb := k5 b hb
    rw [cnt2_eq h2q, Q 70 (by omega), v450 b hb, m5 b hb, Q 72 (by omega), q2 449 (by omega) (by omega) (by omega) (by omega) (by omega) (by omega) (by omega), q2 451 (by omega) (by omega) (by omega) (by omega) (by omega) (by omega) (by omega)]
    rw [hb3.2.1] at kb ⊢
    exact ⟨hb3.1, rfl, hb3.2.2.1, hb3.2.2.2.1, ⟨by omega, by omega⟩, hb3.2.2.2.2.2⟩
  · have h4 := a4 t ht
    rcases (show (0 ≤ s 3 ∧ t = (s 3).toNat) ∨ ¬ (0 ≤ s 3 ∧ t = (s 3).toNat) by omega) with ⟨z, y⟩ | y
    · have v : ∀ b, b < 4 → M2 (11 + 2 * t) b = M (11 + 2 * t) b - tkS M s j b := fun b hb => by rw [L _ (by omega), y, (c2 b hb).2.2 z]
      have kb : ∀ b, b < 4 → 0 ≤ tkS M s j b ∧ tkS M s j b ≤ M (11 + 2 * t) b := fun b hb => by
        have := k2 b hb
        rw [etk]
        refine ⟨this.1, ?_⟩
        have h9 := this.2 z
        rw [y]
        exact h9
      have v0 := v 0 (by omega)
      have v1 := v 1 (by omega)
      have v2 := v 2 (by omega)
      have v3 := v 3 (by omega)
      have b0 := kb 0 (by omega)
      have b1 := kb 1 (by omega)
      have b2 := kb 2 (by omega)
      have b3 := kb 3 (by omega)
      refine ⟨fun b hb => ?_, ?_, ?_⟩
      · rw [v b hb, m8, if_pos ⟨z, by omega, by omega⟩, show 4 * t + b - 4 * (s 3).toNat = b by omega, ← etk, h4.1 b hb]
      · obtain ⟨x0, x1, x2, x3⟩ := h4.2.1
        simp only [tin4]
        omega
      · have := h4.2.2
        simp only [wt] at this ⊢
        omega
    · rw [q (11 + 2 * t) (by omega) (fun z => by omega)]
      refine ⟨fun b hb => ?_, h4.2⟩
      rw [m8, if_neg (by omega), h4.1 b hb]
      omega
  · refine I5_congr (fun i hi => ?_) (fun i hi => Q _ (by omega)) (q2 _ (by omega) (by omega) (by omega) (by omega) (by omega) (by omega) (by omega)) (q2 _ (by omega) (by omega) (by omega) (by omega) (by omega) (by omega) (by omega)) (q2 _ (by omega) (by omega) (by omega) (by omega) (by omega) (by omega) (by omega)) a5
    rcases (show i = j ∨ i ≠ j by omega) with y | y
    · subst y
      rw [L _ (by omega), c4, c4]
      simp
    · rw [Q _ (by omega)]
      exact ⟨rfl, rfl⟩
  · have h6 := a6 i hi
    rcases (show i = j ∨ i ≠ j by omega) with y | y
    · subst y
      rw [L (367 + 5 * i) (by omega), c4, m11, q2 455 (by omega) (by omega) (by omega) (by omega) (by omega) (by omega) (by omega)]
      have v : ∀ b, b < 4 → M2 (371 + 5 * i) b = inkS M s i b := fun b hb => by rw [L _ (by omega), (c2 b hb).2.1]
      have v0 := v 0 (by omega)
      have v1 := v 1 (by omega)
      have v2 := v 2 (by omega)
      have v3 := v 3 (by omega)
      have ewt : wt (M2 (371 + 5 * i)) = wt (inkS M s i) := by simp only [wt, v0, v1, v2, v3]
      refine ⟨by simp, by omega, fun z => by omega, fun p hp => ?_, ?_, fun z => by omega, fun _ => ⟨fun b hb => ?_, ?_, by rw [ewt]; exact hwt⟩⟩
      · rw [hcol p hp, m9 p hp]
        rfl
      · have hb0 := avg_bd k3 (by omega) a2.2.1 (show 0 < 3 by omega)
        have hb1 := avg_bd k3 (by omega) a2.2.1 (show 1 < 3 by omega)
        have hb2 := avg_bd k3 (by omega) a2.2.1 (show 2 < 3 by omega)
        unfold col3
        rw [hcol 0 (by omega), hcol 1 (by omega), hcol 2 (by omega)]
        exact ⟨hb0, hb1, hb2⟩
      · rw [v b hb, m6 b hb]
      · obtain ⟨x0, x1, x2, x3⟩ := k3
        unfold ink4
        rw [ewt, v0, v1, v2, v3]
        exact ⟨x0, x1, x2, x3, by omega⟩
    · rw [Q (367 + 5 * i) (by omega), m12 i y, Q (369 + 5 * i) (by omega), Q (371 + 5 * i) (by omega), q2 455 (by omega) (by omega) (by omega) (by omega) (by omega) (by omega) (by omega)]
      refine ⟨h6.1, h6.2.1, h6.2.2.1, fun p hp => ?_, h6.2.2.2.2.1, h6.2.2.2.2.2.1, fun z => ⟨fun b hb => ?_, (h6.2.2.2.2.2.2 z).2⟩⟩
      · rw [m10 _ (by omega)]
        exact h6.2.2.2.1 p hp
      · rw [m7 _ (by omega)]
        exact (h6.2.2.2.2.2.2 z).1 b hb
  · have h7 := a7 i hi
    rw [m2 0 (by decide) (by decide) (by decide), q2 458 (by omega) (by omega) (by omega) (by omega) (by omega) (by omega) (by omega)]
    rcases (show i = j ∨ i ≠ j by omega) with y | y
    · subst y
      rw [L (367 + 5 * i) (by omega), c4, c4, if_neg (by decide), if_neg (by decide)]
      exact h7
    · rw [Q (367 + 5 * i) (by omega)]
      exact h7
  · unfold I8 at *
    rw [m2 16 (by decide) (by decide) (by decide), Q 74 (by omega), Q 75 (by omega)]
    rcases a8 with z | ⟨z1, z2, z3, z4⟩
    · exact Or.inl z
    · have hne : (M 447 16).toNat ≠ j := by
        intro y
        rw [y] at z3
        omega
      refine Or.inr ⟨z1, z2, ?_, fun p hp => ?_⟩
      · rw [m12 _ hne]
        exact z3
      · rw [m10 _ (by omega)]
        exact z4 p hp
  · have := nMixm_up m12 n
    omega
