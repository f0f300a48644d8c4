/-! THE LAW'S CASES: shade, where, chipGap -/
theorem sumTo_c {f g : Nat → Int} : ∀ T, (∀ t, t < T → f t = g t) → sumTo f T = sumTo g T
  | 0, _ => rfl
  | k + 1, h => by rw [sumTo, sumTo, sumTo_c k (fun t ht => h t (by omega)), h k (by omega)]
theorem sumTo_b {f : Nat → Int} : ∀ T, (∀ t, t < T → 0 ≤ f t ∧ f t ≤ 500000) → 0 ≤ sumTo f T ∧ sumTo f T ≤ 500000 * (T : Int)
  | 0, _ => by simp [sumTo]
  | k + 1, h => by
    have h1 := sumTo_b k (fun t ht => h t (by omega))
    have h2 := h k (by omega)
    rw [sumTo]
    omega
theorem inMix_m {M : Nat → Nat → Int} {n b : Nat} (h : I6 M n) (hb : b < 4) : ∀ k, k ≤ 16 → inMix M b k = inMixm M b k ∧ 0 ≤ inMix M b k ∧ inMix M b k ≤ 500000 * (k : Int)
  | 0, _ => by simp [inMix, inMixm]
  | k + 1, hk => by
    obtain ⟨h1, h2, h3⟩ := inMix_m h hb k (by omega)
    obtain ⟨g1, g2, g3, g4, g5, g6, g7⟩ := h k (by omega)
    rw [inMix, inMixm, h1, g1]
    split
    · rename_i q
      obtain ⟨k1, ⟨k2, k3, k4, k5, -⟩, -⟩ := g7 q
      rw [← k1 b hb]
      refine ⟨rfl, ?_⟩
      rcases (show b = 0 ∨ b = 1 ∨ b = 2 ∨ b = 3 by omega) with e | e | e | e <;> (subst e; omega)
    · omega
section LB3
variable {l : Launch} {D : va_G} {cy : Nat → ClassId} {b L : Nat} {xs : Nat → Int32} {ca sl : Nat} {M : Nat → Nat → Int} {i n T : Nat} {w5 w6 : Option AV}
theorem cShade_le {n z p w : Int} : cShade n z p w ≤ 3 := by unfold cShade; (repeat' split) <;> omega
theorem cShade_0 {n z p w : Int} (h : cShade n z p w = 0) : (0 ≤ z ∧ z < n) ∧ (0 ≤ p ∧ p ≤ 2) ∧ w ≠ 0 := by
  unfold cShade at h
  split at h
  · split at h
    · split at h
      · omega
      · exact ⟨by assumption, by assumption, by assumption⟩
    · omega
  · omega
theorem cShade_congr {n z p w w' : Int} (h : 0 ≤ z ∧ z < n → w = w') : cShade n z p w = cShade n z p w' := by
  unfold cShade
  by_cases q : 0 ≤ z ∧ z < n
  · rw [h q]
  · rw [if_neg q, if_neg q]
theorem cWhere_le {z p : Int} : cWhere z p ≤ 1 := by unfold cWhere; (repeat' split) <;> omega
theorem cWhere_0 {z p : Int} (h : cWhere z p = 0) : (0 ≤ z ∧ z ≤ 3) ∧ (0 ≤ p ∧ p ≤ 3) := by
  unfold cWhere at h
  split at h
  · assumption
  · omega
theorem cCG_le {n z y ch st : Int} : cCG n z y ch st ≤ 2 := by unfold cCG; (repeat' split) <;> omega
theorem cCG_0 {n z y ch st : Int} (h : cCG n z y ch st = 0) : ((0 ≤ z ∧ z < n) ∧ (0 ≤ y ∧ y < n)) ∧ ¬ (ch = 0 ∨ st = 0) := by
  unfold cCG at h
  split at h
  · split at h
    · omega
    · exact ⟨by assumption, by assumption⟩
  · omega
theorem cCG_congr {n z y ch ch' st st' : Int} (h : (0 ≤ z ∧ z < n) ∧ (0 ≤ y ∧ y < n) → ((ch = 0 ∨ st = 0) ↔ (ch' = 0 ∨ st' = 0))) : cCG n z y ch st = cCG n z y ch' st' := by
  unfold cCG
  by_cases q : (0 ≤ z ∧ z < n) ∧ (0 ≤ y ∧ y < n)
  · have := h q
    rw [if_pos q, if_pos q]
    simp only [this]
  · rw [if_neg q, if_neg q]
theorem chipF_b {d p c : Int} (hc : 0 ≤ c) (hd : 0 ≤ d - p) : 0 ≤ chipF d p c ∧ chipF d p c ≤ 100 := by
  unfold chipF
  split <;> omega
theorem div_b {a w : Int} (h0 : 0 ≤ a) (h1 : a ≤ 100 * w) (hw : 0 < w) : 0 ≤ a / w ∧ a / w ≤ 100 := by
  have h2 : a / w < 101 := Int.ediv_lt_of_lt_mul hw (by omega)
  exact ⟨Int.ediv_nonneg h0 (by omega), by omega⟩
/-- what a shade's answer is -/
theorem shade_b (h : Inv M n T) {z p : Int} (hz : 0 ≤ z ∧ z < (T : Int)) (hp : 0 ≤ p ∧ p ≤ 2) (hw : wt (M (11 + 2 * z.toNat)) ≠ 0) : r32 (wpart M (M (11 + 2 * z.toNat)) p.toNat / wt (M (11 + 2 * z.toNat))) := by
  obtain ⟨-, ⟨g0, g1, g2, g3⟩, -⟩ := h.2.2.2.1 z.toNat (by omega)
  have hb := wpC_bd (C := fun b => M (3 + b)) h.2.1.2.1 g0.1 g1.1 g2.1 g3.1 (p := p.toNat) (by omega)
  have hw0 : 0 < wt (M (11 + 2 * z.toNat)) := by
    unfold wt at hw ⊢
    omega
  have := div_b hb.1 hb.2 hw0
  rw [wpart_wpC]
  exact r32_of (by omega)
theorem lc_shade (hl9 : l.stackTraces = false) (h : Inv M n T) (hi : i + 5 < L) (hL : L ≤ 3072) (hc : ca + 3 ≤ 601024) (hs : sl + 18 ≤ 7293034) (K : NX l D cy b L xs i ca sl) : J l D cy (GL l D cy b L xs) 781 [some (.inr (.inr (some 1000000))), some (.inr (.inr (some 0))), some (.inr (.inr (some 447))), some (.inr (.inr (some 467))), some (.inl (i : Int)), w5, w6] [] (N0, R0, M) ca sl := by
  have hz1 := i32_r (xs (i + 1))
  have hz2 := i32_r (xs (i + 2))
  generalize e1 : (xs (i + 1)).toInt = z1 at hz1
  generalize e2 : (xs (i + 2)).toInt = z2 at hz2
  obtain ⟨⟨-, ⟨t1, t2, t3⟩, -⟩, h2, -, h4, -⟩ := id h
  have ef : ∀ M3 : Nat → Nat → Int, M3 452 = M 452 → 0 ≤ z1 ∧ z1 < (T : Int) → wt (fun b => M3 452 (4 * z1.toNat + b)) = wt (M (11 + 2 * z1.toNat)) ∧ ∀ C : Nat → Nat → Int, ∀ p, wpC C (fun b => M3 452 (4 * z1.toNat + b)) p = wpC C (M (11 + 2 * z1.toNat)) p := fun M3 hE q => by
    have g := (h4 z1.toNat (by omega)).1
    simp only [wt, wpC, hE, g 0 (by omega), g 1 (by omega), g 2 (by omega), g 3 (by omega), implies_true, and_self]
  have hT9 : ∀ M3 : Nat → Nat → Int, M3 452 = M 452 → ∀ t, t < T → tin4 (fun b => M3 452 (4 * t + b)) := fun M3 hE t ht => by
    obtain ⟨g, g2, -⟩ := h4 t ht
    simp only [tin4, hE, ← g 0 (by omega), ← g 1 (by omega), ← g 2 (by omega), ← g 3 (by omega)]
    exact g2
  have hC9 : ∀ M3 : Nat → Nat → Int, M3 448 = M 448 → mC M3 (fun b => M (3 + b)) := fun M3 hE => ⟨h2.2.1, fun b p hb hp => by rw [hE]; exact (h2.1 b p hb hp).symm⟩
  have hfin : ∀ (M3 M4 : Nat → Nat → Int) (c : Nat), (∀ x, x ≠ 467 → M3 x = M x) → (∀ x, x ≠ 463 → M4 x = th M3 c x) → Inv M4 n T := fun M3 M4 c h3 h4' => by
    refine Inv_congr (Inv_th (c := c) (Inv_467 h h3)) (fun x hx => h4' x (by unfold core at hx; omega)) (fun k _ _ => by rw [h4' 447 (by decide)]) (wOK_congr (Inv_th (c := c) (Inv_467 h h3)).2.2.2.2.2.2.2.2.2 (fun x h1 h2 => h4' x (by omega)))
  refine hw_shade (dW := 8) (dM := 3) (code := cShade (T : Int) z1 z2 (wt (M (11 + 2 * z1.toNat)))) e1 e2 hi hL hc hs (by decide) (by decide) cShade_le (ow_shade 0 z1 z2 (val := wpart M (M (11 + 2 * z1.toNat)) z2.toNat / wt (M (11 + 2 * z1.toNat))) (P := fun M2 => M2 = M) cShade_le (fun q => by obtain ⟨q1, q2, q3⟩ := cShade_0 q; exact shade_b h q1 q2 q3) (Ok.post (ok_shade hl9 0 T z1 z2 hz1 hz2 t1 t3 (fun t ht => (h4 t ht).2) h2.2.1) (fun o ν ho => ⟨ho.1, _, ho.2, rfl⟩))) (fun M3 hQ => ?_) K
  obtain ⟨M2, rfl, hM3⟩ := hQ
  have h3 : ∀ x, x ≠ 467 → M3 x = M2 x := fun x hx => by
    rw [hM3]
    split
    · funext k; exact up2_c hx
    · rfl
  refine Ok.post (om_shade 0 T z1 z2 hz1 hz2 (by rw [h3 447 (by decide)]; exact t2) t3 (hC9 M3 (h3 448 (by decide))) (hT9 M3 (h3 452 (by decide)))) (fun o ν ho => ?_)
  obtain ⟨rfl, M4, rfl, hM4⟩ := ho
  have cc : cShade (T : Int) z1 z2 (wt (fun b => M3 452 (4 * z1.toNat + b))) = cShade (T : Int) z1 z2 (wt (M2 (11 + 2 * z1.toNat))) := cShade_congr (fun q => (ef M3 (h3 452 (by decide)) q).1)
  rw [cc] at hM4 ⊢
  refine ⟨_, _, n, T, rfl, rfl, by rw [hM4 447 (by decide)]; exact up2_s, fun q => ?_, hfin M3 M4 _ h3 hM4⟩
  obtain ⟨q1, q2, q3⟩ := cShade_0 q
  obtain ⟨w1, w2⟩ := ef M3 (h3 452 (by decide)) q1
  rw [if_pos q, w1, w2, ← wpart_wpC]
  refine ⟨?_, shade_b h q1 q2 q3⟩
  rw [hM4 467 (by decide)]
  simp only [th]
  rw [up2_c (by omega), hM3, if_pos q, up2_s]
/-- what is where is linked -/
theorem where_m (h : Inv M n T) {z p : Int} (hz : 0 ≤ z ∧ z ≤ 3) {M3 : Nat → Nat → Int} (hE : ∀ x, 447 ≤ x → x ≠ 467 → M3 x = M x) : (if p = 0 then M3 450 z.toNat else if p = 1 then sumTo (fun t => M3 452 (4 * t + z.toNat)) T else if p = 2 then inMixm M3 z.toNat n else M3 451 z.toNat) = (if p = 0 then M 8 z.toNat else if p = 1 then sumTo (fun t => M (11 + 2 * t) z.toNat) T else if p = 2 then inMix M z.toNat n else M 72 z.toNat) ∧ r32 (if p = 0 then M 8 z.toNat else if p = 1 then sumTo (fun t => M (11 + 2 * t) z.toNat) T else if p = 2 then inMix M z.toNat n else M 72 z.toNat) := by
  obtain ⟨⟨⟨n1, n2, n3⟩, ⟨t1, t2, t3⟩, -⟩, h2, h3, h4, h5, h6, -⟩ := h
  have g := h3 z.toNat (by omega)
  have gc := cnt2_le (M := M) 16
  have em : ∀ k, inMixm M3 z.toNat k = inMixm M z.toNat k := by
    intro k
    induction k with
    | zero => rfl
    | succ k ih => rw [inMixm, inMixm, ih, hE 457 (by omega) (by omega), hE 459 (by omega) (by omega)]
  have es : sumTo (fun t => M3 452 (4 * t + z.toNat)) T = sumTo (fun t => M (11 + 2 * t) z.toNat) T := sumTo_c T (fun t ht => by
    rw [hE 452 (by omega) (by omega)]
    exact ((h4 t ht).1 z.toNat (by omega)).symm)
  have eb := sumTo_b (f := fun t => M (11 + 2 * t) z.toNat) T (fun t ht => by
    obtain ⟨-, ⟨k0, k1, k2, k3⟩, -⟩ := h4 t ht
    rcases (show z.toNat = 0 ∨ z.toNat = 1 ∨ z.toNat = 2 ∨ z.toNat = 3 by omega) with e | e | e | e <;> (rw [e]; omega))
  have ei := inMix_m h6 (b := z.toNat) (by omega) n n3
  rw [hE 450 (by omega) (by omega), hE 451 (by omega) (by omega), em, es, ← ei.1, ← g.2.1, ← g.2.2.1]
  refine ⟨rfl, ?_⟩
  split
  · exact r32_of (by omega)
  · split
    · exact r32_of (by omega)
    · split
      · exact r32_of (by omega)
      · exact r32_of (by omega)
theorem lc_where (hl9 : l.stackTraces = false) (h : Inv M n T) (hi : i + 5 < L) (hL : L ≤ 3072) (hc : ca + 3 ≤ 601024) (hs : sl + 18 ≤ 7293034) (K : NX l D cy b L xs i ca sl) : J l D cy (GL l D cy b L xs) 849 [some (.inr (.inr (some 1000000))), some (.inr (.inr (some 0))), some (.inr (.inr (some 447))), some (.inr (.inr (some 467))), some (.inl (i : Int)), w5, w6] [] (N0, R0, M) ca sl := by
  have hz1 := i32_r (xs (i + 1))
  have hz2 := i32_r (xs (i + 2))
  generalize e1 : (xs (i + 1)).toInt = z1 at hz1
  generalize e2 : (xs (i + 2)).toInt = z2 at hz2
  obtain ⟨⟨⟨n1, n2, n3⟩, ⟨t1, t2, t3⟩, -⟩, -⟩ := id h
  refine hw_where (dW := 8) (dM := 3) (code := cWhere z1 z2) e1 e2 hi hL hc hs (by decide) (by decide) (Nat.le_trans cWhere_le (by decide)) (ow_where 0 z1 z2 (val := if z2 = 0 then M 8 z1.toNat else if z2 = 1 then sumTo (fun t => M (11 + 2 * t) z1.toNat) T else if z2 = 2 then inMix M z1.toNat n else M 72 z1.toNat) (P := fun M2 => M2 = M) cWhere_le (fun q => (where_m (M3 := M) h (cWhere_0 q).1 (fun _ _ _ => rfl)).2) (Ok.post (ok_where hl9 0 n T z1 z2 hz1 hz2 n1 n3 t1 t3 h.hst) (fun o ν ho => ⟨ho.1, _, ho.2, rfl⟩))) (fun M3 hQ => ?_) K
  obtain ⟨M2, hP, hM3⟩ := hQ
  by_cases hc0 : cWhere z1 z2 = 0
  · rw [if_pos hc0] at hM3
    subst hP hM3
    have e4 : ∀ x k, x ≠ 467 → (up2 M2 467 0 (if z2 = 0 then M2 8 z1.toNat else if z2 = 1 then sumTo (fun t => M2 (11 + 2 * t) z1.toNat) T else if z2 = 2 then inMix M2 z1.toNat n else M2 72 z1.toNat)) x k = M2 x k := fun x k hx => up2_c hx
    refine Ok.post (om_where 0 n T z1 z2 hz1 hz2 (by rw [e4 _ _ (by omega)]; exact n2) n3 (by rw [e4 _ _ (by omega)]; exact t2) t3 (h.mst (by funext k; exact e4 _ _ (by omega)))) (fun o ν ho => ?_)
    obtain ⟨rfl, rfl⟩ := ho
    obtain ⟨q1, q2⟩ := cWhere_0 hc0
    have em := where_m h q1 (p := z2) (M3 := up2 M2 467 0 (if z2 = 0 then M2 8 z1.toNat else if z2 = 1 then sumTo (fun t => M2 (11 + 2 * t) z1.toNat) T else if z2 = 2 then inMix M2 z1.toNat n else M2 72 z1.toNat)) (fun x _ hx => by funext k; exact e4 x k hx)
    rw [if_pos hc0, em.1]
    refine ⟨_, _, n, T, rfl, rfl, up2_s, fun _ => ⟨?_, ?_⟩, Inv_th (Inv_467 h (fun x hx => by funext k; exact e4 x k hx))⟩
    
    · simp only [th]
      rw [up2_c (by omega), up2_s]
    · exact em.2
  · rw [if_neg hc0] at hM3
    subst hP hM3
    refine Ok.post (om_where 0 n T z1 z2 hz1 hz2 n2 n3 t2 t3 (h.mst rfl)) (fun o ν ho => ?_)
    obtain ⟨rfl, rfl⟩ := ho
    rw [if_neg hc0]
    exact AF_no h hc0
theorem lc_chipGap (hl9 : l.stackTraces = false) (h : Inv M n T) (hi : i + 5 < L) (hL : L ≤ 3072) (hc : ca + 3 ≤ 601024) (hs : sl + 18 ≤ 7293034) (K : NX l D cy b L xs i ca sl) : J l D cy (GL l D cy b L xs) 1000 [some (.inr (.inr (some 1000000))), some (.inr (.inr (some 0))), some (.inr (.inr (some 447))), some (.inr (.inr (some 467))), some (.inl (i : Int)), w5, w6] [] (N0, R0, M) ca sl := by
  have hz1 := i32_r (xs (i + 1))
  have hz2 := i32_r (xs (i + 2))
  generalize e1 : (xs (i + 1)).toInt = z1 at hz1
  generalize e2 : (xs (i + 2)).toInt = z2 at hz2
  obtain ⟨⟨⟨n1, n2, n3⟩, -, ⟨d1, d2, d3⟩, -⟩, -, -, -, -, h6, h7, -⟩ := id h
  have cc : cCG (n : Int) z1 z2 (M 458 z1.toNat) (M 457 z2.toNat) = cCG (n : Int) z1 z2 (M (367 + 5 * z1.toNat) 6) (M (367 + 5 * z2.toNat) 5) := cCG_congr (fun q => by
    have g7 := h7 z1.toNat (by omega)
    have g6 := (h6 z2.toNat (by omega)).1
    rw [g6]
    constructor <;> intro y <;> omega)
  have hcv : cCG (n : Int) z1 z2 (M (367 + 5 * z1.toNat) 6) (M (367 + 5 * z2.toNat) 5) = 0 → (∀ p, p < 3 → M (369 + 5 * z1.toNat) p = M 454 (3 * z1.toNat + p)) ∧ (∀ p, p < 3 → M (369 + 5 * z2.toNat) p = M 454 (3 * z2.toNat + p)) ∧ M 458 z1.toNat - 1 = M (367 + 5 * z1.toNat) 7 ∧ r32 (((chipF (M 0 10) (M (367 + 5 * z1.toNat) 7) (M (369 + 5 * z1.toNat) 0) - M (369 + 5 * z2.toNat) 0).natAbs : Int) + (chipF (M 0 10) (M (367 + 5 * z1.toNat) 7) (M (369 + 5 * z1.toNat) 1) - M (369 + 5 * z2.toNat) 1).natAbs + (chipF (M 0 10) (M (367 + 5 * z1.toNat) 7) (M (369 + 5 * z1.toNat) 2) - M (369 + 5 * z2.toNat) 2).natAbs) := fun q => by
    obtain ⟨⟨q1, q2⟩, q3⟩ := cCG_0 q
    have g7 := h7 z1.toNat (by omega)
    obtain ⟨-, -, -, k1, ⟨c10, c11, c12⟩, -⟩ := h6 z1.toNat (by omega)
    obtain ⟨-, -, -, k2, ⟨c20, c21, c22⟩, -⟩ := h6 z2.toNat (by omega)
    have b0 := chipF_b (d := M 0 10) (p := M (367 + 5 * z1.toNat) 7) c10.1 (by omega)
    have b1 := chipF_b (d := M 0 10) (p := M (367 + 5 * z1.toNat) 7) c11.1 (by omega)
    have b2 := chipF_b (d := M 0 10) (p := M (367 + 5 * z1.toNat) 7) c12.1 (by omega)
    exact ⟨k1, k2, by omega, r32_of (by omega)⟩
  refine hw_chipGap (dW := 8) (dM := 3) (code := cCG (n : Int) z1 z2 (M (367 + 5 * z1.toNat) 6) (M (367 + 5 * z2.toNat) 5)) e1 e2 hi hL hc hs (by decide) (by decide) (Nat.le_trans cCG_le (by decide)) (ow_chipGap 0 z1 z2 (val := ((chipF (M 0 10) (M (367 + 5 * z1.toNat) 7) (M (369 + 5 * z1.toNat) 0) - M (369 + 5 * z2.toNat) 0).natAbs : Int) + (chipF (M 0 10) (M (367 + 5 * z1.toNat) 7) (M (369 + 5 * z1.toNat) 1) - M (369 + 5 * z2.toNat) 1).natAbs + (chipF (M 0 10) (M (367 + 5 * z1.toNat) 7) (M (369 + 5 * z1.toNat) 2) - M (369 + 5 * z2.toNat) 2).natAbs) (P := fun M2 => M2 = M) cCG_le (fun q => (hcv q).2.2.2) (Ok.post (ok_chipGap hl9 0 n z1 z2 hz1 hz2 n1 n3 h.hst (fun i hi => by have := h7 i hi; omega) (fun i hi => by have := h7 i hi; omega) h.jc) (fun o ν ho => ⟨ho.1, _, ho.2, rfl⟩))) (fun M3 hQ => ?_) K
  have hj9 : ∀ i, i < 16 → ∀ p, p < 3 → 0 ≤ M 454 (3 * i + p) ∧ M 454 (3 * i + p) ≤ 100 := fun i hi p hp => by
    obtain ⟨-, -, -, k1, ⟨c0, c1, c2⟩, -⟩ := h6 i hi
    rw [← k1 p hp]
    rcases (show p = 0 ∨ p = 1 ∨ p = 2 by omega) with e | e | e <;> (subst e; omega)
  obtain ⟨M2, hP, hM3⟩ := hQ
  by_cases hc0 : cCG (n : Int) z1 z2 (M (367 + 5 * z1.toNat) 6) (M (367 + 5 * z2.toNat) 5) = 0
  · rw [if_pos hc0] at hM3
    subst hP hM3
    have e4 : ∀ x k, x ≠ 467 → (up2 M2 467 0 (((chipF (M2 0 10) (M2 (367 + 5 * z1.toNat) 7) (M2 (369 + 5 * z1.toNat) 0) - M2 (369 + 5 * z2.toNat) 0).natAbs : Int) + (chipF (M2 0 10) (M2 (367 + 5 * z1.toNat) 7) (M2 (369 + 5 * z1.toNat) 1) - M2 (369 + 5 * z2.toNat) 1).natAbs + (chipF (M2 0 10) (M2 (367 + 5 * z1.toNat) 7) (M2 (369 + 5 * z1.toNat) 2) - M2 (369 + 5 * z2.toNat) 2).natAbs)) x k = M2 x k := fun x k hx => up2_c hx
    refine Ok.post (om_chipGap 0 n z1 z2 hz1 hz2 (by rw [e4 _ _ (by omega)]; exact n2) n3 (h.mst (by funext k; exact e4 _ _ (by omega))) (by rw [e4 _ _ (by omega)]; exact ⟨d2, d3⟩) (fun i hi => by rw [e4 _ _ (by omega), e4 _ _ (by omega)]; have := h7 i hi; omega) (fun i hi p hp => by rw [e4 _ _ (by omega)]; exact hj9 i hi p hp)) (fun o ν ho => ?_)
    obtain ⟨rfl, rfl⟩ := ho
    obtain ⟨v1, v2, v3, v4⟩ := hcv hc0
    simp only [e4 _ _ (show 458 ≠ 467 by decide), e4 _ _ (show 457 ≠ 467 by decide), e4 _ _ (show 454 ≠ 467 by decide), e4 _ _ (show 447 ≠ 467 by decide)]
    rw [cc, if_pos hc0, v3, ← v1 0 (by omega), ← v1 1 (by omega), ← v1 2 (by omega), ← v2 0 (by omega), ← v2 1 (by omega), ← v2 2 (by omega), ← d1]
    refine ⟨_, _, n, T, rfl, rfl, up2_s, fun _ => ⟨?_, ?_⟩, Inv_th (Inv_467 h (fun x hx => by funext k; exact e4 x k hx))⟩
    
    · simp only [th]
      rw [up2_c (by omega), up2_s]
    · exact v4
  · rw [if_neg hc0] at hM3
    subst hP hM3
    refine Ok.post (om_chipGap 0 n z1 z2 hz1 hz2 n2 n3 (h.mst rfl) ⟨d2, d3⟩ (fun i hi => by have := h7 i hi; omega) hj9) (fun o ν ho => ?_)
    obtain ⟨rfl, rfl⟩ := ho
    rw [cc, if_neg hc0]
    exact AF_no h hc0
end LB3
