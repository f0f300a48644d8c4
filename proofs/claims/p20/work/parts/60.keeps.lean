/-! the model's shades, gaps, and order of recipes -/
theorem wpC_bw {C : Nat → Nat → Int} {m : Nat → Int} {p : Nat} (hm : tin4 m) (hC : okC C) (hp : p < 3) : 0 ≤ wpC C m p ∧ wpC C m p ≤ 100 * wt m := by
  have k : ∀ b, b < 4 → 0 ≤ C b p ∧ C b p ≤ 100 := by
    intro b hb
    obtain ⟨h0, h1, h2⟩ := hC b hb
    obtain e | e | e : p = 0 ∨ p = 1 ∨ p = 2 := by omega
    all_goals subst e; assumption
  have key : ∀ x y : Int, 0 ≤ x → 0 ≤ y → y ≤ 100 → 0 ≤ x * y ∧ x * y ≤ 100 * x := fun x y h1 h2 h3 => ⟨Int.mul_nonneg h1 h2, by rw [Int.mul_comm 100 x]; exact Int.mul_le_mul_of_nonneg_left h3 h1⟩
  obtain ⟨m0, m1, m2, m3⟩ := hm
  have a0 := key _ _ m0.1 (k 0 (by omega)).1 (k 0 (by omega)).2
  have a1 := key _ _ m1.1 (k 1 (by omega)).1 (k 1 (by omega)).2
  have a2 := key _ _ m2.1 (k 2 (by omega)).1 (k 2 (by omega)).2
  have a3 := key _ _ m3.1 (k 3 (by omega)).1 (k 3 (by omega)).2
  simp only [wpC, wt]
  omega
theorem avg_bd {C : Nat → Nat → Int} {m : Nat → Int} {p : Nat} (hm : tin4 m) (hw : 0 < wt m) (hC : okC C) (hp : p < 3) : 0 ≤ wpC C m p / wt m ∧ wpC C m p / wt m ≤ 100 := by
  obtain ⟨h1, h2⟩ := wpC_bw hm hC hp
  exact ⟨Int.ediv_nonneg h1 (by omega), by
    have := Int.ediv_le_ediv hw h2
    rwa [Int.mul_ediv_cancel _ (by omega)] at this⟩
/-! the calls that change something keep what stays true -/
theorem inv_buy {M : Nat → Nat → Int} {n T b : Nat} {g : Int} (h : Inv M n T) (hb : b < 4) (hg : 1 ≤ g) (hw : M 70 b + g ≤ 100000) : Inv (up2 (up2 M 70 b (M 70 b + g)) 8 b (M 8 b + g * 1000)) n T := by
  obtain ⟨a1, a2, a3, a4, a5, a6, a7, a8, a9, a10⟩ := h
  generalize hM' : up2 _ 8 b _ = M'
  have hT := a1.2.1.2
  have hn := a1.1.2
  have q : ∀ x, x ≠ 70 → x ≠ 8 → M' x = M x := by
    intro x h1 h2
    subst hM'
    rw [up2_r h2, up2_r h1]
  have q70 : ∀ k, M' 70 k = if k = b then M 70 b + g else M 70 k := by
    intro k
    subst hM'
    rw [up2_c (by decide)]
    simp only [up2, true_and]
  have q8 : ∀ k, M' 8 k = if k = b then M 8 b + g * 1000 else M 8 k := by
    intro k
    subst hM'
    simp only [up2, true_and]
    simp
  clear hM'
  refine ⟨?_, ⟨fun b hb => ?_, fun b hb => ?_⟩, fun c hc => ?_, I4_congr (fun t ht => q _ (by omega) (by omega)) a4, I5_congr (fun j hj => ⟨by rw [q _ (by omega) (by omega)], by rw [q _ (by omega) (by omega)]⟩) (fun j hj => q _ (by omega) (by omega)) a5, fun j hj => ?_, fun j hj => ?_, ?_, ?_, wOK_congr a10 (fun x _ _ => q x (by omega) (by omega))⟩
  · unfold I1 at *
    rw [q 0 (by omega) (by omega), q 1 (by omega) (by omega), q 74 (by omega) (by omega)]
    exact a1
  · rw [q _ (by omega) (by omega)]
    exact a2.1 b hb
  · rw [q _ (by omega) (by omega)]
    exact a2.2 b hb
  · have h0 := a3 c hc
    rw [q70, q8, q 72 (by omega) (by omega), inMix_congr (M := M) n (fun i hi => ⟨by rw [q _ (by omega) (by omega)], by rw [q _ (by omega) (by omega)]⟩), sumTo_congr (f := fun t => M (11 + 2 * t) c) T (fun t ht => by rw [q _ (by omega) (by omega)])]
    rcases (show c = b ∨ c ≠ b by omega) with e | e
    · subst e
      rw [if_pos rfl, if_pos rfl]
      omega
    · rw [if_neg e, if_neg e]
      exact h0
  · rw [q (367 + 5 * j) (by omega) (by omega), q (369 + 5 * j) (by omega) (by omega), q (371 + 5 * j) (by omega) (by omega)]
    exact a6 j hj
  · rw [q (367 + 5 * j) (by omega) (by omega), q 0 (by omega) (by omega)]
    exact a7 j hj
  · unfold prOK at *
    rw [q 74 (by omega) (by omega), q 75 (by omega) (by omega)]
    exact a8
  · rw [nMix_congr (M := M) n (fun i hi => by rw [q _ (by omega) (by omega)])]
    exact a9
theorem inv_pass {M : Nat → Nat → Int} {n T : Nat} {z : Int} (h : Inv M n T) (hz : 1 ≤ z ∧ M 0 10 + z ≤ 10000) : Inv (up2 M 0 10 (M 0 10 + z)) n T := by
  obtain ⟨a1, a2, a3, a4, a5, a6, a7, a8, a9, a10⟩ := h
  generalize hM' : up2 M 0 10 _ = M'
  have hT := a1.2.1.2
  have hn := a1.1.2
  have q : ∀ x, x ≠ 0 → M' x = M x := by
    intro x h1
    subst hM'
    rw [up2_r h1]
  have q0 : M' 0 8 = M 0 8 := by
    subst hM'
    rw [up2_k (by decide)]
  have qd : M' 0 10 = M 0 10 + z := by
    subst hM'
    exact up2_s
  clear hM'
  obtain ⟨b1, b2, b3, b4⟩ := a1
  refine ⟨⟨by rw [q0]; exact b1, by rw [q 1 (by omega)]; exact b2, by omega, by rw [q 74 (by omega)]; exact b4⟩, ⟨fun b hb => ?_, fun b hb => ?_⟩, I3_congr (q _ (by omega)) (q _ (by omega)) (q _ (by omega)) (fun t ht => q _ (by omega)) (fun i hi => ⟨by rw [q _ (by omega)], q _ (by omega)⟩) a3, I4_congr (fun t ht => q _ (by omega)) a4, I5_congr (fun j hj => ⟨by rw [q _ (by omega)], by rw [q _ (by omega)]⟩) (fun j hj => q _ (by omega)) a5, fun j hj => ?_, fun j hj => ?_, ?_, ?_, wOK_congr a10 (fun x _ _ => q x (by omega))⟩
  · rw [q _ (by omega)]
    exact a2.1 b hb
  · rw [q _ (by omega)]
    exact a2.2 b hb
  · rw [q (367 + 5 * j) (by omega), q (369 + 5 * j) (by omega), q (371 + 5 * j) (by omega)]
    exact a6 j hj
  · have := a7 j hj
    rw [q (367 + 5 * j) (by omega), qd]
    omega
  · unfold prOK at *
    rw [q 74 (by omega), q 75 (by omega)]
    exact a8
  · rw [nMix_congr (M := M) n (fun i hi => by rw [q _ (by omega)])]
    exact a9
theorem inv_job {M : Nat → Nat → Int} {n T : Nat} {a b c g gap : Int} (h : Inv M n T) (hn16 : n < 16) (hp : P3 a b c) (hg : (10 ≤ g ∧ g ≤ 500) ∧ g % 10 = 0) (hgap : 0 ≤ gap ∧ gap ≤ 300) : Inv (up2 (up2 (up2 (up2 (up2 (up2 M (368 + 5 * n) 0 a) (368 + 5 * n) 1 b) (368 + 5 * n) 2 c) (367 + 5 * n) 3 g) (367 + 5 * n) 4 gap) 0 8 (M 0 8 + 1)) (n + 1) T ∧ nMix (up2 (up2 (up2 (up2 (up2 (up2 M (368 + 5 * n) 0 a) (368 + 5 * n) 1 b) (368 + 5 * n) 2 c) (367 + 5 * n) 3 g) (367 + 5 * n) 4 gap) 0 8 (M 0 8 + 1)) (n + 1) = nMix M n ∧ (up2 (up2 (up2 (up2 (up2 (up2 M (368 + 5 * n) 0 a) (368 + 5 * n) 1 b) (368 + 5 * n) 2 c) (367 + 5 * n) 3 g) (367 + 5 * n) 4 gap) 0 8 (M 0 8 + 1)) (367 + 5 * n) 5 = 0 ∧ (up2 (up2 (up2 (up2 (up2 (up2 M (368 + 5 * n) 0 a) (368 + 5 * n) 1 b) (368 + 5 * n) 2 c) (367 + 5 * n) 3 g) (367 + 5 * n) 4 gap) 0 8 (M 0 8 + 1)) (367 + 5 * n) 3 = g ∧ ∀ i, i ≠ n → (up2 (up2 (up2 (up2 (up2 (up2 M (368 + 5 * n) 0 a) (368 + 5 * n) 1 b) (368 + 5 * n) 2 c) (367 + 5 * n) 3 g) (367 + 5 * n) 4 gap) 0 8 (M 0 8 + 1)) (367 + 5 * i) 3 = M (367 + 5 * i) 3 := by
  obtain ⟨a1, a2, a3, a4, a5, a6, a7, a8, a9, a10⟩ := h
  generalize hM' : up2 _ 0 8 _ = M'
  have hT := a1.2.1.2
  have q : ∀ x, x ≠ 0 → x ≠ 368 + 5 * n → x ≠ 367 + 5 * n → M' x = M x := by
    intro x h1 h2 h3
    subst hM'
    rw [up2_r h1, up2_r h3, up2_r h3, up2_r h2, up2_r h2, up2_r h2]
  have q0 : ∀ k, k ≠ 8 → M' 0 k = M 0 k := by
    intro k hk
    subst hM'
    rw [up2_k hk, up2_c (by omega), up2_c (by omega), up2_c (by omega), up2_c (by omega), up2_c (by omega)]
  have qn : M' 0 8 = M 0 8 + 1 := by
    subst hM'
    exact up2_s
  have q7 : ∀ k, k ≠ 3 → k ≠ 4 → M' (367 + 5 * n) k = M (367 + 5 * n) k := by
    intro k h3 h4
    subst hM'
    rw [up2_c (by omega), up2_k h4, up2_k h3, up2_c (by omega), up2_c (by omega), up2_c (by omega)]
  have q73 : M' (367 + 5 * n) 3 = g := by
    subst hM'
    rw [up2_c (by omega), up2_k (by omega), up2_s]
  have q74 : M' (367 + 5 * n) 4 = gap := by
    subst hM'
    rw [up2_c (by omega), up2_s]
  have qc0 : M' (368 + 5 * n) 0 = a := by
    subst hM'
    rw [up2_c (by omega), up2_c (by omega), up2_c (by omega), up2_k (by omega), up2_k (by omega), up2_s]
  have qc1 : M' (368 + 5 * n) 1 = b := by
    subst hM'
    rw [up2_c (by omega), up2_c (by omega), up2_c (by omega), up2_k (by omega), up2_s]
  have qc2 : M' (368 + 5 * n) 2 = c := by
    subst hM'
    rw [up2_c (by omega), up2_c (by omega), up2_c (by omega), up2_s]
  clear hM'
  obtain ⟨⟨b0, b1⟩, b2, b3, b4⟩ := a1
  have hst : M (367 + 5 * n) 5 = 0 := (a6 n hn16).2.1 (by omega)
  have hQ5 : ∀ i, M' (367 + 5 * i) 5 = M (367 + 5 * i) 5 := by
    intro i
    rcases (show i = n ∨ i ≠ n by omega) with e | e
    · rw [e]
      exact q7 5 (by decide) (by decide)
    · rw [q _ (by omega) (by omega) (by omega)]
  have hm1 : nMix M' (n + 1) = nMix M n := by
    rw [nMix, hQ5 n, if_neg (by omega), nMix_congr (M := M) n (fun i hi => hQ5 i)]
    rfl
  refine ⟨⟨⟨⟨by omega, by omega⟩, by rw [q 1 (by omega) (by omega) (by omega)]; exact b2, by rw [q0 10 (by decide)]; exact b3, by rw [q 74 (by omega) (by omega) (by omega)]; exact b4⟩, ⟨fun b hb => ?_, fun b hb => ?_⟩, fun c hc => ?_, I4_congr (fun t ht => q _ (by omega) (by omega) (by omega)) a4, fun j hj => ?_, fun j hj => ?_, fun j hj => ?_, ?_, ?_, wOK_congr a10 (fun x _ _ => q x (by omega) (by omega) (by omega))⟩, hm1, by rw [hQ5, hst], q73, fun i hi => by rw [q _ (by omega) (by omega) (by omega)]⟩
  · rw [q _ (by omega) (by omega) (by omega)]
    exact a2.1 b hb
  · rw [q _ (by omega) (by omega) (by omega)]
    exact a2.2 b hb
  · have h0 := a3 c hc
    have e1 : inMix M' c (n + 1) = inMix M c n := by
      rw [inMix, hQ5 n, if_neg (by omega), inMix_congr (M := M) n (fun i hi => ⟨hQ5 i, by rw [q _ (by omega) (by omega) (by omega)]⟩)]
      omega
    rw [q 70 (by omega) (by omega) (by omega), q 8 (by omega) (by omega) (by omega), q 72 (by omega) (by omega) (by omega), e1, sumTo_congr (f := fun t => M (11 + 2 * t) c) T (fun t ht => by rw [q _ (by omega) (by omega) (by omega)])]
    exact h0
  · rcases (show j = n ∨ j < n by omega) with e | e
    · subst e
      obtain ⟨p0, p1, p2⟩ := hp
      rw [q73, q74]
      unfold col3
      rw [qc0, qc1, qc2]
      exact ⟨⟨p0, p1, p2⟩, hg.1, hg.2, hgap.1, hgap.2⟩
    · rw [q (367 + 5 * j) (by omega) (by omega) (by omega), q (368 + 5 * j) (by omega) (by omega) (by omega)]
      exact a5 j e
  · have h0 := a6 j hj
    rw [hQ5, q (369 + 5 * j) (by omega) (by omega) (by omega), q (371 + 5 * j) (by omega) (by omega) (by omega)]
    rcases (show j = n ∨ j ≠ n by omega) with e | e
    · subst e
      exact ⟨h0.1, fun _ => hst, h0.2.2.1, h0.2.2.2.1, fun z => by omega⟩
    · rw [q (367 + 5 * j) (by omega) (by omega) (by omega)]
      exact ⟨h0.1, fun z => h0.2.1 (by omega), h0.2.2⟩
  · have h0 := a7 j hj
    rw [q0 10 (by decide)]
    rcases (show j = n ∨ j ≠ n by omega) with e | e
    · subst e
      rw [q7 6 (by decide) (by decide), q7 7 (by decide) (by decide)]
      exact h0
    · rw [q (367 + 5 * j) (by omega) (by omega) (by omega)]
      exact h0
  · unfold prOK at *
    rw [q 74 (by omega) (by omega) (by omega), q 75 (by omega) (by omega) (by omega)]
    exact a8
  · rw [hm1]
    exact a9
theorem inv_mix {M M2 : Nat → Nat → Int} {n T j : Nat} {s : Nat → Int} (h : Inv M n T) (hj : j < n) (hst : M (367 + 5 * j) 5 = 0) (hnm : nMix M n < 8) (hs : s 0 = 1) (hg : goodS (fun b => M 8 b / (M (367 + 5 * j) 3 / 10 * 1000)) (M (367 + 5 * j) 3 / 10) (M (367 + 5 * j) 4) (fun t => M (11 + 2 * t)) T s) (hc : mixM M M2 s j) : Inv M2 n T ∧ (nMix M2 n : Int) = nMix M n + 1 := by
  obtain ⟨k1, k2, k3, k4, k5, k6⟩ := inkS_ok (h.kk j hj).1 (h.kk j hj).2 hg hs
  obtain ⟨a1, a2, a3, a4, a5, a6, a7, a8, a9, a10⟩ := h
  obtain ⟨c1, c2, c3, c4, c5⟩ := hc
  obtain ⟨⟨n1, n2⟩, ⟨t1, t2⟩, d1, w1⟩ := id a1
  obtain ⟨g2, g3, g4, g5, g6⟩ := a5 j hj
  have s6 := a6 j (by omega)
  have htin : 0 ≤ s 3 → (s 3).toNat < T := by
    intro z
    omega
  have q : ∀ x, ((x < 77 ∨ x = 85 ∨ (89 ≤ x ∧ x < 447)) ∧ x ≠ 0 ∧ x ≠ 8 ∧ x ≠ 371 + 5 * j ∧ x ≠ 369 + 5 * j ∧ x ≠ 367 + 5 * j) → (0 ≤ s 3 → x ≠ 11 + 2 * (s 3).toNat) → M2 x = M x := fun x hx hz => c1 x (by unfold scrF; omega) (by omega) (by omega) hx.2.1 hx.2.2.1 hx.2.2.2.1 hx.2.2.2.2.1 hx.2.2.2.2.2 hz
  have Q : ∀ x, ((x < 11 ∨ (70 ≤ x ∧ x < 77) ∨ x = 85 ∨ (89 ≤ x ∧ x < 447)) ∧ x ≠ 0 ∧ x ≠ 8 ∧ x ≠ 371 + 5 * j ∧ x ≠ 369 + 5 * j ∧ x ≠ 367 + 5 * j) → M2 x = M x := fun x hx => q x (by omega) (fun z => by have := htin z; omega)
  have hT : ∀ t, t < T → ∀ b, b < 4 → M2 (11 + 2 * t) b = M (11 + 2 * t) b - if 0 ≤ s 3 ∧ t = (s 3).toNat then tkS M s j b else 0 := by
    intro t ht b hb
    rcases (show (0 ≤ s 3 ∧ t = (s 3).toNat) ∨ ¬ (0 ≤ s 3 ∧ t = (s 3).toNat) by omega) with y | y
    · rw [if_pos y, y.2]
      exact (c2 b hb).2.2 y.1
    · rw [if_neg y, q (11 + 2 * t) (by omega) (fun z => by omega)]
      omega
  have hsum : ∀ b, b < 4 → sumTo (fun t => M2 (11 + 2 * t) b) T = sumTo (fun t => M (11 + 2 * t) b) T - tkS M s j b := by
    intro b hb
    rcases (show 0 ≤ s 3 ∨ ¬ 0 ≤ s 3 by omega) with y | y
    · rw [sumTo_upd (f := fun t => M (11 + 2 * t) b) (t0 := (s 3).toNat) (d := tkS M s j b) T (fun t ht => ?_), if_pos (htin y)]
      have := hT t ht b hb
      simp only [y, true_and] at this
      exact this
    · rw [sumTo_congr (f := fun t => M (11 + 2 * t) b) T (fun t ht => ?_), show tkS M s j b = 0 by rw [tkS, if_neg y]]
      · omega
      · have := hT t ht b hb
        rw [if_neg (by omega)] at this
        omega
  have hQ5 : ∀ i, i < n → i ≠ j → M2 (367 + 5 * i) = M (367 + 5 * i) ∧ M2 (371 + 5 * i) = M (371 + 5 * i) := fun i hi hne => ⟨Q _ (by omega), Q _ (by omega)⟩
  have h51 : M2 (367 + 5 * j) 5 = 1 := by rw [c4, if_pos rfl]
  have hnm2 : (nMix M2 n : Int) = nMix M n + 1 := by
    rw [nMix_upd (M := M) (j := j) n (fun i hi hne => by rw [(hQ5 i hi hne).1]), if_pos hj, nM1, nM1, h51, hst]
    simp
  refine ⟨⟨⟨⟨?_, n2⟩, ⟨?_, t2⟩, ?_, ?_⟩, ⟨fun b hb => ?_, fun b hb => ?_⟩, fun b hb => ?_, fun t ht => ?_, ?_, fun i hi => ?_, fun i hi => ?_, ?_, by omega, wOK_congr a10 (fun x _ _ => Q x (by omega))⟩, hnm2⟩
  · rw [c5, if_neg (by decide)]; exact n1
  · rw [Q 1 (by omega)]; exact t1
  · rw [c5, if_neg (by decide)]; exact d1
  · rw [Q 74 (by omega)]; exact w1
  · rw [Q _ (by omega)]
    exact a2.1 b hb
  · rw [Q _ (by omega)]
    exact a2.2 b hb
  · have h0 := a3 b hb
    have kb := k5 b hb
    have cb := (c2 b hb).1
    have e1 : inMix M2 b n = inMix M b n + inkS M s j b := by
      rw [inMix_upd (M := M) (j := j) n (fun i hi hne => ⟨by rw [(hQ5 i hi hne).1], by rw [(hQ5 i hi hne).2]⟩), if_pos hj, inM1, inM1, h51, hst, if_pos rfl, if_neg (by decide), (c2 b hb).2.1]
      omega
    have e2 : inkS M s j b = s (5 + b) * (M (367 + 5 * j) 3 / 10 * 1000) + tkS M s j b := rfl
    rw [Q 70 (by omega), Q 72 (by omega), cb, hsum b hb, e1, e2]
    generalize s (5 + b) * (M (367 + 5 * j) 3 / 10 * 1000) = P at kb ⊢
    omega
  · have h4 := a4 t ht
    obtain ⟨x0, x1, x2, x3⟩ := h4
    have v0 := hT t ht 0 (by omega)
    have v1 := hT t ht 1 (by omega)
    have v2 := hT t ht 2 (by omega)
    have v3 := hT t ht 3 (by omega)
    rcases (show (0 ≤ s 3 ∧ t = (s 3).toNat) ∨ ¬ (0 ≤ s 3 ∧ t = (s 3).toNat) by omega) with y | y
    · rw [if_pos y] at v0 v1 v2 v3
      have b0 := k2 0 (by omega)
      have b1 := k2 1 (by omega)
      have b2 := k2 2 (by omega)
      have b3 := k2 3 (by omega)
      rw [← y.2] at b0 b1 b2 b3
      have y1 := b0.2 y.1
      have y2 := b1.2 y.1
      have y3 := b2.2 y.1
      have y4 := b3.2 y.1
      simp only [tin4]
      omega
    · rw [if_neg y] at v0 v1 v2 v3
      simp only [tin4]
      omega
  · refine I5_congr (fun i hi => ?_) (fun i hi => Q _ (by omega)) a5
    rcases (show i = j ∨ i ≠ j by omega) with y | y
    · subst y
      rw [c4, c4]
      simp
    · rw [Q _ (by omega)]
      exact ⟨rfl, rfl⟩
  · have h6 := a6 i hi
    rcases (show i = j ∨ i ≠ j by omega) with y | y
    · subst y
      have v : ∀ b, b < 4 → M2 (371 + 5 * i) b = inkS M s i b := fun b hb => (c2 b hb).2.1
      have v0 := v 0 (by omega)
      have v1 := v 1 (by omega)
      have v2 := v 2 (by omega)
      have v3 := v 3 (by omega)
      have ewt : wt (M2 (371 + 5 * i)) = wt (inkS M s i) := by simp only [wt, v0, v1, v2, v3]
      have e3 : M2 (367 + 5 * i) 3 = M (367 + 5 * i) 3 := by rw [c4, if_neg (by decide)]
      rw [h51, e3]
      refine ⟨by omega, fun z => by omega, ?_, fun z => by omega, fun _ => ⟨?_, by rw [ewt]; exact k4⟩⟩
      · have hb0 := avg_bd k3 (by omega) a2.1 (show 0 < 3 by omega)
        have hb1 := avg_bd k3 (by omega) a2.1 (show 1 < 3 by omega)
        have hb2 := avg_bd k3 (by omega) a2.1 (show 2 < 3 by omega)
        unfold col3
        rw [c3 0 (by omega), c3 1 (by omega), c3 2 (by omega)]
        exact ⟨hb0, hb1, hb2⟩
      · obtain ⟨x0, x1, x2, x3⟩ := k3
        unfold ink4
        rw [ewt, v0, v1, v2, v3]
        exact ⟨x0, x1, x2, x3, by omega⟩
    · rw [Q (367 + 5 * i) (by omega), Q (369 + 5 * i) (by omega), Q (371 + 5 * i) (by omega)]
      exact h6
  · have h7 := a7 i hi
    rw [c5, if_neg (by decide)]
    rcases (show i = j ∨ i ≠ j by omega) with y | y
    · subst y
      rw [c4, c4, if_neg (by decide), if_neg (by decide)]
      exact h7
    · rw [Q (367 + 5 * i) (by omega)]
      exact h7
  · unfold prOK at *
    rw [Q 74 (by omega), Q 75 (by omega)]
    exact a8
/-- what is left of a printed job, by base -/
theorem left_all {m : Nat → Int} {G : Int} (hm : ink4 m) (hG : 0 ≤ G) (hGw : G = wt m) : ∀ b, b < 4 → takeF m G b = m b := by
  have h1 := take_bd hm hG (by omega)
  have h2 := take_sum hm hG
  have t0 := h1 0 (by omega)
  have t1 := h1 1 (by omega)
  have t2 := h1 2 (by omega)
  have t3 := h1 3 (by omega)
  simp only [wt] at h2 hGw
  intro b hb
  rcases (show b = 0 ∨ b = 1 ∨ b = 2 ∨ b = 3 by omega) with rfl | rfl | rfl | rfl <;> omega
theorem inv_print {M M2 : Nat → Nat → Int} {n T j : Nat} {u ch : Int} (h : Inv M n T) (hj : j < n) (hu : 1 ≤ u ∧ u ≤ M (367 + 5 * j) 3) (hs : M (367 + 5 * j) 5 = 1) (hT9 : u < M (367 + 5 * j) 3 → T < 30) (hch : ch = 0 ∨ ch = 1) (hc : printM M M2 j T u ch) : Inv M2 n (if u < M (367 + 5 * j) 3 then T + 1 else T) ∧ (nMix M2 n : Int) = nMix M n - 1 ∧ (u < M (367 + 5 * j) 3 → M2 (11 + 2 * T) 0 + M2 (11 + 2 * T) 1 + M2 (11 + 2 * T) 2 + M2 (11 + 2 * T) 3 = 1000 * (M (367 + 5 * j) 3 - u)) := by
  obtain ⟨a1, a2, a3, a4, a5, a6, a7, a8, a9, a10⟩ := h
  obtain ⟨c1, c2, c3, c4, c5, c6, c7⟩ := hc
  obtain ⟨⟨n1, n2⟩, ⟨t1, t2⟩, d1, w1⟩ := id a1
  obtain ⟨g2, g3, g4, g5, g6⟩ := a5 j hj
  have s6 := a6 j (by omega)
  obtain ⟨k2, k3⟩ := s6.2.2.2.2 hs
  have q : ∀ x, x ≠ 77 → x ≠ 78 → x ≠ 371 + 5 * j → x ≠ 72 → x ≠ 74 → x ≠ 75 → x ≠ 367 + 5 * j → x ≠ 1 → (u < M (367 + 5 * j) 3 → x ≠ 11 + 2 * T) → M2 x = M x := fun x h1 h2 h3 h4 h5 h6 h7 h8 h9 => c1 x h1 h2 h3 h4 h5 h6 h7 (fun z => ⟨h8, h9 z⟩)
  have Q : ∀ x, ((x < 77 ∨ x = 85 ∨ (89 ≤ x ∧ x < 447)) ∧ x ≠ 371 + 5 * j ∧ x ≠ 72 ∧ x ≠ 74 ∧ x ≠ 75 ∧ x ≠ 367 + 5 * j ∧ x ≠ 1 ∧ x ≠ 11 + 2 * T) → M2 x = M x := fun x hx => q x (by omega) (by omega) hx.2.1 hx.2.2.1 hx.2.2.2.1 hx.2.2.2.2.1 hx.2.2.2.2.2.1 hx.2.2.2.2.2.2.1 (fun _ => hx.2.2.2.2.2.2.2)
  have hG : 0 ≤ u * 1000 ∧ u * 1000 ≤ wt (M (371 + 5 * j)) := by omega
  have tkb := take_bd k2 hG.1 hG.2
  have tks := take_sum k2 hG.1
  have inkb := i4_nn k2
  have w17 : 0 ≤ wearF (M 74 2) u ∧ wearF (M 74 2) u ≤ 9 := by
    unfold wearF
    split <;> omega
  have h52 : M2 (367 + 5 * j) 5 = 2 := by rw [c7, if_pos rfl]
  have hQ5 : ∀ i, i < n → i ≠ j → M2 (367 + 5 * i) = M (367 + 5 * i) ∧ M2 (371 + 5 * i) = M (371 + 5 * i) := fun i hi hne => ⟨Q _ (by omega), Q _ (by omega)⟩
  have hnm2 : (nMix M2 n : Int) = nMix M n - 1 := by
    rw [nMix_upd (M := M) (j := j) n (fun i hi hne => by rw [(hQ5 i hi hne).1]), if_pos hj, nM1, nM1, h52, hs]
    simp
    omega
  have htn : ∀ t, t < T → M2 (11 + 2 * t) = M (11 + 2 * t) := fun t ht => Q _ (by omega)
  have h13 : M2 1 3 = ((if u < M (367 + 5 * j) 3 then T + 1 else T : Nat) : Int) := by
    rcases (show u < M (367 + 5 * j) 3 ∨ ¬ u < M (367 + 5 * j) 3 by omega) with z | z
    · rw [(c3 z).1, if_pos z]
      omega
    · rw [if_neg z, c1 1 (by omega) (by omega) (by omega) (by omega) (by omega) (by omega) (by omega) (fun y => absurd y z)]
      exact t1
  refine ⟨⟨⟨⟨?_, n2⟩, ⟨h13, ?_⟩, ?_, ?_⟩, ⟨fun b hb => ?_, fun b hb => ?_⟩, fun b hb => ?_, fun t ht => ?_, ?_, fun i hi => ?_, fun i hi => ?_, ?_, by omega, wOK_congr a10 (fun x _ _ => Q x (by omega))⟩, hnm2, fun z => ?_⟩
  · rw [Q 0 (by omega)]; exact n1
  · split
    · rename_i z
      have := hT9 z
      omega
    · exact t2
  · rw [Q 0 (by omega)]; exact d1
  · rw [c6]; exact w17
  · rw [Q _ (by omega)]
    exact a2.1 b hb
  · rw [Q _ (by omega)]
    exact a2.2 b hb
  · have h0 := a3 b hb
    have tb := tkb b hb
    have ib := inkb b hb
    have cb := c2 b hb
    have e1 : inMix M2 b n = inMix M b n - M (371 + 5 * j) b := by
      rw [inMix_upd (M := M) (j := j) n (fun i hi hne => ⟨by rw [(hQ5 i hi hne).1], by rw [(hQ5 i hi hne).2]⟩), if_pos hj, inM1, inM1, h52, hs, if_pos rfl, if_neg (by decide)]
      omega
    have e2 : sumTo (fun t => M2 (11 + 2 * t) b) (if u < M (367 + 5 * j) 3 then T + 1 else T) = sumTo (fun t => M (11 + 2 * t) b) T + (M (371 + 5 * j) b - takeF (M (371 + 5 * j)) (u * 1000) b) := by
      rcases (show u < M (367 + 5 * j) 3 ∨ ¬ u < M (367 + 5 * j) 3 by omega) with z | z
      · rw [if_pos z, sumTo, sumTo_congr (f := fun t => M (11 + 2 * t) b) T (fun t ht => by rw [htn t ht]), (c3 z).2 b hb]
      · have := left_all k2 hG.1 (by omega) b hb
        rw [if_neg z, sumTo_congr (f := fun t => M (11 + 2 * t) b) T (fun t ht => by rw [htn t ht]), this]
        omega
    rw [Q 70 (by omega), Q 8 (by omega), cb, e1, e2]
    omega
  · rcases (show t < T ∨ (t = T ∧ u < M (367 + 5 * j) 3) by split at ht <;> omega) with y | ⟨y, z⟩
    · rw [htn t y]
      exact a4 t y
    · subst y
      have v0 := (c3 z).2 0 (by omega)
      have v1 := (c3 z).2 1 (by omega)
      have v2 := (c3 z).2 2 (by omega)
      have v3 := (c3 z).2 3 (by omega)
      have b0 := tkb 0 (by omega)
      have b1 := tkb 1 (by omega)
      have b2 := tkb 2 (by omega)
      have b3 := tkb 3 (by omega)
      have i0 := inkb 0 (by omega)
      have i1 := inkb 1 (by omega)
      have i2 := inkb 2 (by omega)
      have i3 := inkb 3 (by omega)
      simp only [tin4]
      omega
  · refine I5_congr (fun i hi => ?_) (fun i hi => Q _ (by omega)) a5
    rcases (show i = j ∨ i ≠ j by omega) with y | y
    · subst y
      rw [c7, c7]
      simp
    · rw [Q _ (by omega)]
      exact ⟨rfl, rfl⟩
  · have h6 := a6 i hi
    rcases (show i = j ∨ i ≠ j by omega) with y | y
    · subst y
      rw [h52, Q (369 + 5 * i) (by omega)]
      exact ⟨by omega, fun z => by omega, h6.2.2.1, fun z => by omega, fun z => by omega⟩
    · rw [Q (367 + 5 * i) (by omega), Q (369 + 5 * i) (by omega), Q (371 + 5 * i) (by omega)]
      exact h6
  · have h7 := a7 i hi
    rw [Q 0 (by omega)]
    rcases (show i = j ∨ i ≠ j by omega) with y | y
    · subst y
      rw [c7, c7]
      simp only [show ((6 : Nat) = 5) = False by decide, show ((7 : Nat) = 5) = False by decide, show ((7 : Nat) = 6) = False by decide, if_false, if_true]
      exact ⟨hch, d1.1, Int.le_refl _⟩
    · rw [Q (367 + 5 * i) (by omega)]
      exact h7
  · refine ⟨Or.inl c5, fun _ => ?_⟩
    have h6 := s6.2.2.1
    unfold col3 at h6 ⊢
    rw [c4 0 (by omega), c4 1 (by omega), c4 2 (by omega)]
    exact h6
  · have v0 := (c3 z).2 0 (by omega)
    have v1 := (c3 z).2 1 (by omega)
    have v2 := (c3 z).2 2 (by omega)
    have v3 := (c3 z).2 3 (by omega)
    simp only [wt] at tks k3
    omega
