/-! a job keeps what stays true; what is printed too -/
theorem inv_job {M : Nat → Nat → Int} {n T : Nat} {a b c g gap : Int} (h : Inv M n T) (hn16 : n < 16) (hp : P3 a b c) (hg : (10 ≤ g ∧ g ≤ 500) ∧ g % 10 = 0) (hgap : 0 ≤ gap ∧ gap ≤ 300) : Inv (up2 (up2 (up2 (up2 (up2 (up2 (th (up2 (up2 (up2 (up2 (up2 (up2 M (368 + 5 * n) 0 a) (368 + 5 * n) 1 b) (368 + 5 * n) 2 c) (367 + 5 * n) 3 g) (367 + 5 * n) 4 gap) 0 8 (M 0 8 + 1)) 0) 453 (3 * n) a) 453 (3 * n + 1) b) 453 (3 * n + 2) c) 455 n g) 456 n gap) 447 7 ((n : Int) + 1)) (n + 1) T := by
  obtain ⟨a1, a2, a3, a4, a5, a6, a7, a8, a9, a10⟩ := h
  unfold th
  generalize hM' : up2 _ 447 7 _ = M'
  have hT := a1.2.1.2.2
  have hn0 := a1.1.1
  have q : ∀ x, x ≠ 0 → x ≠ 367 + 5 * n → x ≠ 368 + 5 * n → x ≠ 447 → x ≠ 453 → x ≠ 455 → x ≠ 456 → M' x = M x := by
    intro x h1 h2 h3 h4 h5 h6 h7
    subst hM'
    rw [up2_r h4, up2_r h7, up2_r h6, up2_r h5, up2_r h5, up2_r h5, up2_r h4, up2_r h1, up2_r h2, up2_r h2, up2_r h3, up2_r h3, up2_r h3]
  have q0 : ∀ k, M' 0 k = if k = 8 then (n : Int) + 1 else M 0 k := by
    intro k
    subst hM'
    rw [up2_c (by decide), up2_c (by decide), up2_c (by decide), up2_c (by decide), up2_c (by decide), up2_c (by decide), up2_c (by decide), hn0]
    rcases (show k = 8 ∨ k ≠ 8 by omega) with e | e
    · rw [e, up2_s, if_pos rfl]
    · rw [up2_k e, if_neg e, up2_c (by omega), up2_c (by omega), up2_c (by omega), up2_c (by omega), up2_c (by omega)]
  have q7 : ∀ k, k ≠ 26 → M' 447 k = if k = 7 then (n : Int) + 1 else M 447 k := by
    intro k hk
    subst hM'
    rcases (show k = 7 ∨ k ≠ 7 by omega) with e | e
    · rw [e, up2_s, if_pos rfl]
    · rw [up2_k e, if_neg e, up2_c (by decide), up2_c (by decide), up2_c (by decide), up2_c (by decide), up2_c (by decide), up2_k hk, up2_c (by decide), up2_c (by omega), up2_c (by omega), up2_c (by omega), up2_c (by omega), up2_c (by omega)]
  have q67 : ∀ k, M' (367 + 5 * n) k = if k = 3 then g else if k = 4 then gap else M (367 + 5 * n) k := by
    intro k
    subst hM'
    rw [up2_c (by omega), up2_c (by omega), up2_c (by omega), up2_c (by omega), up2_c (by omega), up2_c (by omega), up2_c (by omega), up2_c (by omega)]
    rcases (show k = 3 ∨ k = 4 ∨ (k ≠ 3 ∧ k ≠ 4) by omega) with e | e | ⟨e, e'⟩
    · subst e
      simp [up2]
    · subst e
      simp [up2]
    · rw [up2_k e', up2_k e, if_neg e, if_neg e', up2_c (by omega), up2_c (by omega), up2_c (by omega)]
  have q68 : ∀ p, p < 3 → M' (368 + 5 * n) p = (if p = 0 then a else if p = 1 then b else c) ∧ M' 453 (3 * n + p) = (if p = 0 then a else if p = 1 then b else c) := by
    intro p hp9
    subst hM'
    rcases (show p = 0 ∨ p = 1 ∨ p = 2 by omega) with rfl | rfl | rfl
    · simp [up2, show 368 + 5 * n ≠ 447 by omega, show 368 + 5 * n ≠ 453 by omega, show 368 + 5 * n ≠ 455 by omega, show 368 + 5 * n ≠ 456 by omega, show 368 + 5 * n ≠ 367 + 5 * n by omega]
    · simp [up2, show 368 + 5 * n ≠ 447 by omega, show 368 + 5 * n ≠ 453 by omega, show 368 + 5 * n ≠ 455 by omega, show 368 + 5 * n ≠ 456 by omega, show 368 + 5 * n ≠ 367 + 5 * n by omega]
    · simp [up2, show 368 + 5 * n ≠ 447 by omega, show 368 + 5 * n ≠ 453 by omega, show 368 + 5 * n ≠ 455 by omega, show 368 + 5 * n ≠ 456 by omega, show 368 + 5 * n ≠ 367 + 5 * n by omega]
  have q53 : ∀ i, i < 3 * n → M' 453 i = M 453 i := by
    intro i hi
    subst hM'
    rw [up2_c (by decide), up2_c (by decide), up2_c (by decide), up2_k (by omega), up2_k (by omega), up2_k (by omega), up2_c (by decide), up2_c (by decide), up2_c (by omega), up2_c (by omega), up2_c (by omega), up2_c (by omega), up2_c (by omega)]
  have q55 : ∀ i, M' 455 i = (if i = n then g else M 455 i) ∧ M' 456 i = (if i = n then gap else M 456 i) := by
    intro i
    subst hM'
    rcases (show i = n ∨ i ≠ n by omega) with e | e
    · subst e
      simp [up2]
    · constructor
      · rw [up2_c (by decide), up2_c (by decide), up2_k e, if_neg e, up2_c (by decide), up2_c (by decide), up2_c (by decide), up2_c (by decide), up2_c (by decide), up2_c (by omega), up2_c (by omega), up2_c (by omega), up2_c (by omega), up2_c (by omega)]
      · rw [up2_c (by decide), up2_k e, if_neg e, up2_c (by decide), up2_c (by decide), up2_c (by decide), up2_c (by decide), up2_c (by decide), up2_c (by decide), up2_c (by omega), up2_c (by omega), up2_c (by omega), up2_c (by omega), up2_c (by omega)]
  clear hM'
  have Q : ∀ x, (x ≠ 0 ∧ x ≠ 367 + 5 * n ∧ x ≠ 368 + 5 * n ∧ x ≠ 447 ∧ x ≠ 453 ∧ x ≠ 455 ∧ x ≠ 456) → M' x = M x := fun x h => q x h.1 h.2.1 h.2.2.1 h.2.2.2.1 h.2.2.2.2.1 h.2.2.2.2.2.1 h.2.2.2.2.2.2
  have e5 : ∀ j, j < 16 → ∀ k, k ≠ 3 → k ≠ 4 → M' (367 + 5 * j) k = M (367 + 5 * j) k := by
    intro j hj k h3 h4
    rcases (show j = n ∨ j ≠ n by omega) with e | e
    · rw [e, q67, if_neg h3, if_neg h4]
    · rw [Q _ (by omega)]
  refine ⟨?_, I2_congr (fun b hb => Q _ (by omega)) (Q _ (by omega)) (Q _ (by omega)) a2, I3_congr (Q _ (by omega)) (Q _ (by omega)) (Q _ (by omega)) (Q _ (by omega)) (Q _ (by omega)) (Q _ (by omega)) (cnt2_congr (Q _ (by omega)) 16) a3, I4_congr (fun t ht => Q _ (by omega)) (Q _ (by omega)) a4, fun j hj => ?_, fun j hj => ?_, I7_congr (fun j hj => ⟨e5 j hj 6 (by decide) (by decide), e5 j hj 7 (by decide) (by decide)⟩) (Q _ (by omega)) (by rw [q7 0 (by decide), if_neg (by decide)]) a7, I8_congr (by rw [Q _ (by omega)]) (Q _ (by omega)) (Q _ (by omega)) (Q _ (by omega)) (by rw [q7 16 (by decide), if_neg (by decide)]) a8, ?_, wOK_congr a10 (fun x _ _ => Q x (by omega))⟩
  · unfold I1 at *
    rw [q0 8, q0 9, q0 10, q7 7 (by decide), q7 5 (by decide), q7 15 (by decide), q7 17 (by decide), q7 0 (by decide), Q 1 (by omega), Q 74 (by omega)]
    simp only [if_true]
    rw [if_neg (by decide), if_neg (by decide), if_neg (by decide), if_neg (by decide), if_neg (by decide), if_neg (by decide)]
    refine ⟨⟨by omega, by omega, by omega⟩, a1.2⟩
  · rcases (show j = n ∨ j < n by omega) with e | e
    · subst e
      rw [q67 3, q67 4, (q55 j).1, (q55 j).2]
      simp only [if_true]
      rw [if_neg (by decide)]
      refine ⟨fun p hp9 => by rw [(q68 p hp9).1, (q68 p hp9).2], ?_, by trivial, hg.1, hg.2, by trivial, hgap⟩
      obtain ⟨p1, p2, p3⟩ := hp
      have c0 := (q68 0 (by omega)).1
      have c1 := (q68 1 (by omega)).1
      have c2 := (q68 2 (by omega)).1
      rw [if_pos rfl] at c0
      rw [if_neg (by decide), if_pos rfl] at c1
      rw [if_neg (by decide), if_neg (by decide)] at c2
      unfold col3
      rw [c0, c1, c2]
      exact ⟨p1, p2, p3⟩
    · have := a5 j e
      rw [Q (368 + 5 * j) (by omega), Q (367 + 5 * j) (by omega), (q55 j).1, (q55 j).2, if_neg (by omega), if_neg (by omega)]
      refine ⟨fun p hp9 => ?_, this.2⟩
      rw [q53 _ (by omega)]
      exact this.1 p hp9
  · have := a6 j hj
    rw [e5 j hj 5 (by decide) (by decide), Q 457 (by omega), Q (369 + 5 * j) (by omega), Q (371 + 5 * j) (by omega), Q 454 (by omega), Q 459 (by omega), (q55 j).1]
    refine ⟨this.1, this.2.1, fun h => this.2.2.1 (by omega), this.2.2.2.1, this.2.2.2.2.1, this.2.2.2.2.2.1, fun h => ?_⟩
    rw [if_neg (fun e => by have := this.2.2.1 (by omega); omega)]
    exact this.2.2.2.2.2.2 h
  · rw [nMixm_congr (Q 457 (by omega)), nMixm, if_neg]
    · exact a9
    · have := (a6 n hn16).2.2.1 (Nat.le_refl n)
      omega
