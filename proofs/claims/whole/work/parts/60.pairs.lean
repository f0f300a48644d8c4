/-! the calls that change something keep what stays true -/
theorem inv_setBase {M : Nat → Nat → Int} {n T j : Nat} {a b c : Int} (h : Inv M n T) (hj : j < 4) (hp : P3 a b c) : Inv (up2 (up2 (up2 (th (up2 (up2 (up2 M (3 + j) 0 a) (3 + j) 1 b) (3 + j) 2 c) 0) 448 (3 * j) a) 448 (3 * j + 1) b) 448 (3 * j + 2) c) n T := by
  obtain ⟨a1, a2, a3, a4, a5, a6, a7, a8, a9, a10⟩ := h
  unfold th
  generalize hM' : up2 _ 448 (3 * j + 2) c = M'
  have hT := a1.2.1.2.2
  have hn := a1.1.2.2
  have q : ∀ x, x ≠ 3 + j → x ≠ 448 → x ≠ 447 → M' x = M x := by
    intro x h1 h2 h3
    subst hM'
    rw [up2_r h2, up2_r h2, up2_r h2, up2_r h3, up2_r h1, up2_r h1, up2_r h1]
  have q7 : ∀ k, k ≠ 26 → M' 447 k = M 447 k := by
    intro k hk
    subst hM'
    rw [up2_c (by decide), up2_c (by decide), up2_c (by decide), up2_k hk, up2_c (by omega), up2_c (by omega), up2_c (by omega)]
  have qc : ∀ p, p < 3 → M' (3 + j) p = M' 448 (3 * j + p) ∧ M' (3 + j) p = if p = 0 then a else if p = 1 then b else c := by
    intro p hp9
    subst hM'
    rcases (show p = 0 ∨ p = 1 ∨ p = 2 by omega) with rfl | rfl | rfl
    · simp [up2, show 3 + j ≠ 448 by omega, show 3 + j ≠ 447 by omega]
    · simp [up2, show 3 + j ≠ 448 by omega, show 3 + j ≠ 447 by omega]
    · simp [up2, show 3 + j ≠ 448 by omega, show 3 + j ≠ 447 by omega]
  have q8 : ∀ i, (i < 3 * j ∨ 3 * j + 3 ≤ i) → M' 448 i = M 448 i := by
    intro i hi
    subst hM'
    rw [up2_k (by omega), up2_k (by omega), up2_k (by omega), up2_c (by decide), up2_c (by omega), up2_c (by omega), up2_c (by omega)]
  clear hM'
  refine ⟨I1_congr (by rw [q 0 (by omega) (by omega) (by omega)]) (by rw [q 0 (by omega) (by omega) (by omega)]) (by rw [q 0 (by omega) (by omega) (by omega)]) (by rw [q 1 (by omega) (by omega) (by omega)]) (by rw [q 74 (by omega) (by omega) (by omega)]) (fun k _ h2 _ => q7 k h2) a1, ⟨fun b' p hb hp9 => ?_, fun b' hb => ?_, fun b' hb => ?_⟩, I3_congr (q _ (by omega) (by omega) (by omega)) (q _ (by omega) (by omega) (by omega)) (q _ (by omega) (by omega) (by omega)) (q _ (by omega) (by omega) (by omega)) (q _ (by omega) (by omega) (by omega)) (q _ (by omega) (by omega) (by omega)) (cnt2_congr (q _ (by omega) (by omega) (by omega)) 16) a3, I4_congr (fun t ht => q _ (by omega) (by omega) (by omega)) (q _ (by omega) (by omega) (by omega)) a4, I5_congr (fun j' hj' => ⟨by rw [q _ (by omega) (by omega) (by omega)], by rw [q _ (by omega) (by omega) (by omega)]⟩) (fun j' hj' => q _ (by omega) (by omega) (by omega)) (q _ (by omega) (by omega) (by omega)) (q _ (by omega) (by omega) (by omega)) (q _ (by omega) (by omega) (by omega)) a5, I6_congr (fun j' hj' => by rw [q _ (by omega) (by omega) (by omega)]) (fun j' hj' => q _ (by omega) (by omega) (by omega)) (fun j' hj' => q _ (by omega) (by omega) (by omega)) (q _ (by omega) (by omega) (by omega)) (q _ (by omega) (by omega) (by omega)) (q _ (by omega) (by omega) (by omega)) (q _ (by omega) (by omega) (by omega)) a6, I7_congr (fun j' hj' => ⟨by rw [q _ (by omega) (by omega) (by omega)], by rw [q _ (by omega) (by omega) (by omega)]⟩) (q _ (by omega) (by omega) (by omega)) (q7 0 (by decide)) a7, I8_congr (by rw [q _ (by omega) (by omega) (by omega)]) (q _ (by omega) (by omega) (by omega)) (q _ (by omega) (by omega) (by omega)) (q _ (by omega) (by omega) (by omega)) (q7 16 (by decide)) a8, by rw [nMixm_congr (q 457 (by omega) (by omega) (by omega))]; exact a9, wOK_congr a10 (fun x _ _ => q x (by omega) (by omega) (by omega))⟩
  · rcases (show b' = j ∨ b' ≠ j by omega) with e | e
    · subst e
      exact (qc p hp9).1
    · rw [q (3 + b') (by omega) (by omega) (by omega), q8 _ (by omega)]
      exact a2.1 b' p hb hp9
  · rcases (show b' = j ∨ b' ≠ j by omega) with e | e
    · subst e
      obtain ⟨p1, p2, p3⟩ := hp
      have c0 := (qc 0 (by omega)).2
      have c1 := (qc 1 (by omega)).2
      have c2 := (qc 2 (by omega)).2
      simp only [if_true] at c0
      rw [if_neg (by decide), if_pos rfl] at c1
      rw [if_neg (by decide), if_neg (by decide)] at c2
      unfold col3
      rw [c0, c1, c2]
      exact ⟨p1, p2, p3⟩
    · rw [q (3 + b') (by omega) (by omega) (by omega)]
      exact a2.2.1 b' hb
  · rw [q 85 (by omega) (by omega) (by omega)]
    exact a2.2.2 b' hb
theorem inv_pass {M : Nat → Nat → Int} {n T : Nat} {z : Int} (h : Inv M n T) (hz : 1 ≤ z ∧ M 0 10 + z ≤ 10000) : Inv (up2 (th (up2 M 0 10 (M 0 10 + z)) 0) 447 0 (M 447 0 + z)) n T := by
  obtain ⟨a1, a2, a3, a4, a5, a6, a7, a8, a9, a10⟩ := h
  unfold th
  generalize hM' : up2 _ 447 0 _ = M'
  have hT := a1.2.1.2.2
  have hn := a1.1.2.2
  have q : ∀ x, x ≠ 0 → x ≠ 447 → M' x = M x := by
    intro x h1 h2
    subst hM'
    rw [up2_r h2, up2_r h2, up2_r h1]
  have q0 : ∀ k, k ≠ 10 → M' 0 k = M 0 k := by
    intro k hk
    subst hM'
    rw [up2_c (by decide), up2_c (by decide), up2_k hk]
  have q7 : ∀ k, k ≠ 26 → k ≠ 0 → M' 447 k = M 447 k := by
    intro k hk h0
    subst hM'
    rw [up2_k h0, up2_k hk, up2_c (by decide)]
  have qd : M' 447 0 = M 447 0 + z ∧ M' 0 10 = M 0 10 + z := by
    subst hM'
    exact ⟨up2_s, by rw [up2_c (by decide), up2_c (by decide), up2_s]⟩
  clear hM'
  obtain ⟨d1, d2⟩ := qd
  refine ⟨?_, I2_congr (fun b hb => q _ (by omega) (by omega)) (q _ (by omega) (by omega)) (q _ (by omega) (by omega)) a2, I3_congr (q _ (by omega) (by omega)) (q _ (by omega) (by omega)) (q _ (by omega) (by omega)) (q _ (by omega) (by omega)) (q _ (by omega) (by omega)) (q _ (by omega) (by omega)) (cnt2_congr (q _ (by omega) (by omega)) 16) a3, I4_congr (fun t ht => q _ (by omega) (by omega)) (q _ (by omega) (by omega)) a4, I5_congr (fun j' hj' => ⟨by rw [q _ (by omega) (by omega)], by rw [q _ (by omega) (by omega)]⟩) (fun j' hj' => q _ (by omega) (by omega)) (q _ (by omega) (by omega)) (q _ (by omega) (by omega)) (q _ (by omega) (by omega)) a5, I6_congr (fun j' hj' => by rw [q _ (by omega) (by omega)]) (fun j' hj' => q _ (by omega) (by omega)) (fun j' hj' => q _ (by omega) (by omega)) (q _ (by omega) (by omega)) (q _ (by omega) (by omega)) (q _ (by omega) (by omega)) (q _ (by omega) (by omega)) a6, fun j hj => ?_, I8_congr (by rw [q _ (by omega) (by omega)]) (q _ (by omega) (by omega)) (q _ (by omega) (by omega)) (q _ (by omega) (by omega)) (q7 16 (by decide) (by decide)) a8, by rw [nMixm_congr (q 457 (by omega) (by omega))]; exact a9, wOK_congr a10 (fun x _ _ => q x (by omega) (by omega))⟩
  · unfold I1 at *
    rw [q0 8 (by decide), q0 9 (by decide), d1, d2, q 1 (by omega) (by omega), q 74 (by omega) (by omega), q7 7 (by decide) (by decide), q7 5 (by decide) (by decide), q7 15 (by decide) (by decide), q7 17 (by decide) (by decide)]
    omega
  · have := a7 j hj
    rw [q _ (by omega) (by omega), q 458 (by omega) (by omega), d1]
    omega
theorem inv_buy {M : Nat → Nat → Int} {n T j : Nat} {g : Int} (h : Inv M n T) (hj : j < 4) (hg : 1 ≤ g ∧ M 70 j + g ≤ 100000) : Inv (up2 (up2 (th (up2 (up2 M 70 j (M 70 j + g)) 8 j (M 8 j + g * 1000)) 0) 449 j (M 449 j + g)) 450 j (M 450 j + g * 1000)) n T := by
  obtain ⟨a1, a2, a3, a4, a5, a6, a7, a8, a9, a10⟩ := h
  unfold th
  generalize hM' : up2 _ 450 j _ = M'
  have hT := a1.2.1.2.2
  have hn := a1.1.2.2
  have q : ∀ x, x ≠ 70 → x ≠ 8 → x ≠ 449 → x ≠ 450 → x ≠ 447 → M' x = M x := by
    intro x h1 h2 h3 h4 h5
    subst hM'
    rw [up2_r h4, up2_r h3, up2_r h5, up2_r h2, up2_r h1]
  have q7 : ∀ k, k ≠ 26 → M' 447 k = M 447 k := by
    intro k hk
    subst hM'
    rw [up2_c (by decide), up2_c (by decide), up2_k hk, up2_c (by decide), up2_c (by decide)]
  have qv : ∀ b, M' 70 b = (if b = j then M 70 b + g else M 70 b) ∧ M' 8 b = (if b = j then M 8 b + g * 1000 else M 8 b) ∧ M' 449 b = (if b = j then M 449 b + g else M 449 b) ∧ M' 450 b = (if b = j then M 450 b + g * 1000 else M 450 b) := by
    intro b
    subst hM'
    rcases (show b = j ∨ b ≠ j by omega) with e | e
    · subst e
      simp [up2]
    · simp [up2, e]
  clear hM'
  refine ⟨I1_congr (by rw [q 0 (by omega) (by omega) (by omega) (by omega) (by omega)]) (by rw [q 0 (by omega) (by omega) (by omega) (by omega) (by omega)]) (by rw [q 0 (by omega) (by omega) (by omega) (by omega) (by omega)]) (by rw [q 1 (by omega) (by omega) (by omega) (by omega) (by omega)]) (by rw [q 74 (by omega) (by omega) (by omega) (by omega) (by omega)]) (fun k _ h2 _ => q7 k h2) a1, I2_congr (fun b hb => q _ (by omega) (by omega) (by omega) (by omega) (by omega)) (q _ (by omega) (by omega) (by omega) (by omega) (by omega)) (q _ (by omega) (by omega) (by omega) (by omega) (by omega)) a2, fun b hb => ?_, I4_congr (fun t ht => q _ (by omega) (by omega) (by omega) (by omega) (by omega)) (q _ (by omega) (by omega) (by omega) (by omega) (by omega)) a4, I5_congr (fun j' hj' => ⟨by rw [q _ (by omega) (by omega) (by omega) (by omega) (by omega)], by rw [q _ (by omega) (by omega) (by omega) (by omega) (by omega)]⟩) (fun j' hj' => q _ (by omega) (by omega) (by omega) (by omega) (by omega)) (q _ (by omega) (by omega) (by omega) (by omega) (by omega)) (q _ (by omega) (by omega) (by omega) (by omega) (by omega)) (q _ (by omega) (by omega) (by omega) (by omega) (by omega)) a5, I6_congr (fun j' hj' => by rw [q _ (by omega) (by omega) (by omega) (by omega) (by omega)]) (fun j' hj' => q _ (by omega) (by omega) (by omega) (by omega) (by omega)) (fun j' hj' => q _ (by omega) (by omega) (by omega) (by omega) (by omega)) (q _ (by omega) (by omega) (by omega) (by omega) (by omega)) (q _ (by omega) (by omega) (by omega) (by omega) (by omega)) (q _ (by omega) (by omega) (by omega) (by omega) (by omega)) (q _ (by omega) (by omega) (by omega) (by omega) (by omega)) a6, I7_congr (fun j' hj' => ⟨by rw [q _ (by omega) (by omega) (by omega) (by omega) (by omega)], by rw [q _ (by omega) (by omega) (by omega) (by omega) (by omega)]⟩) (q _ (by omega) (by omega) (by omega) (by omega) (by omega)) (q7 0 (by decide)) a7, I8_congr (by rw [q _ (by omega) (by omega) (by omega) (by omega) (by omega)]) (q _ (by omega) (by omega) (by omega) (by omega) (by omega)) (q _ (by omega) (by omega) (by omega) (by omega) (by omega)) (q _ (by omega) (by omega) (by omega) (by omega) (by omega)) (q7 16 (by decide)) a8, by rw [nMixm_congr (q 457 (by omega) (by omega) (by omega) (by omega) (by omega))]; exact a9, wOK_congr a10 (fun x _ _ => q x (by omega) (by omega) (by omega) (by omega) (by omega))⟩
  have hb3 := a3 b hb
  obtain ⟨v1, v2, v3, v4⟩ := qv b
  rw [cnt2_congr (q 457 (by omega) (by omega) (by omega) (by omega) (by omega)) 16, v1, v2, v3, v4, q 72 (by omega) (by omega) (by omega) (by omega) (by omega), q 451 (by omega) (by omega) (by omega) (by omega) (by omega)]
  rcases (show b = j ∨ b ≠ j by omega) with e | e
  · subst e
    rw [if_pos rfl, if_pos rfl, if_pos rfl, if_pos rfl]
    omega
  · rw [if_neg e, if_neg e, if_neg e, if_neg e]
    exact hb3
