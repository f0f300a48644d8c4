/-! what a taking takes: in all G, of no base more than there is -/
theorem gt4_max (r : Nat → Int) : r 0 ≤ r (gt4 r) ∧ r 1 ≤ r (gt4 r) ∧ r 2 ≤ r (gt4 r) ∧ r 3 ≤ r (gt4 r) := by
  unfold gt4
  by_cases h3 : r (gt4b r) < r 3
  · rw [if_pos h3]
    revert h3
    unfold gt4b
    by_cases h2 : r (gt4a r) < r 2
    · rw [if_pos h2]
      revert h2
      unfold gt4a
      split <;> intro h2 h3 <;> omega
    · rw [if_neg h2]
      revert h2
      unfold gt4a
      split <;> intro h2 h3 <;> omega
  · rw [if_neg h3]
    revert h3
    unfold gt4b
    by_cases h2 : r (gt4a r) < r 2
    · rw [if_pos h2]
      revert h2
      unfold gt4a
      split <;> intro h2 h3 <;> omega
    · rw [if_neg h2]
      revert h2
      unfold gt4a
      split <;> intro h2 h3 <;> omega
theorem gt4_cases (r : Nat → Int) : gt4 r = 0 ∨ gt4 r = 1 ∨ gt4 r = 2 ∨ gt4 r = 3 := by
  have := gt4_lt r
  omega
def mx0 (z : Int) : Int := if z < 0 then 0 else z
theorem mx0_nn {z : Int} (h : 0 ≤ z) : mx0 z = z := by
  unfold mx0
  rw [if_neg (by omega)]
def sr4 (r : Nat → Int) : Int := mx0 (r 0) + mx0 (r 1) + mx0 (r 2) + mx0 (r 3)
theorem agK_sum : ∀ (k : Nat) (p : (Nat → Int) × (Nat → Int)), wt (agK k p).1 = wt p.1 + k
  | 0, p => by simp [agK]
  | k + 1, p => by
    rw [agK, agK_sum k (ag1 p)]
    have : wt (ag1 p).1 = wt p.1 + 1 := by
      simp only [ag1, wt]
      rcases gt4_cases p.2 with h | h | h | h <;> rw [h] <;> simp <;> omega
    rw [this]
    omega
theorem agK_ge : ∀ (k : Nat) (p : (Nat → Int) × (Nat → Int)) (b : Nat), p.1 b ≤ (agK k p).1 b
  | 0, p, b => Int.le_refl _
  | k + 1, p, b => by
    refine Int.le_trans ?_ (agK_ge k (ag1 p) b)
    simp only [ag1]
    split <;> omega
theorem agK_up {m : Nat → Int} {w : Int} (hw : 0 < w) : ∀ (k : Nat) (p : (Nat → Int) × (Nat → Int)), (∀ b, b < 4 → p.1 b ≤ m b ∧ (p.2 b = -1 ∨ (0 ≤ p.2 b ∧ p.2 b < w ∧ (0 < p.2 b → p.1 b + 1 ≤ m b)))) → (k : Int) * w ≤ sr4 p.2 → ∀ b, b < 4 → (agK k p).1 b ≤ m b
  | 0, p, h, _, b, hb => (h b hb).1
  | k + 1, p, h, hS, b, hb => by
    have e : ((k + 1 : Nat) : Int) * w = (k : Int) * w + w := by rw [Int.natCast_add, Int.add_mul]; simp
    rw [e] at hS
    have hk : 0 ≤ (k : Int) * w := Int.mul_nonneg (Int.natCast_nonneg k) (Int.le_of_lt hw)
    obtain ⟨x0, x1, x2, x3⟩ := gt4_max p.2
    have hg := h (gt4 p.2) (gt4_lt p.2)
    have hpos : 0 < p.2 (gt4 p.2) := by
      simp only [sr4, mx0] at hS
      rcases (show 0 < p.2 (gt4 p.2) ∨ p.2 (gt4 p.2) ≤ 0 by omega) with q | q
      · exact q
      · exfalso
        split at hS <;> split at hS <;> split at hS <;> split at hS <;> omega
    refine agK_up hw k (ag1 p) (fun b hb => ?_) ?_ b hb
    · simp only [ag1]
      by_cases hbg : b = gt4 p.2
      · rw [if_pos hbg, if_pos hbg, hbg]
        refine ⟨?_, Or.inl rfl⟩
        rcases hg.2 with q | ⟨q1, q2, q3⟩
        · omega
        · exact q3 hpos
      · rw [if_neg hbg, if_neg hbg]
        exact h b hb
    · have hlt : p.2 (gt4 p.2) < w := by
        rcases hg.2 with q | ⟨q1, q2, q3⟩ <;> omega
      simp only [sr4, ag1]
      simp only [sr4] at hS
      rcases gt4_cases p.2 with q | q | q | q <;> rw [q] at hpos hlt ⊢ <;> simp [mx0] at hS ⊢ <;> (try rw [if_neg (show ¬ p.2 _ < 0 by omega)] at hS) <;> omega
theorem take_sum {m : Nat → Int} {G : Int} (hm : ink4 m) (hG : 0 ≤ G) : wt (takeF m G) = G := by
  obtain ⟨h1, -⟩ := tmiss_bd hm hG
  unfold takeF
  rw [agK_sum]
  show tq m G 0 + tq m G 1 + tq m G 2 + tq m G 3 + ((tmiss m G).toNat : Int) = G
  rw [Int.toNat_of_nonneg h1]
  simp only [tmiss]
  omega
theorem tq_nn {m : Nat → Int} {G : Int} {b : Nat} (hb : 0 ≤ m b) (hw : 0 < wt m) (hG : 0 ≤ G) : 0 ≤ tq m G b := Int.ediv_nonneg (Int.mul_nonneg hb hG) (Int.le_of_lt hw)
theorem take_bd {m : Nat → Int} {G : Int} (hm : ink4 m) (hG : 0 ≤ G) (hGw : G ≤ wt m) : ∀ b, b < 4 → 0 ≤ takeF m G b ∧ takeF m G b ≤ m b := by
  obtain ⟨h1, -⟩ := tmiss_bd hm hG
  obtain ⟨⟨a0, -⟩, ⟨a1, -⟩, ⟨a2, -⟩, ⟨a3, -⟩, hw⟩ := id hm
  have hmb : ∀ b, b < 4 → 0 ≤ m b := fun b hb => by
    rcases (show b = 0 ∨ b = 1 ∨ b = 2 ∨ b = 3 by omega) with rfl | rfl | rfl | rfl <;> assumption
  intro b hb
  refine ⟨Int.le_trans (tq_nn (hmb b hb) hw hG) (agK_ge _ _ b), ?_⟩
  refine agK_up hw _ _ (fun b hb => ?_) ?_ b hb
  · have e := Int.mul_ediv_add_emod (m b * G) (wt m)
    have l0 := Int.emod_nonneg (m b * G) (Int.ne_of_gt hw)
    have u0 := Int.emod_lt_of_pos (m b * G) hw
    have hle : m b * G ≤ m b * wt m := Int.mul_le_mul_of_nonneg_left hGw (hmb b hb)
    have hc : m b * wt m = wt m * m b := Int.mul_comm _ _
    simp only [tq, tr]
    generalize m b * G / wt m = x at e ⊢
    have hx : x ≤ m b := by
      rcases (show x ≤ m b ∨ m b + 1 ≤ x by omega) with q | q
      · exact q
      · have := Int.mul_le_mul_of_nonneg_left q (Int.le_of_lt hw)
        rw [Int.mul_add] at this
        omega
    refine ⟨hx, Or.inr ⟨l0, u0, fun hp => ?_⟩⟩
    rcases (show x + 1 ≤ m b ∨ x = m b by omega) with q | q
    · exact q
    · rw [q] at e
      omega
  · rw [Int.toNat_of_nonneg h1]
    have e0 := Int.mul_ediv_add_emod (m 0 * G) (wt m)
    have e1 := Int.mul_ediv_add_emod (m 1 * G) (wt m)
    have e2 := Int.mul_ediv_add_emod (m 2 * G) (wt m)
    have e3 := Int.mul_ediv_add_emod (m 3 * G) (wt m)
    have l0 := Int.emod_nonneg (m 0 * G) (Int.ne_of_gt hw)
    have l1 := Int.emod_nonneg (m 1 * G) (Int.ne_of_gt hw)
    have l2 := Int.emod_nonneg (m 2 * G) (Int.ne_of_gt hw)
    have l3 := Int.emod_nonneg (m 3 * G) (Int.ne_of_gt hw)
    show tmiss m G * wt m ≤ mx0 (m 0 * G % wt m) + mx0 (m 1 * G % wt m) + mx0 (m 2 * G % wt m) + mx0 (m 3 * G % wt m)
    rw [mx0_nn l0, mx0_nn l1, mx0_nn l2, mx0_nn l3]
    have : wt m * G = m 0 * G + m 1 * G + m 2 * G + m 3 * G := by simp only [wt, Int.add_mul]
    have k2 : tmiss m G * wt m = wt m * tmiss m G := Int.mul_comm _ _
    have k3 : wt m * tmiss m G = wt m * G - wt m * tq m G 0 - wt m * tq m G 1 - wt m * tq m G 2 - wt m * tq m G 3 := by simp only [tmiss, Int.mul_sub]
    simp only [tq] at k3
    omega
theorem takeF_congr {m m' : Nat → Int} {G : Int} (h : ∀ b, b < 4 → m b = m' b) : ∀ b, b < 4 → takeF m G b = takeF m' G b := by
  have h0 := h 0 (by omega)
  have h1 := h 1 (by omega)
  have h2 := h 2 (by omega)
  have h3 := h 3 (by omega)
  have ew : wt m = wt m' := by simp only [wt, h0, h1, h2, h3]
  have et : tmiss m G = tmiss m' G := by simp only [tmiss, tq, ew, h0, h1, h2, h3]
  intro b hb
  unfold takeF
  rw [et]
  exact (agK_congr _ _ _ (fun b hb => by simp only [tq, tr, ew, h b hb, and_self]) b hb).1
