/-! WHAT STAYS TRUE between the calls: the class's cells say what the model's say -/
def cnt2 (M : Nat → Nat → Int) : Nat → Nat
  | 0 => 0
  | k + 1 => cnt2 M k + if M 457 k = 2 then 1 else 0
theorem cnt2_le {M : Nat → Nat → Int} : ∀ k, cnt2 M k ≤ k
  | 0 => Nat.le_refl 0
  | k + 1 => by
    have := cnt2_le (M := M) k
    rw [cnt2]
    split <;> omega
def I1 (M : Nat → Nat → Int) (n T : Nat) : Prop := (M 0 8 = (n : Int) ∧ M 447 7 = (n : Int) ∧ n ≤ 16) ∧ (M 1 3 = (T : Int) ∧ M 447 5 = (T : Int) ∧ T ≤ 30) ∧ (M 0 10 = M 447 0 ∧ 0 ≤ M 447 0 ∧ M 447 0 ≤ 10000) ∧ (M 0 9 = M 447 15 ∧ (M 447 15 = 0 ∨ M 447 15 = 1)) ∧ (M 74 2 = M 447 17 ∧ 0 ≤ M 447 17 ∧ M 447 17 ≤ 9)
def I2 (M : Nat → Nat → Int) : Prop := (∀ b p, b < 4 → p < 3 → M (3 + b) p = M 448 (3 * b + p)) ∧ (∀ b, b < 4 → col3 (M (3 + b))) ∧ ∀ b, b < 4 → M 85 b = 0
def I3 (M : Nat → Nat → Int) : Prop := ∀ b, b < 4 → M 70 b = M 449 b ∧ M 8 b = M 450 b ∧ M 72 b = M 451 b ∧ (0 ≤ M 449 b ∧ M 449 b ≤ 100000) ∧ (0 ≤ M 450 b ∧ M 450 b ≤ M 449 b * 1000) ∧ (0 ≤ M 451 b ∧ M 451 b ≤ 500000 * (cnt2 M 16 : Int))
def I4 (M : Nat → Nat → Int) (T : Nat) : Prop := ∀ t, t < T → (∀ b, b < 4 → M (11 + 2 * t) b = M 452 (4 * t + b)) ∧ tin4 (M (11 + 2 * t)) ∧ wt (M (11 + 2 * t)) ≤ 500000
def I5 (M : Nat → Nat → Int) (n : Nat) : Prop := ∀ j, j < n → (∀ p, p < 3 → M (368 + 5 * j) p = M 453 (3 * j + p)) ∧ col3 (M (368 + 5 * j)) ∧ M (367 + 5 * j) 3 = M 455 j ∧ (10 ≤ M 455 j ∧ M 455 j ≤ 500) ∧ M 455 j % 10 = 0 ∧ M (367 + 5 * j) 4 = M 456 j ∧ 0 ≤ M 456 j ∧ M 456 j ≤ 300
def I6 (M : Nat → Nat → Int) (n : Nat) : Prop := ∀ j, j < 16 → M (367 + 5 * j) 5 = M 457 j ∧ (0 ≤ M 457 j ∧ M 457 j ≤ 2) ∧ (n ≤ j → M 457 j = 0) ∧ (∀ p, p < 3 → M (369 + 5 * j) p = M 454 (3 * j + p)) ∧ col3 (M (369 + 5 * j)) ∧ (M 457 j = 0 → ∀ b, b < 4 → M (371 + 5 * j) b = 0) ∧ (M 457 j = 1 → (∀ b, b < 4 → M (371 + 5 * j) b = M 459 (4 * j + b)) ∧ ink4 (M (371 + 5 * j)) ∧ wt (M (371 + 5 * j)) = 1000 * M 455 j)
def I7 (M : Nat → Nat → Int) : Prop := ∀ j, j < 16 → ((M (367 + 5 * j) 6 = 0 ∧ M 458 j = 0) ∨ (M (367 + 5 * j) 6 = 1 ∧ M 458 j = M (367 + 5 * j) 7 + 1)) ∧ 0 ≤ M (367 + 5 * j) 7 ∧ M (367 + 5 * j) 7 ≤ M 447 0
def I8 (M : Nat → Nat → Int) : Prop := (M 447 16 = -1 ∧ M 74 1 = 1) ∨ ((0 ≤ M 447 16 ∧ M 447 16 < 16) ∧ M 74 1 = 0 ∧ M 457 (M 447 16).toNat = 2 ∧ ∀ p, p < 3 → M 75 p = M 454 (3 * (M 447 16).toNat + p))
def Inv (M : Nat → Nat → Int) (n T : Nat) : Prop := I1 M n T ∧ I2 M ∧ I3 M ∧ I4 M T ∧ I5 M n ∧ I6 M n ∧ I7 M ∧ I8 M ∧ nMixm M n ≤ 8 ∧ wOK M
/-- the cells that the state lies in -/
def core (x : Nat) : Prop := x < 77 ∨ x = 85 ∨ (367 ≤ x ∧ x < 447) ∨ (448 ≤ x ∧ x < 460)
theorem cnt2_congr {M M' : Nat → Nat → Int} (h : M' 457 = M 457) : ∀ k, cnt2 M' k = cnt2 M k
  | 0 => rfl
  | k + 1 => by rw [cnt2, cnt2, cnt2_congr h k, h]
theorem I1_congr {M M' : Nat → Nat → Int} {n T : Nat} (h8 : M' 0 8 = M 0 8) (h10 : M' 0 10 = M 0 10) (h9 : M' 0 9 = M 0 9) (h1 : M' 1 3 = M 1 3) (h74 : M' 74 2 = M 74 2) (h4 : ∀ k, k ≠ 23 → k ≠ 26 → k ≠ 16 → M' 447 k = M 447 k) (h : I1 M n T) : I1 M' n T := by
  unfold I1 at *
  rw [h8, h9, h10, h1, h74, h4 7 (by decide) (by decide) (by decide), h4 5 (by decide) (by decide) (by decide), h4 0 (by decide) (by decide) (by decide), h4 15 (by decide) (by decide) (by decide), h4 17 (by decide) (by decide) (by decide)]
  exact h
theorem I2_congr {M M' : Nat → Nat → Int} (h3 : ∀ b, b < 4 → M' (3 + b) = M (3 + b)) (h448 : M' 448 = M 448) (h85 : M' 85 = M 85) (h : I2 M) : I2 M' := by
  obtain ⟨h1, h2, h4⟩ := h
  refine ⟨fun b p hb hp => ?_, fun b hb => ?_, fun b hb => ?_⟩
  · rw [h3 b hb, h448]
    exact h1 b p hb hp
  · rw [h3 b hb]
    exact h2 b hb
  · rw [h85]
    exact h4 b hb
theorem I3_congr {M M' : Nat → Nat → Int} (h70 : M' 70 = M 70) (h8 : M' 8 = M 8) (h72 : M' 72 = M 72) (h449 : M' 449 = M 449) (h450 : M' 450 = M 450) (h451 : M' 451 = M 451) (h457 : cnt2 M' 16 = cnt2 M 16) (h : I3 M) : I3 M' := by
  unfold I3 at *
  rw [h457, h70, h8, h72, h449, h450, h451]
  exact h
theorem I4_congr {M M' : Nat → Nat → Int} {T : Nat} (h11 : ∀ t, t < T → M' (11 + 2 * t) = M (11 + 2 * t)) (h452 : M' 452 = M 452) (h : I4 M T) : I4 M' T := by
  intro t ht
  rw [h11 t ht, h452]
  exact h t ht
theorem I5_congr {M M' : Nat → Nat → Int} {n : Nat} (h34 : ∀ j, j < n → M' (367 + 5 * j) 3 = M (367 + 5 * j) 3 ∧ M' (367 + 5 * j) 4 = M (367 + 5 * j) 4) (h368 : ∀ j, j < n → M' (368 + 5 * j) = M (368 + 5 * j)) (h453 : M' 453 = M 453) (h455 : M' 455 = M 455) (h456 : M' 456 = M 456) (h : I5 M n) : I5 M' n := by
  intro j hj
  rw [(h34 j hj).1, (h34 j hj).2, h368 j hj, h453, h455, h456]
  exact h j hj
theorem I6_congr {M M' : Nat → Nat → Int} {n : Nat} (h5 : ∀ j, j < 16 → M' (367 + 5 * j) 5 = M (367 + 5 * j) 5) (h369 : ∀ j, j < 16 → M' (369 + 5 * j) = M (369 + 5 * j)) (h371 : ∀ j, j < 16 → M' (371 + 5 * j) = M (371 + 5 * j)) (h454 : M' 454 = M 454) (h457 : M' 457 = M 457) (h459 : M' 459 = M 459) (h455 : M' 455 = M 455) (h : I6 M n) : I6 M' n := by
  intro j hj
  rw [h5 j hj, h369 j hj, h371 j hj, h454, h457, h459, h455]
  exact h j hj
theorem I7_congr {M M' : Nat → Nat → Int} (h67 : ∀ j, j < 16 → M' (367 + 5 * j) 6 = M (367 + 5 * j) 6 ∧ M' (367 + 5 * j) 7 = M (367 + 5 * j) 7) (h458 : M' 458 = M 458) (h0 : M' 447 0 = M 447 0) (h : I7 M) : I7 M' := by
  intro j hj
  rw [(h67 j hj).1, (h67 j hj).2, h458, h0]
  exact h j hj
theorem I8_congr {M M' : Nat → Nat → Int} (h74 : M' 74 1 = M 74 1) (h75 : M' 75 = M 75) (h454 : M' 454 = M 454) (h457 : M' 457 = M 457) (h0 : M' 447 16 = M 447 16) (h : I8 M) : I8 M' := by
  unfold I8 at *
  rw [h74, h75, h454, h457, h0]
  exact h
theorem Inv_congr {M M' : Nat → Nat → Int} {n T : Nat} (h : Inv M n T) (hc : ∀ x, core x → M' x = M x) (h4 : ∀ k, k ≠ 23 → k ≠ 26 → M' 447 k = M 447 k) (hw : wOK M') : Inv M' n T := by
  obtain ⟨a1, a2, a3, a4, a5, a6, a7, a8, a9, a10⟩ := h
  have c : ∀ x k, core x → M' x k = M x k := fun x k hx => by rw [hc x hx]
  have q : ∀ x, (x < 77 ∨ x = 85 ∨ (367 ≤ x ∧ x < 447) ∨ (448 ≤ x ∧ x < 460)) → M' x = M x := hc
  have hT := a1.2.1.2.2
  have hn := a1.1.2.2
  exact ⟨I1_congr (by rw [q 0 (by omega)]) (by rw [q 0 (by omega)]) (by rw [q 0 (by omega)]) (by rw [q 1 (by omega)]) (by rw [q 74 (by omega)]) (fun k h1 h2 _ => h4 k h1 h2) a1, I2_congr (fun b hb => q _ (by omega)) (q _ (by omega)) (q _ (by omega)) a2, I3_congr (q _ (by omega)) (q _ (by omega)) (q _ (by omega)) (q _ (by omega)) (q _ (by omega)) (q _ (by omega)) (cnt2_congr (q _ (by omega)) 16) a3, I4_congr (fun t ht => q _ (by omega)) (q _ (by omega)) a4, I5_congr (fun j hj => ⟨by rw [q _ (by omega)], by rw [q _ (by omega)]⟩) (fun j hj => q _ (by omega)) (q _ (by omega)) (q _ (by omega)) (q _ (by omega)) a5, I6_congr (fun j hj => by rw [q _ (by omega)]) (fun j hj => q _ (by omega)) (fun j hj => q _ (by omega)) (q _ (by omega)) (q _ (by omega)) (q _ (by omega)) (q _ (by omega)) a6, I7_congr (fun j hj => ⟨by rw [q _ (by omega)], by rw [q _ (by omega)]⟩) (q _ (by omega)) (h4 0 (by decide) (by decide)) a7, I8_congr (by rw [q _ (by omega)]) (q _ (by omega)) (q _ (by omega)) (q _ (by omega)) (h4 16 (by decide) (by decide)) a8, by rw [nMixm_congr (q 457 (by omega))]; exact a9, hw⟩
theorem wOK_congr {M M' : Nat → Nat → Int} (h : wOK M) (hc : ∀ x, 101 ≤ x → x < 367 → M' x = M x) : wOK M' := by
  refine ⟨fun f hf k hk => ?_, fun s hs f hf => ?_⟩
  · rw [hc (101 + f) (by omega) (by omega)]
    exact h.1 f hf k hk
  · rw [hc (111 + s) (by omega) (by omega)]
    exact h.2 s hs f hf
/-- the class counts what the model counts -/
theorem nMix_m {M : Nat → Nat → Int} {n : Nat} (h : I6 M n) : ∀ k, k ≤ 16 → nMix M k = nMixm M k
  | 0, _ => rfl
  | k + 1, hk => by
    rw [nMix, nMixm, nMix_m h k (by omega), (h k (by omega)).1]
theorem mixAt_m {M : Nat → Nat → Int} {n : Nat} (h : I6 M n) : ∀ j k, j ≤ 16 → mixAt M j k = mixAtm M j k
  | 0, _, _ => rfl
  | j + 1, k, hj => by
    rw [mixAt, mixAtm, nMix_m h j (by omega), mixAt_m h j k (by omega), (h j (by omega)).1]
/-- the start -/
theorem Inv_0 : Inv M0 0 0 := by
  have z : ∀ x k, (x ≠ 4 ∧ x ≠ 5 ∧ x ≠ 6 ∧ x ≠ 74 ∧ x ≠ 447 ∧ x ≠ 448) → M0 x k = 0 := fun x k h => M0_z h
  have z4 : ∀ k, k ≠ 16 → M0 447 k = 0 := fun k h => by simp [M0, h]
  have z16 : M0 447 16 = -1 := by simp [M0]
  have c2 : cnt2 M0 16 = 0 := by
    have : ∀ k, cnt2 M0 k = 0 := by
      intro k
      induction k with
      | zero => rfl
      | succ k ih => rw [cnt2, ih, z 457 k (by omega)]; rfl
    exact this 16
  have hcol : ∀ x, (∀ k, M0 x k = 0) → col3 (M0 x) := fun x h => by simp [col3, h]
  refine ⟨⟨⟨z 0 8 (by omega), z4 7 (by omega), by omega⟩, ⟨z 1 3 (by omega), z4 5 (by omega), by omega⟩, ?_, ?_, ?_⟩, ⟨?_, ?_, fun b hb => z 85 b (by omega)⟩, fun b hb => ?_, fun t ht => by omega, fun j hj => by omega, fun j hj => ?_, fun j hj => ?_, Or.inl ⟨z16, by simp [M0]⟩, by simp [nMixm], ?_⟩
  · rw [z 0 10 (by omega), z4 0 (by omega)]
    omega
  · rw [z 0 9 (by omega), z4 15 (by omega)]
    simp
  · rw [show M0 74 2 = 0 by simp [M0], z4 17 (by omega)]
    omega
  · intro b p hb hp
    rcases (show b = 0 ∨ b = 1 ∨ b = 2 ∨ b = 3 by omega) with rfl | rfl | rfl | rfl <;> rcases (show p = 0 ∨ p = 1 ∨ p = 2 by omega) with rfl | rfl | rfl <;> rfl
  · intro b hb
    rcases (show b = 0 ∨ b = 1 ∨ b = 2 ∨ b = 3 by omega) with rfl | rfl | rfl | rfl <;> (unfold col3; decide)
  · rw [z 70 b (by omega), z 449 b (by omega), z 8 b (by omega), z 450 b (by omega), z 72 b (by omega), z 451 b (by omega), c2]
    omega
  · rw [z (367 + 5 * j) 5 (by omega), z 457 j (by omega)]
    refine ⟨rfl, by omega, fun _ => rfl, fun p hp => ?_, hcol _ (fun k => z _ _ (by omega)), fun _ b hb => z _ _ (by omega), fun h => by omega⟩
    rw [z (369 + 5 * j) p (by omega), z 454 _ (by omega)]
  · rw [z (367 + 5 * j) 6 (by omega), z 458 j (by omega), z (367 + 5 * j) 7 (by omega), z4 0 (by omega)]
    omega
  · refine ⟨fun f hf k hk => ?_, fun s hs f hf => ?_⟩
    · rw [z (101 + f) k (by omega)]
      omega
    · rw [z (111 + s) f (by omega)]
      omega
