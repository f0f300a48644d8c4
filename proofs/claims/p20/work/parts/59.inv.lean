/-! WHAT STAYS TRUE between the calls -/
def I1 (M : Nat → Nat → Int) (n T : Nat) : Prop := (M 0 8 = (n : Int) ∧ n ≤ 16) ∧ (M 1 3 = (T : Int) ∧ T ≤ 30) ∧ (0 ≤ M 0 10 ∧ M 0 10 ≤ 10000) ∧ (0 ≤ M 74 2 ∧ M 74 2 ≤ 9)
def I2 (M : Nat → Nat → Int) : Prop := (∀ b, b < 4 → col3 (M (3 + b))) ∧ ∀ b, b < 4 → M 85 b = 0
def I3 (M : Nat → Nat → Int) (n T : Nat) : Prop := ∀ b, b < 4 → (0 ≤ M 70 b ∧ M 70 b ≤ 100000) ∧ 0 ≤ M 8 b ∧ 0 ≤ M 72 b ∧ M 8 b + sumTo (fun t => M (11 + 2 * t) b) T + inMix M b n + M 72 b = 1000 * M 70 b
def I4 (M : Nat → Nat → Int) (T : Nat) : Prop := ∀ t, t < T → tin4 (M (11 + 2 * t))
def I5 (M : Nat → Nat → Int) (n : Nat) : Prop := ∀ j, j < n → col3 (M (368 + 5 * j)) ∧ (10 ≤ M (367 + 5 * j) 3 ∧ M (367 + 5 * j) 3 ≤ 500) ∧ M (367 + 5 * j) 3 % 10 = 0 ∧ 0 ≤ M (367 + 5 * j) 4 ∧ M (367 + 5 * j) 4 ≤ 300
def I6 (M : Nat → Nat → Int) (n : Nat) : Prop := ∀ j, j < 16 → (0 ≤ M (367 + 5 * j) 5 ∧ M (367 + 5 * j) 5 ≤ 2) ∧ (n ≤ j → M (367 + 5 * j) 5 = 0) ∧ col3 (M (369 + 5 * j)) ∧ (M (367 + 5 * j) 5 = 0 → ∀ b, b < 4 → M (371 + 5 * j) b = 0) ∧ (M (367 + 5 * j) 5 = 1 → ink4 (M (371 + 5 * j)) ∧ wt (M (371 + 5 * j)) = 1000 * M (367 + 5 * j) 3)
def I7 (M : Nat → Nat → Int) : Prop := ∀ j, j < 16 → (M (367 + 5 * j) 6 = 0 ∨ M (367 + 5 * j) 6 = 1) ∧ 0 ≤ M (367 + 5 * j) 7 ∧ M (367 + 5 * j) 7 ≤ M 0 10
def Inv (M : Nat → Nat → Int) (n T : Nat) : Prop := I1 M n T ∧ I2 M ∧ I3 M n T ∧ I4 M T ∧ I5 M n ∧ I6 M n ∧ I7 M ∧ prOK M ∧ nMix M n ≤ 8 ∧ wOK M
/-- the cells that the state lies in -/
def core (x : Nat) : Prop := x < 77 ∨ x = 85 ∨ (367 ≤ x ∧ x < 447)
theorem sumTo_congr {f g : Nat → Int} : ∀ T, (∀ t, t < T → g t = f t) → sumTo g T = sumTo f T
  | 0, _ => rfl
  | k + 1, h => by rw [sumTo, sumTo, sumTo_congr k (fun t ht => h t (by omega)), h k (by omega)]
theorem sumTo_nn {f : Nat → Int} : ∀ T, (∀ t, t < T → 0 ≤ f t) → 0 ≤ sumTo f T
  | 0, _ => Int.le_refl 0
  | k + 1, h => by
    have h1 := sumTo_nn k (fun t ht => h t (by omega))
    have h2 := h k (by omega)
    rw [sumTo]
    omega
theorem sumTo_upd {f g : Nat → Int} {t0 : Nat} {d : Int} : ∀ T, (∀ t, t < T → g t = f t - if t = t0 then d else 0) → sumTo g T = sumTo f T - if t0 < T then d else 0
  | 0, _ => by simp [sumTo]
  | k + 1, h => by
    have h1 := sumTo_upd k (fun t ht => h t (by omega))
    have h2 := h k (by omega)
    rw [sumTo, sumTo, h1, h2]
    rcases (show k = t0 ∨ t0 < k ∨ k < t0 by omega) with q | q | q
    · rw [if_neg (by omega), if_pos q, if_pos (by omega)]
      omega
    · rw [if_pos q, if_neg (by omega), if_pos (by omega)]
      omega
    · rw [if_neg (by omega), if_neg (by omega), if_neg (by omega)]
      omega
theorem inMix_congr {M M' : Nat → Nat → Int} {b : Nat} : ∀ n, (∀ i, i < n → M' (367 + 5 * i) 5 = M (367 + 5 * i) 5 ∧ M' (371 + 5 * i) b = M (371 + 5 * i) b) → inMix M' b n = inMix M b n
  | 0, _ => rfl
  | k + 1, h => by rw [inMix, inMix, inMix_congr k (fun i hi => h i (by omega)), (h k (by omega)).1, (h k (by omega)).2]
theorem inMix_nn {M : Nat → Nat → Int} {b : Nat} : ∀ n, (∀ i, i < n → M (367 + 5 * i) 5 = 1 → 0 ≤ M (371 + 5 * i) b) → 0 ≤ inMix M b n
  | 0, _ => Int.le_refl 0
  | k + 1, h => by
    have h1 := inMix_nn k (fun i hi => h i (by omega))
    rw [inMix]
    split
    · rename_i q
      have h2 := h k (by omega) q
      omega
    · omega
def inM1 (M : Nat → Nat → Int) (b j : Nat) : Int := if M (367 + 5 * j) 5 = 1 then M (371 + 5 * j) b else 0
theorem inMix_upd {M M' : Nat → Nat → Int} {b j : Nat} : ∀ n, (∀ i, i < n → i ≠ j → M' (367 + 5 * i) 5 = M (367 + 5 * i) 5 ∧ M' (371 + 5 * i) b = M (371 + 5 * i) b) → inMix M' b n = inMix M b n + if j < n then inM1 M' b j - inM1 M b j else 0
  | 0, _ => by simp [inMix]
  | k + 1, h => by
    have h1 := inMix_upd k (fun i hi => h i (by omega))
    have e : ∀ N : Nat → Nat → Int, inMix N b (k + 1) = inMix N b k + inM1 N b k := fun N => rfl
    rw [e, e, h1]
    rcases (show k = j ∨ j < k ∨ k < j by omega) with q | q | q
    · subst q
      rw [if_neg (by omega), if_pos (by omega)]
      omega
    · obtain ⟨h2, h3⟩ := h k (by omega) (by omega)
      have e2 : inM1 M' b k = inM1 M b k := by rw [inM1, inM1, h2, h3]
      rw [if_pos q, if_pos (by omega), e2]
      omega
    · obtain ⟨h2, h3⟩ := h k (by omega) (by omega)
      have e2 : inM1 M' b k = inM1 M b k := by rw [inM1, inM1, h2, h3]
      rw [if_neg (by omega), if_neg (by omega), e2]
      omega
theorem nMix_congr {M M' : Nat → Nat → Int} : ∀ n, (∀ i, i < n → M' (367 + 5 * i) 5 = M (367 + 5 * i) 5) → nMix M' n = nMix M n
  | 0, _ => rfl
  | k + 1, h => by rw [nMix, nMix, nMix_congr k (fun i hi => h i (by omega)), h k (by omega)]
def nM1 (M : Nat → Nat → Int) (j : Nat) : Int := if M (367 + 5 * j) 5 = 1 then 1 else 0
theorem nMix_upd {M M' : Nat → Nat → Int} {j : Nat} : ∀ n, (∀ i, i < n → i ≠ j → M' (367 + 5 * i) 5 = M (367 + 5 * i) 5) → (nMix M' n : Int) = nMix M n + if j < n then nM1 M' j - nM1 M j else 0
  | 0, _ => by simp [nMix]
  | k + 1, h => by
    have h1 := nMix_upd k (fun i hi => h i (by omega))
    have e : ∀ N : Nat → Nat → Int, (nMix N (k + 1) : Int) = nMix N k + nM1 N k := fun N => by
      rw [nMix, nM1]
      split <;> simp
    rw [e, e, h1]
    rcases (show k = j ∨ j < k ∨ k < j by omega) with q | q | q
    · subst q
      rw [if_neg (by omega), if_pos (by omega)]
      omega
    · have h2 := h k (by omega) (by omega)
      have e2 : nM1 M' k = nM1 M k := by rw [nM1, nM1, h2]
      rw [if_pos q, if_pos (by omega), e2]
      omega
    · have h2 := h k (by omega) (by omega)
      have e2 : nM1 M' k = nM1 M k := by rw [nM1, nM1, h2]
      rw [if_neg (by omega), if_neg (by omega), e2]
      omega
theorem wOK_congr {M M' : Nat → Nat → Int} (h : wOK M) (hc : ∀ x, 101 ≤ x → x < 367 → M' x = M x) : wOK M' := by
  refine ⟨fun f hf k hk => ?_, fun s hs f hf => ?_⟩
  · rw [hc (101 + f) (by omega) (by omega)]
    exact h.1 f hf k hk
  · rw [hc (111 + s) (by omega) (by omega)]
    exact h.2 s hs f hf
theorem I3_congr {M M' : Nat → Nat → Int} {n T : Nat} (h70 : M' 70 = M 70) (h8 : M' 8 = M 8) (h72 : M' 72 = M 72) (h11 : ∀ t, t < T → M' (11 + 2 * t) = M (11 + 2 * t)) (hj : ∀ i, i < n → M' (367 + 5 * i) 5 = M (367 + 5 * i) 5 ∧ M' (371 + 5 * i) = M (371 + 5 * i)) (h : I3 M n T) : I3 M' n T := by
  intro b hb
  have h0 := h b hb
  rw [h70, h8, h72, inMix_congr (M := M) n (fun i hi => ⟨(hj i hi).1, by rw [(hj i hi).2]⟩), sumTo_congr (f := fun t => M (11 + 2 * t) b) T (fun t ht => by rw [h11 t ht])]
  exact h0
theorem I4_congr {M M' : Nat → Nat → Int} {T : Nat} (h11 : ∀ t, t < T → M' (11 + 2 * t) = M (11 + 2 * t)) (h : I4 M T) : I4 M' T := fun t ht => by
  rw [h11 t ht]
  exact h t ht
theorem I5_congr {M M' : Nat → Nat → Int} {n : Nat} (h34 : ∀ j, j < n → M' (367 + 5 * j) 3 = M (367 + 5 * j) 3 ∧ M' (367 + 5 * j) 4 = M (367 + 5 * j) 4) (h368 : ∀ j, j < n → M' (368 + 5 * j) = M (368 + 5 * j)) (h : I5 M n) : I5 M' n := fun j hj => by
  rw [(h34 j hj).1, (h34 j hj).2, h368 j hj]
  exact h j hj
theorem Inv_congr {M M' : Nat → Nat → Int} {n T : Nat} (h : Inv M n T) (hc : ∀ x, core x → M' x = M x) (hw : wOK M') : Inv M' n T := by
  obtain ⟨a1, a2, a3, a4, a5, a6, a7, a8, a9, a10⟩ := h
  have q : ∀ x, (x < 77 ∨ x = 85 ∨ (367 ≤ x ∧ x < 447)) → M' x = M x := hc
  have hT := a1.2.1.2
  have hn := a1.1.2
  refine ⟨?_, ⟨fun b hb => ?_, fun b hb => ?_⟩, I3_congr (q _ (by omega)) (q _ (by omega)) (q _ (by omega)) (fun t ht => q _ (by omega)) (fun i hi => ⟨by rw [q _ (by omega)], q _ (by omega)⟩) a3, I4_congr (fun t ht => q _ (by omega)) a4, I5_congr (fun j hj => ⟨by rw [q _ (by omega)], by rw [q _ (by omega)]⟩) (fun j hj => q _ (by omega)) a5, fun j hj => ?_, fun j hj => ?_, ?_, ?_, hw⟩
  · unfold I1 at *
    rw [q 0 (by omega), q 1 (by omega), q 74 (by omega)]
    exact a1
  · rw [q _ (by omega)]
    exact a2.1 b hb
  · rw [q _ (by omega)]
    exact a2.2 b hb
  · rw [q (367 + 5 * j) (by omega), q (369 + 5 * j) (by omega), q (371 + 5 * j) (by omega)]
    exact a6 j hj
  · rw [q (367 + 5 * j) (by omega), q 0 (by omega)]
    exact a7 j hj
  · unfold prOK at *
    rw [q 74 (by omega), q 75 (by omega)]
    exact a8
  · rw [nMix_congr (M := M) n (fun i hi => by rw [q _ (by omega)])]
    exact a9
section PRE
variable {M : Nat → Nat → Int} {n T : Nat}
theorem Inv.hst (h : Inv M n T) : ∀ i, i < 16 → 0 ≤ M (367 + 5 * i) 5 ∧ M (367 + 5 * i) 5 ≤ 2 := fun i hi => (h.2.2.2.2.2.1 i hi).1
theorem Inv.jc (h : Inv M n T) : jcOK M := fun i hi => (h.2.2.2.2.2.1 i hi).2.2.1
theorem Inv.pr (h : Inv M n T) : prOK M := h.2.2.2.2.2.2.2.1
theorem Inv.mix8 (h : Inv M n T) : nMix M n ≤ 8 := h.2.2.2.2.2.2.2.2.1
theorem Inv.w (h : Inv M n T) : wOK M := h.2.2.2.2.2.2.2.2.2
theorem Inv.jn (h : Inv M n T) : M 0 8 = (n : Int) ∧ n ≤ 16 := h.1.1
theorem Inv.tn (h : Inv M n T) : M 1 3 = (T : Int) ∧ T ≤ 30 := h.1.2.1
theorem Inv.ink (h : Inv M n T) : ∀ i, i < 16 → M (367 + 5 * i) 5 = 1 → ink4 (M (371 + 5 * i)) := fun i hi q => ((h.2.2.2.2.2.1 i hi).2.2.2.2 q).1
theorem t4_nn {m : Nat → Int} (h : tin4 m) : ∀ b, b < 4 → 0 ≤ m b ∧ m b ≤ 500000 := by
  intro b hb
  obtain ⟨h0, h1, h2, h3⟩ := h
  rcases (show b = 0 ∨ b = 1 ∨ b = 2 ∨ b = 3 by omega) with rfl | rfl | rfl | rfl
  · exact h0
  · exact h1
  · exact h2
  · exact h3
theorem i4_nn {m : Nat → Int} (h : ink4 m) : ∀ b, b < 4 → 0 ≤ m b ∧ m b ≤ 500000 := t4_nn ⟨h.1, h.2.1, h.2.2.1, h.2.2.2.1⟩
/-- each milligram is somewhere -/
theorem Inv.sums (h : Inv M n T) : ∀ b, b < 4 → (0 ≤ M 70 b ∧ M 70 b ≤ 100000) ∧ 0 ≤ M 8 b ∧ 0 ≤ sumTo (fun t => M (11 + 2 * t) b) T ∧ 0 ≤ inMix M b n ∧ 0 ≤ M 72 b ∧ M 8 b + sumTo (fun t => M (11 + 2 * t) b) T + inMix M b n + M 72 b = 1000 * M 70 b := by
  intro b hb
  obtain ⟨h1, h2, h3, h4⟩ := h.2.2.1 b hb
  have hn := h.jn.2
  exact ⟨h1, h2, sumTo_nn T (fun t ht => (t4_nn (h.2.2.2.1 t ht) b hb).1), inMix_nn n (fun i hi q => (i4_nn (h.ink i (by omega) q) b hb).1), h3, h4⟩
theorem Inv.kk (h : Inv M n T) : ∀ i, i < n → kOK M i T ∧ M (367 + 5 * i) 3 % 10 = 0 := by
  intro i hi
  have hs := h.sums
  obtain ⟨⟨⟨n1, n2⟩, ⟨t1, t2⟩, -⟩, h2, -, h4, h5, -⟩ := h
  obtain ⟨g2, g3, g4, g5, g6⟩ := h5 i hi
  refine ⟨⟨by omega, by omega, by omega, h2.1, g2, fun b hb => ?_, h2.2, t1, t2, fun t ht => h4 t ht⟩, by omega⟩
  have := hs b hb
  omega
theorem Inv.good (_ : Inv M n T) (j : Nat) : goodS (fun b => M 8 b / (M (367 + 5 * j) 3 / 10 * 1000)) (M (367 + 5 * j) 3 / 10) (M (367 + 5 * j) 4) (fun t => M (11 + 2 * t)) T (findF M j T) := findS_good ⟨Or.inl rfl, Int.le_refl _, fun h => by cases h⟩
end PRE
/-- the start -/
theorem Inv_0 : Inv M0 0 0 := by
  have z : ∀ x k, (x ≠ 4 ∧ x ≠ 5 ∧ x ≠ 6 ∧ x ≠ 74) → M0 x k = 0 := fun x k h => M0_z h
  have hcol : ∀ x, (∀ k, M0 x k = 0) → col3 (M0 x) := fun x h => by simp [col3, h]
  refine ⟨⟨⟨z 0 8 (by omega), by omega⟩, ⟨z 1 3 (by omega), by omega⟩, ?_, ?_⟩, ⟨?_, fun b hb => z 85 b (by omega)⟩, fun b hb => ?_, fun t ht => by omega, fun j hj => by omega, fun j hj => ?_, fun j hj => ?_, ⟨Or.inr (by simp [M0]), fun q => ?_⟩, by simp [nMix], ?_⟩
  · rw [z 0 10 (by omega)]
    omega
  · rw [show M0 74 2 = 0 by simp [M0]]
    omega
  · intro b hb
    rcases (show b = 0 ∨ b = 1 ∨ b = 2 ∨ b = 3 by omega) with rfl | rfl | rfl | rfl <;> (unfold col3; decide)
  · rw [z 70 b (by omega), z 8 b (by omega), z 72 b (by omega)]
    simp [sumTo, inMix]
  · rw [z (367 + 5 * j) 5 (by omega)]
    exact ⟨by omega, fun _ => rfl, hcol _ (fun k => z _ _ (by omega)), fun _ b hb => z _ _ (by omega), fun h => by omega⟩
  · rw [z (367 + 5 * j) 6 (by omega), z (367 + 5 * j) 7 (by omega), z 0 10 (by omega)]
    omega
  · rw [show M0 74 1 = 1 by simp [M0]] at q
    cases q
  · refine ⟨fun f hf k hk => ?_, fun s hs f hf => ?_⟩
    · rw [z (101 + f) k (by omega)]
      omega
    · rw [z (111 + s) f (by omega)]
      omega
