/-! sets of runs, and the least cost of the runs of a set -/
/-- how many runs a set has -/
def pop (s : Nat) : Nat := (s.testBit 0).toNat + (s.testBit 1).toNat + (s.testBit 2).toNat + (s.testBit 3).toNat + (s.testBit 4).toNat + (s.testBit 5).toNat + (s.testBit 6).toNat + (s.testBit 7).toNat
theorem pop_step : ∀ s : Nat, s < 256 → ∀ k : Nat, k < 8 → s.testBit k = true → pop (s - 2 ^ k) + 1 = pop s ∧ s - 2 ^ k < 256 ∧ s - 2 ^ k < s := by decide +kernel
theorem pop_z : ∀ s : Nat, s < 256 → pop s = 0 → s = 0 := by decide +kernel
theorem pop_8 : ∀ s : Nat, s < 256 → pop s ≤ 8 := by decide +kernel
theorem bt_in : ∀ s : Nat, s < 256 → ∀ k : Nat, k < 8 → s.testBit k = true → ¬ bAnd (s : Int) (1 * 2 ^ k) = 0 := by decide +kernel
theorem bt_out : ∀ s : Nat, s < 256 → ∀ k : Nat, k < 8 → s.testBit k = false → bAnd (s : Int) (1 * 2 ^ k) = 0 := by decide +kernel
theorem bt_rm : ∀ s : Nat, s < 256 → ∀ k : Nat, k < 8 → s.testBit k = true → bAnd (bAnd (s : Int) (bXor (1 * 2 ^ k) (-1))) 255 = ((s - 2 ^ k : Nat) : Int) ∧ bAnd (s : Int) (bXor (1 * 2 ^ k) (-1)) = ((s - 2 ^ k : Nat) : Int) := by decide +kernel
theorem bt_sub : ∀ s : Nat, s < 256 → ∀ k : Nat, k < 8 → s.testBit k = true → ∀ j, j < 8 → (s - 2 ^ k).testBit j = (s.testBit j && j != k) := by decide +kernel
theorem bt_all : ∀ n : Nat, n ≤ 8 → bAnd (1 * 2 ^ n - 1) 255 = ((2 ^ n - 1 : Nat) : Int) ∧ 2 ^ n - 1 < 256 ∧ (1 * 2 ^ n : Int) ≤ 256 ∧ (1 : Int) ≤ 1 * 2 ^ n ∧ (1 * 2 ^ n - 1 : Int) = ((2 ^ n - 1 : Nat) : Int) ∧ (1 * 2 ^ n : Int) = ((2 ^ n : Nat) : Int) := by decide +kernel
theorem bt_has : ∀ n, n ≤ 8 → ∀ k, k < n → (2 ^ n - 1).testBit k = true := by decide +kernel
theorem bt_hi {s n k : Nat} (h : s < 2 ^ n) (hk : n ≤ k) : s.testBit k = false := Nat.testBit_lt_two_pow (Nat.lt_of_lt_of_le h (Nat.pow_le_pow_right (by omega) hk))
theorem bAnd_rg (a b : Int) : -2147483648 ≤ bAnd a b ∧ bAnd a b ≤ 2147483647 := by
  have h1 := BitVec.le_toInt (BitVec.ofInt 32 a &&& BitVec.ofInt 32 b)
  have h2 := BitVec.toInt_lt (x := BitVec.ofInt 32 a &&& BitVec.ofInt 32 b)
  simp only [bAnd]
  omega
def lbS (F : Nat → Int) (s : Nat) : Nat → Int → Int := fun k acc => if s.testBit k = true then (if F k < acc then F k else acc) else acc
/-- the least cost of the runs of a set behind a run, runs of the set at most f -/
def LL (C : Nat → Nat → Int) : Nat → Nat → Nat → Int
  | 0, _, _ => 0
  | f + 1, s, r => loopN (lbS (fun k => C r k + LL C f (s - 2 ^ k) k) s) 8 0 1000000
/-- the least cost of the runs of a set behind a run -/
def TT (C : Nat → Nat → Int) (s r : Nat) : Int := LL C (pop s) s r
theorem lbS_congr {F F' : Nat → Int} {s k : Nat} (h : s.testBit k = true → F k = F' k) (acc : Int) : lbS F s k acc = lbS F' s k acc := by
  unfold lbS
  split
  · rename_i q
    rw [h q]
  · rfl
theorem loopN_add {σ : Type} {f : Nat → σ → σ} : ∀ (a b i : Nat) (s : σ), loopN f (a + b) i s = loopN f b (i + a) (loopN f a i s)
  | 0, b, i, s => by rw [Nat.zero_add, Nat.add_zero, loopN]
  | a + 1, b, i, s => by
    rw [show a + 1 + b = (a + b) + 1 by omega, loopN, loopN, loopN_add a b (i + 1), show i + 1 + a = i + (a + 1) by omega]
/-- runs above those of the set do nothing -/
theorem lb_n {F : Nat → Int} {s n : Nat} (hs : s < 2 ^ n) (hn : n ≤ 8) (acc : Int) : loopN (lbS F s) n 0 acc = loopN (lbS F s) 8 0 acc := by
  rw [show 8 = n + (8 - n) by omega, loopN_add n (8 - n)]
  rw [loopN_id (8 - n)]
  intro j h1 h2
  rw [lbS, if_neg]
  rw [bt_hi hs (by omega)]
  decide
theorem TT_eq {C : Nat → Nat → Int} {s r : Nat} (hs : s < 256) (h0 : s ≠ 0) : TT C s r = loopN (lbS (fun k => C r k + TT C (s - 2 ^ k) k) s) 8 0 1000000 := by
  have hp : pop s ≠ 0 := fun q => h0 (pop_z s hs q)
  obtain ⟨f, hf⟩ : ∃ f, pop s = f + 1 := ⟨pop s - 1, by omega⟩
  rw [TT, hf, LL]
  refine loopN_congr (T := 8) (fun k hk acc => lbS_congr (fun q => ?_) acc) 8 0 _ (by omega)
  obtain ⟨q1, q2, q3⟩ := pop_step s hs k hk q
  rw [TT, show pop (s - 2 ^ k) = f by omega]
theorem TT_0 {C : Nat → Nat → Int} {r : Nat} : TT C 0 r = 0 := rfl
/-- a bound on what is folded -/
theorem lb_bd {F : Nat → Int} {s : Nat} (hF : ∀ k, k < 8 → s.testBit k = true → 0 ≤ F k) : ∀ (k j : Nat) (acc : Int), j + k ≤ 8 → 0 ≤ acc → acc ≤ 1000000 → 0 ≤ loopN (lbS F s) k j acc ∧ loopN (lbS F s) k j acc ≤ 1000000
  | 0, _, _, _, h1, h2 => ⟨h1, h2⟩
  | k + 1, j, acc, hj, h1, h2 => by
    rw [loopN]
    refine lb_bd hF k (j + 1) _ (by omega) ?_ ?_ <;> unfold lbS <;> split <;> (try split) <;> (try (rename_i q1 q2; have := hF j (by omega) q1)) <;> omega
theorem TT_bd {C : Nat → Nat → Int} (hC : ∀ r k, r ≤ 8 → k < 8 → 0 ≤ C r k) : ∀ (p s r : Nat), pop s = p → s < 256 → r ≤ 8 → 0 ≤ TT C s r ∧ TT C s r ≤ 1000000 := by
  intro p
  induction p with
  | zero =>
    intro s r hp hs hr
    rw [pop_z s hs hp, TT_0]
    omega
  | succ p ih =>
    intro s r hp hs hr
    have h0 : s ≠ 0 := by
      intro q
      subst q
      rw [show pop 0 = 0 by decide] at hp
      omega
    rw [TT_eq hs h0]
    refine lb_bd (fun k hk q => ?_) 8 0 _ (by omega) (by omega) (by omega)
    obtain ⟨q1, q2, q3⟩ := pop_step s hs k hk q
    have := (ih (s - 2 ^ k) k (by omega) q2 (by omega)).1
    have := hC r k hr hk
    omega
/-- two costs that agree where they are asked tell the same -/
theorem TT_congr {C C' : Nat → Nat → Int} : ∀ (p s r : Nat), pop s = p → s < 256 → (∀ k, k < 8 → s.testBit k = true → C r k = C' r k) → (∀ j k, j < 8 → k < 8 → j ≠ k → s.testBit j = true → s.testBit k = true → C j k = C' j k) → TT C s r = TT C' s r := by
  intro p
  induction p with
  | zero =>
    intro s r hp hs _ _
    rw [pop_z s hs hp, TT_0, TT_0]
  | succ p ih =>
    intro s r hp hs h1 h2
    have h0 : s ≠ 0 := by
      intro q
      subst q
      rw [show pop 0 = 0 by decide] at hp
      omega
    rw [TT_eq hs h0, TT_eq hs h0]
    refine loopN_congr (T := 8) (fun k hk acc => lbS_congr (fun q => ?_) acc) 8 0 _ (by omega)
    obtain ⟨q1, q2, q3⟩ := pop_step s hs k hk q
    have hb := bt_sub s hs k hk q
    have hk' : ∀ j, j < 8 → (s - 2 ^ k).testBit j = true → s.testBit j = true ∧ j ≠ k := by
      intro j hj hj2
      rw [hb j hj] at hj2
      simpa using hj2
    rw [h1 k hk q, ih (s - 2 ^ k) k (by omega) q2 (fun j hj hj2 => h2 k j hk hj (Ne.symm (hk' j hj hj2).2) q (hk' j hj hj2).1) (fun j j2 hj hj2 hne x1 x2 => h2 j j2 hj hj2 hne (hk' j hj x1).1 (hk' j2 hj2 x2).1)]
