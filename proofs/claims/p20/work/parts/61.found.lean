/-! a search told twice tells the same; and the least cost of the runs is that of some run -/
def Rel (s s' : Nat → Int) : Prop := s 0 = s' 0 ∧ s 1 = s' 1 ∧ (s 0 = 1 → s = s')
theorem loopN_rel {f : Nat → (Nat → Int) → (Nat → Int)} (h : ∀ j s s', Rel s s' → Rel (f j s) (f j s')) : ∀ (k i : Nat) (s s' : Nat → Int), Rel s s' → Rel (loopN f k i s) (loopN f k i s')
  | 0, _, _, _, q => q
  | k + 1, i, s, s', q => by
    rw [loopN, loopN]
    exact loopN_rel h k (i + 1) _ _ (h i s s' q)
theorem candS_rel {mo : Nat → Int} {G : (Nat → Int) → Int} {tt tin a b c e : Int} {s s' : Nat → Int} (q : Rel s s') : Rel (candS mo G tt tin a b c e s) (candS mo G tt tin a b c e s') := by
  unfold candS
  split
  · unfold stepS
    rw [q.2.1]
    split
    · exact ⟨rfl, rfl, fun _ => rfl⟩
    · exact q
  · exact q
theorem basesS_rel {mo : Nat → Int} {G : (Nat → Int) → Int} {tt tin : Int} {left : Nat} {s s' : Nat → Int} (q : Rel s s') : Rel (basesS (candS mo G tt tin) left s) (basesS (candS mo G tt tin) left s') := by
  unfold basesS
  refine loopN_rel (fun a s s' q => ?_) _ _ _ _ q
  unfold bas1
  refine loopN_rel (fun b s s' q => ?_) _ _ _ _ q
  unfold bas2
  refine loopN_rel (fun c s s' q => ?_) _ _ _ _ q
  unfold bas3
  exact candS_rel q
theorem tensS_rel {f : Nat → Nat → (Nat → Int) → (Nat → Int)} {T : Nat} (h : ∀ tt t s s', Rel s s' → Rel (f tt t s) (f tt t s')) : ∀ (k : Nat) (s s' : Nat → Int), Rel s s' → Rel (tensS f T k s) (tensS f T k s')
  | 0, _, _, q => q
  | k + 1, s, s', q => by
    rw [tensS, tensS, q.1]
    split
    · exact tensS_rel h k _ _ (loopN_rel (h (k + 1)) T 0 _ _ q)
    · exact q
theorem findS_rel {C : Nat → Nat → Int} {W mo : Nat → Int} {gr : Int} {I : Nat → Nat → Int} {T : Nat} {s s' : Nat → Int} (q : Rel s s') : Rel (findS C W mo gr I T s) (findS C W mo gr I T s') := by
  have q1 : Rel (tensS (tinS C W mo gr I) T 10 s) (tensS (tinS C W mo gr I) T 10 s') := by
    refine tensS_rel (fun tt t s s' q => ?_) 10 _ _ q
    unfold tinS
    split
    · exact q
    · exact basesS_rel q
  unfold findS
  rw [q1.1]
  split
  · exact basesS_rel q1
  · exact q1
theorem wpC_C {C C' : Nat → Nat → Int} (h : ∀ b, b < 4 → C b = C' b) : wpC C = wpC C' := by
  funext m p
  simp only [wpC, h 0 (by omega), h 1 (by omega), h 2 (by omega), h 3 (by omega)]
theorem gapC_C {C C' : Nat → Nat → Int} {W : Nat → Int} {u : Int} {TP : Nat → Int} (h : ∀ b, b < 4 → C b = C' b) : gapC C W u TP = gapC C' W u TP := by
  funext m
  simp only [gapC, gpC, wpC_C h]
theorem findS_congr {C C' : Nat → Nat → Int} {W mo mo' : Nat → Int} {gr : Int} {I I' : Nat → Nat → Int} {T : Nat} {s : Nat → Int} (hC : ∀ b, b < 4 → C b = C' b) (hmo : ∀ b, b < 4 → mo b = mo' b) (hI : ∀ t, t < T → I t = I' t) : findS C W mo gr I T s = findS C' W mo' gr I' T s := by
  have q : ∀ s, tensS (tinS C W mo gr I) T 10 s = tensS (tinS C' W mo' gr I') T 10 s := by
    intro s
    refine tensS_congr (fun tt t ht s => ?_) 10 s
    simp only [tinS, candT, hI t ht, gapC_C hC, wpC_C hC, candS_congr hmo]
  unfold findS
  rw [q, gapC_C hC, candS_congr hmo]
theorem findF_rel {M M' : Nat → Nat → Int} {i T : Nat} (hi : i < 16) (hT : T ≤ 30) (h : ∀ x, ¬ scrF x → M' x = M x) : Rel (findF M i T) (findF M' i T) := by
  have q : ∀ x, (x < 79 ∨ x = 85 ∨ 89 ≤ x) → M' x = M x := fun x hx => h x (by unfold scrF; omega)
  unfold findF
  rw [q (368 + 5 * i) (by omega), q (367 + 5 * i) (by omega), q 8 (by omega)]
  rw [← findS_congr (C := fun b => M (3 + b)) (C' := fun b => M' (3 + b)) (mo := fun b => M 8 b / (M (367 + 5 * i) 3 / 10 * 1000)) (I := fun t => M (11 + 2 * t)) (I' := fun t => M' (11 + 2 * t)) (fun b hb => (q _ (by omega)).symm) (fun _ _ => rfl) (fun t ht => (q _ (by omega)).symm)]
  exact findS_rel ⟨rfl, rfl, fun z => by cases z⟩
/-! the least cost -/
theorem mixAt_16 {M : Nat → Nat → Int} {k : Nat} : ∀ j, j ≤ 16 → mixAt M j k < 16
  | 0, _ => by simp [mixAt]
  | j + 1, h => by
    rw [mixAt]
    split
    · omega
    · exact mixAt_16 j (by omega)
theorem cMM_bd {M : Nat → Nat → Int} {n : Nat} (hn : n ≤ 16) (hJ : jcOK M) (hp : prOK M) : ∀ r k, 0 ≤ cMM M n r k ∧ cMM M n r k ≤ 600 := by
  intro r k
  have hk := hJ _ (mixAt_16 (M := M) (k := k) n hn)
  have hr := hJ _ (mixAt_16 (M := M) (k := r) n hn)
  unfold cMM
  split
  · unfold pw
    split
    · rename_i q
      exact washF_bd (hp.2 q) hk
    · omega
  · exact washF_bd hr hk
theorem bt_some : ∀ s : Nat, s < 256 → s ≠ 0 → ∃ k : Nat, k < 8 ∧ s.testBit k = true := by
  intro s hs h0
  have key : ∀ s : Nat, s < 256 → s = 0 ∨ (List.range 8).any (fun k => s.testBit k) = true := by decide +kernel
  rcases key s hs with q | q
  · exact absurd q h0
  · obtain ⟨k, hk, hb⟩ := List.any_eq_true.mp q
    exact ⟨k, List.mem_range.mp hk, hb⟩
theorem lb_acc {F : Nat → Int} {s : Nat} : ∀ (k j : Nat) (acc : Int), loopN (lbS F s) k j acc ≤ acc
  | 0, _, _ => Int.le_refl _
  | k + 1, j, acc => by
    rw [loopN]
    refine Int.le_trans (lb_acc k (j + 1) _) ?_
    unfold lbS
    split <;> (try split) <;> omega
theorem lb_le {F : Nat → Int} {s i : Nat} (hb : s.testBit i = true) : ∀ (k j : Nat) (acc : Int), j ≤ i → i < j + k → loopN (lbS F s) k j acc ≤ F i
  | 0, _, _, h1, h2 => by omega
  | k + 1, j, acc, h1, h2 => by
    rw [loopN]
    rcases (show i = j ∨ j + 1 ≤ i by omega) with e | e
    · subst e
      refine Int.le_trans (lb_acc k (i + 1) _) ?_
      unfold lbS
      rw [if_pos hb]
      split <;> omega
    · exact lb_le hb k (j + 1) _ e (by omega)
theorem lb_at {F : Nat → Int} {s : Nat} : ∀ (k j : Nat) (acc : Int), loopN (lbS F s) k j acc = acc ∨ ∃ i, j ≤ i ∧ i < j + k ∧ s.testBit i = true ∧ loopN (lbS F s) k j acc = F i
  | 0, _, _ => Or.inl rfl
  | k + 1, j, acc => by
    rw [loopN]
    rcases lb_at (F := F) (s := s) k (j + 1) (lbS F s j acc) with q | ⟨i, h1, h2, h3, h4⟩
    · rw [q]
      unfold lbS
      split
      · rename_i hb
        split
        · exact Or.inr ⟨j, Nat.le_refl j, by omega, hb, rfl⟩
        · exact Or.inl rfl
      · exact Or.inl rfl
    · exact Or.inr ⟨i, by omega, by omega, h3, h4⟩
theorem TT_up {C : Nat → Nat → Int} (hC : ∀ r k, 0 ≤ C r k ∧ C r k ≤ 600) : ∀ (p s r : Nat), pop s = p → s < 256 → TT C s r ≤ 600 * (p : Int) := by
  intro p
  induction p with
  | zero =>
    intro s r hp hs
    rw [pop_z s hs hp, TT_0]
    omega
  | succ p ih =>
    intro s r hp hs
    have h0 : s ≠ 0 := by
      intro q
      subst q
      rw [show pop 0 = 0 by decide] at hp
      omega
    obtain ⟨k, hk, hb⟩ := bt_some s hs h0
    obtain ⟨q1, q2, q3⟩ := pop_step s hs k hk hb
    rw [TT_eq hs h0]
    have h1 := lb_le (F := fun k => C r k + TT C (s - 2 ^ k) k) hb 8 0 1000000 (by omega) (by omega)
    have h2 := ih (s - 2 ^ k) k (by omega) q2
    have h3 := (hC r k).2
    omega
theorem TT_at {C : Nat → Nat → Int} (hC : ∀ r k, 0 ≤ C r k ∧ C r k ≤ 600) {s r : Nat} (hs : s < 256) (h0 : s ≠ 0) : ∃ k, k < 8 ∧ s.testBit k = true ∧ TT C s r = C r k + TT C (s - 2 ^ k) k := by
  have h1 := TT_up hC (pop s) s r rfl hs
  have h8 := pop_8 s hs
  rw [TT_eq hs h0] at h1 ⊢
  rcases lb_at (F := fun k => C r k + TT C (s - 2 ^ k) k) (s := s) 8 0 1000000 with q | ⟨i, i1, i2, i3, i4⟩
  · omega
  · exact ⟨i, by omega, i3, i4⟩
theorem firstF_some {F runs : Nat → Int} {cost : Int} : ∀ (k j : Nat), (∃ i, j ≤ i ∧ i < j + k ∧ F i = cost) → (∀ i, 0 ≤ runs i ∧ runs i < 16) → 0 ≤ firstF F cost runs k j ∧ firstF F cost runs k j < 16
  | 0, _, ⟨i, h1, h2, _⟩, _ => by omega
  | k + 1, j, ⟨i, h1, h2, h3⟩, hr => by
    rw [firstF]
    split
    · exact hr j
    · rename_i q
      refine firstF_some k (j + 1) ⟨i, ?_, by omega, h3⟩ hr
      rcases (show i = j ∨ j + 1 ≤ i by omega) with e | e
      · subst e
        exact absurd h3 q
      · exact e
/-- there is a first run just if a job is mixed -/
theorem first_iff {M : Nat → Nat → Int} {n : Nat} (hn : n ≤ 16) (h8 : nMix M n ≤ 8) (hJ : jcOK M) (hp : prOK M) : (nMix M n = 0 → firstV (cMM M n) (nMix M n) (fun k => (mixAt M n k : Int)) = -1) ∧ (1 ≤ nMix M n → 0 ≤ firstV (cMM M n) (nMix M n) (fun k => (mixAt M n k : Int)) ∧ firstV (cMM M n) (nMix M n) (fun k => (mixAt M n k : Int)) < 16) := by
  have hC := cMM_bd hn hJ hp
  refine ⟨fun q => by rw [q]; rfl, fun q => ?_⟩
  obtain ⟨p1, p2⟩ := pw2 h8
  have hs : 2 ^ nMix M n - 1 < 256 := by omega
  have h2 : 2 ^ 1 ≤ 2 ^ nMix M n := Nat.pow_le_pow_right (by decide) q
  obtain ⟨k, hk, hb, he⟩ := TT_at hC (r := 8) hs (by omega)
  have hkN := tb_lt p1 hb
  unfold firstV
  refine firstF_some _ 0 ⟨k, by omega, by omega, he.symm⟩ (fun i => ?_)
  have := mixAt_16 (M := M) (k := i) n hn
  omega
theorem wash_bd {M : Nat → Nat → Int} {n : Nat} (hn : n ≤ 16) (h8 : nMix M n ≤ 8) (hJ : jcOK M) (hp : prOK M) : (nMix M n = 0 → TT (cMM M n) (2 ^ nMix M n - 1) 8 = 0) ∧ 0 ≤ TT (cMM M n) (2 ^ nMix M n - 1) 8 ∧ TT (cMM M n) (2 ^ nMix M n - 1) 8 ≤ 1000000 := by
  have hC := cMM_bd hn hJ hp
  obtain ⟨p1, p2⟩ := pw2 h8
  refine ⟨fun q => by rw [q]; rfl, ?_⟩
  exact TT_bd (fun r k _ _ => (hC r k).1) _ _ 8 rfl (by omega) (by omega)
/-- the costs lie in the state's cells -/
theorem cMM_congr {M M' : Nat → Nat → Int} {n : Nat} (hn : n ≤ 16) (h : ∀ x, core x → M' x = M x) : cMM M' n = cMM M n ∧ nMix M' n = nMix M n ∧ ∀ k, mixAt M' n k = mixAt M n k := by
  have q : ∀ x, (x < 77 ∨ x = 85 ∨ (367 ≤ x ∧ x < 447)) → M' x = M x := h
  have h5 : ∀ i, i < 16 → M' (367 + 5 * i) = M (367 + 5 * i) := fun i hi => q _ (by omega)
  have hx : ∀ j k, j ≤ 16 → mixAt M' j k = mixAt M j k := by
    intro j
    induction j with
    | zero => intro k _; rfl
    | succ j ih =>
      intro k hj
      rw [mixAt, mixAt, h5 j (by omega), nMix_congr (M := M) j (fun i hi => by rw [h5 i (by omega)]), ih k (by omega)]
  refine ⟨?_, nMix_congr n (fun i hi => by rw [h5 i (by omega)]), fun k => hx n k hn⟩
  funext r k
  have e : ∀ k, M' (369 + 5 * mixAt M n k) = M (369 + 5 * mixAt M n k) := fun k => q _ (by have := mixAt_16 (M := M) (k := k) n hn; omega)
  simp only [cMM, pw, hx _ _ hn, e, q 74 (by omega), q 75 (by omega)]
