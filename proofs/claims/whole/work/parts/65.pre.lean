/-! what the calls need, out of what stays true -/
theorem kw_64 : cOW 64 yL_setBase cL_setBase 6 [(0, 9, 12, 13), (0, 9, 16, 15)] 5 := ⟨by decide +kernel, by decide +kernel, by decide +kernel, by decide +kernel, ⟨by decide +kernel, by decide +kernel⟩, by decide +kernel⟩
theorem kw_73 : cOW 73 yL_buy cL_buy 5 [(0, 10, 13, 13), (0, 10, 17, 15)] 4 := ⟨by decide +kernel, by decide +kernel, by decide +kernel, by decide +kernel, ⟨by decide +kernel, by decide +kernel⟩, by decide +kernel⟩
theorem kw_77 : cOW 77 yL_job cL_job 8 [(0, 16, 19, 13), (0, 16, 23, 15)] 7 := ⟨by decide +kernel, by decide +kernel, by decide +kernel, by decide +kernel, ⟨by decide +kernel, by decide +kernel⟩, by decide +kernel⟩
theorem kw_81 : cOW 81 yL_recipe cL_recipe 5 [(0, 10, 13, 28), (0, 10, 17, 13), (0, 10, 21, 15)] 4 := ⟨by decide +kernel, by decide +kernel, by decide +kernel, by decide +kernel, ⟨by decide +kernel, by decide +kernel⟩, by decide +kernel⟩
theorem kw_84 : cOW 84 yL_mix cL_mix 4 [(0, 9, 12, 28), (0, 9, 15, 15)] 3 := ⟨by decide +kernel, by decide +kernel, by decide +kernel, by decide +kernel, ⟨by decide +kernel, by decide +kernel⟩, by decide +kernel⟩
theorem kw_88 : cOW 88 yL_print cL_print 6 [(0, 12, 15, 28), (0, 12, 19, 13), (0, 12, 23, 15)] 5 := ⟨by decide +kernel, by decide +kernel, by decide +kernel, by decide +kernel, ⟨by decide +kernel, by decide +kernel⟩, by decide +kernel⟩
theorem kw_92 : cOW 92 yL_pass cL_pass 4 [(0, 9, 12, 13), (0, 9, 15, 15)] 3 := ⟨by decide +kernel, by decide +kernel, by decide +kernel, by decide +kernel, ⟨by decide +kernel, by decide +kernel⟩, by decide +kernel⟩
theorem kw_95 : cOW 95 yL_state cL_state 4 [(0, 9, 12, 28)] 3 := ⟨by decide +kernel, by decide +kernel, by decide +kernel, by decide +kernel, ⟨by decide +kernel, by decide +kernel⟩, by decide +kernel⟩
theorem kw_102 : cOW 102 yL_inTin cL_inTin 5 [(0, 10, 13, 28), (0, 10, 17, 13)] 4 := ⟨by decide +kernel, by decide +kernel, by decide +kernel, by decide +kernel, ⟨by decide +kernel, by decide +kernel⟩, by decide +kernel⟩
theorem kw_105 : cOW 105 yL_shade cL_shade 5 [(0, 10, 13, 28), (0, 10, 17, 13), (0, 10, 21, 15)] 4 := ⟨by decide +kernel, by decide +kernel, by decide +kernel, by decide +kernel, ⟨by decide +kernel, by decide +kernel⟩, by decide +kernel⟩
theorem kw_108 : cOW 108 yL_where cL_where 5 [(0, 10, 13, 13)] 4 := ⟨by decide +kernel, by decide +kernel, by decide +kernel, by decide +kernel, ⟨by decide +kernel, by decide +kernel⟩, by decide +kernel⟩
theorem kw_115 : cOW 115 yL_washesByAll cL_washesByAll 3 [(0, 8, 11, 15)] 2 := ⟨by decide +kernel, by decide +kernel, by decide +kernel, by decide +kernel, ⟨by decide +kernel, by decide +kernel⟩, by decide +kernel⟩
theorem kw_127 : cOW 127 yL_chipGap cL_chipGap 5 [(0, 10, 13, 28), (0, 10, 17, 15)] 4 := ⟨by decide +kernel, by decide +kernel, by decide +kernel, by decide +kernel, ⟨by decide +kernel, by decide +kernel⟩, by decide +kernel⟩
theorem up2_comm {M : Nat → Nat → Int} {c k c' k' : Nat} {z z' : Int} (h : c ≠ c') : up2 (up2 M c k z) c' k' z' = up2 (up2 M c' k' z') c k z := by
  funext x j
  simp only [up2]
  split
  · rename_i q
    rw [if_neg (by omega)]
  · rfl
theorem lc_eq {a b : Int} : (lcI a b = 0) = (a = b) := by
  refine propext ⟨fun h => ?_, fun h => ?_⟩
  · simp only [lcI] at h
    split at h
    · cases h
    · split at h
      · assumption
      · cases h
  · simp [lcI, h]
theorem i32_r (x : Int32) : r32 x.toInt := by
  have h1 := Int32.toInt_lt x
  have h2 := Int32.le_toInt x
  simp only [r32]
  omega
section PRE
variable {M : Nat → Nat → Int} {n T : Nat}
theorem Inv.hst (h : Inv M n T) : ∀ i, i < 16 → 0 ≤ M (367 + 5 * i) 5 ∧ M (367 + 5 * i) 5 ≤ 2 := fun i hi => by
  have := h.2.2.2.2.2.1 i hi
  rw [this.1]
  exact this.2.1
theorem Inv.jc (h : Inv M n T) : jcOK M := fun i hi => (h.2.2.2.2.2.1 i hi).2.2.2.2.1
theorem Inv.pr (h : Inv M n T) : prOK M := by
  have h8 := h.2.2.2.2.2.2.2.1
  rcases h8 with ⟨-, q⟩ | ⟨z1, z2, z3, z4⟩
  · exact ⟨Or.inr q, fun z => by omega⟩
  · refine ⟨Or.inl z2, fun _ => ?_⟩
    obtain ⟨l, hl⟩ : ∃ l : Nat, M 447 16 = (l : Int) := ⟨(M 447 16).toNat, by omega⟩
    rw [hl, Int.toNat_natCast] at z4
    have h6 := h.2.2.2.2.2.1 l (by omega)
    have hc := h6.2.2.2.2.1
    unfold col3 at hc ⊢
    rw [z4 0 (by omega), z4 1 (by omega), z4 2 (by omega), ← h6.2.2.2.1 0 (by omega), ← h6.2.2.2.1 1 (by omega), ← h6.2.2.2.1 2 (by omega)]
    exact hc
theorem Inv.mix8 (h : Inv M n T) : nMix M n ≤ 8 := by
  rw [nMix_m h.2.2.2.2.2.1 n h.1.1.2.2]
  exact h.2.2.2.2.2.2.2.2.1
theorem Inv.kk (h : Inv M n T) : ∀ i, i < n → kOK M i T ∧ M (367 + 5 * i) 3 % 10 = 0 := by
  intro i hi
  obtain ⟨⟨⟨n1, n2, n3⟩, ⟨t1, t2, t3⟩, -⟩, h2, h3, h4, h5, -⟩ := h
  obtain ⟨g1, g2, g3, g4, g5, g6, g7, g8⟩ := h5 i hi
  refine ⟨⟨by omega, by omega, by omega, h2.2.1, g2, fun b hb => ?_, h2.2.2, t1, t3, fun t ht => (h4 t ht).2.1⟩, by omega⟩
  have := h3 b hb
  omega
theorem Inv.all {M3 : Nat → Nat → Int} (h : Inv M n T) (hE : ∀ x, 448 ≤ x → x < 460 → M3 x = M x) (h5 : M3 447 5 = M 447 5) : mAll M3 n T (fun b => M (3 + b)) (fun t => M (11 + 2 * t)) (fun j => M (368 + 5 * j)) (M 8) (fun j => M (367 + 5 * j) 3 / 10) (fun j => M (367 + 5 * j) 4) := by
  obtain ⟨⟨⟨n1, n2, n3⟩, ⟨t1, t2, t3⟩, -⟩, h2, h3, h4, h5', -⟩ := h
  refine ⟨⟨by rw [h5]; exact t2, t3, fun t ht => ⟨(h4 t ht).2.1, fun b hb => by rw [hE 452 (by omega) (by omega)]; exact ((h4 t ht).1 b hb).symm⟩⟩, fun j hj => ?_⟩
  obtain ⟨g1, g2, g3, g4, g5, g6, g7, g8⟩ := h5' j hj
  refine ⟨by omega, by dsimp only; omega, ?_, ?_, by dsimp only; omega, ⟨h2.2.1, fun b p hb hp => by rw [hE 448 (by omega) (by omega)]; exact (h2.1 b p hb hp).symm⟩, fun p hp => ?_, fun b hb => ?_⟩
  · rw [hE 455 (by omega) (by omega)]
    dsimp only
    omega
  · rw [hE 456 (by omega) (by omega)]
    exact g6.symm
  · rw [hE 453 (by omega) (by omega)]
    refine ⟨(g1 p hp).symm, ?_⟩
    obtain ⟨q0, q1, q2⟩ := g2
    rcases (show p = 0 ∨ p = 1 ∨ p = 2 by omega) with rfl | rfl | rfl
    · exact q0
    · exact q1
    · exact q2
  · rw [hE 450 (by omega) (by omega)]
    have := h3 b hb
    refine ⟨this.2.1.symm, by omega, by omega⟩
theorem Inv.good (h : Inv M n T) (j : Nat) : goodS (fun b => M 8 b / (M (367 + 5 * j) 3 / 10 * 1000)) (M (367 + 5 * j) 3 / 10) (M (367 + 5 * j) 4) (fun t => M (11 + 2 * t)) T (findF M j T) := findS_good ⟨Or.inl rfl, Int.le_refl _, fun h => by cases h⟩
theorem Inv.mJ {M3 : Nat → Nat → Int} (h : Inv M n T) (hE : M3 454 = M 454) : mJ M3 := by
  intro i hi
  have h6 := h.2.2.2.2.2.1 i hi
  have hc := h6.2.2.2.2.1
  unfold mcol col3 at *
  dsimp only
  rw [hE, ← h6.2.2.2.1 0 (by omega), ← h6.2.2.2.1 1 (by omega), ← h6.2.2.2.1 2 (by omega)]
  exact hc
theorem Inv.mst {M3 : Nat → Nat → Int} (h : Inv M n T) (hE : M3 457 = M 457) : ∀ i, i < 16 → 0 ≤ M3 457 i ∧ M3 457 i ≤ 2 := fun i hi => by
  rw [hE]
  exact (h.2.2.2.2.2.1 i hi).2.1
theorem Inv.lst (h : Inv M n T) : M 447 16 = -1 ∨ (0 ≤ M 447 16 ∧ M 447 16 < 16) := by
  rcases h.2.2.2.2.2.2.2.1 with ⟨q, -⟩ | ⟨q, -⟩
  · exact Or.inl q
  · exact Or.inr q
/-- the class's costs are the model's -/
theorem Inv.costs (h : Inv M n T) (N : Nat) (hN : N = nMixm M n) : (∀ k, k < N → cMM M n 8 k = CA M (mixAtm M n) (bg M) 8 k) ∧ (∀ r k, r < N → k < N → cMM M n r k = CA M (mixAtm M n) (bg M) r k) := by
  have h6 := h.2.2.2.2.2.1
  have h8 := h.2.2.2.2.2.2.2.1
  have n3 := h.1.1.2.2
  have h9 := h.2.2.2.2.2.2.2.2.1
  have ecol : ∀ i, i < 16 → ∀ a : Nat → Int, washF a (M (369 + 5 * i)) = washF a (mcol M i) ∧ washF (M (369 + 5 * i)) a = washF (mcol M i) a := by
    intro i hi a
    have e := (h6 i hi).2.2.2.1
    have e0 : M (369 + 5 * i) 0 = mcol M i 0 := e 0 (by omega)
    have e1 : M (369 + 5 * i) 1 = mcol M i 1 := e 1 (by omega)
    have e2 : M (369 + 5 * i) 2 = mcol M i 2 := e 2 (by omega)
    simp only [washF, e0, e1, e2, and_self]
  have emx : ∀ k, mixAt M n k = mixAtm M n k := fun k => mixAt_m h6 n k n3
  have hlt : ∀ k, k < N → mixAtm M n k < 16 := fun k hk => by
    have := mixAtm_lt (M := M) n k (by omega)
    omega
  constructor
  · intro k hk
    simp only [cMM, CA, if_true, emx, pw, cJ]
    rcases h8 with ⟨q1, q2⟩ | ⟨z1, z2, z3, z4⟩
    · rw [if_neg (by omega), show bg M = 16 by rw [bg, if_pos q1], if_pos rfl]
    · obtain ⟨l, hl⟩ : ∃ l : Nat, M 447 16 = (l : Int) := ⟨(M 447 16).toNat, by omega⟩
      have hb : bg M = l := by
        rw [bg, if_neg (by omega), hl, Int.toNat_natCast]
      rw [hl, Int.toNat_natCast] at z4
      rw [if_pos z2, hb, if_neg (by omega), (ecol _ (hlt k hk) _).1]
      have e0 : M 75 0 = mcol M l 0 := z4 0 (by omega)
      have e1 : M 75 1 = mcol M l 1 := z4 1 (by omega)
      have e2 : M 75 2 = mcol M l 2 := z4 2 (by omega)
      simp only [washF, e0, e1, e2]
  · intro r k hr hk
    have hr8 : r ≠ 8 := by omega
    have hr2 := hlt r hr
    simp only [cMM, CA, if_neg hr8, emx, cJ, if_neg (show mixAtm M n r ≠ 16 by omega)]
    rw [(ecol _ (hlt k hk) _).1, (ecol _ hr2 _).2]
theorem Inv.TTe (h : Inv M n T) {s r : Nat} (hs : s < 2 ^ nMixm M n) (hr : r = 8 ∨ r < nMixm M n) : TT (cMM M n) s r = TT (CA M (mixAtm M n) (bg M)) s r := by
  have h9 := h.2.2.2.2.2.2.2.2.1
  obtain ⟨c1, c2⟩ := h.costs _ rfl
  have h2 : s < 256 := Nat.lt_of_lt_of_le hs (show 2 ^ nMixm M n ≤ 2 ^ 8 from Nat.pow_le_pow_right (by decide) h9)
  refine TT_congr (pop s) s r rfl h2 (fun k hk hb => ?_) (fun j k hj hk _ hb1 hb2 => c2 j k (tb_lt hs hb1) (tb_lt hs hb2))
  rcases hr with e | e
  · rw [e]
    exact c1 k (tb_lt hs hb)
  · exact c2 r k e (tb_lt hs hb)
end PRE
