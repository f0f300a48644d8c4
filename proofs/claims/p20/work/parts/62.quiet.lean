/-! the class's calls as the law makes them: none throws -/
section OQ
variable {l : Launch} {D : va_G} {cy : Nat → ClassId} {M : Nat → Nat → Int} {n T : Nat}
theorem outF_0 {es : List String} {v : Option AV} : outF es 0 v = .inl v := rfl
theorem oq_state (hl9 : l.stackTraces = false) (d j : Nat) (h : Inv M n T) (hj : j < n) : Ok l D cy (d + 7) 1 6 yX8_state cX8_state 2 (some .int) [.inr (.inr (some 0)), .inl (j : Int)] (N0, R0, M) (det (some (.inl (M (367 + 5 * j) 5))) (N0, R0, M)) :=
  (ok_state hl9 d n (j : Int) (by have := h.jn.2; simp only [r32]; omega) h.jn.1 h.jn.2).post (fun o ν q => by
    obtain ⟨q1, q2⟩ := q
    rw [cState, if_pos ⟨by omega, by omega⟩, outF_0, Int.toNat_natCast] at q1
    exact ⟨q1, q2⟩)
theorem oq_inTin (hl9 : l.stackTraces = false) (d t b : Nat) (h : Inv M n T) (ht : t < T) (hb : b < 4) : Ok l D cy (d + 7) 2 12 yX8_inTin cX8_inTin 4 (some .int) [.inr (.inr (some 0)), .inl (t : Int), .inl (b : Int)] (N0, R0, M) (det (some (.inl (M (11 + 2 * t) b))) (N0, R0, M)) :=
  (ok_inTin hl9 d T (t : Int) (b : Int) (by have := h.tn.2; simp only [r32]; omega) (by simp only [r32]; omega) h.tn.1 h.tn.2).post (fun o ν q => by
    obtain ⟨q1, q2⟩ := q
    rw [cInTin, if_pos ⟨by omega, by omega⟩, if_pos ⟨by omega, by omega⟩, outF_0, Int.toNat_natCast, Int.toNat_natCast] at q1
    exact ⟨q1, q2⟩)
theorem oq_where (hl9 : l.stackTraces = false) (d b p : Nat) (h : Inv M n T) (hb : b < 4) (hp : p < 4) : Ok l D cy (d + 7) 1 6 yX8_where cX8_where 3 (some .int) [.inr (.inr (some 0)), .inl (b : Int), .inl (p : Int)] (N0, R0, M) (det (some (.inl (if (p : Int) = 0 then M 8 b else if (p : Int) = 1 then sumTo (fun t => M (11 + 2 * t) b) T else if (p : Int) = 2 then inMix M b n else M 72 b))) (N0, R0, M)) :=
  (ok_where hl9 d n T (b : Int) (p : Int) (by simp only [r32]; omega) (by simp only [r32]; omega) h.jn.1 h.jn.2 h.tn.1 h.tn.2 h.hst).post (fun o ν q => by
    obtain ⟨q1, q2⟩ := q
    rw [cWhere, if_pos ⟨⟨by omega, by omega⟩, by omega, by omega⟩, outF_0, Int.toNat_natCast] at q1
    exact ⟨q1, q2⟩)
theorem oq_where0 (hl9 : l.stackTraces = false) (d b : Nat) (h : Inv M n T) (hb : b < 4) : Ok l D cy (d + 7) 1 6 yX8_where cX8_where 3 (some .int) [.inr (.inr (some 0)), .inl (b : Int), .inl 0] (N0, R0, M) (det (some (.inl (M 8 b))) (N0, R0, M)) := oq_where hl9 d b 0 h hb (by decide)
theorem oq_where1 (hl9 : l.stackTraces = false) (d b : Nat) (h : Inv M n T) (hb : b < 4) : Ok l D cy (d + 7) 1 6 yX8_where cX8_where 3 (some .int) [.inr (.inr (some 0)), .inl (b : Int), .inl 1] (N0, R0, M) (det (some (.inl (sumTo (fun t => M (11 + 2 * t) b) T))) (N0, R0, M)) := oq_where hl9 d b 1 h hb (by decide)
theorem oq_where2 (hl9 : l.stackTraces = false) (d b : Nat) (h : Inv M n T) (hb : b < 4) : Ok l D cy (d + 7) 1 6 yX8_where cX8_where 3 (some .int) [.inr (.inr (some 0)), .inl (b : Int), .inl 2] (N0, R0, M) (det (some (.inl (inMix M b n))) (N0, R0, M)) := oq_where hl9 d b 2 h hb (by decide)
theorem oq_where3 (hl9 : l.stackTraces = false) (d b : Nat) (h : Inv M n T) (hb : b < 4) : Ok l D cy (d + 7) 1 6 yX8_where cX8_where 3 (some .int) [.inr (.inr (some 0)), .inl (b : Int), .inl 3] (N0, R0, M) (det (some (.inl (M 72 b))) (N0, R0, M)) := oq_where hl9 d b 3 h hb (by decide)
theorem oq_job (hl9 : l.stackTraces = false) (d : Nat) (a b c g gap : Int) (h : Inv M n T) (hn : n < 16) (hp : P3 a b c) (hg : (10 ≤ g ∧ g ≤ 500) ∧ g % 10 = 0) (hgap : 0 ≤ gap ∧ gap ≤ 300) : Ok l D cy (d + 6) 1 6 yX8_job cX8_job 7 (some .int) [.inr (.inr (some 0)), .inl a, .inl b, .inl c, .inl g, .inl gap] (N0, R0, M) (det (some (.inl (n : Int))) (N0, R0, up2 (up2 (up2 (up2 (up2 (up2 M (368 + 5 * n) 0 a) (368 + 5 * n) 1 b) (368 + 5 * n) 2 c) (367 + 5 * n) 3 g) (367 + 5 * n) 4 gap) 0 8 (M 0 8 + 1))) :=
  (ok_job hl9 d n a b c g gap (by obtain ⟨p1, p2, p3⟩ := hp; simp only [r32]; omega) (by obtain ⟨p1, p2, p3⟩ := hp; simp only [r32]; omega) (by obtain ⟨p1, p2, p3⟩ := hp; simp only [r32]; omega) (by simp only [r32]; omega) (by simp only [r32]; omega) h.jn.1 h.jn.2).post (fun o ν q => by
    obtain ⟨q1, q2⟩ := q
    have e : cJob (M 0 8) a b c g gap = 0 := by
      rw [cJob, if_pos ⟨hp, hg, hgap⟩, if_pos (by have := h.jn.1; omega)]
    rw [e, outF_0, h.jn.1] at q1
    rw [e, if_pos rfl] at q2
    exact ⟨q1, q2⟩)
theorem oq_pass (hl9 : l.stackTraces = false) (d : Nat) (z : Int) (h : Inv M n T) (hz : 1 ≤ z ∧ z ≤ 100) (hd : M 0 10 + z ≤ 10000) : Ok l D cy (d + 6) 1 6 yX8_pass cX8_pass 2 (some .int) [.inr (.inr (some 0)), .inl z] (N0, R0, M) (det (some (.inl (M 0 10 + z))) (N0, R0, up2 M 0 10 (M 0 10 + z))) :=
  (ok_pass hl9 d z (by simp only [r32]; omega) h.1.2.2.1).post (fun o ν q => by
    obtain ⟨q1, q2⟩ := q
    have e : cPass (M 0 10) z = 0 := by rw [cPass, if_pos hz, if_pos hd]
    rw [e, outF_0] at q1
    rw [e, if_pos rfl] at q2
    exact ⟨q1, q2⟩)
/-- what a call that only plans leaves -/
def plQ (M : Nat → Nat → Int) (v : Int) : Out → Mem → Prop := fun o ν => o = .inl (some (.inl v)) ∧ ∃ M2 : Nat → Nat → Int, ν = (N0, R0, M2) ∧ (∀ x, ¬ scrP x → M2 x = M x) ∧ wOK M2
theorem oq_washes (d : Nat) (h : Inv M n T) : Ok l D cy (d + 6) 0 0 yX8_washes cX8_washes 1 (some .int) [.inr (.inr (some 0))] (N0, R0, M) (plQ M (TT (cMM M n) (2 ^ nMix M n - 1) 8)) := ok_washes d n h.jn.1 h.jn.2 h.hst h.mix8 h.jc h.pr h.w
theorem oq_wba (hl9 : l.stackTraces = false) (d : Nat) (h : Inv M n T) (h5 : nMix M n ≤ 7) : Ok l D cy (d + 11) 1 6 yX8_washesByAll cX8_washesByAll 1 (some .int) [.inr (.inr (some 0))] (N0, R0, M) (plQ M (TT (cMM M n) (2 ^ nMix M n - 1) 8)) :=
  (ok_washesByAll hl9 d n h.jn.1 h.jn.2 h.hst h.mix8 h.jc h.pr h.w).post (fun o ν q => by
    obtain ⟨q1, q2⟩ := q
    rw [if_pos h5, outF_0] at q1
    exact ⟨q1, q2⟩)
theorem oq_first (d : Nat) (h : Inv M n T) : Ok l D cy (d + 6) 0 0 yX8_firstRun cX8_firstRun 1 (some .int) [.inr (.inr (some 0))] (N0, R0, M) (plQ M (firstV (cMM M n) (nMix M n) (fun k => (mixAt M n k : Int)))) := ok_firstRun d n h.jn.1 h.jn.2 h.hst h.mix8 h.jc h.pr h.w
theorem oq_chip (hl9 : l.stackTraces = false) (d j : Nat) (h : Inv M n T) (hj : j < n) (h6 : M (367 + 5 * j) 6 = 1) (h5 : M (367 + 5 * j) 5 ≠ 0) (h7 : M (367 + 5 * j) 7 = M 0 10) : Ok l D cy (d + 7) 3 18 yX8_chipGap cX8_chipGap 7 (some .int) [.inr (.inr (some 0)), .inl (j : Int), .inl (j : Int)] (N0, R0, M) (det (some (.inl 0)) (N0, R0, M)) :=
  (ok_chipGap hl9 d n (j : Int) (j : Int) (by have := h.jn.2; simp only [r32]; omega) (by have := h.jn.2; simp only [r32]; omega) h.jn.1 h.jn.2 h.hst (fun i hi => (h.2.2.2.2.2.2.1 i hi).1) (fun i hi => by have := h.2.2.2.2.2.2.1 i hi; have := h.1.2.2.1; omega) h.jc).post (fun o ν q => by
    obtain ⟨q1, q2⟩ := q
    have hn := h.jn.2
    obtain ⟨c0, c1, c2⟩ := h.jc j (by omega)
    rw [cCG, if_pos ⟨⟨by omega, by omega⟩, by omega, by omega⟩, Int.toNat_natCast, if_neg (by omega), outF_0, h7] at q1
    have e : ∀ c : Int, 0 ≤ c ∧ c ≤ 100 → chipF (M 0 10) (M 0 10) c = c := by
      intro c hc
      unfold chipF
      rw [show (M 0 10 - M 0 10) / 10 = 0 by rw [Int.sub_self]; rfl]
      split <;> omega
    rw [e _ c0, e _ c1, e _ c2] at q1
    refine ⟨?_, q2⟩
    rw [q1]
    simp)
end OQ
