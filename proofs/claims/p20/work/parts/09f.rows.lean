/-! a run, row by row: read from the head downwards -/
def gO (v : Option Nat) (f : Nat → Prop) : Prop := match v with | some q => f q | none => False
theorem gO_c {v : Option Nat} {q : Nat} {f : Nat → Prop} (h : v = some q) : gO v f = f q := by subst h; exact propext Iff.rfl
theorem gO_e {v : Option Nat} {f : Nat → Prop} (h : gO v f) : ∃ q, v = some q ∧ f q := by
  unfold gO at h; split at h
  · exact ⟨_, rfl, h⟩
  · exact h.elim
def gV (v : Option Nat) (f : Option Nat → Prop) : Prop := f v
theorem gV_c {v w : Option Nat} {f : Option Nat → Prop} (h : v = w) : gV v f = f w := by subst h; exact propext Iff.rfl
theorem gV_s {q : Nat} {f : Option Nat → Prop} : gV (some q) f = f (some q) := propext Iff.rfl
def sto (lv : List (Option AV)) (i : Nat) (v : AV) (f : List (Option AV) → Prop) : Prop := st1 lv i v f
def sto2 (lv : List (Option AV)) (i : Nat) (v : Int) (f : List (Option AV) → Prop) : Prop := st2 lv i v f
def nk (e : Option AV) : Prop := isLg e = false
theorem nk_n : nk none = True := by simp [nk, isLg]
theorem nk_i {z : Int} : nk (some (.inl z)) = True := by simp [nk, isLg]
theorem nk_r {r : Option Nat} : nk (some (.inr (.inr r))) = True := by simp [nk, isLg]
theorem gI_0 {e0 : Option AV} {l : List (Option AV)} {f : Int → Prop} : gI (lg (e0 :: l) 0) f = gI e0 f := propext Iff.rfl
theorem gL_0 {e0 : Option AV} {l : List (Option AV)} {f : Int → Prop} : gL (lg (e0 :: l) 0) f = gL e0 f := propext Iff.rfl
theorem gR_0 {e0 : Option AV} {l : List (Option AV)} {f : Nat → Prop} : gR (lg (e0 :: l) 0) f = gR e0 f := propext Iff.rfl
theorem sto_0 {e0 : Option AV} {l : List (Option AV)} {v : AV} {f : List (Option AV) → Prop} : sto (e0 :: l) 0 v f = f (some v :: l) := by simp [sto, st1, nl, lst]
theorem sto2_0 {e0 e1 : Option AV} {l : List (Option AV)} {v : Int} {f : List (Option AV) → Prop} : sto2 (e0 :: e1 :: l) 0 v f = f (some (.inr (.inl v)) :: none :: l) := by simp [sto2, st2, nl, lst]
theorem gI_1 {e0 e1 : Option AV} {l : List (Option AV)} {f : Int → Prop} : gI (lg (e0 :: e1 :: l) 1) f = gI e1 f := propext Iff.rfl
theorem gL_1 {e0 e1 : Option AV} {l : List (Option AV)} {f : Int → Prop} : gL (lg (e0 :: e1 :: l) 1) f = gL e1 f := propext Iff.rfl
theorem gR_1 {e0 e1 : Option AV} {l : List (Option AV)} {f : Nat → Prop} : gR (lg (e0 :: e1 :: l) 1) f = gR e1 f := propext Iff.rfl
theorem sto_1 {e0 e1 : Option AV} {l : List (Option AV)} {v : AV} {f : List (Option AV) → Prop} : sto (e0 :: e1 :: l) 1 v f = (nk e0 ∧ f (e0 :: some v :: l)) := by simp [sto, st1, nl, lst, lg, nk]
theorem sto2_1 {e0 e1 e2 : Option AV} {l : List (Option AV)} {v : Int} {f : List (Option AV) → Prop} : sto2 (e0 :: e1 :: e2 :: l) 1 v f = (nk e0 ∧ f (e0 :: some (.inr (.inl v)) :: none :: l)) := by simp [sto2, st2, nl, lst, lg, nk]
theorem gI_2 {e0 e1 e2 : Option AV} {l : List (Option AV)} {f : Int → Prop} : gI (lg (e0 :: e1 :: e2 :: l) 2) f = gI e2 f := propext Iff.rfl
theorem gL_2 {e0 e1 e2 : Option AV} {l : List (Option AV)} {f : Int → Prop} : gL (lg (e0 :: e1 :: e2 :: l) 2) f = gL e2 f := propext Iff.rfl
theorem gR_2 {e0 e1 e2 : Option AV} {l : List (Option AV)} {f : Nat → Prop} : gR (lg (e0 :: e1 :: e2 :: l) 2) f = gR e2 f := propext Iff.rfl
theorem sto_2 {e0 e1 e2 : Option AV} {l : List (Option AV)} {v : AV} {f : List (Option AV) → Prop} : sto (e0 :: e1 :: e2 :: l) 2 v f = (nk e1 ∧ f (e0 :: e1 :: some v :: l)) := by simp [sto, st1, nl, lst, lg, nk]
theorem sto2_2 {e0 e1 e2 e3 : Option AV} {l : List (Option AV)} {v : Int} {f : List (Option AV) → Prop} : sto2 (e0 :: e1 :: e2 :: e3 :: l) 2 v f = (nk e1 ∧ f (e0 :: e1 :: some (.inr (.inl v)) :: none :: l)) := by simp [sto2, st2, nl, lst, lg, nk]
theorem gI_3 {e0 e1 e2 e3 : Option AV} {l : List (Option AV)} {f : Int → Prop} : gI (lg (e0 :: e1 :: e2 :: e3 :: l) 3) f = gI e3 f := propext Iff.rfl
theorem gL_3 {e0 e1 e2 e3 : Option AV} {l : List (Option AV)} {f : Int → Prop} : gL (lg (e0 :: e1 :: e2 :: e3 :: l) 3) f = gL e3 f := propext Iff.rfl
theorem gR_3 {e0 e1 e2 e3 : Option AV} {l : List (Option AV)} {f : Nat → Prop} : gR (lg (e0 :: e1 :: e2 :: e3 :: l) 3) f = gR e3 f := propext Iff.rfl
theorem sto_3 {e0 e1 e2 e3 : Option AV} {l : List (Option AV)} {v : AV} {f : List (Option AV) → Prop} : sto (e0 :: e1 :: e2 :: e3 :: l) 3 v f = (nk e2 ∧ f (e0 :: e1 :: e2 :: some v :: l)) := by simp [sto, st1, nl, lst, lg, nk]
theorem sto2_3 {e0 e1 e2 e3 e4 : Option AV} {l : List (Option AV)} {v : Int} {f : List (Option AV) → Prop} : sto2 (e0 :: e1 :: e2 :: e3 :: e4 :: l) 3 v f = (nk e2 ∧ f (e0 :: e1 :: e2 :: some (.inr (.inl v)) :: none :: l)) := by simp [sto2, st2, nl, lst, lg, nk]
theorem gI_4 {e0 e1 e2 e3 e4 : Option AV} {l : List (Option AV)} {f : Int → Prop} : gI (lg (e0 :: e1 :: e2 :: e3 :: e4 :: l) 4) f = gI e4 f := propext Iff.rfl
theorem gL_4 {e0 e1 e2 e3 e4 : Option AV} {l : List (Option AV)} {f : Int → Prop} : gL (lg (e0 :: e1 :: e2 :: e3 :: e4 :: l) 4) f = gL e4 f := propext Iff.rfl
theorem gR_4 {e0 e1 e2 e3 e4 : Option AV} {l : List (Option AV)} {f : Nat → Prop} : gR (lg (e0 :: e1 :: e2 :: e3 :: e4 :: l) 4) f = gR e4 f := propext Iff.rfl
theorem sto_4 {e0 e1 e2 e3 e4 : Option AV} {l : List (Option AV)} {v : AV} {f : List (Option AV) → Prop} : sto (e0 :: e1 :: e2 :: e3 :: e4 :: l) 4 v f = (nk e3 ∧ f (e0 :: e1 :: e2 :: e3 :: some v :: l)) := by simp [sto, st1, nl, lst, lg, nk]
theorem sto2_4 {e0 e1 e2 e3 e4 e5 : Option AV} {l : List (Option AV)} {v : Int} {f : List (Option AV) → Prop} : sto2 (e0 :: e1 :: e2 :: e3 :: e4 :: e5 :: l) 4 v f = (nk e3 ∧ f (e0 :: e1 :: e2 :: e3 :: some (.inr (.inl v)) :: none :: l)) := by simp [sto2, st2, nl, lst, lg, nk]
theorem gI_5 {e0 e1 e2 e3 e4 e5 : Option AV} {l : List (Option AV)} {f : Int → Prop} : gI (lg (e0 :: e1 :: e2 :: e3 :: e4 :: e5 :: l) 5) f = gI e5 f := propext Iff.rfl
theorem gL_5 {e0 e1 e2 e3 e4 e5 : Option AV} {l : List (Option AV)} {f : Int → Prop} : gL (lg (e0 :: e1 :: e2 :: e3 :: e4 :: e5 :: l) 5) f = gL e5 f := propext Iff.rfl
theorem gR_5 {e0 e1 e2 e3 e4 e5 : Option AV} {l : List (Option AV)} {f : Nat → Prop} : gR (lg (e0 :: e1 :: e2 :: e3 :: e4 :: e5 :: l) 5) f = gR e5 f := propext Iff.rfl
theorem sto_5 {e0 e1 e2 e3 e4 e5 : Option AV} {l : List (Option AV)} {v : AV} {f : List (Option AV) → Prop} : sto (e0 :: e1 :: e2 :: e3 :: e4 :: e5 :: l) 5 v f = (nk e4 ∧ f (e0 :: e1 :: e2 :: e3 :: e4 :: some v :: l)) := by simp [sto, st1, nl, lst, lg, nk]
theorem sto2_5 {e0 e1 e2 e3 e4 e5 e6 : Option AV} {l : List (Option AV)} {v : Int} {f : List (Option AV) → Prop} : sto2 (e0 :: e1 :: e2 :: e3 :: e4 :: e5 :: e6 :: l) 5 v f = (nk e4 ∧ f (e0 :: e1 :: e2 :: e3 :: e4 :: some (.inr (.inl v)) :: none :: l)) := by simp [sto2, st2, nl, lst, lg, nk]
theorem gI_6 {e0 e1 e2 e3 e4 e5 e6 : Option AV} {l : List (Option AV)} {f : Int → Prop} : gI (lg (e0 :: e1 :: e2 :: e3 :: e4 :: e5 :: e6 :: l) 6) f = gI e6 f := propext Iff.rfl
theorem gL_6 {e0 e1 e2 e3 e4 e5 e6 : Option AV} {l : List (Option AV)} {f : Int → Prop} : gL (lg (e0 :: e1 :: e2 :: e3 :: e4 :: e5 :: e6 :: l) 6) f = gL e6 f := propext Iff.rfl
theorem gR_6 {e0 e1 e2 e3 e4 e5 e6 : Option AV} {l : List (Option AV)} {f : Nat → Prop} : gR (lg (e0 :: e1 :: e2 :: e3 :: e4 :: e5 :: e6 :: l) 6) f = gR e6 f := propext Iff.rfl
theorem sto_6 {e0 e1 e2 e3 e4 e5 e6 : Option AV} {l : List (Option AV)} {v : AV} {f : List (Option AV) → Prop} : sto (e0 :: e1 :: e2 :: e3 :: e4 :: e5 :: e6 :: l) 6 v f = (nk e5 ∧ f (e0 :: e1 :: e2 :: e3 :: e4 :: e5 :: some v :: l)) := by simp [sto, st1, nl, lst, lg, nk]
theorem sto2_6 {e0 e1 e2 e3 e4 e5 e6 e7 : Option AV} {l : List (Option AV)} {v : Int} {f : List (Option AV) → Prop} : sto2 (e0 :: e1 :: e2 :: e3 :: e4 :: e5 :: e6 :: e7 :: l) 6 v f = (nk e5 ∧ f (e0 :: e1 :: e2 :: e3 :: e4 :: e5 :: some (.inr (.inl v)) :: none :: l)) := by simp [sto2, st2, nl, lst, lg, nk]
theorem gI_7 {e0 e1 e2 e3 e4 e5 e6 e7 : Option AV} {l : List (Option AV)} {f : Int → Prop} : gI (lg (e0 :: e1 :: e2 :: e3 :: e4 :: e5 :: e6 :: e7 :: l) 7) f = gI e7 f := propext Iff.rfl
theorem gL_7 {e0 e1 e2 e3 e4 e5 e6 e7 : Option AV} {l : List (Option AV)} {f : Int → Prop} : gL (lg (e0 :: e1 :: e2 :: e3 :: e4 :: e5 :: e6 :: e7 :: l) 7) f = gL e7 f := propext Iff.rfl
theorem gR_7 {e0 e1 e2 e3 e4 e5 e6 e7 : Option AV} {l : List (Option AV)} {f : Nat → Prop} : gR (lg (e0 :: e1 :: e2 :: e3 :: e4 :: e5 :: e6 :: e7 :: l) 7) f = gR e7 f := propext Iff.rfl
theorem sto_7 {e0 e1 e2 e3 e4 e5 e6 e7 : Option AV} {l : List (Option AV)} {v : AV} {f : List (Option AV) → Prop} : sto (e0 :: e1 :: e2 :: e3 :: e4 :: e5 :: e6 :: e7 :: l) 7 v f = (nk e6 ∧ f (e0 :: e1 :: e2 :: e3 :: e4 :: e5 :: e6 :: some v :: l)) := by simp [sto, st1, nl, lst, lg, nk]
theorem sto2_7 {e0 e1 e2 e3 e4 e5 e6 e7 e8 : Option AV} {l : List (Option AV)} {v : Int} {f : List (Option AV) → Prop} : sto2 (e0 :: e1 :: e2 :: e3 :: e4 :: e5 :: e6 :: e7 :: e8 :: l) 7 v f = (nk e6 ∧ f (e0 :: e1 :: e2 :: e3 :: e4 :: e5 :: e6 :: some (.inr (.inl v)) :: none :: l)) := by simp [sto2, st2, nl, lst, lg, nk]
theorem gI_8 {e0 e1 e2 e3 e4 e5 e6 e7 e8 : Option AV} {l : List (Option AV)} {f : Int → Prop} : gI (lg (e0 :: e1 :: e2 :: e3 :: e4 :: e5 :: e6 :: e7 :: e8 :: l) 8) f = gI e8 f := propext Iff.rfl
theorem gL_8 {e0 e1 e2 e3 e4 e5 e6 e7 e8 : Option AV} {l : List (Option AV)} {f : Int → Prop} : gL (lg (e0 :: e1 :: e2 :: e3 :: e4 :: e5 :: e6 :: e7 :: e8 :: l) 8) f = gL e8 f := propext Iff.rfl
theorem gR_8 {e0 e1 e2 e3 e4 e5 e6 e7 e8 : Option AV} {l : List (Option AV)} {f : Nat → Prop} : gR (lg (e0 :: e1 :: e2 :: e3 :: e4 :: e5 :: e6 :: e7 :: e8 :: l) 8) f = gR e8 f := propext Iff.rfl
theorem sto_8 {e0 e1 e2 e3 e4 e5 e6 e7 e8 : Option AV} {l : List (Option AV)} {v : AV} {f : List (Option AV) → Prop} : sto (e0 :: e1 :: e2 :: e3 :: e4 :: e5 :: e6 :: e7 :: e8 :: l) 8 v f = (nk e7 ∧ f (e0 :: e1 :: e2 :: e3 :: e4 :: e5 :: e6 :: e7 :: some v :: l)) := by simp [sto, st1, nl, lst, lg, nk]
theorem sto2_8 {e0 e1 e2 e3 e4 e5 e6 e7 e8 e9 : Option AV} {l : List (Option AV)} {v : Int} {f : List (Option AV) → Prop} : sto2 (e0 :: e1 :: e2 :: e3 :: e4 :: e5 :: e6 :: e7 :: e8 :: e9 :: l) 8 v f = (nk e7 ∧ f (e0 :: e1 :: e2 :: e3 :: e4 :: e5 :: e6 :: e7 :: some (.inr (.inl v)) :: none :: l)) := by simp [sto2, st2, nl, lst, lg, nk]
theorem gI_9 {e0 e1 e2 e3 e4 e5 e6 e7 e8 e9 : Option AV} {l : List (Option AV)} {f : Int → Prop} : gI (lg (e0 :: e1 :: e2 :: e3 :: e4 :: e5 :: e6 :: e7 :: e8 :: e9 :: l) 9) f = gI e9 f := propext Iff.rfl
theorem gL_9 {e0 e1 e2 e3 e4 e5 e6 e7 e8 e9 : Option AV} {l : List (Option AV)} {f : Int → Prop} : gL (lg (e0 :: e1 :: e2 :: e3 :: e4 :: e5 :: e6 :: e7 :: e8 :: e9 :: l) 9) f = gL e9 f := propext Iff.rfl
theorem gR_9 {e0 e1 e2 e3 e4 e5 e6 e7 e8 e9 : Option AV} {l : List (Option AV)} {f : Nat → Prop} : gR (lg (e0 :: e1 :: e2 :: e3 :: e4 :: e5 :: e6 :: e7 :: e8 :: e9 :: l) 9) f = gR e9 f := propext Iff.rfl
theorem sto_9 {e0 e1 e2 e3 e4 e5 e6 e7 e8 e9 : Option AV} {l : List (Option AV)} {v : AV} {f : List (Option AV) → Prop} : sto (e0 :: e1 :: e2 :: e3 :: e4 :: e5 :: e6 :: e7 :: e8 :: e9 :: l) 9 v f = (nk e8 ∧ f (e0 :: e1 :: e2 :: e3 :: e4 :: e5 :: e6 :: e7 :: e8 :: some v :: l)) := by simp [sto, st1, nl, lst, lg, nk]
theorem sto2_9 {e0 e1 e2 e3 e4 e5 e6 e7 e8 e9 e10 : Option AV} {l : List (Option AV)} {v : Int} {f : List (Option AV) → Prop} : sto2 (e0 :: e1 :: e2 :: e3 :: e4 :: e5 :: e6 :: e7 :: e8 :: e9 :: e10 :: l) 9 v f = (nk e8 ∧ f (e0 :: e1 :: e2 :: e3 :: e4 :: e5 :: e6 :: e7 :: e8 :: some (.inr (.inl v)) :: none :: l)) := by simp [sto2, st2, nl, lst, lg, nk]
theorem gI_10 {e0 e1 e2 e3 e4 e5 e6 e7 e8 e9 e10 : Option AV} {l : List (Option AV)} {f : Int → Prop} : gI (lg (e0 :: e1 :: e2 :: e3 :: e4 :: e5 :: e6 :: e7 :: e8 :: e9 :: e10 :: l) 10) f = gI e10 f := propext Iff.rfl
theorem gL_10 {e0 e1 e2 e3 e4 e5 e6 e7 e8 e9 e10 : Option AV} {l : List (Option AV)} {f : Int → Prop} : gL (lg (e0 :: e1 :: e2 :: e3 :: e4 :: e5 :: e6 :: e7 :: e8 :: e9 :: e10 :: l) 10) f = gL e10 f := propext Iff.rfl
theorem gR_10 {e0 e1 e2 e3 e4 e5 e6 e7 e8 e9 e10 : Option AV} {l : List (Option AV)} {f : Nat → Prop} : gR (lg (e0 :: e1 :: e2 :: e3 :: e4 :: e5 :: e6 :: e7 :: e8 :: e9 :: e10 :: l) 10) f = gR e10 f := propext Iff.rfl
theorem sto_10 {e0 e1 e2 e3 e4 e5 e6 e7 e8 e9 e10 : Option AV} {l : List (Option AV)} {v : AV} {f : List (Option AV) → Prop} : sto (e0 :: e1 :: e2 :: e3 :: e4 :: e5 :: e6 :: e7 :: e8 :: e9 :: e10 :: l) 10 v f = (nk e9 ∧ f (e0 :: e1 :: e2 :: e3 :: e4 :: e5 :: e6 :: e7 :: e8 :: e9 :: some v :: l)) := by simp [sto, st1, nl, lst, lg, nk]
theorem sto2_10 {e0 e1 e2 e3 e4 e5 e6 e7 e8 e9 e10 e11 : Option AV} {l : List (Option AV)} {v : Int} {f : List (Option AV) → Prop} : sto2 (e0 :: e1 :: e2 :: e3 :: e4 :: e5 :: e6 :: e7 :: e8 :: e9 :: e10 :: e11 :: l) 10 v f = (nk e9 ∧ f (e0 :: e1 :: e2 :: e3 :: e4 :: e5 :: e6 :: e7 :: e8 :: e9 :: some (.inr (.inl v)) :: none :: l)) := by simp [sto2, st2, nl, lst, lg, nk]
theorem gI_11 {e0 e1 e2 e3 e4 e5 e6 e7 e8 e9 e10 e11 : Option AV} {l : List (Option AV)} {f : Int → Prop} : gI (lg (e0 :: e1 :: e2 :: e3 :: e4 :: e5 :: e6 :: e7 :: e8 :: e9 :: e10 :: e11 :: l) 11) f = gI e11 f := propext Iff.rfl
theorem gL_11 {e0 e1 e2 e3 e4 e5 e6 e7 e8 e9 e10 e11 : Option AV} {l : List (Option AV)} {f : Int → Prop} : gL (lg (e0 :: e1 :: e2 :: e3 :: e4 :: e5 :: e6 :: e7 :: e8 :: e9 :: e10 :: e11 :: l) 11) f = gL e11 f := propext Iff.rfl
theorem gR_11 {e0 e1 e2 e3 e4 e5 e6 e7 e8 e9 e10 e11 : Option AV} {l : List (Option AV)} {f : Nat → Prop} : gR (lg (e0 :: e1 :: e2 :: e3 :: e4 :: e5 :: e6 :: e7 :: e8 :: e9 :: e10 :: e11 :: l) 11) f = gR e11 f := propext Iff.rfl
theorem sto_11 {e0 e1 e2 e3 e4 e5 e6 e7 e8 e9 e10 e11 : Option AV} {l : List (Option AV)} {v : AV} {f : List (Option AV) → Prop} : sto (e0 :: e1 :: e2 :: e3 :: e4 :: e5 :: e6 :: e7 :: e8 :: e9 :: e10 :: e11 :: l) 11 v f = (nk e10 ∧ f (e0 :: e1 :: e2 :: e3 :: e4 :: e5 :: e6 :: e7 :: e8 :: e9 :: e10 :: some v :: l)) := by simp [sto, st1, nl, lst, lg, nk]
theorem sto2_11 {e0 e1 e2 e3 e4 e5 e6 e7 e8 e9 e10 e11 e12 : Option AV} {l : List (Option AV)} {v : Int} {f : List (Option AV) → Prop} : sto2 (e0 :: e1 :: e2 :: e3 :: e4 :: e5 :: e6 :: e7 :: e8 :: e9 :: e10 :: e11 :: e12 :: l) 11 v f = (nk e10 ∧ f (e0 :: e1 :: e2 :: e3 :: e4 :: e5 :: e6 :: e7 :: e8 :: e9 :: e10 :: some (.inr (.inl v)) :: none :: l)) := by simp [sto2, st2, nl, lst, lg, nk]
theorem gI_12 {e0 e1 e2 e3 e4 e5 e6 e7 e8 e9 e10 e11 e12 : Option AV} {l : List (Option AV)} {f : Int → Prop} : gI (lg (e0 :: e1 :: e2 :: e3 :: e4 :: e5 :: e6 :: e7 :: e8 :: e9 :: e10 :: e11 :: e12 :: l) 12) f = gI e12 f := propext Iff.rfl
theorem gL_12 {e0 e1 e2 e3 e4 e5 e6 e7 e8 e9 e10 e11 e12 : Option AV} {l : List (Option AV)} {f : Int → Prop} : gL (lg (e0 :: e1 :: e2 :: e3 :: e4 :: e5 :: e6 :: e7 :: e8 :: e9 :: e10 :: e11 :: e12 :: l) 12) f = gL e12 f := propext Iff.rfl
theorem gR_12 {e0 e1 e2 e3 e4 e5 e6 e7 e8 e9 e10 e11 e12 : Option AV} {l : List (Option AV)} {f : Nat → Prop} : gR (lg (e0 :: e1 :: e2 :: e3 :: e4 :: e5 :: e6 :: e7 :: e8 :: e9 :: e10 :: e11 :: e12 :: l) 12) f = gR e12 f := propext Iff.rfl
theorem sto_12 {e0 e1 e2 e3 e4 e5 e6 e7 e8 e9 e10 e11 e12 : Option AV} {l : List (Option AV)} {v : AV} {f : List (Option AV) → Prop} : sto (e0 :: e1 :: e2 :: e3 :: e4 :: e5 :: e6 :: e7 :: e8 :: e9 :: e10 :: e11 :: e12 :: l) 12 v f = (nk e11 ∧ f (e0 :: e1 :: e2 :: e3 :: e4 :: e5 :: e6 :: e7 :: e8 :: e9 :: e10 :: e11 :: some v :: l)) := by simp [sto, st1, nl, lst, lg, nk]
theorem sto2_12 {e0 e1 e2 e3 e4 e5 e6 e7 e8 e9 e10 e11 e12 e13 : Option AV} {l : List (Option AV)} {v : Int} {f : List (Option AV) → Prop} : sto2 (e0 :: e1 :: e2 :: e3 :: e4 :: e5 :: e6 :: e7 :: e8 :: e9 :: e10 :: e11 :: e12 :: e13 :: l) 12 v f = (nk e11 ∧ f (e0 :: e1 :: e2 :: e3 :: e4 :: e5 :: e6 :: e7 :: e8 :: e9 :: e10 :: e11 :: some (.inr (.inl v)) :: none :: l)) := by simp [sto2, st2, nl, lst, lg, nk]
section XR
variable {o : Nat} {ini : Bool} {cc : ByteArray} {n pc pc' : Nat} {lv : List (Option AV)} {st : List AV} {nn : Nat} {Rf : Nat → Nat → Option Nat} {M : Nat → Nat → Int} {K : K9}
theorem X_iconst {z : Int} (h : decode cc pc = .ok (.iconst z, 1)) (hp : pc + 1 = pc') : rn o ini cc (n + 1) pc lv st (nn, Rf, M) K = (rn o ini cc n pc' lv (.inl z :: st) (nn, Rf, M) K) := by
  subst hp
  rw [rn_s h, i_iconst]
  simp only [true_and]
theorem X_bipush {z : Int} (h : decode cc pc = .ok (.bipush z, 2)) (hp : pc + 2 = pc') : rn o ini cc (n + 1) pc lv st (nn, Rf, M) K = ((-128 ≤ z ∧ z ≤ 127) ∧ rn o ini cc n pc' lv (.inl z :: st) (nn, Rf, M) K) := by
  subst hp
  rw [rn_s h, i_bipush]
  simp only [true_and]
theorem X_sipush {z : Int} (h : decode cc pc = .ok (.sipush z, 3)) (hp : pc + 3 = pc') : rn o ini cc (n + 1) pc lv st (nn, Rf, M) K = ((-32768 ≤ z ∧ z ≤ 32767) ∧ rn o ini cc n pc' lv (.inl z :: st) (nn, Rf, M) K) := by
  subst hp
  rw [rn_s h, i_sipush]
  simp only [true_and]
theorem X_lconst {k : Fin 2} (h : decode cc pc = .ok (.lconst k, 1)) (hp : pc + 1 = pc') : rn o ini cc (n + 1) pc lv st (nn, Rf, M) K = (rn o ini cc n pc' lv (.inr (.inl (f2 k)) :: st) (nn, Rf, M) K) := by
  subst hp
  rw [rn_s h, i_lconst]
  simp only [true_and]
theorem X_ldc {x : Nat} {z : Int} (hz : cst o x = some z) (h : decode cc pc = .ok (.ldc x, 2)) (hp : pc + 2 = pc') : rn o ini cc (n + 1) pc lv st (nn, Rf, M) K = rn o ini cc n pc' lv (.inl z :: st) (nn, Rf, M) K := by
  subst hp
  rw [rn_s h, i_ldc, gC_c hz]
  simp only [true_and]
theorem X_ldc2_w {x : Nat} {z : Int} (hz : csl o x = some z) (h : decode cc pc = .ok (.ldc2_w x, 3)) (hp : pc + 3 = pc') : rn o ini cc (n + 1) pc lv st (nn, Rf, M) K = rn o ini cc n pc' lv (.inr (.inl z) :: st) (nn, Rf, M) K := by
  subst hp
  rw [rn_s h, i_ldc2_w, gD_c hz]
  simp only [true_and]
theorem X_iload {x : Nat} (h : decode cc pc = .ok (.iload x, 2)) (hp : pc + 2 = pc') : rn o ini cc (n + 1) pc lv st (nn, Rf, M) K = (gI (lg lv x) (fun z => rn o ini cc n pc' lv (.inl z :: st) (nn, Rf, M) K)) := by
  subst hp
  rw [rn_s h, i_iload]
  simp only [true_and]
theorem X_lload {x : Nat} (h : decode cc pc = .ok (.lload x, 2)) (hp : pc + 2 = pc') : rn o ini cc (n + 1) pc lv st (nn, Rf, M) K = (gL (lg lv x) (fun z => rn o ini cc n pc' lv (.inr (.inl z) :: st) (nn, Rf, M) K)) := by
  subst hp
  rw [rn_s h, i_lload]
  simp only [true_and]
theorem X_aload {x : Nat} (h : decode cc pc = .ok (.aload x, 2)) (hp : pc + 2 = pc') : rn o ini cc (n + 1) pc lv st (nn, Rf, M) K = (gR (lg lv x) (fun z => rn o ini cc n pc' lv (.inr (.inr (some z)) :: st) (nn, Rf, M) K)) := by
  subst hp
  rw [rn_s h, i_aload]
  simp only [true_and]
theorem X_iload_n {x : Fin 4} {k : Nat} (h : decode cc pc = .ok (.iload_n x, 1)) (hp : pc + 1 = pc') (hk : f4 x = k) : rn o ini cc (n + 1) pc lv st (nn, Rf, M) K = (gI (lg lv k) (fun z => rn o ini cc n pc' lv (.inl z :: st) (nn, Rf, M) K)) := by
  subst hp hk
  rw [rn_s h, i_iload_n]
  simp only [true_and]
theorem X_aload_n {x : Fin 4} {k : Nat} (h : decode cc pc = .ok (.aload_n x, 1)) (hp : pc + 1 = pc') (hk : f4 x = k) : rn o ini cc (n + 1) pc lv st (nn, Rf, M) K = (gR (lg lv k) (fun z => rn o ini cc n pc' lv (.inr (.inr (some z)) :: st) (nn, Rf, M) K)) := by
  subst hp hk
  rw [rn_s h, i_aload_n]
  simp only [true_and]
theorem X_istore {x : Nat} (h : decode cc pc = .ok (.istore x, 2)) (hp : pc + 2 = pc') : rn o ini cc (n + 1) pc lv st (nn, Rf, M) K = (pI st (fun z t => sto lv x (.inl z) (fun lv' => rn o ini cc n pc' lv' (t) (nn, Rf, M) K))) := by
  subst hp
  rw [rn_s h, i_istore]
  simp only [true_and, sto]
theorem X_istore_n {x : Fin 4} {k : Nat} (h : decode cc pc = .ok (.istore_n x, 1)) (hp : pc + 1 = pc') (hk : f4 x = k) : rn o ini cc (n + 1) pc lv st (nn, Rf, M) K = (pI st (fun z t => sto lv k (.inl z) (fun lv' => rn o ini cc n pc' lv' (t) (nn, Rf, M) K))) := by
  subst hp hk
  rw [rn_s h, i_istore_n]
  simp only [true_and, sto]
theorem X_astore {x : Nat} (h : decode cc pc = .ok (.astore x, 2)) (hp : pc + 2 = pc') : rn o ini cc (n + 1) pc lv st (nn, Rf, M) K = (pR st (fun z t => sto lv x (.inr (.inr (some z))) (fun lv' => rn o ini cc n pc' lv' (t) (nn, Rf, M) K))) := by
  subst hp
  rw [rn_s h, i_astore]
  simp only [true_and, sto]
theorem X_astore_n {x : Fin 4} {k : Nat} (h : decode cc pc = .ok (.astore_n x, 1)) (hp : pc + 1 = pc') (hk : f4 x = k) : rn o ini cc (n + 1) pc lv st (nn, Rf, M) K = (pR st (fun z t => sto lv k (.inr (.inr (some z))) (fun lv' => rn o ini cc n pc' lv' (t) (nn, Rf, M) K))) := by
  subst hp hk
  rw [rn_s h, i_astore_n]
  simp only [true_and, sto]
theorem X_lstore {x : Nat} (h : decode cc pc = .ok (.lstore x, 2)) (hp : pc + 2 = pc') : rn o ini cc (n + 1) pc lv st (nn, Rf, M) K = (pL st (fun z t => sto2 lv x z (fun lv' => rn o ini cc n pc' lv' (t) (nn, Rf, M) K))) := by
  subst hp
  rw [rn_s h, i_lstore]
  simp only [true_and, sto2]
theorem X_iinc {x : Nat} {z : Int} (h : decode cc pc = .ok (.iinc x z, 3)) (hp : pc + 3 = pc') (hx : x < lv.length) : rn o ini cc (n + 1) pc lv st (nn, Rf, M) K = (gI (lg lv x) (fun a => sto lv x (.inl (a + z)) (fun lv' => rn o ini cc n pc' lv' (st) (nn, Rf, M) K))) := by
  subst hp
  rw [rn_s h, i_iinc]
  simp only [true_and, sto, st1, hx]
theorem X_iadd (h : decode cc pc = .ok (.iadd, 1)) (hp : pc + 1 = pc') : rn o ini cc (n + 1) pc lv st (nn, Rf, M) K = (pII st (fun a b t => rn o ini cc n pc' lv (.inl (a + b) :: t) (nn, Rf, M) K)) := by
  subst hp
  rw [rn_s h, i_iadd]
  simp only [true_and]
theorem X_isub (h : decode cc pc = .ok (.isub, 1)) (hp : pc + 1 = pc') : rn o ini cc (n + 1) pc lv st (nn, Rf, M) K = (pII st (fun a b t => rn o ini cc n pc' lv (.inl (a - b) :: t) (nn, Rf, M) K)) := by
  subst hp
  rw [rn_s h, i_isub]
  simp only [true_and]
theorem X_imul (h : decode cc pc = .ok (.imul, 1)) (hp : pc + 1 = pc') : rn o ini cc (n + 1) pc lv st (nn, Rf, M) K = (pII st (fun a b t => rn o ini cc n pc' lv (.inl (a * b) :: t) (nn, Rf, M) K)) := by
  subst hp
  rw [rn_s h, i_imul]
  simp only [true_and]
theorem X_iand (h : decode cc pc = .ok (.iand, 1)) (hp : pc + 1 = pc') : rn o ini cc (n + 1) pc lv st (nn, Rf, M) K = (pII st (fun a b t => rn o ini cc n pc' lv (.inl (bAnd a b) :: t) (nn, Rf, M) K)) := by
  subst hp
  rw [rn_s h, i_iand]
  simp only [true_and]
theorem X_ixor (h : decode cc pc = .ok (.ixor, 1)) (hp : pc + 1 = pc') : rn o ini cc (n + 1) pc lv st (nn, Rf, M) K = (pII st (fun a b t => rn o ini cc n pc' lv (.inl (bXor a b) :: t) (nn, Rf, M) K)) := by
  subst hp
  rw [rn_s h, i_ixor]
  simp only [true_and]
theorem X_ineg (h : decode cc pc = .ok (.ineg, 1)) (hp : pc + 1 = pc') : rn o ini cc (n + 1) pc lv st (nn, Rf, M) K = (pI st (fun a t => rn o ini cc n pc' lv (.inl (-a) :: t) (nn, Rf, M) K)) := by
  subst hp
  rw [rn_s h, i_ineg]
  simp only [true_and]
theorem X_idiv (h : decode cc pc = .ok (.idiv, 1)) (hp : pc + 1 = pc') : rn o ini cc (n + 1) pc lv st (nn, Rf, M) K = (pII st (fun a b t => (0 ≤ a ∧ a ≤ 2147483647) ∧ (0 < b ∧ b ≤ 2147483647) ∧ rn o ini cc n pc' lv (.inl (a / b) :: t) (nn, Rf, M) K)) := by
  subst hp
  rw [rn_s h, i_idiv]
  simp only [true_and]
theorem X_irem (h : decode cc pc = .ok (.irem, 1)) (hp : pc + 1 = pc') : rn o ini cc (n + 1) pc lv st (nn, Rf, M) K = (pII st (fun a b t => (0 ≤ a ∧ a ≤ 2147483647) ∧ (0 < b ∧ b ≤ 2147483647) ∧ rn o ini cc n pc' lv (.inl (a % b) :: t) (nn, Rf, M) K)) := by
  subst hp
  rw [rn_s h, i_irem]
  simp only [true_and]
theorem X_ishl (h : decode cc pc = .ok (.ishl, 1)) (hp : pc + 1 = pc') : rn o ini cc (n + 1) pc lv st (nn, Rf, M) K = (pII st (fun a b t => (0 ≤ a ∧ a * 2 ^ b.toNat ≤ 2147483647) ∧ (0 ≤ b ∧ b < 31) ∧ rn o ini cc n pc' lv (.inl (a * 2 ^ b.toNat) :: t) (nn, Rf, M) K)) := by
  subst hp
  rw [rn_s h, i_ishl]
  simp only [true_and]
theorem X_ishr (h : decode cc pc = .ok (.ishr, 1)) (hp : pc + 1 = pc') : rn o ini cc (n + 1) pc lv st (nn, Rf, M) K = (pII st (fun a b t => (-2147483648 ≤ a ∧ a ≤ 2147483647) ∧ (0 ≤ b ∧ b < 31) ∧ rn o ini cc n pc' lv (.inl (a / 2 ^ b.toNat) :: t) (nn, Rf, M) K)) := by
  subst hp
  rw [rn_s h, i_ishr]
  simp only [true_and]
theorem X_ladd (h : decode cc pc = .ok (.ladd, 1)) (hp : pc + 1 = pc') : rn o ini cc (n + 1) pc lv st (nn, Rf, M) K = (pLL st (fun a b t => rn o ini cc n pc' lv (.inr (.inl (a + b)) :: t) (nn, Rf, M) K)) := by
  subst hp
  rw [rn_s h, i_ladd]
  simp only [true_and]
theorem X_lmul (h : decode cc pc = .ok (.lmul, 1)) (hp : pc + 1 = pc') : rn o ini cc (n + 1) pc lv st (nn, Rf, M) K = (pLL st (fun a b t => rn o ini cc n pc' lv (.inr (.inl (a * b)) :: t) (nn, Rf, M) K)) := by
  subst hp
  rw [rn_s h, i_lmul]
  simp only [true_and]
theorem X_ldiv (h : decode cc pc = .ok (.ldiv, 1)) (hp : pc + 1 = pc') : rn o ini cc (n + 1) pc lv st (nn, Rf, M) K = (pLL st (fun a b t => (0 ≤ a ∧ a ≤ 9223372036854775807) ∧ (0 < b ∧ b ≤ 9223372036854775807) ∧ rn o ini cc n pc' lv (.inr (.inl (a / b)) :: t) (nn, Rf, M) K)) := by
  subst hp
  rw [rn_s h, i_ldiv]
  simp only [true_and]
theorem X_lrem (h : decode cc pc = .ok (.lrem, 1)) (hp : pc + 1 = pc') : rn o ini cc (n + 1) pc lv st (nn, Rf, M) K = (pLL st (fun a b t => (0 ≤ a ∧ a ≤ 9223372036854775807) ∧ (0 < b ∧ b ≤ 9223372036854775807) ∧ rn o ini cc n pc' lv (.inr (.inl (a % b)) :: t) (nn, Rf, M) K)) := by
  subst hp
  rw [rn_s h, i_lrem]
  simp only [true_and]
theorem X_lcmp (h : decode cc pc = .ok (.lcmp, 1)) (hp : pc + 1 = pc') : rn o ini cc (n + 1) pc lv st (nn, Rf, M) K = (pLL st (fun a b t => r64 a ∧ r64 b ∧ rn o ini cc n pc' lv (.inl (lcI a b) :: t) (nn, Rf, M) K)) := by
  subst hp
  rw [rn_s h, i_lcmp]
  simp only [true_and]
theorem X_i2l (h : decode cc pc = .ok (.i2l, 1)) (hp : pc + 1 = pc') : rn o ini cc (n + 1) pc lv st (nn, Rf, M) K = (pI st (fun a t => r32 a ∧ rn o ini cc n pc' lv (.inr (.inl a) :: t) (nn, Rf, M) K)) := by
  subst hp
  rw [rn_s h, i_i2l]
  simp only [true_and]
theorem X_l2i (h : decode cc pc = .ok (.l2i, 1)) (hp : pc + 1 = pc') : rn o ini cc (n + 1) pc lv st (nn, Rf, M) K = (pL st (fun a t => rn o ini cc n pc' lv (.inl a :: t) (nn, Rf, M) K)) := by
  subst hp
  rw [rn_s h, i_l2i]
  simp only [true_and]
theorem X_dup (h : decode cc pc = .ok (.dup, 1)) (hp : pc + 1 = pc') : rn o ini cc (n + 1) pc lv st (nn, Rf, M) K = (pV st (fun v t => nk (some v) ∧ rn o ini cc n pc' lv (v :: v :: t) (nn, Rf, M) K)) := by
  subst hp
  rw [rn_s h, i_dup]
  simp only [true_and, nk]
theorem X_dup2 (h : decode cc pc = .ok (.dup2, 1)) (hp : pc + 1 = pc') : rn o ini cc (n + 1) pc lv st (nn, Rf, M) K = (pVV st (fun v u t => nk (some v) ∧ nk (some u) ∧ rn o ini cc n pc' lv (v :: u :: v :: u :: t) (nn, Rf, M) K)) := by
  subst hp
  rw [rn_s h, i_dup2]
  simp only [true_and, nk]
theorem X_goto {off : Int} (h : decode cc pc = .ok (.goto off, 3)) (ht : (pc : Int) + off = (pc' : Int)) : rn o ini cc (n + 1) pc lv st (nn, Rf, M) K = rn o ini cc n pc' lv (st) (nn, Rf, M) K := by
  rw [rn_s h, i_goto, ht]
  simp only [true_and, Int.toNat_natCast, Int.natCast_nonneg]
theorem X_icmp_eq {off : Int} {tgt : Nat} (h : decode cc pc = .ok (.if_icmp .eq off, 3)) (ht : (pc : Int) + off = (tgt : Int)) (hp : pc + 3 = pc') : rn o ini cc (n + 1) pc lv st (nn, Rf, M) K = (pII st (fun a b t => (r32 a ∧ r32 b) ∧ if a = b then rn o ini cc n tgt lv t (nn, Rf, M) K else rn o ini cc n pc' lv t (nn, Rf, M) K)) := by
  subst hp
  have e : ∀ (a b : Int) (P Q : Prop), cnI .eq a b P Q = (if a = b then P else Q) := by
    intro a b P Q
    rw [cnI_eq]
    apply propext
    split <;> rename_i h9
    · constructor
      · intro h; first | exact h.1 h9 | exact h.2 h9 | exact h.2 (fun q => by omega) | exact h.2 (by omega)
      · intro h; exact ⟨fun z => by first | exact h | exact absurd h9 z | omega, fun z => by first | exact h | exact absurd h9 z | omega⟩
    · constructor
      · intro h; first | exact h.2 h9 | exact h.1 h9 | exact h.1 (by omega)
      · intro h; exact ⟨fun z => by first | exact h | exact absurd z h9 | omega, fun z => by first | exact h | exact absurd z h9 | omega⟩
  rw [rn_s h, i_if_icmp, ht]
  simp only [true_and, Int.toNat_natCast, Int.natCast_nonneg, e, and_assoc]
theorem X_if_eq {off : Int} {tgt : Nat} (h : decode cc pc = .ok (.ifCond .eq off, 3)) (ht : (pc : Int) + off = (tgt : Int)) (hp : pc + 3 = pc') : rn o ini cc (n + 1) pc lv st (nn, Rf, M) K = (pI st (fun a t => r32 a ∧ if a = 0 then rn o ini cc n tgt lv t (nn, Rf, M) K else rn o ini cc n pc' lv t (nn, Rf, M) K)) := by
  subst hp
  have e : ∀ (a b : Int) (P Q : Prop), cnI .eq a b P Q = (if a = b then P else Q) := by
    intro a b P Q
    rw [cnI_eq]
    apply propext
    split <;> rename_i h9
    · constructor
      · intro h; first | exact h.1 h9 | exact h.2 h9 | exact h.2 (fun q => by omega) | exact h.2 (by omega)
      · intro h; exact ⟨fun z => by first | exact h | exact absurd h9 z | omega, fun z => by first | exact h | exact absurd h9 z | omega⟩
    · constructor
      · intro h; first | exact h.2 h9 | exact h.1 h9 | exact h.1 (by omega)
      · intro h; exact ⟨fun z => by first | exact h | exact absurd z h9 | omega, fun z => by first | exact h | exact absurd z h9 | omega⟩
  rw [rn_s h, i_ifCond, ht]
  simp only [true_and, Int.toNat_natCast, Int.natCast_nonneg, e, and_assoc]
theorem X_icmp_ne {off : Int} {tgt : Nat} (h : decode cc pc = .ok (.if_icmp .ne off, 3)) (ht : (pc : Int) + off = (tgt : Int)) (hp : pc + 3 = pc') : rn o ini cc (n + 1) pc lv st (nn, Rf, M) K = (pII st (fun a b t => (r32 a ∧ r32 b) ∧ if a = b then rn o ini cc n pc' lv t (nn, Rf, M) K else rn o ini cc n tgt lv t (nn, Rf, M) K)) := by
  subst hp
  have e : ∀ (a b : Int) (P Q : Prop), cnI .ne a b P Q = (if a = b then Q else P) := by
    intro a b P Q
    rw [cnI_ne]
    apply propext
    split <;> rename_i h9
    · constructor
      · intro h; first | exact h.1 h9 | exact h.2 h9 | exact h.2 (fun q => by omega) | exact h.2 (by omega)
      · intro h; exact ⟨fun z => by first | exact h | exact absurd h9 z | omega, fun z => by first | exact h | exact absurd h9 z | omega⟩
    · constructor
      · intro h; first | exact h.2 h9 | exact h.1 h9 | exact h.1 (by omega)
      · intro h; exact ⟨fun z => by first | exact h | exact absurd z h9 | omega, fun z => by first | exact h | exact absurd z h9 | omega⟩
  rw [rn_s h, i_if_icmp, ht]
  simp only [true_and, Int.toNat_natCast, Int.natCast_nonneg, e, and_assoc]
theorem X_if_ne {off : Int} {tgt : Nat} (h : decode cc pc = .ok (.ifCond .ne off, 3)) (ht : (pc : Int) + off = (tgt : Int)) (hp : pc + 3 = pc') : rn o ini cc (n + 1) pc lv st (nn, Rf, M) K = (pI st (fun a t => r32 a ∧ if a = 0 then rn o ini cc n pc' lv t (nn, Rf, M) K else rn o ini cc n tgt lv t (nn, Rf, M) K)) := by
  subst hp
  have e : ∀ (a b : Int) (P Q : Prop), cnI .ne a b P Q = (if a = b then Q else P) := by
    intro a b P Q
    rw [cnI_ne]
    apply propext
    split <;> rename_i h9
    · constructor
      · intro h; first | exact h.1 h9 | exact h.2 h9 | exact h.2 (fun q => by omega) | exact h.2 (by omega)
      · intro h; exact ⟨fun z => by first | exact h | exact absurd h9 z | omega, fun z => by first | exact h | exact absurd h9 z | omega⟩
    · constructor
      · intro h; first | exact h.2 h9 | exact h.1 h9 | exact h.1 (by omega)
      · intro h; exact ⟨fun z => by first | exact h | exact absurd z h9 | omega, fun z => by first | exact h | exact absurd z h9 | omega⟩
  rw [rn_s h, i_ifCond, ht]
  simp only [true_and, Int.toNat_natCast, Int.natCast_nonneg, e, and_assoc]
theorem X_icmp_lt {off : Int} {tgt : Nat} (h : decode cc pc = .ok (.if_icmp .lt off, 3)) (ht : (pc : Int) + off = (tgt : Int)) (hp : pc + 3 = pc') : rn o ini cc (n + 1) pc lv st (nn, Rf, M) K = (pII st (fun a b t => (r32 a ∧ r32 b) ∧ if a < b then rn o ini cc n tgt lv t (nn, Rf, M) K else rn o ini cc n pc' lv t (nn, Rf, M) K)) := by
  subst hp
  have e : ∀ (a b : Int) (P Q : Prop), cnI .lt a b P Q = (if a < b then P else Q) := by
    intro a b P Q
    rw [cnI_lt]
    apply propext
    split <;> rename_i h9
    · constructor
      · intro h; first | exact h.1 h9 | exact h.2 h9 | exact h.2 (fun q => by omega) | exact h.2 (by omega)
      · intro h; exact ⟨fun z => by first | exact h | exact absurd h9 z | omega, fun z => by first | exact h | exact absurd h9 z | omega⟩
    · constructor
      · intro h; first | exact h.2 h9 | exact h.1 h9 | exact h.1 (by omega)
      · intro h; exact ⟨fun z => by first | exact h | exact absurd z h9 | omega, fun z => by first | exact h | exact absurd z h9 | omega⟩
  rw [rn_s h, i_if_icmp, ht]
  simp only [true_and, Int.toNat_natCast, Int.natCast_nonneg, e, and_assoc]
theorem X_if_lt {off : Int} {tgt : Nat} (h : decode cc pc = .ok (.ifCond .lt off, 3)) (ht : (pc : Int) + off = (tgt : Int)) (hp : pc + 3 = pc') : rn o ini cc (n + 1) pc lv st (nn, Rf, M) K = (pI st (fun a t => r32 a ∧ if a < 0 then rn o ini cc n tgt lv t (nn, Rf, M) K else rn o ini cc n pc' lv t (nn, Rf, M) K)) := by
  subst hp
  have e : ∀ (a b : Int) (P Q : Prop), cnI .lt a b P Q = (if a < b then P else Q) := by
    intro a b P Q
    rw [cnI_lt]
    apply propext
    split <;> rename_i h9
    · constructor
      · intro h; first | exact h.1 h9 | exact h.2 h9 | exact h.2 (fun q => by omega) | exact h.2 (by omega)
      · intro h; exact ⟨fun z => by first | exact h | exact absurd h9 z | omega, fun z => by first | exact h | exact absurd h9 z | omega⟩
    · constructor
      · intro h; first | exact h.2 h9 | exact h.1 h9 | exact h.1 (by omega)
      · intro h; exact ⟨fun z => by first | exact h | exact absurd z h9 | omega, fun z => by first | exact h | exact absurd z h9 | omega⟩
  rw [rn_s h, i_ifCond, ht]
  simp only [true_and, Int.toNat_natCast, Int.natCast_nonneg, e, and_assoc]
theorem X_icmp_ge {off : Int} {tgt : Nat} (h : decode cc pc = .ok (.if_icmp .ge off, 3)) (ht : (pc : Int) + off = (tgt : Int)) (hp : pc + 3 = pc') : rn o ini cc (n + 1) pc lv st (nn, Rf, M) K = (pII st (fun a b t => (r32 a ∧ r32 b) ∧ if a < b then rn o ini cc n pc' lv t (nn, Rf, M) K else rn o ini cc n tgt lv t (nn, Rf, M) K)) := by
  subst hp
  have e : ∀ (a b : Int) (P Q : Prop), cnI .ge a b P Q = (if a < b then Q else P) := by
    intro a b P Q
    rw [cnI_ge]
    apply propext
    split <;> rename_i h9
    · constructor
      · intro h; first | exact h.1 h9 | exact h.2 h9 | exact h.2 (fun q => by omega) | exact h.2 (by omega)
      · intro h; exact ⟨fun z => by first | exact h | exact absurd h9 z | omega, fun z => by first | exact h | exact absurd h9 z | omega⟩
    · constructor
      · intro h; first | exact h.2 h9 | exact h.1 h9 | exact h.1 (by omega)
      · intro h; exact ⟨fun z => by first | exact h | exact absurd z h9 | omega, fun z => by first | exact h | exact absurd z h9 | omega⟩
  rw [rn_s h, i_if_icmp, ht]
  simp only [true_and, Int.toNat_natCast, Int.natCast_nonneg, e, and_assoc]
theorem X_if_ge {off : Int} {tgt : Nat} (h : decode cc pc = .ok (.ifCond .ge off, 3)) (ht : (pc : Int) + off = (tgt : Int)) (hp : pc + 3 = pc') : rn o ini cc (n + 1) pc lv st (nn, Rf, M) K = (pI st (fun a t => r32 a ∧ if a < 0 then rn o ini cc n pc' lv t (nn, Rf, M) K else rn o ini cc n tgt lv t (nn, Rf, M) K)) := by
  subst hp
  have e : ∀ (a b : Int) (P Q : Prop), cnI .ge a b P Q = (if a < b then Q else P) := by
    intro a b P Q
    rw [cnI_ge]
    apply propext
    split <;> rename_i h9
    · constructor
      · intro h; first | exact h.1 h9 | exact h.2 h9 | exact h.2 (fun q => by omega) | exact h.2 (by omega)
      · intro h; exact ⟨fun z => by first | exact h | exact absurd h9 z | omega, fun z => by first | exact h | exact absurd h9 z | omega⟩
    · constructor
      · intro h; first | exact h.2 h9 | exact h.1 h9 | exact h.1 (by omega)
      · intro h; exact ⟨fun z => by first | exact h | exact absurd z h9 | omega, fun z => by first | exact h | exact absurd z h9 | omega⟩
  rw [rn_s h, i_ifCond, ht]
  simp only [true_and, Int.toNat_natCast, Int.natCast_nonneg, e, and_assoc]
theorem X_icmp_gt {off : Int} {tgt : Nat} (h : decode cc pc = .ok (.if_icmp .gt off, 3)) (ht : (pc : Int) + off = (tgt : Int)) (hp : pc + 3 = pc') : rn o ini cc (n + 1) pc lv st (nn, Rf, M) K = (pII st (fun a b t => (r32 a ∧ r32 b) ∧ if b < a then rn o ini cc n tgt lv t (nn, Rf, M) K else rn o ini cc n pc' lv t (nn, Rf, M) K)) := by
  subst hp
  have e : ∀ (a b : Int) (P Q : Prop), cnI .gt a b P Q = (if b < a then P else Q) := by
    intro a b P Q
    rw [cnI_gt]
    apply propext
    split <;> rename_i h9
    · constructor
      · intro h; first | exact h.1 h9 | exact h.2 h9 | exact h.2 (fun q => by omega) | exact h.2 (by omega)
      · intro h; exact ⟨fun z => by first | exact h | exact absurd h9 z | omega, fun z => by first | exact h | exact absurd h9 z | omega⟩
    · constructor
      · intro h; first | exact h.2 h9 | exact h.1 h9 | exact h.1 (by omega)
      · intro h; exact ⟨fun z => by first | exact h | exact absurd z h9 | omega, fun z => by first | exact h | exact absurd z h9 | omega⟩
  rw [rn_s h, i_if_icmp, ht]
  simp only [true_and, Int.toNat_natCast, Int.natCast_nonneg, e, and_assoc]
theorem X_if_gt {off : Int} {tgt : Nat} (h : decode cc pc = .ok (.ifCond .gt off, 3)) (ht : (pc : Int) + off = (tgt : Int)) (hp : pc + 3 = pc') : rn o ini cc (n + 1) pc lv st (nn, Rf, M) K = (pI st (fun a t => r32 a ∧ if 0 < a then rn o ini cc n tgt lv t (nn, Rf, M) K else rn o ini cc n pc' lv t (nn, Rf, M) K)) := by
  subst hp
  have e : ∀ (a b : Int) (P Q : Prop), cnI .gt a b P Q = (if b < a then P else Q) := by
    intro a b P Q
    rw [cnI_gt]
    apply propext
    split <;> rename_i h9
    · constructor
      · intro h; first | exact h.1 h9 | exact h.2 h9 | exact h.2 (fun q => by omega) | exact h.2 (by omega)
      · intro h; exact ⟨fun z => by first | exact h | exact absurd h9 z | omega, fun z => by first | exact h | exact absurd h9 z | omega⟩
    · constructor
      · intro h; first | exact h.2 h9 | exact h.1 h9 | exact h.1 (by omega)
      · intro h; exact ⟨fun z => by first | exact h | exact absurd z h9 | omega, fun z => by first | exact h | exact absurd z h9 | omega⟩
  rw [rn_s h, i_ifCond, ht]
  simp only [true_and, Int.toNat_natCast, Int.natCast_nonneg, e, and_assoc]
theorem X_icmp_le {off : Int} {tgt : Nat} (h : decode cc pc = .ok (.if_icmp .le off, 3)) (ht : (pc : Int) + off = (tgt : Int)) (hp : pc + 3 = pc') : rn o ini cc (n + 1) pc lv st (nn, Rf, M) K = (pII st (fun a b t => (r32 a ∧ r32 b) ∧ if b < a then rn o ini cc n pc' lv t (nn, Rf, M) K else rn o ini cc n tgt lv t (nn, Rf, M) K)) := by
  subst hp
  have e : ∀ (a b : Int) (P Q : Prop), cnI .le a b P Q = (if b < a then Q else P) := by
    intro a b P Q
    rw [cnI_le]
    apply propext
    split <;> rename_i h9
    · constructor
      · intro h; first | exact h.1 h9 | exact h.2 h9 | exact h.2 (fun q => by omega) | exact h.2 (by omega)
      · intro h; exact ⟨fun z => by first | exact h | exact absurd h9 z | omega, fun z => by first | exact h | exact absurd h9 z | omega⟩
    · constructor
      · intro h; first | exact h.2 h9 | exact h.1 h9 | exact h.1 (by omega)
      · intro h; exact ⟨fun z => by first | exact h | exact absurd z h9 | omega, fun z => by first | exact h | exact absurd z h9 | omega⟩
  rw [rn_s h, i_if_icmp, ht]
  simp only [true_and, Int.toNat_natCast, Int.natCast_nonneg, e, and_assoc]
theorem X_if_le {off : Int} {tgt : Nat} (h : decode cc pc = .ok (.ifCond .le off, 3)) (ht : (pc : Int) + off = (tgt : Int)) (hp : pc + 3 = pc') : rn o ini cc (n + 1) pc lv st (nn, Rf, M) K = (pI st (fun a t => r32 a ∧ if 0 < a then rn o ini cc n pc' lv t (nn, Rf, M) K else rn o ini cc n tgt lv t (nn, Rf, M) K)) := by
  subst hp
  have e : ∀ (a b : Int) (P Q : Prop), cnI .le a b P Q = (if b < a then Q else P) := by
    intro a b P Q
    rw [cnI_le]
    apply propext
    split <;> rename_i h9
    · constructor
      · intro h; first | exact h.1 h9 | exact h.2 h9 | exact h.2 (fun q => by omega) | exact h.2 (by omega)
      · intro h; exact ⟨fun z => by first | exact h | exact absurd h9 z | omega, fun z => by first | exact h | exact absurd h9 z | omega⟩
    · constructor
      · intro h; first | exact h.2 h9 | exact h.1 h9 | exact h.1 (by omega)
      · intro h; exact ⟨fun z => by first | exact h | exact absurd z h9 | omega, fun z => by first | exact h | exact absurd z h9 | omega⟩
  rw [rn_s h, i_ifCond, ht]
  simp only [true_and, Int.toNat_natCast, Int.natCast_nonneg, e, and_assoc]
theorem X_getI {x ci k ty ww pl : Nat} (hf : fl o x = some (ci, k, ty, ww, pl)) (hty : ty ≠ 2) (h : decode cc pc = .ok (.getfield x, 3)) (hp : pc + 3 = pc') : rn o ini cc (n + 1) pc lv st (nn, Rf, M) K = (pR st (fun c t => (kd c = ci ∧ c < nn) ∧ rn o ini cc n pc' lv (.inl (M c k) :: t) (nn, Rf, M) K)) := by
  subst hp
  rw [rn_s h, i_getfield]
  simp only [true_and, gF_c hf, fld, hty, if_false, and_assoc]
theorem X_getR {x ci k ww pl : Nat} (hf : fl o x = some (ci, k, 2, ww, pl)) (h : decode cc pc = .ok (.getfield x, 3)) (hp : pc + 3 = pc') : rn o ini cc (n + 1) pc lv st (nn, Rf, M) K = (pR st (fun c t => (kd c = ci ∧ c < nn) ∧ gV (Rf c k) (fun v => rn o ini cc n pc' lv (.inr (.inr v) :: t) (nn, Rf, M) K))) := by
  subst hp
  rw [rn_s h, i_getfield]
  simp only [true_and, gF_c hf, fld, if_true, and_assoc, gV]
theorem X_putI {x ci k ty ww pl : Nat} (hf : fl o x = some (ci, k, ty, ww, pl)) (hty : ty ≠ 2) (h : decode cc pc = .ok (.putfield x, 3)) (hp : pc + 3 = pc') : rn o ini cc (n + 1) pc lv st (nn, Rf, M) K = ((ww = 0 ∨ (ini = true ∧ o = ci)) ∧ pRI st (fun c z t => (ty = 0 ∨ ty = 1 ∧ (z = 0 ∨ z = 1)) ∧ (kd c = ci ∧ c < nn) ∧ rn o ini cc n pc' lv (t) (nn, Rf, up2 M c k z) K)) := by
  subst hp
  rw [rn_s h, i_putfield]
  simp only [true_and, gF_c hf, hty, if_false, and_assoc]
theorem X_putR {x ci k ww pl : Nat} (hf : fl o x = some (ci, k, 2, ww, pl)) (h : decode cc pc = .ok (.putfield x, 3)) (hp : pc + 3 = pc') : rn o ini cc (n + 1) pc lv st (nn, Rf, M) K = ((ww = 0 ∨ (ini = true ∧ o = ci)) ∧ pRR st (fun c r t => (kd c = ci ∧ c < nn) ∧ rn o ini cc n pc' lv (t) (nn, upR Rf c k r, M) K)) := by
  subst hp
  rw [rn_s h, i_putfield]
  simp only [true_and, gF_c hf, if_true, and_assoc]
theorem X_iaload (h : decode cc pc = .ok (.iaload, 1)) (hp : pc + 1 = pc') : rn o ini cc (n + 1) pc lv st (nn, Rf, M) K = (pRI st (fun c j t => (kd c = 10 ∧ c < nn) ∧ (0 ≤ j ∧ j < ln c) ∧ rn o ini cc n pc' lv (.inl (M c j.toNat) :: t) (nn, Rf, M) K)) := by
  subst hp
  rw [rn_s h, i_iaload]
  simp only [true_and, and_assoc]
theorem X_laload (h : decode cc pc = .ok (.laload, 1)) (hp : pc + 1 = pc') : rn o ini cc (n + 1) pc lv st (nn, Rf, M) K = (pRI st (fun c j t => (kd c = 11 ∧ c < nn) ∧ (0 ≤ j ∧ j < ln c) ∧ rn o ini cc n pc' lv (.inr (.inl (M c j.toNat)) :: t) (nn, Rf, M) K)) := by
  subst hp
  rw [rn_s h, i_laload]
  simp only [true_and, and_assoc]
theorem X_aaload (h : decode cc pc = .ok (.aaload, 1)) (hp : pc + 1 = pc') : rn o ini cc (n + 1) pc lv st (nn, Rf, M) K = (pRI st (fun c j t => ((12 ≤ kd c ∧ kd c ≤ 14) ∧ c < nn) ∧ (0 ≤ j ∧ j < ln c) ∧ gV (Rf c j.toNat) (fun v => rn o ini cc n pc' lv (.inr (.inr v) :: t) (nn, Rf, M) K))) := by
  subst hp
  rw [rn_s h, i_aaload]
  simp only [true_and, and_assoc, gV]
theorem X_iastore (h : decode cc pc = .ok (.iastore, 1)) (hp : pc + 1 = pc') : rn o ini cc (n + 1) pc lv st (nn, Rf, M) K = (pRII st (fun c j z t => (kd c = 10 ∧ c < nn) ∧ (0 ≤ j ∧ j < ln c) ∧ rn o ini cc n pc' lv (t) (nn, Rf, up2 M c j.toNat z) K)) := by
  subst hp
  rw [rn_s h, i_iastore]
  simp only [true_and, and_assoc]
theorem X_lastore (h : decode cc pc = .ok (.lastore, 1)) (hp : pc + 1 = pc') : rn o ini cc (n + 1) pc lv st (nn, Rf, M) K = (pRIL st (fun c j z t => (kd c = 11 ∧ c < nn) ∧ (0 ≤ j ∧ j < ln c) ∧ rn o ini cc n pc' lv (t) (nn, Rf, up2 M c j.toNat z) K)) := by
  subst hp
  rw [rn_s h, i_lastore]
  simp only [true_and, and_assoc]
theorem X_arraylength (h : decode cc pc = .ok (.arraylength, 1)) (hp : pc + 1 = pc') : rn o ini cc (n + 1) pc lv st (nn, Rf, M) K = (pR st (fun c t => (kd c = 10 ∧ c < nn) ∧ rn o ini cc n pc' lv (.inl (ln c : Int) :: t) (nn, Rf, M) K)) := by
  subst hp
  rw [rn_s h, i_arraylength]
  simp only [true_and, and_assoc]
theorem X_abs {x pl : Nat} (hj : jd o x = some (0, pl)) (h : decode cc pc = .ok (.invokestatic x, 3)) (hp : pc + 3 = pc') : rn o ini cc (n + 1) pc lv st (nn, Rf, M) K = (pI st (fun z t => t.length ≤ 8 ∧ (-2147483647 ≤ z ∧ z ≤ 2147483647) ∧ rn o ini cc n pc' lv (.inl (z.natAbs : Int) :: t) (nn, Rf, M) K)) := by
  subst hp
  rw [rn_s h, i_invokestatic, gJ_c hj]
  simp only [true_and, if_true]
theorem X_min {x pl : Nat} (hj : jd o x = some (1, pl)) (h : decode cc pc = .ok (.invokestatic x, 3)) (hp : pc + 3 = pc') : rn o ini cc (n + 1) pc lv st (nn, Rf, M) K = (pII st (fun a b t => t.length ≤ 8 ∧ (r32 a ∧ r32 b) ∧ rn o ini cc n pc' lv (.inl (if b < a then b else a) :: t) (nn, Rf, M) K)) := by
  subst hp
  rw [rn_s h, i_invokestatic, gJ_c hj]
  simp only [true_and, if_true, Nat.one_ne_zero, if_false, and_assoc]
theorem X_obj {x pl : Nat} (hj : jd o x = some (2, pl)) (h : decode cc pc = .ok (.invokespecial x, 3)) (hp : pc + 3 = pc') : rn o ini cc (n + 1) pc lv st (nn, Rf, M) K = (pR st (fun _ t => t.length ≤ 8 ∧ rn o ini cc n pc' lv (t) (nn, Rf, M) K)) := by
  subst hp
  rw [rn_s h, i_invokespecial, gJ_c hj]
  simp only [true_and]
theorem X_stop {i : Instr} {len : Nat} (h : decode cc pc = .ok (i, len)) (hs : ∀ (lv : List (Option AV)) (st : List AV) (μ : Mem) (K : K9), ins o ini i len pc lv st μ K = K pc lv st μ) {μ : Mem} : rn o ini cc n pc lv st μ K = K pc lv st μ := by
  induction n with
  | zero => rw [rn_0]
  | succ n ih => rw [rn_s h, hs, ih]
theorem X_ireturn (h : decode cc pc = .ok (.ireturn, 1)) {μ : Mem} : rn o ini cc n pc lv st μ K = K pc lv st μ := X_stop h (fun _ _ _ _ => i_ireturn)
theorem X_return_ (h : decode cc pc = .ok (.return_, 1)) {μ : Mem} : rn o ini cc n pc lv st μ K = K pc lv st μ := X_stop h (fun _ _ _ _ => i_return_)
theorem X_areturn (h : decode cc pc = .ok (.areturn, 1)) {μ : Mem} : rn o ini cc n pc lv st μ K = K pc lv st μ := X_stop h (fun _ _ _ _ => i_areturn)
theorem X_athrow (h : decode cc pc = .ok (.athrow, 1)) {μ : Mem} : rn o ini cc n pc lv st μ K = K pc lv st μ := X_stop h (fun _ _ _ _ => i_athrow)
theorem X_aastore (h : decode cc pc = .ok (.aastore, 1)) {μ : Mem} : rn o ini cc n pc lv st μ K = K pc lv st μ := X_stop h (fun _ _ _ _ => i_aastore)
theorem X_invokevirtual {x : Nat} (h : decode cc pc = .ok (.invokevirtual x, 3)) {μ : Mem} : rn o ini cc n pc lv st μ K = K pc lv st μ := X_stop h (fun _ _ _ _ => i_invokevirtual)
theorem X_new {x : Nat} (h : decode cc pc = .ok (.new x, 3)) {μ : Mem} : rn o ini cc n pc lv st μ K = K pc lv st μ := X_stop h (fun _ _ _ _ => i_new)
theorem X_anewarray {x : Nat} (h : decode cc pc = .ok (.anewarray x, 3)) {μ : Mem} : rn o ini cc n pc lv st μ K = K pc lv st μ := X_stop h (fun _ _ _ _ => i_anewarray)
theorem X_newarray {x : ArrayType} (h : decode cc pc = .ok (.newarray x, 2)) {μ : Mem} : rn o ini cc n pc lv st μ K = K pc lv st μ := X_stop h (fun _ _ _ _ => i_newarray)
theorem X_multianewarray {x y : Nat} (h : decode cc pc = .ok (.multianewarray x y, 4)) {μ : Mem} : rn o ini cc n pc lv st μ K = K pc lv st μ := X_stop h (fun _ _ _ _ => i_multianewarray)
theorem X_invokestatic {x : Nat} (hj : jd o x = none) (h : decode cc pc = .ok (.invokestatic x, 3)) {μ : Mem} : rn o ini cc n pc lv st μ K = K pc lv st μ := by
  induction n with
  | zero => rw [rn_0]
  | succ n ih => rw [rn_s h, i_invokestatic, gJ_n hj, ih]; simp only [true_and]
theorem X_invokespecial {x : Nat} (hj : jd o x = none) (h : decode cc pc = .ok (.invokespecial x, 3)) {μ : Mem} : rn o ini cc n pc lv st μ K = K pc lv st μ := by
  induction n with
  | zero => rw [rn_0]
  | succ n ih => rw [rn_s h, i_invokespecial, gJ_n hj, ih]; simp only [true_and]
theorem X_tableswitch {dflt lo hi : Int} {offs : Array Int} {len : Nat} (h : decode cc pc = .ok (.tableswitch dflt lo hi offs, len)) {μ : Mem} : rn o ini cc (n + 1) pc lv st μ K = (pI st (fun a t => r32 a ∧ 0 ≤ (pc : Int) + dflt ∧ hi + 1 = lo + offs.toList.length ∧ (a < lo ∨ hi < a → rn o ini cc n ((pc : Int) + dflt).toNat lv t μ K) ∧ swL offs.toList lo a (fun off => 0 ≤ (pc : Int) + off ∧ rn o ini cc n ((pc : Int) + off).toNat lv t μ K))) := by
  rw [rn_s h, i_tableswitch]
end XR
