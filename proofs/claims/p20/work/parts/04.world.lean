/-! THE WORLD: cells are numbered in the order in which they are made; what a cell is (its class or kind of array, its length) is known by its number. A value is an int, a long (both as whole numbers), or a cell's number. -/
abbrev AV : Type := Int ⊕ (Int ⊕ Option Nat)
/-- how many cells there are; what the references are; what the numbers are -/
abbrev Mem : Type := Nat × (Nat → Nat → Option Nat) × (Nat → Nat → Int)
def cv (ad : Nat → Nat) : AV → Value
  | .inl z => .int (Int32.ofInt z)
  | .inr (.inl z) => .long (Int64.ofInt z)
  | .inr (.inr r) => va_rf (r.map ad)
/-- the kind of a cell: 0 to 9 an object of that class, 10 int[], 11 long[], 12 Ink[], 13 Job[], 14 int[][] -/
def kd (c : Nat) : Nat :=
  if c < 10 then [8,6,14,10,10,10,10,0,10,12].getD c 15
  else if c < 70 then (if c % 2 = 0 then 0 else 10)
  else if c < 92 then [10,0,10,13,3,10,2,10,10,5,4,10,2,10,10,10,10,10,10,7,10,14].getD (c - 70) 15
  else if c < 367 then (if c = 100 ∨ c = 110 then 14 else 10)
  else if c < 447 then (if (c - 367) % 5 = 0 then 1 else if (c - 367) % 5 = 3 then 0 else 10)
  else 10
def ln (c : Nat) : Nat :=
  if c < 10 then [0,0,4,3,3,3,3,0,4,30].getD c 0
  else if c < 70 then 4
  else if c < 92 then [4,0,4,16,0,3,0,4,4,0,0,4,0,4,4,4,4,4,3,0,8,8].getD (c - 70) 0
  else if c < 100 then 3
  else if c = 100 then 9
  else if c < 110 then 8
  else if c = 110 then 256
  else if c < 367 then 9
  else if c < 447 then (if (c - 367) % 5 = 4 then 4 else 3)
  else [4, 16].getD (c - 447) 0
theorem kd_lo : ∀ c, c < 447 → kd c ≠ 11 := by decide +kernel
theorem kd_hi {x : Nat} (hx : 447 ≤ x) : kd x = 10 := by
  unfold kd
  rw [if_neg (by omega), if_neg (by omega), if_neg (by omega), if_neg (by omega), if_neg (by omega)]
theorem kd_11 (c : Nat) : kd c ≠ 11 := by
  by_cases h : c < 447
  · exact kd_lo c h
  · rw [kd_hi (by omega)]; decide
/-- a field's value in the heap -/
def fva (ad : Nat → Nat) (μ : Mem) (c k t : Nat) : Value := if t = 2 then va_rf ((μ.2.1 c k).map ad) else .int (Int32.ofInt (μ.2.2 c k))
def cel (cy : Nat → ClassId) (ad : Nat → Nat) (μ : Mem) (c : Nat) : va_E :=
  if kd c < 10 then .inr (kd c, (List.range (Nn (kd c))).map (fun k => fva ad μ c k (fty (kd c) k)))
  else if kd c = 10 then .inl (cy 10, ln c, .inl (fun j => Int32.ofInt (μ.2.2 c j)))
  else if kd c = 11 then .inl (cy 11, ln c, .inr (.inl (fun j => Int64.ofInt (μ.2.2 c j))))
  else .inl (cy (kd c), ln c, .inr (.inr (.inr (.inr (fun j => (μ.2.1 c j).map ad)))))
def wld (cy : Nat → ClassId) (ad : Nat → Nat) (μ : Mem) : va_W := (List.range μ.1).map (fun c => (ad c, cel cy ad μ c))
theorem wld_get {cy : Nat → ClassId} {ad : Nat → Nat} {μ : Mem} {c : Nat} (h : c < μ.1) : (wld cy ad μ)[c]? = some (ad c, cel cy ad μ c) := by
  simp [wld, List.getElem?_range h]
theorem wld_inv {cy : Nat → ClassId} {ad : Nat → Nat} {μ : Mem} {c : Nat} {q : Nat × va_E} (h : (wld cy ad μ)[c]? = some q) : c < μ.1 ∧ q = (ad c, cel cy ad μ c) := by
  by_cases hc : c < μ.1
  · rw [wld_get hc] at h
    exact ⟨hc, (Option.some.inj h).symm⟩
  · have : (wld cy ad μ)[c]? = none := List.getElem?_eq_none (by simp [wld]; omega)
    rw [this] at h; cases h
theorem wld_set {cy : Nat → ClassId} {ad : Nat → Nat} {μ ν : Mem} {c : Nat} {e : va_E} (h1 : ν.1 = μ.1) (he : e = cel cy ad ν c) (ho : ∀ d, d ≠ c → cel cy ad ν d = cel cy ad μ d) : (wld cy ad μ).set c (ad c, e) = wld cy ad ν := by
  apply List.ext_getElem?
  intro i
  by_cases hi : i < μ.1
  · rw [wld_get (by rw [h1]; exact hi), List.getElem?_set]
    by_cases hc : c = i
    · subst hc
      rw [if_pos rfl, if_pos (by simp [wld]; exact hi), he]
    · rw [if_neg hc, wld_get hi, ho i (Ne.symm hc)]
  · rw [List.getElem?_eq_none (by simp [wld]; omega), List.getElem?_eq_none (by simp [wld, h1]; omega)]
theorem wld_congr {cy : Nat → ClassId} {ad ad' : Nat → Nat} {μ ν : Mem} (h1 : ν.1 = μ.1) (ho : ∀ d, d < μ.1 → ad' d = ad d ∧ cel cy ad' ν d = cel cy ad μ d) : wld cy ad' ν = wld cy ad μ := by
  unfold wld
  rw [h1]
  apply List.map_congr_left
  intro d hd
  have hd := List.mem_range.mp hd
  rw [(ho d hd).1, (ho d hd).2]
/-- a number written -/
def up2 (f : Nat → Nat → Int) (c k : Nat) (z : Int) : Nat → Nat → Int := fun c' k' => if c' = c ∧ k' = k then z else f c' k'
def upR (f : Nat → Nat → Option Nat) (c k : Nat) (z : Option Nat) : Nat → Nat → Option Nat := fun c' k' => if c' = c ∧ k' = k then z else f c' k'
theorem up2_s {f : Nat → Nat → Int} {c k : Nat} {z : Int} : up2 f c k z c k = z := by simp [up2]
theorem up2_c {f : Nat → Nat → Int} {c k c' k' : Nat} {z : Int} (h : c' ≠ c) : up2 f c k z c' k' = f c' k' := by simp [up2, h]
theorem up2_k {f : Nat → Nat → Int} {c k c' k' : Nat} {z : Int} (h : k' ≠ k) : up2 f c k z c' k' = f c' k' := by simp [up2, h]
/-- locals: what is known of each place -/
def lg : List (Option AV) → Nat → Option AV
  | [], _ => none
  | a :: _, 0 => a
  | _ :: l, n + 1 => lg l n
def lst : List (Option AV) → Nat → Option AV → List (Option AV)
  | [], _, _ => []
  | _ :: l, 0, x => x :: l
  | a :: l, n + 1, x => a :: lst l n x
def isLg : Option AV → Bool
  | some (.inr (.inl _)) => true
  | _ => false
/-- no long in the place ahead -/
def nl : List (Option AV) → Nat → Bool
  | _, 0 => true
  | l, n + 1 => !isLg (lg l n)
theorem lst_len : ∀ (l : List (Option AV)) (i : Nat) (x : Option AV), (lst l i x).length = l.length
  | [], _, _ => rfl
  | _ :: _, 0, _ => rfl
  | _ :: l, i + 1, x => by simp [lst, lst_len l i x]
theorem lg_lst : ∀ (l : List (Option AV)) (i j : Nat) (x : Option AV), lg (lst l i x) j = if j = i ∧ i < l.length then x else lg l j
  | [], i, j, x => by simp [lst, lg]
  | a :: l, 0, 0, x => by simp [lst, lg]
  | a :: l, 0, j + 1, x => by simp [lst, lg]
  | a :: l, i + 1, 0, x => by simp [lst, lg]
  | a :: l, i + 1, j + 1, x => by simp [lst, lg, lg_lst l i j x]
theorem lg_lt : ∀ (l : List (Option AV)) (i : Nat) (v : AV), lg l i = some v → i < l.length
  | [], i, v, h => by simp [lg] at h
  | a :: l, 0, v, h => by simp
  | a :: l, i + 1, v, h => by have := lg_lt l i v (by simpa [lg] using h); simp; omega
def prs (ad : Nat → Nat) (lv : List (Option AV)) : List (Nat × Value) := (List.range lv.length).filterMap (fun i => (lg lv i).map (fun v => (i, cv ad v)))
theorem prs_mem {ad : Nat → Nat} {lv : List (Option AV)} {i : Nat} {w : Value} : (i, w) ∈ prs ad lv ↔ ∃ v, lg lv i = some v ∧ w = cv ad v := by
  unfold prs
  rw [List.mem_filterMap]
  constructor
  · rintro ⟨j, hj, h⟩
    cases hv : lg lv j with
    | none => rw [hv] at h; cases h
    | some v =>
      rw [hv] at h
      simp only [Option.map_some, Option.some.injEq, Prod.mk.injEq] at h
      obtain ⟨rfl, rfl⟩ := h
      exact ⟨v, hv, rfl⟩
  · rintro ⟨v, hv, rfl⟩
    exact ⟨i, List.mem_range.mpr (lg_lt _ _ _ hv), by rw [hv]; rfl⟩
theorem prs_at {ad : Nat → Nat} {lv : List (Option AV)} {ls : Array Slot} (h : lv_has ls lv.length (prs ad lv)) {i : Nat} {v : AV} (hv : lg lv i = some v) : ls[i]? = some (.val (cv ad v)) := h.2.2 (i, cv ad v) (prs_mem.mpr ⟨v, hv, rfl⟩)
theorem cv_cat {ad : Nat → Nat} (v : AV) : (cv ad v).category = if isLg (some v) then 2 else 1 := by
  rcases v with z | z | r
  · rfl
  · rfl
  · cases r <;> rfl
theorem prs_sub {ad : Nat → Nat} {lv lv' : List (Option AV)} {ls : Array Slot} {l : List (Nat × Value)} (h : lv_has ls lv.length l) (hlen : lv'.length = lv.length) (hs : ∀ i v, lg lv' i = some v → (i, cv ad v) ∈ l) : lv_has ls lv'.length (prs ad lv') := by
  refine ⟨by rw [hlen]; exact h.1, h.2.1, fun q hq => ?_⟩
  obtain ⟨i, w⟩ := q
  obtain ⟨v, hv, rfl⟩ := prs_mem.mp hq
  exact h.2.2 _ (hs i v hv)
/-- a value of one place stored -/
theorem prs_st1 {ad : Nat → Nat} {lv : List (Option AV)} {ls' : Array Slot} {i : Nat} {x : AV} (hn : nl lv i = true) (hi : i < lv.length) (h : lv_has ls' lv.length ((i, cv ad x) :: (prs ad lv).filter (fun q => !(q.1 == i) && !(q.1 + 1 == i && q.2.category == 2)))) :
    lv_has ls' (lst lv i (some x)).length (prs ad (lst lv i (some x))) := by
  refine prs_sub (lv := lv) h (lst_len _ _ _) (fun j v hv => ?_)
  rw [lg_lst] at hv
  by_cases hj : j = i
  · subst hj
    rw [if_pos ⟨rfl, hi⟩] at hv
    cases hv
    exact List.mem_cons_self
  · rw [if_neg (fun q => hj q.1)] at hv
    refine List.mem_cons_of_mem _ (List.mem_filter.mpr ⟨prs_mem.mpr ⟨v, hv, rfl⟩, ?_⟩)
    simp only [Bool.and_eq_true, Bool.not_eq_true', beq_eq_false_iff_ne, ne_eq, Bool.and_eq_false_iff]
    refine ⟨hj, ?_⟩
    by_cases hj1 : j + 1 = i
    · right
      subst hj1
      simp only [nl, hv, Bool.not_eq_true'] at hn
      rw [cv_cat, hn]
      decide
    · left; exact hj1
theorem prs_st2 {ad : Nat → Nat} {lv : List (Option AV)} {ls' : Array Slot} {i : Nat} {z : Int} (hn : nl lv i = true) (hi : i + 1 < lv.length) (h : lv_has ls' lv.length ((i, cv ad (.inr (.inl z))) :: (prs ad lv).filter (fun q => !(q.1 == i) && (!(q.1 == i + 1) && !(q.1 + 1 == i && q.2.category == 2))))) :
    lv_has ls' (lst (lst lv i (some (.inr (.inl z)))) (i + 1) none).length (prs ad (lst (lst lv i (some (.inr (.inl z)))) (i + 1) none)) := by
  refine prs_sub (lv := lv) h (by rw [lst_len, lst_len]) (fun j v hv => ?_)
  rw [lg_lst, lst_len] at hv
  by_cases hj1 : j = i + 1
  · subst hj1
    rw [if_pos ⟨rfl, hi⟩] at hv
    cases hv
  · rw [if_neg (fun q => hj1 q.1), lg_lst] at hv
    by_cases hj : j = i
    · subst hj
      rw [if_pos ⟨rfl, by omega⟩] at hv
      cases hv
      exact List.mem_cons_self
    · rw [if_neg (fun q => hj q.1)] at hv
      refine List.mem_cons_of_mem _ (List.mem_filter.mpr ⟨prs_mem.mpr ⟨v, hv, rfl⟩, ?_⟩)
      simp only [Bool.and_eq_true, Bool.not_eq_true', beq_eq_false_iff_ne, ne_eq, Bool.and_eq_false_iff]
      refine ⟨hj, hj1, ?_⟩
      by_cases hj2 : j + 1 = i
      · right
        subst hj2
        simp only [nl, hv, Bool.not_eq_true'] at hn
        rw [cv_cat, hn]
        decide
      · left; exact hj2
theorem prs_nil {ad : Nat → Nat} {lv : List (Option AV)} : lv.length = lv.length := rfl
