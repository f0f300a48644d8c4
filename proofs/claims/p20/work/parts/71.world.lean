/-! THE LAW'S ENTRY: the world that the walk begins in -/
theorem Inst (ci : Nat) (h : ci < 10) : Cond.instantiable (Cn ci) (Nn ci) ∈ lw_tbl := by
  revert ci
  decide +kernel
theorem Lays (ci : Nat) (h : ci < 10) : ∀ w ∈ u_ws (Cn ci) (Tn ci) (Nn ci), w ∈ lw_tbl := by
  revert ci
  decide +kernel
theorem cls_all {s : State} {args : Array Value} (hts : ∀ w ∈ lw_tbl, w.before args s = true) : ∃ D : va_G, ∀ (c : Nat) (q : vw_C), vwCl[c]? = some q → u_Kn s q.1 q.2.1 q.2.2 (D.1 c) (D.2 c) := by
  have h : ∀ ci : Nat, ∃ d : ClassId × (Nat → Nat), ci < 10 → u_Kn s (Cn ci) (Tn ci) (Nn ci) d.1 d.2 := fun ci => by
    by_cases hci : ci < 10
    · obtain ⟨c, f, hk⟩ := u_known hts (Lays ci hci) (hts _ (Inst ci hci))
      exact ⟨(c, f), fun _ => hk⟩
    · exact ⟨(0, fun _ => 0), fun q => absurd q hci⟩
  refine ⟨(fun ci => (Classical.choose (h ci)).1, fun ci => (Classical.choose (h ci)).2), fun c q hq => ?_⟩
  have hc : c < 10 := by
    have := (List.getElem?_eq_some_iff.mp hq).1
    exact this
  rw [vwCl_at hc] at hq
  cases hq
  exact Classical.choose_spec (h c) hc
theorem arr_of {s : State} {args : Array Value} {ty : FieldType} (h : (Cond.arrayClass ty).before args s = true) : ∃ c, ArrOfT s c ty ∧ s.vm.findClass ("[" ++ ty.toString) = some c := by
  obtain ⟨c, k, comp, h1, h2, h3⟩ := Cond.arrayClass_spec h
  exact ⟨c, fun n z => ⟨fun k h => (by cases h), k, h2, comp, h3⟩, h1⟩
theorem arr_ob {s : State} {args : Array Value} {C : String} (h : (Cond.arrayOver (.object C)).before args s = true) : ∃ c, ArrOfT s c (.object C) ∧ va_RA s c (.object C) := by
  obtain ⟨comp, c, k, h1, h2, h3, h4, h5⟩ := Cond.arrayOver_spec h
  exact ⟨c, fun n z => ⟨fun k h => (by cases h), k, h3, comp, h4⟩, k, comp, h3, h4, h1, h5⟩
theorem arr_ar {s : State} {args : Array Value} {t : FieldType} (h : (Cond.arrayOver (.array t)).before args s = true) : ∃ c, ArrOfT s c (.array t) ∧ va_RA s c (.array t) := by
  obtain ⟨comp, c, k, h1, h2, h3, h4⟩ := Cond.arrayOver_specA h
  exact ⟨c, fun n z => ⟨fun k h => (by cases h), k, h2, comp, h3⟩, h4⟩
theorem tys_all {s : State} {args : Array Value} (hts : ∀ w ∈ lw_tbl, w.before args s = true) : ∃ cy : Nat → ClassId, ∀ (k : Nat) (q : ClassId × FieldType), (tys cy)[k]? = some q → ArrOfT s q.1 q.2 ∧ va_RA s q.1 q.2 := by
  obtain ⟨a, a1, a2⟩ := arr_of (hts (.arrayClass .int) (by decide +kernel))
  obtain ⟨c, c1, c2⟩ := arr_ob (hts (.arrayOver (.object "InkKitchen$Ink")) (by decide +kernel))
  obtain ⟨d, d1, d2⟩ := arr_ob (hts (.arrayOver (.object "InkKitchen$Job")) (by decide +kernel))
  obtain ⟨e, e1, e2⟩ := arr_ar (hts (.arrayOver (.array .int)) (by decide +kernel))
  refine ⟨fun k => if k = 10 then a else if k = 12 then c else if k = 13 then d else e, fun k q hk => ?_⟩
  match k, hk with
  | 0, hk => cases hk; exact ⟨a1, a2⟩
  | 1, hk => cases hk; exact ⟨a1, a2⟩
  | 2, hk => cases hk; exact ⟨c1, c2⟩
  | 3, hk => cases hk; exact ⟨d1, d2⟩
  | 4, hk => cases hk; exact ⟨e1, e2⟩
  | k + 5, hk => simp [tys] at hk
theorem envR_of {s : State} {args : Array Value} (hts : ∀ w ∈ lw_tbl, w.before args s = true) (hgv : (Jvm.Cond.and given_1 narrow_1).before args s = true) : EnvR (fun q => s.heap.size ≤ q) s s.heap := by
  have hs := flat_of_before _ hgv
  refine ⟨vx_Zqof (hts _ (by decide +kernel)) (hts _ (by decide +kernel)) (hs _ (by decide +kernel)) (fun a h => Nat.not_le.mpr h), vx_Zqof (hts _ (by decide +kernel)) (hts _ (by decide +kernel)) (hs _ (by decide +kernel)) (fun a h => Nat.not_le.mpr h), fun w hw => ?_, ?_, ?_, ?_⟩
  · have h1 : ∀ w ∈ bads, w ∈ lw_tbl ∧ w.onTables = true := by decide +kernel
    exact va_Nw.of (h1 w hw).2 (hts w (h1 w hw).1)
  · exact va_AO.of (hts (.arrayOver (.object "InkKitchen$Ink")) (by decide +kernel))
  · exact va_AO.of (hts (.arrayOver (.object "InkKitchen$Job")) (by decide +kernel))
  · exact hts (.arrayOver (.array .int)) (by decide +kernel)
