/-! calls, throws, the few JDK methods -/
theorem cat_sum {ad : Nat → Nat} : ∀ (st : List AV), ((st.map (cv ad)).map (fun v => v.category)).sum ≤ 2 * st.length
  | [] => by simp
  | a :: st => by
    have := cat_sum (ad := ad) st
    simp only [List.map_cons, List.sum_cons, List.length_cons]
    have h : (cv ad a).category ≤ 2 := by rw [cv_cat]; split <;> omega
    omega
theorem Ok.cod {d mc ms : Nat} {y : MethodName} {cc : ByteArray} {nL : Nat} {ret : Option FieldType} {kind o idx n : Nat} (h : cOK kind o idx y cc nL ret n) : Cond.code y cc nL ret ∈ gT := h.2.2.1
section JK
variable {l : Launch} {D : va_G} {cy : Nat → ClassId} {Γ : Ctx} {o : Nat} {cc : ByteArray} {nL d mc ms : Nat} {ini : Bool} {ret : Option FieldType} {Φ : Out → Mem → Prop} {pc : Nat} {lv : List (Option AV)} {st : List AV} {μ : Mem} {ca sl : Nat}
theorem wsV_good {o idx : Nat} {y : MethodName} {bytes : ByteArray} {maxL : Nat} {ret' : Option FieldType} {n : Nat} (h : cOK 0 o idx y bytes maxL ret' n) : GoodIn gT (wsV (oN o) idx y.cls y (Cond.code y bytes maxL ret' :: gT)) := by
  obtain ⟨h1, h2, h3, h4, -⟩ := h
  obtain ⟨h5, h6⟩ := h4 rfl
  have key : ∀ w, w ∈ gT → w ∈ gT ∧ ((w.onTables && w.keeps) = true ∨ ∃ ty, w = .arrayClass ty) := fun w hw => ⟨hw, good_of_word (List.mem_filter.mp hw).2⟩
  intro w hw
  apply key
  simp only [wsV, List.cons_append, List.nil_append, List.mem_cons] at hw
  rcases hw with rfl | rfl | rfl | rfl | rfl | hw
  · exact h1
  · exact h5
  · exact h6
  · exact h2
  · exact h3
  · exact hw
theorem wsS_good {o idx : Nat} {y : MethodName} {bytes : ByteArray} {maxL : Nat} {ret' : Option FieldType} {n : Nat} (h : cOK 1 o idx y bytes maxL ret' n) : GoodIn gT (va_wsS (oN o) idx y (Cond.code y bytes maxL ret' :: gT)) := by
  obtain ⟨h1, h2, h3, -, h5, -⟩ := h
  have h5 := h5 rfl
  have key : ∀ w, w ∈ gT → w ∈ gT ∧ ((w.onTables && w.keeps) = true ∨ ∃ ty, w = .arrayClass ty) := fun w hw => ⟨hw, good_of_word (List.mem_filter.mp hw).2⟩
  intro w hw
  apply key
  simp only [va_wsS, List.cons_append, List.nil_append, List.mem_cons] at hw
  rcases hw with rfl | rfl | rfl | rfl | hw
  · exact h1
  · exact h5
  · exact h2
  · exact h3
  · exact hw
/-- what may happen when a callee throws: semantic form -/
def ExitsX (l : Launch) (D : va_G) (cy : Nat → ClassId) (Γ : Ctx) (pc : Nat) (lv : List (Option AV)) (st : List AV) (E : String) (ν : Mem) (ca sl : Nat) : Prop :=
  ∀ p e s m args below meth c A R Q ad0 n0, Γ p e s m args below meth c A R Q ad0 n0 → ∀ (ad : Nat → Nat) (H : Heap) (locs : List Loc) (ls : Array Slot) (q9 : Addr) (ce : Cell), va_P D vwCl (wld cy ad ν) H → va_D A (wld cy ad ν) → va_S A s.heap H locs → lv_has ls lv.length (prs ad lv) → lv.length = c.maxLocals → ((∀ i : Nat, (i < n0 ∨ ν.1 ≤ i) → ad i = ad0 i) ∧ n0 ≤ ν.1) →
    H[q9]? = some ce → ce.vm = .none → s.vm.findClass E = some ce.cls → vx_W p l e R s m args below meth c H locs ca sl Q (F0 m pc ls (st.map (cv ad))) q9
/-- the values in the locals and on the stack are of the world, or none of its: a call doesn't move them -/
def refs (n : Nat) : Option AV → Bool
  | some (.inr (.inr (some q))) => decide (q < n) || decide (1000000 ≤ q)
  | _ => true
def inW (n : Nat) (lv : List (Option AV)) (st : List AV) : Prop := (∀ v ∈ lv, refs n v = true) ∧ (∀ v ∈ st, refs n (some v) = true)
theorem lg_mem : ∀ (lv : List (Option AV)) (i : Nat) (v : AV), lg lv i = some v → some v ∈ lv
  | [], i, v, h => by simp [lg] at h
  | a :: l, 0, v, h => by simp only [lg] at h; rw [h]; exact List.mem_cons_self
  | a :: l, i + 1, v, h => List.mem_cons_of_mem _ (lg_mem l i v (by simpa [lg] using h))
theorem cv_same {ad ad' : Nat → Nat} {n N : Nat} (h1 : ∀ i : Nat, (i < n ∨ N ≤ i) → ad' i = ad i) (hN : N ≤ 1000000) (v : AV) (hv : refs n (some v) = true) : cv ad' v = cv ad v := by
  rcases v with z | z | r
  · rfl
  · rfl
  · cases r with
    | none => rfl
    | some q =>
      simp only [refs, Bool.or_eq_true, decide_eq_true_eq] at hv
      have : ad' q = ad q := h1 q (by omega)
      simp [cv, this]
theorem cv_all {ad ad' : Nat → Nat} {n N : Nat} (h1 : ∀ i : Nat, (i < n ∨ N ≤ i) → ad' i = ad i) (v : AV) (hN : N = n) : cv ad' v = cv ad v := by
  rcases v with z | z | r
  · rfl
  · rfl
  · cases r with
    | none => rfl
    | some q =>
      have : ad' q = ad q := h1 q (by omega)
      simp [cv, this]
/-- behind a call the locals and the stack are what they were -/
theorem behind {ad ad' : Nat → Nat} {n N : Nat} {lv : List (Option AV)} {st : List AV} {ls : Array Slot} (h1 : ∀ i : Nat, (i < n ∨ N ≤ i) → ad' i = ad i) (hw : N = n ∨ (inW n lv st ∧ N ≤ 1000000)) (hl : lv_has ls lv.length (prs ad lv)) : lv_has ls lv.length (prs ad' lv) ∧ st.map (cv ad') = st.map (cv ad) := by
  have hc : (∀ v ∈ st, cv ad' v = cv ad v) ∧ (∀ (i : Nat) (v : AV), lg lv i = some v → cv ad' v = cv ad v) := by
    rcases hw with h | ⟨⟨h, h'⟩, h9⟩
    · exact ⟨fun v _ => cv_all h1 v h, fun i v _ => cv_all h1 v h⟩
    · exact ⟨fun v hv => cv_same h1 h9 v (h' v hv), fun i v hv => cv_same h1 h9 v (h _ (lg_mem lv i v hv))⟩
  refine ⟨prs_sub (lv := lv) hl rfl (fun i v hv => ?_), List.map_congr_left hc.1⟩
  rw [hc.2 i v hv]
  exact prs_mem.mpr ⟨v, hv, rfl⟩
theorem J_call_core {d' mc' ms' idx : Nat} {as : List AV} {Φ' : Out → Mem → Prop} {stk : List AV} (hF : Fa D cy Γ o cc nL d mc ms ini)
    (hw : ∀ (q : Out) (ν : Mem), Φ' q ν → ν.1 = μ.1 ∨ (inW μ.1 lv st ∧ ν.1 ≤ 1000000))
    (hr : ∀ p e s m args below meth c A R Q ad0 n0, Γ p e s m args below meth c A R Q ad0 n0 → ∀ (ad : Nat → Nat) (H : Heap) (locs : List Loc) (ls : Array Slot), va_P D vwCl (wld cy ad μ) H → va_D A (wld cy ad μ) → va_S A s.heap H locs → lv_has ls lv.length (prs ad lv) → lv.length = c.maxLocals →
      vx_Run p l e R s m args below meth c H locs ca sl mc' ms' (F0 m pc ls (stk.map (cv ad))) (st.map (cv ad)) (QcM D cy (Ar ad μ.1 H.size) ad μ.1 Φ' (as.map (cv ad)).toArray) (XcM D cy (Ar ad μ.1 H.size) ad μ.1 Φ') (Ar ad μ.1 H.size))
    (hx : ∀ (E : String) (ν : Mem), Φ' (.inr E) ν → ExitsX l D cy Γ pc lv st E ν (ca + mc') (sl + ms'))
    (k : ∀ (v : Option AV) (ν : Mem), Φ' (.inl v) ν → rW ν.1 v → J l D cy Γ (pc + 3) lv (v.toList ++ st) ν (ca + mc') (sl + ms')) : J l D cy Γ pc lv stk μ ca sl := by
  intro p e s m args below meth c A R Q ad0 n0 hG ad H locs ls hP hD hS hl hn ha
  obtain ⟨⟨hxx, hb, hml, hown⟩, hts, hK, hA, ⟨hmc, hms, hfr, hlo⟩, hlk, hin, hev⟩ := hF _ _ _ _ _ _ _ _ _ _ _ _ _ hG
  refine call_core (hr p e s m args below meth c A R Q ad0 n0 hG ad H locs ls hP hD hS hl hn) hD hS hA ha ?_ ?_
  · intro v ν ad' H1 locs1 hΦ hrw hP1 hD1 hS1 hag ha1
    obtain ⟨b1, b2⟩ := behind (lv := lv) (st := st) (ls := ls) hag (hw _ _ hΦ) hl
    have k' := k v ν hΦ hrw p e s m args below meth c A R Q ad0 n0 hG ad' H1 locs1 ls hP1 hD1 hS1 b1 hn ha1
    rw [List.map_append, b2] at k'
    have e9 : (v.toList).map (cv ad') = (v.map (cv ad')).toList := by cases v <;> rfl
    rw [e9] at k'
    exact k'
  · intro E ν ad' H1 locs1 q9 ce hΦ hP1 hD1 hS1 hag ha1 h1 h2 h3
    obtain ⟨b1, b2⟩ := behind (lv := lv) (st := st) (ls := ls) hag (hw _ _ hΦ) hl
    have k' := hx E ν hΦ p e s m args below meth c A R Q ad0 n0 hG ad' H1 locs1 ls q9 ce hP1 hD1 hS1 b1 hn ha1 h1 h2 h3
    rw [b2] at k'
    exact k'
theorem run_room {R : Room} {d' : Nat} (hdd : d' + 1 ≤ d) (hfr : d ≤ R.frames) (hlo : 40 * d ≤ R.locals) {maxL : Nat} (hM : maxL ≤ 21) {mc' ms' : Nat} : (rmO d' mc' ms').frames + 1 ≤ R.frames ∧ 8 + (maxL + 11) + (rmO d' mc' ms').locals ≤ R.locals := by
  refine ⟨?_, ?_⟩
  · show d' + 1 ≤ R.frames
    omega
  · show 8 + (maxL + 11) + 40 * d' ≤ R.locals
    omega
/-- a virtual call -/
theorem J_callV0 {d' mc' ms' idx n maxL c' : Nat} {y : MethodName} {bytes : ByteArray} {ret' : Option FieldType} {as : List AV} {Φ' : Out → Mem → Prop} {stk : List AV} (hF : Fa D cy Γ o cc nL d mc ms ini) (hok : Ok l D cy d' mc' ms' y bytes maxL ret' (.inr (.inr (some c')) :: as) μ Φ')
    (hd : decode cc pc = .ok (.invokevirtual idx, 3)) (hc : cOK 0 o idx y bytes maxL ret' n) (hdd : d' + 1 ≤ d) (hM : maxL ≤ 21) (hm : ca + mc' ≤ mc ∧ sl + ms' ≤ ms) (hn9 : as.length = n) (hcl : y.cls = Cn (kd c')) (hk10 : kd c' < 10) (hc' : c' < μ.1) (hst : st.length ≤ 4) (hs : stk = as.reverse ++ .inr (.inr (some c')) :: st)
    (hw : ∀ (q : Out) (ν : Mem), Φ' q ν → ν.1 = μ.1 ∨ (inW μ.1 lv st ∧ ν.1 ≤ 1000000))
    (hx : ∀ (E : String) (ν : Mem), Φ' (.inr E) ν → ExitsX l D cy Γ pc lv st E ν (ca + mc') (sl + ms'))
    (k : ∀ (v : Option AV) (ν : Mem), Φ' (.inl v) ν → rW ν.1 v → J l D cy Γ (pc + 3) lv (v.toList ++ st) ν (ca + mc') (sl + ms')) : J l D cy Γ pc lv stk μ ca sl := by
  refine J_call_core (d' := d') (idx := idx) (as := .inr (.inr (some c')) :: as) hF hw ?_ hx k
  intro p e s m args below meth c A R Q ad0 n0 hG ad H locs ls hP hD hS hl hn
  obtain ⟨⟨hxx, hb, hml, hown⟩, hts, hK, hA, ⟨hmc, hms, hfr, hlo⟩, hlk, hin, hev⟩ := hF _ _ _ _ _ _ _ _ _ _ _ _ _ hG
  have he : (wld cy ad μ)[c']? = some (ad c', .inr (kd c', (List.range (Nn (kd c'))).map (fun k => fva ad μ c' k (fty (kd c') k)))) := by rw [wld_get hc', cel_o rfl hk10]
  refine vx_runV (As := as.map (cv ad)) (b := ad c') (C := y.cls) ⟨hxx, hb, hml, hown, hts⟩ (hok ad H.size) (cwV n hts (wsV_good hc) rfl rfl rfl ⟨rfl, hc.2.2.2.2.2.2.1.1, hc.2.2.2.2.2.2.1.2, hc.2.2.2.2.2.2.2⟩ (run_room hdd hfr hlo hM)) ⟨pre_blind, ?_, ?_⟩ rfl (by rw [List.length_map]; exact hn9) (by rw [← hml, ← hn]; exact hl.1) ?_ (by
    have h9 := lv_room (pc := pc) (m := m) (ls := ls) (rest := stk.map (cv ad)) (st := st.map (cv ad)) (Nat.le_trans (cat_sum st) (by omega))
    exact h9) hd ⟨by rw [hmc]; exact hm.1, by rw [hms]; exact hm.2⟩
  · rw [hcl]
    exact va_recv hK hP (vwCl_at hk10) he
  · exact call_pre (as := .inr (.inr (some c')) :: as) hK hev hP hD hS hA
  · show stk.map (cv ad) = _
    rw [hs]
    simp [cv, va_rf]
/-- a static call -/
theorem J_callS0 {d' mc' ms' idx n maxL : Nat} {y : MethodName} {bytes : ByteArray} {ret' : Option FieldType} {as : List AV} {Φ' : Out → Mem → Prop} {stk : List AV} (hF : Fa D cy Γ o cc nL d mc ms ini) (hok : Ok l D cy d' mc' ms' y bytes maxL ret' as μ Φ')
    (hd : decode cc pc = .ok (.invokestatic idx, 3)) (hc : cOK 1 o idx y bytes maxL ret' n) (hdd : d' + 1 ≤ d) (hM : maxL ≤ 21) (hm : ca + mc' ≤ mc ∧ sl + ms' ≤ ms) (hn9 : as.length = n) (hst : st.length ≤ 4) (hs : stk = as.reverse ++ st)
    (hw : ∀ (q : Out) (ν : Mem), Φ' q ν → ν.1 = μ.1 ∨ (inW μ.1 lv st ∧ ν.1 ≤ 1000000))
    (hx : ∀ (E : String) (ν : Mem), Φ' (.inr E) ν → ExitsX l D cy Γ pc lv st E ν (ca + mc') (sl + ms'))
    (k : ∀ (v : Option AV) (ν : Mem), Φ' (.inl v) ν → rW ν.1 v → J l D cy Γ (pc + 3) lv (v.toList ++ st) ν (ca + mc') (sl + ms')) : J l D cy Γ pc lv stk μ ca sl := by
  refine J_call_core (d' := d') (idx := idx) (as := as) hF hw ?_ hx k
  intro p e s m args below meth c A R Q ad0 n0 hG ad H locs ls hP hD hS hl hn
  obtain ⟨⟨hxx, hb, hml, hown⟩, hts, hK, hA, ⟨hmc, hms, hfr, hlo⟩, hlk, hin, hev⟩ := hF _ _ _ _ _ _ _ _ _ _ _ _ _ hG
  refine vx_runS (As := as.map (cv ad)) ⟨hxx, hb, hml, hown, hts⟩ (hok ad H.size) (va_cwS n hts (wsS_good hc) rfl rfl rfl ⟨hc.2.2.2.2.2.2.1.1, hc.2.2.2.2.2.2.1.2, hc.2.2.2.2.2.2.2⟩ (run_room hdd hfr hlo hM)) ⟨pre_blind, ?_⟩ rfl (by rw [List.length_map]; exact hn9) (by rw [← hml, ← hn]; exact hl.1) ?_ (by
    have h9 := lv_room (pc := pc) (m := m) (ls := ls) (rest := stk.map (cv ad)) (st := st.map (cv ad)) (Nat.le_trans (cat_sum st) (by omega))
    exact h9) hd ⟨by rw [hmc]; exact hm.1, by rw [hms]; exact hm.2⟩
  · exact call_pre (as := as) hK hev hP hD hS hA
  · show stk.map (cv ad) = _
    rw [hs]
    simp
/-- a callee that throws makes this method throw: there is no table -/
theorem exitsM {E : String} {ν : Mem} (hc : ca ≤ mc) (hs : sl ≤ ms) (h : Φ (.inr E) ν) : ExitsX l D cy (GM l D cy o cc nL d mc ms ini ret Φ) pc lv st E ν ca sl := by
  intro p e s m args below meth c A R Q ad0 n0 hG ad H locs ls q9 ce hP hD hS hl hn ha h1 h2 h3
  obtain ⟨⟨⟨hx, hb, hml, hown⟩, -⟩, hret, hout, hA, hQ⟩ := id hG
  have hlk := hG.1.2.2.2.2.2.1
  subst hQ
  refine vx_out (fun x hx => (hout x hx).elim) hlk h1 h2 h3 (fun t ht _ => ⟨⟨ν, ad, h, ha.1, ha.2, by rw [ht]; exact hP, hD⟩, hS.F ht⟩) hS.2.2 hc hs
theorem exitsN {Γ : Ctx} {E : String} {ν : Mem} {P : Prop} (h : ¬ P) (hp : P) : ExitsX l D cy Γ pc lv st E ν ca sl := absurd hp h
end JK
