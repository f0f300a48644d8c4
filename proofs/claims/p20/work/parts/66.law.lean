/-! THE LAW'S OWN WALK: its surroundings and its rules -/
/-! THE CLAIM OUT OF ONE WALK OF THE LAW'S BODY. Your part is whole_start (and what it stands on); all else here is the same for every law, but numbers. -/
def R_law : String := "InkKitchenLaw"
def lw_P (b : Addr) (xs : List Int32) (args : Array Value) (s : State) : Prop := args = #[.ref b] ∧ s.IntsAt b xs ∧ xs.length ≤ 260 ∧ (Jvm.Cond.and given_1 narrow_1).before args s = true
def lw_Q (_ : Array Value) (s : State) (o : Outcome) (t : State) : Prop := o = .returned (some (.int 1)) ∧ Framed s o t [] 600086 7301442
def lw_Z (below : List Frame) (a : Array Value) (s : State) : State → Prop := fun t => ∃ o, t.status = .running ∧ Ended t below o ∧ lw_Q a s o t
/-- the law's own end, with 1 on the stack, nothing written that was there before, its room as the claim has it -/
theorem lw_ret {p : Program} {l : Launch} {e : Env} {s : State} {m : MethodId} {below : List Frame} {meth : Method} {c : Code} {b : Nat} (hx : p.tables.exec = Jvm.exec) (hb : c.code = code) (hr : meth.sig.returnType = ret) (hlocks : meth.locks = false) {pc : Nat} {H : Heap} {ls : Array Slot} (hdg : decode code pc = .ok (.ireturn, 1)) : W p l e room_1 s m #[Value.ref b] below meth c H [] 600086 7301442 (lw_Z below #[Value.ref b] s) (F0 m pc ls [.int 1]) := by
  intro T hT X
  obtain ⟨fs, hret, hrun, hended, hW, hframe⟩ := X.leave (v := some (.int 1)) (hlocks := hlocks) (fun h => by rw [hr] at h; cases h)
  have hmeth' : T.vm.method? m = some meth := X.method'
  refine ⟨T.setFrames fs, ?_, .returned (some (.int 1)), hrun, hended, rfl, ⟨_, rfl⟩, hW, hframe⟩
  jvm_step X.here [X.here.top, hx, hb, hdg, hmeth', hr, ret, narrow_b1]
  (try refine ⟨rfl, ?_⟩); (try refine ⟨rfl, ?_⟩)
  first | (intro acts; rw [hret _ acts rfl rfl rfl]) | rw [hret _ _ rfl rfl rfl]
  exact Steps.refl _
/-- what holds at the law's entry: the machine, the code, the tables' words (any of lw_tbl by 'hts w (by decide +kernel)'), the script of L ints xs at the cell b, what the Statement gives of the start (any of its parts by flat_of_before) -/
def lw_At (p : Program) (s : State) (m : MethodId) (meth : Method) (c : Code) (b L : Nat) (xs : Nat → Int32) : Prop :=
  p.tables.exec = Jvm.exec ∧ c.code = code ∧ meth.sig.returnType = ret ∧ c.maxLocals = 15 ∧ s.vm.findClass R_law = some m.cls ∧ (∀ w ∈ lw_tbl, w.before #[Value.ref b] s = true) ∧ va_X b L xs s s.heap ∧ b < s.heap.size ∧ meth.locks = false ∧ (Jvm.Cond.and given_1 narrow_1).before #[Value.ref b] s = true
/-- the surroundings of the law's walk -/
def GL (l : Launch) (D : va_G) (cy : Nat → ClassId) (b L : Nat) (xs : Nat → Int32) : Ctx := fun p e s m args below meth c A R Q ad0 n0 =>
  Fx D cy 10 code 15 2000 600086 7301442 false p e s m args below meth c A R Q ad0 n0 ∧ va_X b L xs s s.heap ∧ b < s.heap.size ∧ (∀ q, A q ↔ s.heap.size ≤ q) ∧ ad0 1000000 = b ∧ n0 = 0 ∧ R = room_1 ∧ args = #[Value.ref b] ∧ meth.sig.returnType = ret ∧ Q = lw_Z below #[Value.ref b] s
theorem GL_fa {l : Launch} {D : va_G} {cy : Nat → ClassId} {b L : Nat} {xs : Nat → Int32} : Fa D cy (GL l D cy b L xs) 10 code 15 2000 600086 7301442 false := fun _ _ _ _ _ _ _ _ _ _ _ _ _ h => h.1
section JL
variable {l : Launch} {D : va_G} {cy : Nat → ClassId} {b L : Nat} {xs : Nat → Int32} {pc : Nat} {lv : List (Option AV)} {st : List AV} {μ : Mem} {ca sl : Nat}
theorem J_lret (hd : decode code pc = .ok (.ireturn, 1)) (hc : ca ≤ 600086) (hs : sl ≤ 7301442) : J l D cy (GL l D cy b L xs) pc lv [.inl 1] μ ca sl := by
  intro p e s m args below meth c A R Q ad0 n0 hG ad H locs ls hP hD hS hl hn ha
  obtain ⟨⟨⟨hx, hb, hml, hown⟩, hts, hK, hA, hR, hlk, hin, hev⟩, hX, hbl, hAq, had, hn0, hRm, hargs, hret, hQ⟩ := hG
  subst hargs hQ hRm
  refine va_forget (fun q hq => (hAq _).mp (hS.2.2 q hq)) (W.widen hc hs ?_)
  exact lw_ret hx hb hret hlk hd
/-- the law reads the script by its own method -/
theorem J_callX {d' : Nat} {k : Int} {stk : List AV} (hok : OkX l D cy d' yL_cell cL_cell 2 b L xs [.inr (.inr (some 1000000)), .inl k] μ (zR μ)) (hμ : μ.1 ≤ 1000000)
    (hd : decode code pc = .ok (.invokestatic 72, 3)) (hdd : d' + 1 ≤ 2000) (hm : ca ≤ 600086 ∧ sl ≤ 7301442) (hst : st.length ≤ 4) (hs : stk = .inl k :: .inr (.inr (some 1000000)) :: st)
    (kk : ∀ z, r32 z → J l D cy (GL l D cy b L xs) (pc + 3) lv (.inl z :: st) μ ca sl) : J l D cy (GL l D cy b L xs) pc lv stk μ ca sl := by
  intro p e s m args below meth c A R Q ad0 n0 hG ad H locs ls hP hD hS hl hn ha
  obtain ⟨⟨⟨hxx, hb, hml, hown⟩, hts, hK, hA, ⟨hmc, hms, hfr, hlo⟩, hlk, hin, hev⟩, hX, hbl, hAq, had, hn0, hRm, hargs, hret, hQ⟩ := id hG
  have hadb : ad 1000000 = b := by rw [ha.1 1000000 (Or.inr hμ), had]
  have hbA : ¬ A b := fun h => by have := (hAq b).mp h; omega
  have hc := k_10_72
  refine call_core (mc' := 0) (ms' := 0) (Φ' := zR μ) (a9 := (([.inr (.inr (some 1000000)), .inl k] : List AV).map (cv ad)).toArray) (rest := st.map (cv ad)) (?_ : vx_Run p l e R s m args below meth c H locs ca sl 0 0 (F0 m pc ls (stk.map (cv ad))) (st.map (cv ad)) (QcM D cy (Ar ad μ.1 H.size) ad μ.1 (zR μ) (([.inr (.inr (some 1000000)), .inl k] : List AV).map (cv ad)).toArray) (XcM D cy (Ar ad μ.1 H.size) ad μ.1 (zR μ)) (Ar ad μ.1 H.size)) hD hS hA ha ?_ ?_
  · refine vx_runS (As := ([.inr (.inr (some 1000000)), .inl k] : List AV).map (cv ad)) ⟨hxx, hb, hml, hown, hts⟩ (hok ad H.size hadb) (va_cwS 2 hts (wsS_good hc) rfl rfl rfl ⟨hc.2.2.2.2.2.2.1.1, hc.2.2.2.2.2.2.1.2, hc.2.2.2.2.2.2.2⟩ (run_room hdd hfr hlo (by decide))) ⟨preX_blind, fun U hU hW => ⟨call_pre (as := [.inr (.inr (some 1000000)), .inl k]) hK hev hP hD hS hA U hU hW, ?_, ?_, ?_⟩⟩ rfl rfl (by rw [← hml, ← hn]; exact hl.1) ?_ (by
      have h9 := lv_room (pc := pc) (m := m) (ls := ls) (rest := stk.map (cv ad)) (st := st.map (cv ad)) (Nat.le_trans (cat_sum st) (by omega))
      exact h9) hd ⟨by rw [hmc]; exact hm.1, by rw [hms]; exact hm.2⟩
    · rw [hU]
      exact (va_X.moved hW.alike hX).kept (hS.2.1 b hbl hbA)
    · exact Nat.lt_of_lt_of_le hbl hS.1
    · rintro (⟨i, hi, e9⟩ | h9)
      · have h8 := (hAq _).mp (hD.2 i _ (wld_get hi))
        dsimp only at h8
        omega
      · have := hS.1
        omega
    · show stk.map (cv ad) = _
      rw [hs]
      simp
  · intro v ν ad' H1 locs1 hΦ hrw hP1 hD1 hS1 hag ha1
    obtain ⟨rfl, z, hz, e9⟩ := hΦ
    cases e9
    obtain ⟨b1, b2⟩ := behind (lv := lv) (st := st) (ls := ls) hag (Or.inl rfl) hl
    have k' := kk z hz p e s m args below meth c A R Q ad0 n0 hG ad' H1 locs1 ls hP1 hD1 hS1 b1 hn ha1
    rw [List.map_cons, b2] at k'
    exact k'
  · intro E ν ad' H1 locs1 q9 ce hΦ hP1 hD1 hS1 hag ha1 h1 h2 h3
    obtain ⟨-, z, -, e9⟩ := hΦ
    cases e9
end JL
section J5
variable {l : Launch} {D : va_G} {cy : Nat → ClassId} {Γ : Ctx} {o : Nat} {cc : ByteArray} {nL d mc ms : Nat} {ini : Bool} {pc : Nat} {lv : List (Option AV)} {st : List AV} {μ : Mem} {ca sl : Nat}
/-- a call with much on the stack -/
theorem J_callS5d {d' idx n maxL : Nat} {y : MethodName} {bytes : ByteArray} {ret' : Option FieldType} {as : List AV} {v0 : Option AV} {μ' : Mem} {stk : List AV} (hF : Fa D cy Γ o cc nL d mc ms ini) (hok : Ok l D cy d' 0 0 y bytes maxL ret' as μ (det v0 μ'))
    (hd : decode cc pc = .ok (.invokestatic idx, 3)) (hc : cOK 1 o idx y bytes maxL ret' n) (hdd : d' + 1 ≤ d) (hM : maxL ≤ 21) (hm : ca ≤ mc ∧ sl ≤ ms) (hn9 : as.length = n) (hst : ∀ ad : Nat → Nat, ((st.map (cv ad)).map (fun v => v.category)).sum ≤ 8) (hs : stk = as.reverse ++ st) (hμ : μ'.1 = μ.1)
    (k : J l D cy Γ (pc + 3) lv (v0.toList ++ st) μ' ca sl) : J l D cy Γ pc lv stk μ ca sl := by
  refine J_call_core (d' := d') (idx := idx) (as := as) (st := st) (Φ' := det v0 μ') (mc' := 0) (ms' := 0) hF (fun q ν h => Or.inl (by rw [h.2, hμ])) ?_ (fun E ν h => by cases h.1) (fun v ν h _ => by
    obtain ⟨h1, rfl⟩ := h
    cases h1
    exact k)
  intro p e s m args below meth c A R Q ad0 n0 hG ad H locs ls hP hD hS hl hn
  obtain ⟨⟨hxx, hb, hml, hown⟩, hts, hK, hA, ⟨hmc, hms, hfr, hlo⟩, hlk, hin, hev⟩ := hF _ _ _ _ _ _ _ _ _ _ _ _ _ hG
  refine vx_runS (As := as.map (cv ad)) ⟨hxx, hb, hml, hown, hts⟩ (hok ad H.size) (va_cwS n hts (wsS_good hc) rfl rfl rfl ⟨hc.2.2.2.2.2.2.1.1, hc.2.2.2.2.2.2.1.2, hc.2.2.2.2.2.2.2⟩ (run_room hdd hfr hlo hM)) ⟨pre_blind, ?_⟩ rfl (by rw [List.length_map]; exact hn9) (by rw [← hml, ← hn]; exact hl.1) ?_ (by
    have h9 := lv_room (pc := pc) (m := m) (ls := ls) (rest := stk.map (cv ad)) (st := st.map (cv ad)) (hst ad)
    exact h9) hd ⟨by rw [hmc]; exact hm.1, by rw [hms]; exact hm.2⟩
  · exact call_pre (as := as) hK hev hP hD hS hA
  · show stk.map (cv ad) = _
    rw [hs]
    simp
end J5
