/-! THE LAW'S OWN WALK: its surroundings and its rules -/
/-! THE CLAIM OUT OF ONE WALK OF THE LAW'S BODY. Your part is whole_start (and what it stands on); all else here is the same for every law, but numbers. -/
def R_law : String := "InkKitchenLaw"
def lw_P (b : Addr) (xs : List Int32) (args : Array Value) (s : State) : Prop := args = #[.ref b] ∧ s.IntsAt b xs ∧ xs.length ≤ 3072 ∧ (Jvm.Cond.and given_1 narrow_1).before args s = true
def lw_Q (_ : Array Value) (s : State) (o : Outcome) (t : State) : Prop := o = .returned (some (.int 1)) ∧ Framed s o t [] 601024 7293034
def lw_Z (below : List Frame) (a : Array Value) (s : State) : State → Prop := fun t => ∃ o, t.status = .running ∧ Ended t below o ∧ lw_Q a s o t
/-- the law's own end, with 1 on the stack, nothing written that was there before, its room as the claim has it -/
theorem lw_ret {p : Program} {l : Launch} {e : Env} {s : State} {m : MethodId} {below : List Frame} {meth : Method} {c : Code} {b : Nat} (hx : p.tables.exec = Jvm.exec) (hb : c.code = code) (hr : meth.sig.returnType = ret) (hlocks : meth.locks = false) {pc : Nat} {H : Heap} {ls : Array Slot} (hdg : decode code pc = .ok (.ireturn, 1)) : W p l e room_1 s m #[Value.ref b] below meth c H [] 601024 7293034 (lw_Z below #[Value.ref b] s) (F0 m pc ls [.int 1]) := by
  intro T hT X
  obtain ⟨fs, hret, hrun, hended, hW, hframe⟩ := X.leave (v := some (.int 1)) (hlocks := hlocks) (fun h => by rw [hr] at h; cases h)
  have hmeth' : T.vm.method? m = some meth := X.method'
  refine ⟨T.setFrames fs, ?_, .returned (some (.int 1)), hrun, hended, rfl, ⟨_, rfl⟩, hW, hframe⟩
  jvm_step X.here [X.here.top, hx, hb, hdg, hmeth', hr, ret, narrow_b1]
  (try refine ⟨rfl, ?_⟩); (try refine ⟨rfl, ?_⟩)
  first | (intro acts; rw [hret _ acts rfl rfl rfl]) | rw [hret _ _ rfl rfl rfl]
  exact Steps.refl _
/-- what holds at the law's entry: the machine, the code, the tables' words (any of lw_tbl by 'hts w (by decide +kernel)'), the script of L ints xs at the cell b, what the Statement gives of the start (any of its parts by flat_of_before) -/
def lw_At (p : Program) (s : State) (m : MethodId) (meth : Method) (c : Code) (b L : Nat) (xs : Nat → Int32) : Prop :=
  p.tables.exec = Jvm.exec ∧ c.code = code ∧ meth.sig.returnType = ret ∧ c.maxLocals = 7 ∧ s.vm.findClass R_law = some m.cls ∧ (∀ w ∈ lw_tbl, w.before #[Value.ref b] s = true) ∧ va_X b L xs s s.heap ∧ b < s.heap.size ∧ meth.locks = false ∧ (Jvm.Cond.and given_1 narrow_1).before #[Value.ref b] s = true

theorem GLdummy : True := trivial
/-- the surroundings of the law's walk -/
def GL (l : Launch) (D : va_G) (cy : Nat → ClassId) (b L : Nat) (xs : Nat → Int32) : Ctx := fun p e s m args below meth c A R Q ad0 n0 =>
  Fx D cy 10 code 7 2000 601024 7293034 false p e s m args below meth c A R Q ad0 n0 ∧ NC s ∧ va_X b L xs s s.heap ∧ b < s.heap.size ∧ (∀ q, A q ↔ s.heap.size ≤ q) ∧ ad0 1000000 = b ∧ n0 = 0 ∧ R = room_1 ∧ args = #[Value.ref b] ∧ meth.sig.returnType = ret ∧ Q = lw_Z below #[Value.ref b] s
theorem GL_fa {l : Launch} {D : va_G} {cy : Nat → ClassId} {b L : Nat} {xs : Nat → Int32} : Fa D cy (GL l D cy b L xs) 10 code 7 2000 601024 7293034 false := fun _ _ _ _ _ _ _ _ _ _ _ _ _ h => h.1
def cOW (idx : Nat) (y : MethodName) (bytes : ByteArray) (maxL : Nat) (hh : List (Nat × Nat × Nat × Nat)) (n : Nat) : Prop := Cond.methodLink RL idx y ∈ gT ∧ Cond.static y ∈ gT ∧ Cond.initialized y.cls ∈ gT ∧ Cond.codeWith y bytes maxL (some .int) hh ∈ gT ∧ (y.cls ≠ "java/lang/invoke/MethodHandle" ∧ y.cls ≠ "java/lang/invoke/VarHandle") ∧ (parseMethodDescriptor y.desc).map (fun d => d.parameters.length) = some n
theorem wsW_good {idx : Nat} {y : MethodName} {bytes : ByteArray} {maxL : Nat} {hh : List (Nat × Nat × Nat × Nat)} {n : Nat} (h : cOW idx y bytes maxL hh n) : GoodIn gT (va_wsS RL idx y (Cond.codeWith y bytes maxL (some .int) hh :: gT)) := by
  obtain ⟨h1, h2, h3, h4, -⟩ := h
  have key : ∀ w, w ∈ gT → w ∈ gT ∧ ((w.onTables && w.keeps) = true ∨ ∃ ty, w = .arrayClass ty) := fun w hw => ⟨hw, good_of_word (List.mem_filter.mp hw).2⟩
  intro w hw
  apply key
  simp only [va_wsS, List.cons_append, List.nil_append, List.mem_cons] at hw
  rcases hw with rfl | rfl | rfl | rfl | hw
  · exact h1
  · exact h2
  · exact h3
  · exact h4
  · exact hw
section JL
variable {l : Launch} {D : va_G} {cy : Nat → ClassId} {b L : Nat} {xs : Nat → Int32} {pc : Nat} {lv : List (Option AV)} {st : List AV} {μ : Mem} {ca sl : Nat}
theorem J_lret (hd : decode code pc = .ok (.ireturn, 1)) (hc : ca ≤ 601024) (hs : sl ≤ 7293034) : J l D cy (GL l D cy b L xs) pc lv [.inl 1] μ ca sl := by
  intro p e s m args below meth c A R Q ad0 n0 hG ad H locs ls hP hD hS hl hn ha
  obtain ⟨⟨⟨hx, hb, hml, hown⟩, hts, hK, hA, hR, hlk, hin, hev⟩, hnc, hX, hbl, hAq, had, hn0, hRm, hargs, hret, hQ⟩ := hG
  subst hargs hQ hRm
  refine va_forget (fun q hq => (hAq _).mp (hS.2.2 q hq)) (W.widen hc hs ?_)
  exact lw_ret hx hb hret hlk hd
theorem adL {A : Nat → Prop} {s : State} {ad ad0 : Nat → Nat} {n0 : Nat} (hμ : μ.1 ≤ 1000000) (ha : (∀ i : Nat, (i < n0 ∨ μ.1 ≤ i) → ad i = ad0 i) ∧ n0 ≤ μ.1) (had : ad0 1000000 = b) : cv ad (.inr (.inr (some 1000000))) = .ref b := by
  simp only [cv, Option.map_some, va_rf]
  rw [ha.1 1000000 (Or.inr hμ), had]
theorem J_sld {k : Nat} (hd : decode code pc = .ok (.iaload, 1)) (hk : k < L) (hL : L ≤ 3072) (hμ : μ.1 ≤ 1000000) (kk : J l D cy (GL l D cy b L xs) (pc + 1) lv (.inl ((xs k).toInt) :: st) μ ca sl) : J l D cy (GL l D cy b L xs) pc lv (.inl (k : Int) :: .inr (.inr (some 1000000)) :: st) μ ca sl := by
  intro p e s m args below meth c A R Q ad0 n0 hG ad H locs ls hP hD hS hl hn ha
  obtain ⟨⟨⟨hx, hb, hml, hown⟩, hts, hK, hA, hR, hlk, hin, hev⟩, hnc, hX, hbl, hAq, had, hn0, hRm, hargs, hret, hQ⟩ := id hG
  have k' := kk p e s m args below meth c A R Q ad0 n0 hG ad H locs ls hP hD hS hl hn ha
  rw [List.map_cons, List.map_cons, adL (A := A) (s := s) hμ ha had]
  obtain ⟨l1, l2⟩ := len_ok (N := k) (by omega)
  have e9 : cv ad (.inl (k : Int)) = .int (Int32.ofInt (k : Int)) := rfl
  rw [e9]
  refine va_sld hx hb hX hbl (fun h => by have := (hAq b).mp h; omega) hS (i := Int32.ofInt (k : Int)) (fun h => by
    rcases h with h | h
    · exact l1 h
    · rw [l2] at h
      omega) hd ?_
  rw [l2]
  have e8 : cv ad (.inl ((xs k).toInt)) = .int (xs k) := by
    show Value.int (Int32.ofInt (xs k).toInt) = _
    rw [Int32.ofInt_toInt]
  rw [List.map_cons, e8] at k'
  exact k'
theorem J_slen (hd : decode code pc = .ok (.arraylength, 1)) (hμ : μ.1 ≤ 1000000) (kk : J l D cy (GL l D cy b L xs) (pc + 1) lv (.inl (L : Int) :: st) μ ca sl) : J l D cy (GL l D cy b L xs) pc lv (.inr (.inr (some 1000000)) :: st) μ ca sl := by
  intro p e s m args below meth c A R Q ad0 n0 hG ad H locs ls hP hD hS hl hn ha
  obtain ⟨⟨⟨hx, hb, hml, hown⟩, hts, hK, hA, hR, hlk, hin, hev⟩, hnc, hX, hbl, hAq, had, hn0, hRm, hargs, hret, hQ⟩ := id hG
  have k' := kk p e s m args below meth c A R Q ad0 n0 hG ad H locs ls hP hD hS hl hn ha
  rw [List.map_cons, adL (A := A) (s := s) hμ ha had]
  refine va_slen hx hb hX hbl (fun h => by have := (hAq b).mp h; omega) hS hd ?_
  have e8 : cv ad (.inl (L : Int)) = .int (Int32.ofNat L) := by
    show Value.int (Int32.ofInt (L : Int)) = _
    rw [ofI_nI (by omega), Int.toNat_natCast]
    rfl
  rw [List.map_cons, e8] at k'
  exact k'
theorem J_callSW {d' mc' ms' idx n maxL : Nat} {y : MethodName} {bytes : ByteArray} {hh : List (Nat × Nat × Nat × Nat)} {as : List AV} {Φ' : Out → Mem → Prop} {stk : List AV} (hok : OkW l D cy d' mc' ms' y bytes maxL (some .int) hh as μ Φ')
    (hd : decode code pc = .ok (.invokestatic idx, 3)) (hc : cOW idx y bytes maxL hh n) (hdd : d' + 1 ≤ 2000) (hM : maxL ≤ 21) (hm : ca + mc' ≤ 601024 ∧ sl + ms' ≤ 7293034) (hn9 : as.length = n) (hst : st.length ≤ 4) (hs : stk = as.reverse ++ st)
    (hw : ∀ (q : Out) (ν : Mem), Φ' q ν → (∃ v, q = .inl v) ∧ ν.1 = μ.1)
    (k : ∀ (v : Option AV) (ν : Mem), Φ' (.inl v) ν → J l D cy (GL l D cy b L xs) (pc + 3) lv (v.toList ++ st) ν (ca + mc') (sl + ms')) : J l D cy (GL l D cy b L xs) pc lv stk μ ca sl := by
  refine J_call_core (d' := d') (idx := idx) (as := as) GL_fa (fun q ν h => Or.inl (hw q ν h).2) ?_ (fun E ν h => by obtain ⟨⟨v, hv⟩, -⟩ := hw _ _ h; cases hv) (fun v ν h _ => k v ν h)
  intro p e s m args below meth c A R Q ad0 n0 hG ad H locs ls hP hD hS hl hn
  obtain ⟨⟨⟨hxx, hb, hml, hown⟩, hts, hK, hA, ⟨hmc, hms, hfr, hlo⟩, hlk, hin, hev⟩, hnc, -⟩ := id hG
  have hcp := call_pre (as := as) hK hev hP hD hS hA
  refine vx_runSX (As := as.map (cv ad)) ⟨hxx, hb, hml, hown, hts⟩ (hok ad H.size) (vx_cwSW n hts (wsW_good hc) rfl rfl rfl ⟨hc.2.2.2.2.1.1, hc.2.2.2.2.1.2, hc.2.2.2.2.2⟩ (run_room hdd hfr hlo hM)) ⟨preW_blind, fun U hU hW => ⟨hcp U hU hW, hnc.moved hW⟩⟩ rfl (by rw [List.length_map]; exact hn9) (by rw [← hml, ← hn]; exact hl.1) ?_ (by
    have h9 := lv_room (pc := pc) (m := m) (ls := ls) (rest := stk.map (cv ad)) (st := st.map (cv ad)) (Nat.le_trans (cat_sum st) (by omega))
    exact h9) hd ⟨by rw [hmc]; exact hm.1, by rw [hms]; exact hm.2⟩
  show stk.map (cv ad) = _
  rw [hs]
  simp
end JL
