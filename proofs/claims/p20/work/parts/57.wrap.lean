/-! THE LAW'S OWN METHODS: those that catch an IllegalStateException, and the one that reads the script -/
theorem ct_15 : Cond.classLink RL 15 ISE ∈ gT := by decide +kernel
def OkW (l : Launch) (D : va_G) (cy : Nat → ClassId) (d mc ms : Nat) (y : MethodName) (cc : ByteArray) (nL : Nat) (ret : Option FieldType) (hh : List (Nat × Nat × Nat × Nat)) (as : List AV) (μ : Mem) (Φ : Out → Mem → Prop) : Prop :=
  ∀ (ad : Nat → Nat) (sz : Nat), vx_Met l y (Cond.codeWith y cc nL ret hh :: gT) (rmO d mc ms) (Pre D cy as μ ad sz) (QcM D cy (Ar ad μ.1 sz) ad μ.1 Φ) (XcM D cy (Ar ad μ.1 sz) ad μ.1 Φ) mc ms (Ar ad μ.1 sz)
def GW (l : Launch) (D : va_G) (cy : Nat → ClassId) (cc : ByteArray) (nL d mc ms : Nat) (hh : List (Nat × Nat × Nat × Nat)) (Φ : Out → Mem → Prop) : Ctx := fun p e s m args below meth c A R Q ad0 n0 =>
  Fx D cy 10 cc nL d mc ms false p e s m args below meth c A R Q ad0 n0 ∧ meth.sig.returnType = some .int ∧ c.exceptionTable.toList = tableOf hh ∧ A = Ar ad0 n0 s.heap.size ∧ Q = vx_MQ below (QcM D cy A ad0 n0 Φ) (XcM D cy A ad0 n0 Φ) args s mc ms A
theorem GW_fa {l : Launch} {D : va_G} {cy : Nat → ClassId} {cc : ByteArray} {nL d mc ms : Nat} {hh : List (Nat × Nat × Nat × Nat)} {Φ : Out → Mem → Prop} : Fa D cy (GW l D cy cc nL d mc ms hh Φ) 10 cc nL d mc ms false := fun _ _ _ _ _ _ _ _ _ _ _ _ _ h => h.1
theorem OkW.intro {l : Launch} {D : va_G} {cy : Nat → ClassId} {d mc ms : Nat} {y : MethodName} {cc : ByteArray} {nL : Nat} {hh : List (Nat × Nat × Nat × Nat)} {as : List AV} {μ : Mem} {Φ : Out → Mem → Prop} (lv : List (Option AV)) (hy : plainName y.cls = true) (ho : y.cls = oN 10) (hlv : lv = lvI as nL) (hln : as.length ≤ nL) (ha : as.all (fun a => !isLg (some a)) = true)
    (k : J l D cy (GW l D cy cc nL d mc ms hh Φ) 0 lv [] μ 0 0) : OkW l D cy d mc ms y cc nL (some .int) hh as μ Φ := by
  intro ad sz
  refine vx_ofWH (cc := cc) (maxL := nL) (ret := some .int) (hh := hh) hy rfl ?_
  intro p e s m args below meth c s₁ B hml hv
  obtain ⟨rfl, hsz, hP, hD, hK, hev⟩ := hv
  subst hsz
  have hts := atoms_spec (ws := Cond.codeWith y cc nL (some .int) hh :: gT) B.pre
  have hown : s.vm.findClass (oN 10) = some m.cls := by rw [← ho]; exact findClass_of_methodNamed B.named
  have hle : (lg_sl (as.map (cv ad))).length ≤ nL := by rw [sl_len as ha]; exact hln
  have hl := lv_entry (as.map (cv ad)) hle
  rw [lg_entry_eq]
  have hlen : lv.length = nL := by rw [hlv]; simp [lvI]; omega
  have htab := vx_table (x := y) (y := y) B (hts _ List.mem_cons_self)
  refine k p e s m _ below meth c (Ar ad μ.1 s.heap.size) (rmO d mc ms) _ ad μ.1 ⟨⟨⟨B.exec, B.bytes, hml, hown⟩, fun w hw => hts w (List.mem_cons_of_mem _ hw), hK, Ar_new, ⟨rfl, rfl, Nat.le_refl _, Nat.le_refl _⟩, B.notSynchronized, fun h => Bool.noConfusion h, hev⟩, B.returns, htab, rfl, rfl⟩ ad s.heap [] _ hP (D_self hD) va_S.rf ?_ (by rw [hlen, hml]) ⟨fun _ _ => rfl, Nat.le_refl _⟩
  refine prs_sub (lv := lv) (by rw [hlen]; exact hl) rfl (fun i v hv => ?_)
  rw [hlv] at hv
  have := lvI_args (ad := ad) as 0 _ ha i v hv
  simpa using this
section JW
variable {l : Launch} {D : va_G} {cy : Nat → ClassId} {cc : ByteArray} {nL d mc ms : Nat} {hh : List (Nat × Nat × Nat × Nat)} {Φ : Out → Mem → Prop} {pc : Nat} {lv : List (Option AV)} {st : List AV} {μ : Mem} {ca sl : Nat}
theorem J_iretW {z : Int} (hd : decode cc pc = .ok (.ireturn, 1)) (hc : ca ≤ mc) (hs : sl ≤ ms) (h : Φ (.inl (some (.inl z))) μ) : J l D cy (GW l D cy cc nL d mc ms hh Φ) pc lv [.inl z] μ ca sl := by
  intro p e s m args below meth c A R Q ad0 n0 hG ad H locs ls hP hD hS hl hn ha
  obtain ⟨⟨⟨hx, hb, hml, hown⟩, -⟩, hret, hout, hA, hQ⟩ := id hG
  have hlk := hG.1.2.2.2.2.2.1
  subst hQ
  refine W.widen hc hs (vx_ret ?_)
  exact W.iret (v := Int32.ofInt z) hx hb hret (fun t ht hW => ⟨⟨some (.inl z), μ, ad, rfl, h, trivial, ha.1, ha.2, by rw [ht]; exact hP, hD⟩, hS.F ht⟩) hS.2.2 hd
/-- a handler of the law: it keeps the exception, and answers -3 -/
def hdl (cc : ByteArray) (nL h : Nat) : Prop := (∃ i : Nat, decode cc h = .ok (.astore i, 2) ∧ decode cc (h + 2) = .ok (.bipush (-3), 2) ∧ decode cc (h + 4) = .ok (.ireturn, 1) ∧ i < nL) ∨ ∃ i : Fin 4, decode cc h = .ok (.astore_n i, 1) ∧ decode cc (h + 1) = .ok (.bipush (-3), 2) ∧ decode cc (h + 3) = .ok (.ireturn, 1) ∧ (i : Nat) < nL
theorem exitsW {ν : Mem} {x1 x2 x3 : Nat} (hsp : hh = [(x1, x2, x3, 15)]) (hcov : x1 ≤ pc ∧ pc < x2) (hh9 : hdl cc nL x3) (hc : ca ≤ mc) (hs : sl ≤ ms) (h : Φ (.inl (some (.inl (-3)))) ν) : ExitsX l D cy (GW l D cy cc nL d mc ms hh Φ) pc lv st ISE ν ca sl := by
  intro p e s m args below meth c A R Q ad0 n0 hG ad H locs ls q9 ce hP hD hS hl hn ha h1 h2 h3
  obtain ⟨⟨⟨hx, hb, hml, hown⟩, hts, hK, hA', hR, hlk, hin, hev⟩, hret, hout, hA, hQ⟩ := id hG
  refine vx_catch (own := RL) (name := ISE) (E := ISE) hown [] ⟨x1, x2, x3, 15⟩ [] (by rw [hout, hsp]; simp [tableOf]) (fun z hz => by cases hz) ?_ ?_ (hts _ ct_15) ?_ h1 h2 h3 ?_
  · simp [covers, hcov.1, hcov.2]
  · simp
  · have hb9 : Cond.castable ISE ISE ∈ bads := by decide +kernel
    exact va_Nw.use rfl (hev.2.2.1 _ hb9)
  · subst hQ
    have hend : ∀ (pc2 : Nat) (ls' : Array Slot), decode cc pc2 = .ok (.bipush (-3), 2) → decode cc (pc2 + 2) = .ok (.ireturn, 1) → W p l e R s m args below meth c H locs ca sl (vx_MQ below (QcM D cy A ad0 n0 Φ) (XcM D cy A ad0 n0 Φ) args s mc ms A) (F0 m pc2 ls' []) := by
      intro pc2 ls' d1 d2
      refine lv_bipush (v := Int32.ofInt (-3)) hx hb d1 (by decide) ?_
      refine W.widen hc hs (vx_ret ?_)
      exact W.iret (v := Int32.ofInt (-3)) hx hb hret (fun t ht hW => ⟨⟨some (.inl (-3)), ν, ad, rfl, h, trivial, ha.1, ha.2, by rw [ht]; exact hP, hD⟩, hS.F ht⟩) hS.2.2 d2
    rcases hh9 with ⟨i, d0, d1, d2, hi⟩ | ⟨i, d0, d1, d2, hi⟩
    · exact lv_astore hx hb d0 hl (by omega) rfl (fun ls' hl' => hend _ ls' d1 d2)
    · exact lv_astore_n hx hb d0 rfl hl (by omega) rfl (fun ls' hl' => hend _ ls' d1 d2)
end JW
def cOW (idx : Nat) (y : MethodName) (bytes : ByteArray) (maxL : Nat) (hh : List (Nat × Nat × Nat × Nat)) (n : Nat) : Prop := Cond.methodLink RL idx y ∈ gT ∧ Cond.static y ∈ gT ∧ Cond.initialized y.cls ∈ gT ∧ Cond.codeWith y bytes maxL (some .int) hh ∈ gT ∧ (y.cls ≠ "java/lang/invoke/MethodHandle" ∧ y.cls ≠ "java/lang/invoke/VarHandle") ∧ (parseMethodDescriptor y.desc).map (fun d => d.parameters.length) = some n
theorem wsW_good {idx : Nat} {y : MethodName} {bytes : ByteArray} {maxL : Nat} {hh : List (Nat × Nat × Nat × Nat)} {n : Nat} (h : cOW idx y bytes maxL hh n) : GoodIn gT (va_wsS RL idx y (Cond.codeWith y bytes maxL (some .int) hh :: gT)) := by
  obtain ⟨h1, h2, h3, h4, -⟩ := h
  have key : ∀ w, w ∈ gT → w ∈ gT ∧ ((w.onTables && w.keeps) = true ∨ ∃ ty, w = .arrayClass ty) := fun w hw => ⟨hw, good_of_word (List.mem_filter.mp hw).2⟩
  intro w hw
  apply key
  simp only [va_wsS, List.cons_append, List.nil_append, List.mem_cons] at hw
  rcases hw with rfl | rfl | rfl | rfl | hw
  · exact h1
  · exact h2
  · exact h3
  · exact h4
  · exact hw
theorem kw_buy : cOW 76 yL_buy cL_buy 4 [(0, 6, 7, 15)] 3 := ⟨gT_of 483 (by decide +kernel) rfl, gT_of 484 (by decide +kernel) rfl, gT_of 15 (by decide +kernel) rfl, gT_of 485 (by decide +kernel) rfl, ⟨by decide +kernel, by decide +kernel⟩, by decide +kernel⟩
theorem kw_recipe : cOW 44 yL_recipe cL_recipe 4 [(0, 6, 7, 15)] 3 := ⟨gT_of 514 (by decide +kernel) rfl, gT_of 515 (by decide +kernel) rfl, gT_of 15 (by decide +kernel) rfl, gT_of 516 (by decide +kernel) rfl, ⟨by decide +kernel, by decide +kernel⟩, by decide +kernel⟩
theorem kw_mix : cOW 49 yL_mix cL_mix 3 [(0, 5, 6, 15)] 2 := ⟨gT_of 580 (by decide +kernel) rfl, gT_of 581 (by decide +kernel) rfl, gT_of 15 (by decide +kernel) rfl, gT_of 582 (by decide +kernel) rfl, ⟨by decide +kernel, by decide +kernel⟩, by decide +kernel⟩
theorem kw_print : cOW 55 yL_print cL_print 5 [(0, 7, 8, 15)] 4 := ⟨gT_of 607 (by decide +kernel) rfl, gT_of 608 (by decide +kernel) rfl, gT_of 15 (by decide +kernel) rfl, gT_of 609 (by decide +kernel) rfl, ⟨by decide +kernel, by decide +kernel⟩, by decide +kernel⟩
/-- the reader of the script: the script lies outside the world, at b -/
def PreX (D : va_G) (cy : Nat → ClassId) (as : List AV) (μ : Mem) (ad : Nat → Nat) (sz b L : Nat) (xs : Nat → Int32) : Array Value → State → Prop := fun a U => Pre D cy as μ ad sz a U ∧ va_X b L xs U U.heap ∧ b < sz ∧ ¬ Ar ad μ.1 sz b
theorem preX_blind {D : va_G} {cy : Nat → ClassId} {as : List AV} {μ : Mem} {ad : Nat → Nat} {sz b L : Nat} {xs : Nat → Int32} : FrameBlind (PreX D cy as μ ad sz b L xs) := fun a U g mk h => ⟨pre_blind a U g mk h.1, va_X.moved (u := U) (U := U.calling g mk a) (Vm.Alike.refl U.vm) h.2.1, h.2.2⟩
def OkX (l : Launch) (D : va_G) (cy : Nat → ClassId) (d : Nat) (y : MethodName) (cc : ByteArray) (nL b L : Nat) (xs : Nat → Int32) (as : List AV) (μ : Mem) (Φ : Out → Mem → Prop) : Prop :=
  ∀ (ad : Nat → Nat) (sz : Nat), ad 1000000 = b → vx_Met l y (Cond.code y cc nL (some .int) :: gT) (rmO d 0 0) (PreX D cy as μ ad sz b L xs) (QcM D cy (Ar ad μ.1 sz) ad μ.1 Φ) (XcM D cy (Ar ad μ.1 sz) ad μ.1 Φ) 0 0 (Ar ad μ.1 sz)
def GX (l : Launch) (D : va_G) (cy : Nat → ClassId) (cc : ByteArray) (nL d b L : Nat) (xs : Nat → Int32) (Φ : Out → Mem → Prop) : Ctx := fun p e s m args below meth c A R Q ad0 n0 =>
  Fx D cy 10 cc nL d 0 0 false p e s m args below meth c A R Q ad0 n0 ∧ meth.sig.returnType = some .int ∧ A = Ar ad0 n0 s.heap.size ∧ Q = vx_MQ below (QcM D cy A ad0 n0 Φ) (XcM D cy A ad0 n0 Φ) args s 0 0 A ∧ va_X b L xs s s.heap ∧ b < s.heap.size ∧ ¬ A b ∧ ad0 1000000 = b
theorem GX_fa {l : Launch} {D : va_G} {cy : Nat → ClassId} {cc : ByteArray} {nL d b L : Nat} {xs : Nat → Int32} {Φ : Out → Mem → Prop} : Fa D cy (GX l D cy cc nL d b L xs Φ) 10 cc nL d 0 0 false := fun _ _ _ _ _ _ _ _ _ _ _ _ _ h => h.1
theorem OkX.intro {l : Launch} {D : va_G} {cy : Nat → ClassId} {d b L : Nat} {xs : Nat → Int32} {y : MethodName} {cc : ByteArray} {nL : Nat} {as : List AV} {μ : Mem} {Φ : Out → Mem → Prop} (lv : List (Option AV)) (hy : plainName y.cls = true) (ho : y.cls = oN 10) (hlv : lv = lvI as nL) (hln : as.length ≤ nL) (ha : as.all (fun a => !isLg (some a)) = true)
    (k : J l D cy (GX l D cy cc nL d b L xs Φ) 0 lv [] μ 0 0) : OkX l D cy d y cc nL b L xs as μ Φ := by
  intro ad sz hadb
  refine vx_ofW (cc := cc) (maxL := nL) (ret := some .int) hy rfl ?_
  intro p e s m args below meth c s₁ B hml hout hv
  obtain ⟨⟨rfl, hsz, hP, hD, hK, hev⟩, hX, hbl, hbA⟩ := hv
  subst hsz
  have hts := atoms_spec (ws := Cond.code y cc nL (some .int) :: gT) B.pre
  have hown : s.vm.findClass (oN 10) = some m.cls := by rw [← ho]; exact findClass_of_methodNamed B.named
  have hle : (lg_sl (as.map (cv ad))).length ≤ nL := by rw [sl_len as ha]; exact hln
  have hl := lv_entry (as.map (cv ad)) hle
  rw [lg_entry_eq]
  have hlen : lv.length = nL := by rw [hlv]; simp [lvI]; omega
  refine k p e s m _ below meth c (Ar ad μ.1 s.heap.size) (rmO d 0 0) _ ad μ.1 ⟨⟨⟨B.exec, B.bytes, hml, hown⟩, fun w hw => hts w (List.mem_cons_of_mem _ hw), hK, Ar_new, ⟨rfl, rfl, Nat.le_refl _, Nat.le_refl _⟩, B.notSynchronized, fun h => Bool.noConfusion h, hev⟩, B.returns, rfl, rfl, hX, hbl, hbA, hadb⟩ ad s.heap [] _ hP (D_self hD) va_S.rf ?_ (by rw [hlen, hml]) ⟨fun _ _ => rfl, Nat.le_refl _⟩
  refine prs_sub (lv := lv) (by rw [hlen]; exact hl) rfl (fun i v hv => ?_)
  rw [hlv] at hv
  have := lvI_args (ad := ad) as 0 _ ha i v hv
  simpa using this
theorem adX {μ : Mem} {b : Nat} {ad ad0 : Nat → Nat} {n0 : Nat} (hμ : μ.1 ≤ 1000000) (ha : (∀ i : Nat, (i < n0 ∨ μ.1 ≤ i) → ad i = ad0 i) ∧ n0 ≤ μ.1) (had : ad0 1000000 = b) : cv ad (.inr (.inr (some 1000000))) = .ref b := by
  simp only [cv, Option.map_some, va_rf]
  rw [ha.1 1000000 (Or.inr hμ), had]
section JX
variable {l : Launch} {D : va_G} {cy : Nat → ClassId} {cc : ByteArray} {nL d b L : Nat} {xs : Nat → Int32} {Φ : Out → Mem → Prop} {pc : Nat} {lv : List (Option AV)} {st : List AV} {μ : Mem} {ca sl : Nat}
theorem J_iretX {z : Int} (hd : decode cc pc = .ok (.ireturn, 1)) (hc : ca ≤ 0) (hs : sl ≤ 0) (h : Φ (.inl (some (.inl z))) μ) : J l D cy (GX l D cy cc nL d b L xs Φ) pc lv [.inl z] μ ca sl := by
  intro p e s m args below meth c A R Q ad0 n0 hG ad H locs ls hP hD hS hl hn ha
  obtain ⟨⟨⟨hx, hb, hml, hown⟩, -⟩, hret, hA, hQ, -⟩ := id hG
  have hlk := hG.1.2.2.2.2.2.1
  subst hQ
  refine W.widen hc hs (vx_ret ?_)
  exact W.iret (v := Int32.ofInt z) hx hb hret (fun t ht hW => ⟨⟨some (.inl z), μ, ad, rfl, h, trivial, ha.1, ha.2, by rw [ht]; exact hP, hD⟩, hS.F ht⟩) hS.2.2 hd
theorem J_sldX {k : Nat} (hd : decode cc pc = .ok (.iaload, 1)) (hk : k < L) (hL : L ≤ 260) (hμ : μ.1 ≤ 1000000) (kk : J l D cy (GX l D cy cc nL d b L xs Φ) (pc + 1) lv (.inl ((xs k).toInt) :: st) μ ca sl) : J l D cy (GX l D cy cc nL d b L xs Φ) pc lv (.inl (k : Int) :: .inr (.inr (some 1000000)) :: st) μ ca sl := by
  intro p e s m args below meth c A R Q ad0 n0 hG ad H locs ls hP hD hS hl hn ha
  obtain ⟨⟨⟨hx, hb, hml, hown⟩, hts, hK, hA, hR, hlk, hin, hev⟩, hret, hA2, hQ, hX, hbl, hbA, had⟩ := id hG
  have k' := kk p e s m args below meth c A R Q ad0 n0 hG ad H locs ls hP hD hS hl hn ha
  rw [List.map_cons, List.map_cons, adX hμ ha had]
  obtain ⟨l1, l2⟩ := len_ok (N := k) (by omega)
  have e9 : cv ad (.inl (k : Int)) = .int (Int32.ofInt (k : Int)) := rfl
  rw [e9]
  refine va_sld hx hb hX hbl hbA hS (i := Int32.ofInt (k : Int)) (fun h => by
    rcases h with h | h
    · exact l1 h
    · rw [l2] at h
      omega) hd ?_
  rw [l2]
  have e8 : cv ad (.inl ((xs k).toInt)) = .int (xs k) := by
    show Value.int (Int32.ofInt (xs k).toInt) = _
    rw [Int32.ofInt_toInt]
  rw [List.map_cons, e8] at k'
  exact k'
theorem J_slenX (hd : decode cc pc = .ok (.arraylength, 1)) (hμ : μ.1 ≤ 1000000) (kk : J l D cy (GX l D cy cc nL d b L xs Φ) (pc + 1) lv (.inl (L : Int) :: st) μ ca sl) : J l D cy (GX l D cy cc nL d b L xs Φ) pc lv (.inr (.inr (some 1000000)) :: st) μ ca sl := by
  intro p e s m args below meth c A R Q ad0 n0 hG ad H locs ls hP hD hS hl hn ha
  obtain ⟨⟨⟨hx, hb, hml, hown⟩, hts, hK, hA, hR, hlk, hin, hev⟩, hret, hA2, hQ, hX, hbl, hbA, had⟩ := id hG
  have k' := kk p e s m args below meth c A R Q ad0 n0 hG ad H locs ls hP hD hS hl hn ha
  rw [List.map_cons, adX hμ ha had]
  refine va_slen hx hb hX hbl hbA hS hd ?_
  have e8 : cv ad (.inl (L : Int)) = .int (Int32.ofNat L) := by
    show Value.int (Int32.ofInt (L : Int)) = _
    rw [ofI_nI (by omega), Int.toNat_natCast]
    rfl
  rw [List.map_cons, e8] at k'
  exact k'
end JX
section JN
variable {l : Launch} {D : va_G} {cy : Nat → ClassId} {Γ : Ctx} {o : Nat} {cc : ByteArray} {nL d mc ms : Nat} {ini : Bool} {pc : Nat} {lv : List (Option AV)} {st : List AV} {μ : Mem} {ca sl : Nat}
/-- a method that catches, called by the law's own methods -/
theorem J_callSW {d' mc' ms' idx n maxL : Nat} {y : MethodName} {bytes : ByteArray} {hh : List (Nat × Nat × Nat × Nat)} {as : List AV} {Φ' : Out → Mem → Prop} {stk : List AV} (hF : Fa D cy Γ 10 cc nL d mc ms ini) (hok : OkW l D cy d' mc' ms' y bytes maxL (some .int) hh as μ Φ')
    (hw : ∀ (q : Out) (ν : Mem), Φ' q ν → (∃ v, q = .inl v) ∧ ν.1 = μ.1)
    (hd : decode cc pc = .ok (.invokestatic idx, 3)) (hc : cOW idx y bytes maxL hh n) (hdd : d' + 1 ≤ d) (hM : maxL ≤ 21) (hm : ca + mc' ≤ mc ∧ sl + ms' ≤ ms) (hn9 : as.length = n) (hst : st.length ≤ 4) (hs : stk = as.reverse ++ st)
    (k : ∀ (v : Option AV) (ν : Mem), Φ' (.inl v) ν → J l D cy Γ (pc + 3) lv (v.toList ++ st) ν (ca + mc') (sl + ms')) : J l D cy Γ pc lv stk μ ca sl := by
  refine J_call_core (d' := d') (idx := idx) (as := as) hF (fun q ν h => Or.inl (hw q ν h).2) ?_ (fun E ν h => by obtain ⟨⟨v, hv⟩, -⟩ := hw _ _ h; cases hv) (fun v ν h _ => k v ν h)
  intro p e s m args below meth c A R Q ad0 n0 hG ad H locs ls hP hD hS hl hn
  obtain ⟨⟨hxx, hb, hml, hown⟩, hts, hK, hA, ⟨hmc, hms, hfr, hlo⟩, hlk, hin, hev⟩ := hF _ _ _ _ _ _ _ _ _ _ _ _ _ hG
  refine vx_runSX (As := as.map (cv ad)) ⟨hxx, hb, hml, hown, hts⟩ (hok ad H.size) (vx_cwSW n hts (wsW_good hc) rfl rfl rfl ⟨hc.2.2.2.2.1.1, hc.2.2.2.2.1.2, hc.2.2.2.2.2⟩ (run_room hdd hfr hlo hM)) ⟨pre_blind, call_pre (as := as) hK hev hP hD hS hA⟩ rfl (by rw [List.length_map]; exact hn9) (by rw [← hml, ← hn]; exact hl.1) ?_ (by
    have h9 := lv_room (pc := pc) (m := m) (ls := ls) (rest := stk.map (cv ad)) (st := st.map (cv ad)) (Nat.le_trans (cat_sum st) (by omega))
    exact h9) hd ⟨by rw [hmc]; exact hm.1, by rw [hms]; exact hm.2⟩
  show stk.map (cv ad) = _
  rw [hs]
  simp
/-- calls that don't throw; what they make counts -/
theorem J_callVn {d' mc' ms' idx n maxL c' : Nat} {y : MethodName} {bytes : ByteArray} {ret' : Option FieldType} {as : List AV} {Φ' : Out → Mem → Prop} {stk : List AV} (hF : Fa D cy Γ o cc nL d mc ms ini) (hok : Ok l D cy d' mc' ms' y bytes maxL ret' (.inr (.inr (some c')) :: as) μ Φ')
    (hw : ∀ (q : Out) (ν : Mem), Φ' q ν → (∃ v, q = .inl v) ∧ ν.1 = μ.1)
    (hd : decode cc pc = .ok (.invokevirtual idx, 3)) (hc : cOK 0 o idx y bytes maxL ret' n) (hdd : d' + 1 ≤ d) (hM : maxL ≤ 21) (hm : ca + mc' ≤ mc ∧ sl + ms' ≤ ms) (hn9 : as.length = n) (hcl : y.cls = Cn (kd c')) (hk10 : kd c' < 10) (hc' : c' < μ.1) (hst : st.length ≤ 4) (hs : stk = as.reverse ++ .inr (.inr (some c')) :: st)
    (k : ∀ (v : Option AV) (ν : Mem), Φ' (.inl v) ν → J l D cy Γ (pc + 3) lv (v.toList ++ st) ν (ca + mc') (sl + ms')) : J l D cy Γ pc lv stk μ ca sl :=
  J_callV0 hF hok hd hc hdd hM hm hn9 hcl hk10 hc' hst hs (fun q ν h => Or.inl (hw q ν h).2) (fun E ν h => by obtain ⟨⟨v, hv⟩, -⟩ := hw _ _ h; cases hv) (fun v ν h _ => k v ν h)
theorem J_callVe {d' mc' ms' idx n maxL c' : Nat} {y : MethodName} {bytes : ByteArray} {ret' : Option FieldType} {as : List AV} {v0 : Option AV} {μ' : Mem} {stk : List AV} (hF : Fa D cy Γ o cc nL d mc ms ini) (hok : Ok l D cy d' mc' ms' y bytes maxL ret' (.inr (.inr (some c')) :: as) μ (det v0 μ'))
    (hd : decode cc pc = .ok (.invokevirtual idx, 3)) (hc : cOK 0 o idx y bytes maxL ret' n) (hdd : d' + 1 ≤ d) (hM : maxL ≤ 21) (hm : ca + mc' ≤ mc ∧ sl + ms' ≤ ms) (hn9 : as.length = n) (hcl : y.cls = Cn (kd c')) (hk10 : kd c' < 10) (hc' : c' < μ.1) (hst : st.length ≤ 4) (hs : stk = as.reverse ++ .inr (.inr (some c')) :: st) (hμ : μ'.1 = μ.1)
    (k : J l D cy Γ (pc + 3) lv (v0.toList ++ st) μ' (ca + mc') (sl + ms')) : J l D cy Γ pc lv stk μ ca sl := by
  refine J_callVn hF hok (by rw [← hμ]; exact calm_det) hd hc hdd hM hm hn9 hcl hk10 hc' hst hs (fun v ν h => ?_)
  obtain ⟨h1, rfl⟩ := h
  cases h1
  exact k
theorem J_callSn {d' mc' ms' idx n maxL : Nat} {y : MethodName} {bytes : ByteArray} {ret' : Option FieldType} {as : List AV} {Φ' : Out → Mem → Prop} {stk : List AV} (hF : Fa D cy Γ o cc nL d mc ms ini) (hok : Ok l D cy d' mc' ms' y bytes maxL ret' as μ Φ')
    (hw : ∀ (q : Out) (ν : Mem), Φ' q ν → (∃ v, q = .inl v) ∧ ν.1 = μ.1)
    (hd : decode cc pc = .ok (.invokestatic idx, 3)) (hc : cOK 1 o idx y bytes maxL ret' n) (hdd : d' + 1 ≤ d) (hM : maxL ≤ 21) (hm : ca + mc' ≤ mc ∧ sl + ms' ≤ ms) (hn9 : as.length = n) (hst : st.length ≤ 4) (hs : stk = as.reverse ++ st)
    (k : ∀ (v : Option AV) (ν : Mem), Φ' (.inl v) ν → J l D cy Γ (pc + 3) lv (v.toList ++ st) ν (ca + mc') (sl + ms')) : J l D cy Γ pc lv stk μ ca sl :=
  J_callS0 hF hok hd hc hdd hM hm hn9 hst hs (fun q ν h => Or.inl (hw q ν h).2) (fun E ν h => by obtain ⟨⟨v, hv⟩, -⟩ := hw _ _ h; cases hv) (fun v ν h _ => k v ν h)
end JN
theorem shr_rg {z : Int} (k : Nat) (h : r32 z) : r32 (z / 2 ^ k) := by
  have hp : (0 : Int) < 2 ^ k := Int.pow_pos (by decide)
  obtain ⟨h1, h2⟩ := h
  constructor
  · apply Int.le_ediv_of_mul_le hp
    generalize (2 : Int) ^ k = P at hp ⊢
    omega
  · apply Int.ediv_le_of_le_mul hp
    generalize (2 : Int) ^ k = P at hp ⊢
    omega
theorem i32_r (x : Int32) : r32 x.toInt := by
  have h1 := Int32.toInt_lt x
  have h2 := Int32.le_toInt x
  simp only [r32]
  omega
