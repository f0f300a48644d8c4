/-! THE LAW'S WRAPPERS: bodies with handlers -/
theorem wWx : Cond.codeWith yL_setBase cL_setBase 6 (some .int) [(0, 9, 12, 13), (0, 9, 16, 15)] ∈ gT := by decide +kernel
/-- the name of the class in the law's pool -/
def ctN (k : Nat) : String := if k = 13 then IAE else if k = 15 then ISE else IOB
abbrev ct3 (k : Nat) : Prop := k = 13 ∨ k = 15 ∨ k = 28
theorem ct_13 : Cond.classLink RL 13 IAE ∈ gT := by decide +kernel
theorem ct_15 : Cond.classLink RL 15 ISE ∈ gT := by decide +kernel
theorem ct_28 : Cond.classLink RL 28 IOB ∈ gT := by decide +kernel
theorem ct_link {k : Nat} (h : ct3 k) : Cond.classLink RL k (ctN k) ∈ gT := by
  rcases h with rfl | rfl | rfl
  · exact ct_13
  · exact ct_15
  · exact ct_28
abbrev ex3 (E : String) : Prop := E = IAE ∨ E = ISE ∨ E = IOB
/-- the three exceptions are strangers to each other -/
def NC (U : State) : Prop := ∀ a b : String, ex3 a → ex3 b → a ≠ b → va_Nc a b U
theorem NC.moved {s U : State} (hW : s.WarmedH U.vm) (h : NC s) : NC U := fun a b ha hb hab => va_Nc.moved hW.alike (h a b ha hb hab)
def PreW (D : va_G) (cy : Nat → ClassId) (as : List AV) (μ : Mem) (ad : Nat → Nat) (sz : Nat) : Array Value → State → Prop := fun a U => Pre D cy as μ ad sz a U ∧ NC U
theorem preW_blind {D : va_G} {cy : Nat → ClassId} {as : List AV} {μ : Mem} {ad : Nat → Nat} {sz : Nat} : FrameBlind (PreW D cy as μ ad sz) := fun a U g mk h => ⟨pre_blind a U g mk h.1, fun x y hx hy hxy => va_Nc.moved (u := U) (U := U.calling g mk a) (Vm.Alike.refl U.vm) (h.2 x y hx hy hxy)⟩
def OkW (l : Launch) (D : va_G) (cy : Nat → ClassId) (d mc ms : Nat) (y : MethodName) (cc : ByteArray) (nL : Nat) (ret : Option FieldType) (hh : List (Nat × Nat × Nat × Nat)) (as : List AV) (μ : Mem) (Φ : Out → Mem → Prop) : Prop :=
  ∀ (ad : Nat → Nat) (sz : Nat), vx_Met l y (Cond.codeWith y cc nL ret hh :: gT) (rmO d mc ms) (PreW D cy as μ ad sz) (QcM D cy (Ar ad μ.1 sz) ad μ.1 Φ) (XcM D cy (Ar ad μ.1 sz) ad μ.1 Φ) mc ms (Ar ad μ.1 sz)
def GW (l : Launch) (D : va_G) (cy : Nat → ClassId) (cc : ByteArray) (nL d mc ms : Nat) (hh : List (Nat × Nat × Nat × Nat)) (Φ : Out → Mem → Prop) : Ctx := fun p e s m args below meth c A R Q ad0 n0 =>
  Fx D cy 10 cc nL d mc ms false p e s m args below meth c A R Q ad0 n0 ∧ meth.sig.returnType = some .int ∧ c.exceptionTable.toList = tableOf hh ∧ A = Ar ad0 n0 s.heap.size ∧ Q = vx_MQ below (QcM D cy A ad0 n0 Φ) (XcM D cy A ad0 n0 Φ) args s mc ms A ∧ NC s
theorem GW_fa {l : Launch} {D : va_G} {cy : Nat → ClassId} {cc : ByteArray} {nL d mc ms : Nat} {hh : List (Nat × Nat × Nat × Nat)} {Φ : Out → Mem → Prop} : Fa D cy (GW l D cy cc nL d mc ms hh Φ) 10 cc nL d mc ms false := fun _ _ _ _ _ _ _ _ _ _ _ _ _ h => h.1
theorem OkW.intro {l : Launch} {D : va_G} {cy : Nat → ClassId} {d mc ms : Nat} {y : MethodName} {cc : ByteArray} {nL : Nat} {hh : List (Nat × Nat × Nat × Nat)} {as : List AV} {μ : Mem} {Φ : Out → Mem → Prop} (lv : List (Option AV)) (hy : plainName y.cls = true) (ho : y.cls = oN 10) (hlv : lv = lvI as nL) (hln : as.length ≤ nL) (ha : as.all (fun a => !isLg (some a)) = true)
    (k : J l D cy (GW l D cy cc nL d mc ms hh Φ) 0 lv [] μ 0 0) : OkW l D cy d mc ms y cc nL (some .int) hh as μ Φ := by
  intro ad sz
  refine vx_ofWH (cc := cc) (maxL := nL) (ret := some .int) (hh := hh) hy rfl ?_
  intro p e s m args below meth c s₁ B hml hv
  obtain ⟨⟨rfl, hsz, hP, hD, hK, hev⟩, hnc⟩ := hv
  subst hsz
  have hts := atoms_spec (ws := Cond.codeWith y cc nL (some .int) hh :: gT) B.pre
  have hown : s.vm.findClass (oN 10) = some m.cls := by rw [← ho]; exact findClass_of_methodNamed B.named
  have hle : (lg_sl (as.map (cv ad))).length ≤ nL := by rw [sl_len as ha]; exact hln
  have hl := lv_entry (as.map (cv ad)) hle
  rw [lg_entry_eq]
  have hlen : lv.length = nL := by rw [hlv]; simp [lvI]; omega
  have htab := vx_table (x := y) (y := y) B (hts _ List.mem_cons_self)
  refine k p e s m _ below meth c (Ar ad μ.1 s.heap.size) (rmO d mc ms) _ ad μ.1 ⟨⟨⟨B.exec, B.bytes, hml, hown⟩, fun w hw => hts w (List.mem_cons_of_mem _ hw), hK, Ar_new, ⟨rfl, rfl, Nat.le_refl _, Nat.le_refl _⟩, B.notSynchronized, fun h => Bool.noConfusion h, hev⟩, B.returns, htab, rfl, rfl, hnc⟩ ad s.heap [] _ hP (D_self hD) va_S.rf ?_ (by rw [hlen, hml]) ⟨fun _ _ => rfl, Nat.le_refl _⟩
  refine prs_sub (lv := lv) (by rw [hlen]; exact hl) rfl (fun i v hv => ?_)
  rw [hlv] at hv
  have := lvI_args (ad := ad) as 0 _ ha i v hv
  simpa using this
section JW
variable {l : Launch} {D : va_G} {cy : Nat → ClassId} {cc : ByteArray} {nL d mc ms : Nat} {hh : List (Nat × Nat × Nat × Nat)} {Φ : Out → Mem → Prop} {pc : Nat} {lv : List (Option AV)} {st : List AV} {μ : Mem} {ca sl : Nat}
theorem J_iretW {z : Int} (hd : decode cc pc = .ok (.ireturn, 1)) (hc : ca ≤ mc) (hs : sl ≤ ms) (h : Φ (.inl (some (.inl z))) μ) : J l D cy (GW l D cy cc nL d mc ms hh Φ) pc lv [.inl z] μ ca sl := by
  intro p e s m args below meth c A R Q ad0 n0 hG ad H locs ls hP hD hS hl hn ha
  obtain ⟨⟨⟨hx, hb, hml, hown⟩, -⟩, hret, hout, hA, hQ, hnc⟩ := id hG
  have hlk := hG.1.2.2.2.2.2.1
  subst hQ
  refine W.widen hc hs (vx_ret ?_)
  exact W.iret (v := Int32.ofInt z) hx hb hret (fun t ht hW => ⟨⟨some (.inl z), μ, ad, rfl, h, trivial, ha.1, ha.2, by rw [ht]; exact hP, hD⟩, hS.F ht⟩) hS.2.2 hd
/-- a handler of the law: it keeps the exception, and answers a number -/
def hdl (cc : ByteArray) (nL h : Nat) (k : Int) : Prop := (∃ i : Nat, decode cc h = .ok (.astore i, 2) ∧ decode cc (h + 2) = .ok (.iconst k, 1) ∧ decode cc (h + 3) = .ok (.ireturn, 1) ∧ i < nL) ∨ ∃ i : Fin 4, decode cc h = .ok (.astore_n i, 1) ∧ decode cc (h + 1) = .ok (.iconst k, 1) ∧ decode cc (h + 2) = .ok (.ireturn, 1) ∧ (i : Nat) < nL
theorem exitsW {E : String} {ν : Mem} {k : Int} (pre suf : List (Nat × Nat × Nat × Nat)) (x : Nat × Nat × Nat × Nat) (hsp : hh = pre ++ x :: suf) (hE : ex3 E) (hx3 : ct3 x.2.2.2) (hxE : ctN x.2.2.2 = E) (hpre : ∀ z ∈ pre, ct3 z.2.2.2 ∧ ctN z.2.2.2 ≠ E ∧ ex3 (ctN z.2.2.2)) (hcov : x.1 ≤ pc ∧ pc < x.2.1) (hh9 : hdl cc nL x.2.2.1 k) (hc : ca ≤ mc) (hs : sl ≤ ms) (h : Φ (.inl (some (.inl k))) ν) : ExitsX l D cy (GW l D cy cc nL d mc ms hh Φ) pc lv st E ν ca sl := by
  intro p e s m args below meth c A R Q ad0 n0 hG ad H locs ls q9 ce hP hD hS hl hn ha h1 h2 h3
  obtain ⟨⟨⟨hx, hb, hml, hown⟩, hts, hK, hA', hR, hlk, hin, hev⟩, hret, hout, hA, hQ, hnc⟩ := id hG
  have f : Nat × Nat × Nat × Nat → ExceptionTableEntry := fun q => ⟨q.1, q.2.1, q.2.2.1, q.2.2.2⟩
  refine vx_catch (own := RL) (name := E) (E := E) hown (pre.map fun q => ⟨q.1, q.2.1, q.2.2.1, q.2.2.2⟩) ⟨x.1, x.2.1, x.2.2.1, x.2.2.2⟩ (suf.map fun q => ⟨q.1, q.2.1, q.2.2.1, q.2.2.2⟩) (by rw [hout, hsp]; simp [tableOf]) (fun z hz => ?_) ?_ ?_ (hts _ (by rw [← hxE]; exact ct_link hx3)) ?_ h1 h2 h3 ?_
  · obtain ⟨z0, hz0, rfl⟩ := List.mem_map.mp hz
    obtain ⟨k1, k2, k3⟩ := hpre z0 hz0
    refine Or.inr ⟨?_, ctN z0.2.2.2, hts _ (ct_link k1), hnc _ _ hE k3 (fun q => k2 q.symm)⟩
    rcases k1 with k1 | k1 | k1 <;> simp [k1]
  · simp [covers, hcov.1, hcov.2]
  · rcases hx3 with k1 | k1 | k1 <;> simp [k1]
  · have hb9 : Cond.castable E E ∈ bads := by
      rcases hE with rfl | rfl | rfl <;> decide +kernel
    exact va_Nw.use rfl (hev.2.2.1 _ hb9)
  · subst hQ
    have hend : ∀ (pc2 : Nat) (ls' : Array Slot), decode cc pc2 = .ok (.iconst k, 1) → decode cc (pc2 + 1) = .ok (.ireturn, 1) → W p l e R s m args below meth c H locs ca sl (vx_MQ below (QcM D cy A ad0 n0 Φ) (XcM D cy A ad0 n0 Φ) args s mc ms A) (F0 m pc2 ls' []) := by
      intro pc2 ls' d1 d2
      refine lv_iconst hx hb d1 rfl ?_
      refine W.widen hc hs (vx_ret ?_)
      exact W.iret (v := Int32.ofInt k) hx hb hret (fun t ht hW => ⟨⟨some (.inl k), ν, ad, rfl, h, trivial, ha.1, ha.2, by rw [ht]; exact hP, hD⟩, hS.F ht⟩) hS.2.2 d2
    rcases hh9 with ⟨i, d0, d1, d2, hi⟩ | ⟨i, d0, d1, d2, hi⟩
    · exact lv_astore hx hb d0 hl (by omega) rfl (fun ls' hl' => hend _ ls' d1 d2)
    · exact lv_astore_n hx hb d0 rfl hl (by omega) rfl (fun ls' hl' => hend _ ls' d1 d2)
end JW
