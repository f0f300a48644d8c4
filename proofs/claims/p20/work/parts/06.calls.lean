/-! CONTRACTS: a method with these arguments over this world returns or throws, and Φ holds of how it ended and of the world then -/
abbrev Out : Type := (Option AV) ⊕ String
/-- the cells of a world, and what comes from sz on -/
def Ar (ad : Nat → Nat) (n sz : Nat) : Nat → Prop := fun q => (∃ i : Nat, i < n ∧ ad i = q) ∨ sz ≤ q
def EnvK (D : va_G) (cy : Nat → ClassId) (A : Nat → Prop) (U : State) (H : Heap) : Prop := va_K D vwCl (tys cy) U ∧ EnvR A U H
def Pre (D : va_G) (cy : Nat → ClassId) (as : List AV) (μ : Mem) (ad : Nat → Nat) (sz : Nat) : Array Value → State → Prop :=
  va_Pc (as.map (cv ad)) (fun U => U.heap.size = sz ∧ va_P D vwCl (wld cy ad μ) U.heap ∧ va_D (fun _ => True) (wld cy ad μ) ∧ EnvK D cy (Ar ad μ.1 sz) U U.heap)
def Fin9 (D : va_G) (cy : Nat → ClassId) (A : Nat → Prop) (ad : Nat → Nat) (n : Nat) (ad' : Nat → Nat) (ν : Mem) (H : Heap) : Prop := (∀ i : Nat, (i < n ∨ ν.1 ≤ i) → ad' i = ad i) ∧ n ≤ ν.1 ∧ va_P D vwCl (wld cy ad' ν) H ∧ va_D A (wld cy ad' ν)
/-- an answer that is a reference is one of the world's -/
def rW (n : Nat) : Option AV → Prop
  | some (.inr (.inr (some q))) => q < n
  | _ => True
def QcM (D : va_G) (cy : Nat → ClassId) (A : Nat → Prop) (ad : Nat → Nat) (n : Nat) (Φ : Out → Mem → Prop) : Array Value → State → Outcome → State → Prop := fun _ st o t =>
  (∃ (v : Option AV) (ν : Mem) (ad' : Nat → Nat), o = .returned (v.map (cv ad')) ∧ Φ (.inl v) ν ∧ rW ν.1 v ∧ Fin9 D cy A ad n ad' ν t.heap) ∧ va_F A st t
def XcM (D : va_G) (cy : Nat → ClassId) (A : Nat → Prop) (ad : Nat → Nat) (n : Nat) (Φ : Out → Mem → Prop) : String → State → State → Prop := fun E st t =>
  (∃ (ν : Mem) (ad' : Nat → Nat), Φ (.inr E) ν ∧ Fin9 D cy A ad n ad' ν t.heap) ∧ va_F A st t
def rmO (d mc ms : Nat) : Room := { frames := d, cells := mc, slots := ms, locals := 40 * d }
def Ok (l : Launch) (D : va_G) (cy : Nat → ClassId) (d mc ms : Nat) (y : MethodName) (cc : ByteArray) (nL : Nat) (ret : Option FieldType) (as : List AV) (μ : Mem) (Φ : Out → Mem → Prop) : Prop :=
  ∀ (ad : Nat → Nat) (sz : Nat), vx_Met l y (Cond.code y cc nL ret :: gT) (rmO d mc ms) (Pre D cy as μ ad sz) (QcM D cy (Ar ad μ.1 sz) ad μ.1 Φ) (XcM D cy (Ar ad μ.1 sz) ad μ.1 Φ) mc ms (Ar ad μ.1 sz)
theorem Ok.post {l : Launch} {D : va_G} {cy : Nat → ClassId} {d mc ms : Nat} {y : MethodName} {cc : ByteArray} {nL : Nat} {ret : Option FieldType} {as : List AV} {μ : Mem} {Φ Ψ : Out → Mem → Prop} (h : Ok l D cy d mc ms y cc nL ret as μ Φ) (hΨ : ∀ o ν, Φ o ν → Ψ o ν) : Ok l D cy d mc ms y cc nL ret as μ Ψ := by
  intro ad sz
  have h0 := h ad sz
  intro p e h1 h2 h3 s m args below h4 h5 h6 h7
  obtain ⟨k, o, a1, a2, a3, hq⟩ := h0 p e h1 h2 h3 s m args below h4 h5 h6 h7
  refine ⟨k, o, a1, a2, a3, ?_⟩
  rcases hq with ⟨⟨⟨v, ν, ad', r1, r2, r3⟩, hF⟩, hL⟩ | ⟨q, ho, E, ce, L, ⟨⟨ν, ad', r2, r3⟩, hF⟩, hr⟩
  · exact Or.inl ⟨⟨⟨v, ν, ad', r1, hΨ _ _ r2, r3⟩, hF⟩, hL⟩
  · exact Or.inr ⟨q, ho, E, ce, L, ⟨⟨ν, ad', hΨ _ _ r2, r3⟩, hF⟩, hr⟩
/-- the surroundings of a method's own walk -/
def GM (l : Launch) (D : va_G) (cy : Nat → ClassId) (o : Nat) (cc : ByteArray) (nL d mc ms : Nat) (ini : Bool) (ret : Option FieldType) (Φ : Out → Mem → Prop) : Ctx := fun p e s m args below meth c A R Q ad0 n0 =>
  Fx D cy o cc nL d mc ms ini p e s m args below meth c A R Q ad0 n0 ∧ meth.sig.returnType = ret ∧ (∀ x ∈ c.exceptionTable.toList, False) ∧ A = Ar ad0 n0 s.heap.size ∧ Q = vx_MQ below (QcM D cy A ad0 n0 Φ) (XcM D cy A ad0 n0 Φ) args s mc ms A
theorem GM_fa {l : Launch} {D : va_G} {cy : Nat → ClassId} {o : Nat} {cc : ByteArray} {nL d mc ms : Nat} {ini : Bool} {ret : Option FieldType} {Φ : Out → Mem → Prop} : Fa D cy (GM l D cy o cc nL d mc ms ini ret Φ) o cc nL d mc ms ini := fun _ _ _ _ _ _ _ _ _ _ _ _ _ h => h.1
theorem Ar_new {ad : Nat → Nat} {n sz : Nat} : ∀ q : Nat, sz ≤ q → Ar ad n sz q := fun _ h => Or.inr h
theorem D_self {cy : Nat → ClassId} {ad : Nat → Nat} {μ : Mem} {sz : Nat} {A : Nat → Prop} (h : va_D A (wld cy ad μ)) : va_D (Ar ad μ.1 sz) (wld cy ad μ) := ⟨h.1, fun k q hk => by
  obtain ⟨h1, rfl⟩ := wld_inv hk
  exact Or.inl ⟨k, h1, rfl⟩⟩
theorem EnvR.moved {A : Nat → Prop} {s U : State} {H : Heap} (hW : s.WarmedH U.vm) (h : EnvR A s H) : EnvR A U H := by
  obtain ⟨h1, h2, h3, h4, h5, h6⟩ := h
  refine ⟨h1.moved hW.alike, h2.moved hW.alike, fun w hw => ?_, h4.moved hW.alike, h5.moved hW.alike, ?_⟩
  · have h9 := h3 w hw
    simp only [bads, List.mem_cons, List.not_mem_nil, or_false] at hw
    rcases hw with rfl | rfl | rfl | rfl | rfl | rfl <;> first | exact va_Nw.warmD hW h9 | exact va_Nw.warmC hW h9
  · exact arrayOver_alikeB hW.alike h6
theorem EnvR.vm {A : Nat → Prop} {s U : State} {H : Heap} (hv : s.vm = U.vm) (h : EnvR A s H) : EnvR A U H := h.moved (by rw [← hv]; exact State.WarmedH.refl s)
theorem EnvR.kept {A : Nat → Prop} {U : State} {H H1 : Heap} (h : EnvR A U H) (hq : ∀ a : Nat, a < H.size → ¬ A a → H1[a]? = H[a]?) : EnvR A U H1 := ⟨h.1.kept hq, h.2.1.kept hq, h.2.2⟩
theorem EnvR.narrow {A B : Nat → Prop} {U : State} {H : Heap} (h : EnvR A U H) (hAB : ∀ q, B q → A q) : EnvR B U H := ⟨h.1.narrow hAB, h.2.1.narrow hAB, h.2.2⟩
/-- the locals with which a method begins -/
def lvI (as : List AV) (nL : Nat) : List (Option AV) := as.map some ++ List.replicate (nL - as.length) none
theorem lvI_args {ad : Nat → Nat} : ∀ (as : List AV) (k n : Nat), as.all (fun a => !isLg (some a)) = true → ∀ (i : Nat) (v : AV), lg (as.map some ++ List.replicate n none) i = some v → (k + i, cv ad v) ∈ lv_args k (as.map (cv ad))
  | [], k, n, _, i, v, h => by
    exfalso
    have : ∀ (n i : Nat), lg (List.replicate n none) i = none := by
      intro n
      induction n with
      | zero => intro i; rfl
      | succ n ih => intro i; cases i with
        | zero => rfl
        | succ i => exact ih i
    simp only [List.map_nil, List.nil_append, this] at h
    cases h
  | a :: as, k, n, ha, 0, v, h => by
    simp only [List.map_cons, List.cons_append, lg] at h
    cases h
    simp [lv_args]
  | a :: as, k, n, ha, i + 1, v, h => by
    simp only [List.all_cons, Bool.and_eq_true, Bool.not_eq_true'] at ha
    simp only [List.map_cons, List.cons_append, lg] at h
    have hc : ¬ (cv ad a).category = 2 := by rw [cv_cat, ha.1]; decide
    simp only [List.map_cons, lv_args, hc, if_false]
    have := lvI_args (ad := ad) as (k + 1) n (by simpa using ha.2) i v h
    rw [show k + (i + 1) = k + 1 + i by omega]
    exact List.mem_cons_of_mem _ this
theorem sl_len {ad : Nat → Nat} : ∀ (as : List AV), as.all (fun a => !isLg (some a)) = true → (lg_sl (as.map (cv ad))).length = as.length
  | [], _ => rfl
  | a :: as, h => by
    simp only [List.all_cons, Bool.and_eq_true, Bool.not_eq_true'] at h
    have hc : ¬ (cv ad a).category = 2 := by rw [cv_cat, h.1]; decide
    have ih := sl_len (ad := ad) as h.2
    simp only [lg_sl, List.map_cons, List.flatMap_cons, List.length_append, List.length_cons] at ih ⊢
    rw [ih]
    simp [hc]
    omega
/-- the walk from the entry gives the contract -/
theorem Ok.intro {l : Launch} {D : va_G} {cy : Nat → ClassId} {o : Nat} {d mc ms : Nat} {ini : Bool} {y : MethodName} {cc : ByteArray} {nL : Nat} {ret : Option FieldType} {as : List AV} {μ : Mem} {Φ : Out → Mem → Prop} (lv : List (Option AV)) (hy : plainName y.cls = true) (ho : y.cls = oN o) (hi : ini = true → y.name = "<init>") (hlv : lv = lvI as nL) (hln : as.length ≤ nL) (ha : as.all (fun a => !isLg (some a)) = true)
    (k : J l D cy (GM l D cy o cc nL d mc ms ini ret Φ) 0 lv [] μ 0 0) : Ok l D cy d mc ms y cc nL ret as μ Φ := by
  intro ad sz
  refine vx_ofW (cc := cc) (maxL := nL) (ret := ret) hy rfl ?_
  intro p e s m args below meth c s₁ B hml hout hv
  obtain ⟨rfl, hsz, hP, hD, hK, hev⟩ := hv
  subst hsz
  have hts := atoms_spec (ws := Cond.code y cc nL ret :: gT) B.pre
  have hown : s.vm.findClass (oN o) = some m.cls := by rw [← ho]; exact findClass_of_methodNamed B.named
  have hnm := (name_of_methodNamed B.named B.method).1
  have hle : (lg_sl (as.map (cv ad))).length ≤ nL := by rw [sl_len as ha]; exact hln
  have hl := lv_entry (as.map (cv ad)) hle
  rw [lg_entry_eq]
  have hlen : lv.length = nL := by rw [hlv]; simp [lvI]; omega
  refine k p e s m _ below meth c (Ar ad μ.1 s.heap.size) (rmO d mc ms) _ ad μ.1 ⟨⟨⟨B.exec, B.bytes, hml, hown⟩, fun w hw => hts w (List.mem_cons_of_mem _ hw), hK, Ar_new, ⟨rfl, rfl, Nat.le_refl _, Nat.le_refl _⟩, B.notSynchronized, fun h => by rw [hnm]; exact hi h, hev⟩, B.returns, hout, rfl, rfl⟩ ad s.heap [] _ hP (D_self hD) va_S.rf ?_ (by rw [hlen, hml]) ⟨fun _ _ => rfl, Nat.le_refl _⟩
  refine prs_sub (lv := lv) (by rw [hlen]; exact hl) rfl (fun i v hv => ?_)
  rw [hlv] at hv
  have := lvI_args (ad := ad) as 0 _ ha i v hv
  simpa using this
section JC
variable {l : Launch} {D : va_G} {cy : Nat → ClassId} {Γ : Ctx} {o : Nat} {cc : ByteArray} {nL d mc ms : Nat} {ini : Bool} {ret : Option FieldType} {Φ : Out → Mem → Prop} {pc : Nat} {lv : List (Option AV)} {st : List AV} {μ : Mem} {ca sl : Nat}
theorem J_vret (hd : decode cc pc = .ok (.return_, 1)) (hr : ret = none) (hc : ca ≤ mc) (hs : sl ≤ ms) (h : Φ (.inl none) μ) : J l D cy (GM l D cy o cc nL d mc ms ini ret Φ) pc lv [] μ ca sl := by
  intro p e s m args below meth c A R Q ad0 n0 hG ad H locs ls hP hD hS hl hn ha
  obtain ⟨⟨⟨hx, hb, hml, hown⟩, -⟩, hret, hout, hA, hQ⟩ := id hG
  have hlk := hG.1.2.2.2.2.2.1
  subst hQ
  refine W.widen hc hs (vx_ret ?_)
  exact W.vret hx hb (hret.trans hr) (fun t ht hW => ⟨⟨none, μ, ad, rfl, h, trivial, ha.1, ha.2, by rw [ht]; exact hP, hD⟩, hS.F ht⟩) hS.2.2 hd
theorem J_iret {z : Int} (hd : decode cc pc = .ok (.ireturn, 1)) (hr : ret = some .int) (hc : ca ≤ mc) (hs : sl ≤ ms) (h : Φ (.inl (some (.inl z))) μ) : J l D cy (GM l D cy o cc nL d mc ms ini ret Φ) pc lv [.inl z] μ ca sl := by
  intro p e s m args below meth c A R Q ad0 n0 hG ad H locs ls hP hD hS hl hn ha
  obtain ⟨⟨⟨hx, hb, hml, hown⟩, -⟩, hret, hout, hA, hQ⟩ := id hG
  have hlk := hG.1.2.2.2.2.2.1
  subst hQ
  refine W.widen hc hs (vx_ret ?_)
  exact W.iret (v := Int32.ofInt z) hx hb (hret.trans hr) (fun t ht hW => ⟨⟨some (.inl z), μ, ad, rfl, h, trivial, ha.1, ha.2, by rw [ht]; exact hP, hD⟩, hS.F ht⟩) hS.2.2 hd
theorem J_zret {z : Int} (hd : decode cc pc = .ok (.ireturn, 1)) (hr : ret = some .boolean) (hz : z = 0 ∨ z = 1) (hc : ca ≤ mc) (hs : sl ≤ ms) (h : Φ (.inl (some (.inl z))) μ) : J l D cy (GM l D cy o cc nL d mc ms ini ret Φ) pc lv [.inl z] μ ca sl := by
  intro p e s m args below meth c A R Q ad0 n0 hG ad H locs ls hP hD hS hl hn ha
  obtain ⟨⟨⟨hx, hb, hml, hown⟩, -⟩, hret, hout, hA, hQ⟩ := id hG
  have hlk := hG.1.2.2.2.2.2.1
  subst hQ
  refine W.widen hc hs (vx_ret ?_)
  exact W.zret (v := Int32.ofInt z) (ty := .boolean) hx hb (hret.trans hr) (by rcases hz with q | q <;> subst q <;> rfl) (fun t ht hW => ⟨⟨some (.inl z), μ, ad, rfl, h, trivial, ha.1, ha.2, by rw [ht]; exact hP, hD⟩, hS.F ht⟩) hS.2.2 hd
theorem J_aret {q : Nat} (hd : decode cc pc = .ok (.areturn, 1)) (hr : ∃ n, ret = some (.object n)) (hq : q < μ.1) (hc : ca ≤ mc) (hs : sl ≤ ms) (h : Φ (.inl (some (.inr (.inr (some q))))) μ) : J l D cy (GM l D cy o cc nL d mc ms ini ret Φ) pc lv [.inr (.inr (some q))] μ ca sl := by
  intro p e s m args below meth c A R Q ad0 n0 hG ad H locs ls hP hD hS hl hn ha
  obtain ⟨⟨⟨hx, hb, hml, hown⟩, -⟩, hret, hout, hA, hQ⟩ := id hG
  have hlk := hG.1.2.2.2.2.2.1
  obtain ⟨nn, hr⟩ := hr
  subst hQ
  refine W.widen hc hs (vx_ret ?_)
  exact W.aret (v := .ref (ad q)) hx hb (hret.trans hr) (Or.inl ⟨nn, rfl⟩) (Or.inr ⟨_, rfl⟩) (fun t ht hW => ⟨⟨some (.inr (.inr (some q))), μ, ad, rfl, h, hq, ha.1, ha.2, by rw [ht]; exact hP, hD⟩, hS.F ht⟩) hS.2.2 hd
theorem gT_good {big : List Cond} (hb : ∀ w ∈ gT, w ∈ big) {w : Cond} (h : w ∈ gT) : GoodIn big (w :: gT) := by
  intro v hv
  have h1 : v ∈ gT := by
    rcases List.mem_cons.mp hv with q | q
    · rw [q]; exact h
    · exact q
  exact ⟨hb v h1, good_of_word (List.mem_filter.mp h1).2⟩
theorem pre_blind {as : List AV} {ad : Nat → Nat} {sz : Nat} : FrameBlind (Pre D cy as μ ad sz) := by
  intro a U g mk h
  obtain ⟨q0, q1, q2, q3, q4, q5⟩ := h
  exact ⟨q0, q1, q2, q3, va_K.moved (u := U) (U := U.calling g mk a) (Vm.Alike.refl U.vm) q4, EnvR.vm (s := U) (U := U.calling g mk a) (H := U.heap) rfl q5⟩
/-- what a call comes to: what the callee's contract says, over the caller's world -/
theorem call_core {p : Program} {e : Env} {R : Room} {s : State} {m : MethodId} {args : Array Value} {below : List Frame} {meth : Method} {c : Code} {H : Heap} {locs : List Loc} {ls : Array Slot} {Q : State → Prop} {ad ad0 : Nat → Nat} {n0 : Nat} {A : Nat → Prop} {Φ' : Out → Mem → Prop} {mc' ms' : Nat} {st0 rest : List Value} {a9 : Array Value}
    (hr : vx_Run p l e R s m args below meth c H locs ca sl mc' ms' (F0 m pc ls st0) rest (QcM D cy (Ar ad μ.1 H.size) ad μ.1 Φ' a9) (XcM D cy (Ar ad μ.1 H.size) ad μ.1 Φ') (Ar ad μ.1 H.size))
    (hD : va_D A (wld cy ad μ)) (hS : va_S A s.heap H locs) (hA : ∀ q : Nat, s.heap.size ≤ q → A q) (ha : (∀ i : Nat, (i < n0 ∨ μ.1 ≤ i) → ad i = ad0 i) ∧ n0 ≤ μ.1)
    (kk : ∀ (v : Option AV) (ν : Mem) (ad' : Nat → Nat) (H1 : Heap) (locs1 : List Loc), Φ' (.inl v) ν → rW ν.1 v → va_P D vwCl (wld cy ad' ν) H1 → va_D A (wld cy ad' ν) → va_S A s.heap H1 locs1 → (∀ i : Nat, (i < μ.1 ∨ ν.1 ≤ i) → ad' i = ad i) → ((∀ i : Nat, (i < n0 ∨ ν.1 ≤ i) → ad' i = ad0 i) ∧ n0 ≤ ν.1) → W p l e R s m args below meth c H1 locs1 (ca + mc') (sl + ms') Q (F0 m (pc + 3) ls ((v.map (cv ad')).toList ++ rest)))
    (kx : ∀ (E : String) (ν : Mem) (ad' : Nat → Nat) (H1 : Heap) (locs1 : List Loc) (q9 : Addr) (ce : Cell), Φ' (.inr E) ν → va_P D vwCl (wld cy ad' ν) H1 → va_D A (wld cy ad' ν) → va_S A s.heap H1 locs1 → (∀ i : Nat, (i < μ.1 ∨ ν.1 ≤ i) → ad' i = ad i) → ((∀ i : Nat, (i < n0 ∨ ν.1 ≤ i) → ad' i = ad0 i) ∧ n0 ≤ ν.1) → H1[q9]? = some ce → ce.vm = .none → s.vm.findClass E = some ce.cls → vx_W p l e R s m args below meth c H1 locs1 (ca + mc') (sl + ms') Q (F0 m pc ls rest) q9) :
    W p l e R s m args below meth c H locs ca sl Q (F0 m pc ls st0) := by
  have hAr : ∀ q : Nat, Ar ad μ.1 H.size q → A q := fun q h => by
    rcases h with ⟨i, hi, rfl⟩ | h
    · exact hD.2 i _ (wld_get hi)
    · exact hA q (Nat.le_trans hS.1 h)
  have hag : ∀ {ad' : Nat → Nat} {ν : Mem}, (∀ i : Nat, (i < μ.1 ∨ ν.1 ≤ i) → ad' i = ad i) → μ.1 ≤ ν.1 → ((∀ i : Nat, (i < n0 ∨ ν.1 ≤ i) → ad' i = ad0 i) ∧ n0 ≤ ν.1) := by
    intro ad' ν f1 f2
    refine ⟨fun i hi => ?_, Nat.le_trans ha.2 f2⟩
    rcases hi with h | h
    · rw [f1 i (Or.inl (Nat.lt_of_lt_of_le h ha.2)), ha.1 i (Or.inl h)]
    · rw [f1 i (Or.inr h), ha.1 i (Or.inr (Nat.le_trans f2 h))]
  intro T hT X
  rcases hr T hT X with ⟨v9, st₀, t, T', L, h0, X', hL, e1, e2, ⟨⟨v, ν, ad', hv, hΦ, hrw, f1, f2, f3, f4⟩, hF⟩, stp⟩ | ⟨q9, st₀, t, T', L, E, ce, h0, X', hL, e1, e2, ⟨⟨ν, ad', hΦ, f1, f2, f3, f4⟩, hF⟩, hce, hcv, hcl, stp⟩
  · cases hv
    obtain ⟨k1, k2, k3⟩ := vx_keep h0 e1 hS (fun q _ h => hAr q h) hAr hL hF
    obtain ⟨t2, a1, b1⟩ := kk v ν ad' T'.heap (locs ++ L) hΦ hrw (by rw [e1]; exact f3) (f4.weaken (fun _ _ _ h => hAr _ h)) k3 f1 (hag f1 f2) T' rfl X'
    exact ⟨t2, stp t2 a1, b1⟩
  · obtain ⟨k1, k2, k3⟩ := vx_keep h0 e1 hS (fun q _ h => hAr q h) hAr hL hF
    obtain ⟨t2, a1, b1⟩ := kx E ν ad' T'.heap (locs ++ L) q9 ce hΦ (by rw [e1]; exact f3) (f4.weaken (fun _ _ _ h => hAr _ h)) k3 f1 (hag f1 f2) (by rw [e1]; exact hce) hcv hcl T' rfl X'
    exact ⟨t2, stp.trans a1, b1⟩
theorem call_pre {s : State} {H : Heap} {locs : List Loc} {ad : Nat → Nat} {A : Nat → Prop} {as : List AV} (hK : va_K D vwCl (tys cy) s) (hev : EnvR A s s.heap) (hP : va_P D vwCl (wld cy ad μ) H) (hD : va_D A (wld cy ad μ)) (hS : va_S A s.heap H locs) (hA : ∀ q : Nat, s.heap.size ≤ q → A q) :
    ∀ U : State, U.heap = H → s.WarmedH U.vm → Pre D cy as μ ad H.size (as.map (cv ad)).toArray U := by
  intro U hU hW
  have hAr : ∀ q : Nat, Ar ad μ.1 H.size q → A q := fun q h => by
    rcases h with ⟨i, hi, rfl⟩ | h
    · exact hD.2 i _ (wld_get hi)
    · exact hA q (Nat.le_trans hS.1 h)
  exact ⟨rfl, by rw [hU], by rw [hU]; exact hP, hD.weaken (fun _ _ _ _ => trivial), va_K.moved hW.alike hK, by rw [hU]; exact (((hev.moved hW).kept (fun a h1 h2 => hS.2.1 a h1 h2)).narrow hAr)⟩
end JC
