/-! RULES FOR MAKING, on: arrays of references are filled; rows of rows; constructors are called -/
/-! ===== BEGIN a constructor that throws (launches without stack traces) ===== -/
section VXIA
variable {p : Program} {l : Launch} {e : Env} {R : Room} {s : State} {m : MethodId} {args : Array Value} {below : List Frame} {meth : Method} {c : Code} {T : State} {locs : List Loc} {cells slots : Nat}
theorem vx_callI (X : Stand p l e R s m args below meth c T locs cells slots) (hexec : p.tables.exec = Jvm.exec) {own : String} {index : Nat} {y : MethodName} {bytes : ByteArray} {maxL : Nat}
    (hown : s.vm.findClass own = some m.cls) (hy1 : y.name = "<init>") (hlink : (Cond.methodLink own index y).before args s = true) (hinst : (Cond.instanceMethod y).before args s = true)
    (hcode : (Cond.code y bytes maxL none).before args s = true) (hy : y.cls ≠ "java/lang/invoke/MethodHandle" ∧ y.cls ≠ "java/lang/invoke/VarHandle")
    {W9 : Nat} {Pre : Pt → Array Value → Prop} {Post : Pt → Array Value → Option Value → Pt → Prop} {PostX : Pt → Array Value → Addr → Pt → Prop} (hK : vx_Back l R p e below s args y 3 W9 Pre Post PostX)
    {g : JFrame} (hg : g.method = m) (hsize : g.locals.size = c.maxLocals) {a : Addr} {argsL rest : List Value} (hlen : ∀ sig, parseMethodDescriptor y.desc = some sig → argsL.length = sig.parameters.length)
    (hstack : g.stack = argsL.reverse ++ .ref a :: rest) (hW : 2 * g.monitorRoom + (rest.map fun v => v.category).sum ≤ W9) (hdg : decode c.code g.pc = .ok (.invokespecial index, 3))
    (hpre : ∀ vm₁, s.WarmedH vm₁ → Pre ⟨T.setVm vm₁, locs, cells, slots⟩ (Value.ref a :: argsL).toArray) :
    (∃ (v : Option Value) (vm₁ : Vm) (B : Pt), s.WarmedH vm₁ ∧ Stand p l e R s m args below meth c B.U B.locs B.cells B.slots ∧ Post ⟨T.setVm vm₁, locs, cells, slots⟩ (Value.ref a :: argsL).toArray v B ∧
      ∀ target, Steps p.tables e below (B.U.setTop { g with pc := g.pc + 3, stack := v.toList ++ rest }) target → Steps p.tables e below (T.setTop g) target) ∨
    (∃ (q : Addr) (vm₁ : Vm) (B : Pt), s.WarmedH vm₁ ∧ Stand p l e R s m args below meth c B.U B.locs B.cells B.slots ∧ PostX ⟨T.setVm vm₁, locs, cells, slots⟩ (Value.ref a :: argsL).toArray q B ∧
      Steps p.tables e below (T.setTop g) ((B.U.setTop { g with stack := rest }).pushFrame (.throwing q))) := by
  subst hg
  have hpl : e.platform.magicAccessors = ({} : Platform).magicAccessors := by rw [X.admits.platform]
  obtain ⟨mk, methM, cM, kP, vm₁, hnamed, hmethM, hcodeM, -, hlocalsM, -, hkP, -, hW₁, hstep₁⟩ := Steps.initColdArgs (e := e) X.here hexec X.warmed hpl hown hy1 hy hlink hinst hcode (f := g) rfl hlen hstack hdg
  have X₁ := X.noted hW₁
  rcases hK g.method meth c ⟨T.setVm vm₁, locs, cells, slots⟩ { g with stack := rest } (.invokespecial index) mk (Value.ref a :: argsL).toArray X₁ rfl hsize hdg hW (X₁.named hnamed) (hpre vm₁ X₁.warmed) with ⟨v, B, X', hpost, hsteps⟩ | ⟨q, B, X', hpost, hsteps⟩
  · exact Or.inl ⟨v, vm₁, B, X₁.warmed, X', hpost, fun target h => hstep₁ _ fun acts => by rw [doInvoke_state]; exact hsteps.trans h⟩
  · exact Or.inr ⟨q, vm₁, B, X₁.warmed, X', hpost, hstep₁ _ fun acts => by rw [doInvoke_state]; exact hsteps⟩
end VXIA
section VXIB
variable {p : Program} {l : Launch} {e : Env} {R : Room} {s : State} {m : MethodId} {args : Array Value} {below : List Frame} {meth : Method} {c : Code} {H : Heap} {locs : List Loc} {cells slots : Nat}
variable {y : MethodName} {bytes cc : ByteArray} {maxL nL mc ms n index : Nat} {ret : Option FieldType} {ws : List Cond} {rm : Room} {Pc : Array Value → State → Prop} {Qc : Array Value → State → Outcome → State → Prop} {XC : String → State → State → Prop} {free : Addr → Prop} {Ts : List Cond} {own C : String} {b : Addr} {As rest : List Value} {g : JFrame}
theorem vx_runI (S : CallFix p m c cc nL s args Ts own) (hM : vx_Met l y ws rm Pc Qc XC mc ms free) (cw : CallB R s args own index y bytes maxL none ws rm mc ms n ∧ y.name = "<init>" ∧ (Cond.instanceMethod y).before args s = true) (hp : PreS s H Pc (.ref b :: As))
    (hg : g.method = m) (hn : As.length = n) (hsize : g.locals.size = nL) (hstack : g.stack = As.reverse ++ .ref b :: rest) (hW : 2 * g.monitorRoom + (rest.map fun v => v.category).sum ≤ 8) (hdg : decode cc g.pc = .ok (.invokespecial index, 3)) (hf : cells + mc ≤ R.cells ∧ slots + ms ≤ R.slots) :
    vx_Run p l e R s m args below meth c H locs cells slots mc ms g rest (Qc (Value.ref b :: As).toArray) XC free := by
  have hK : vx_Back l R p e below s args y 3 8 (PreOf R mc ms Pc) (PostOf Qc mc ms free) (vx_Post XC mc ms free) := vx_callBack cw.1 hM hp.1
  obtain ⟨⟨-, -, -, -, -, -, hcode, -, hy, hlen, hl⟩, hy1, hin⟩ := cw
  obtain ⟨hx, hb, hml, ho, -⟩ := S
  have hPc := hp.2
  intro T hT X
  rcases vx_callI X hx (bytes := bytes) (maxL := maxL) ho hy1 hl hin hcode hy hK hg (hsize.trans hml.symm) (a := b) (argsL := As) (rest := rest) (fun sig h => hn.trans (hlen sig h)) hstack hW (by rw [hb]; exact hdg)
    (fun vm₁ hW₁ => ⟨hf.1, hf.2, hPc (T.setVm vm₁) hT hW₁⟩) with ⟨v, vm₁, ⟨U', l2, c2, s2⟩, hW₁, X', ⟨g', mk, t, L, e1, e2, hq, h1, hL, h2, h3⟩, st⟩ | ⟨q, vm₁, ⟨U', l2, c2, s2⟩, hW₁, X', ⟨g', mk, t, L, E, ce, e1, e2, hq, hce, hcv, hcl, h1, hL, h2, h3⟩, st⟩
  · dsimp only [Pt.U, Pt.locs, Pt.cells, Pt.slots] at X' e1 e2 h1 h2 h3 st
    subst h1; subst h2; subst h3
    exact Or.inl ⟨v, (T.setVm vm₁).calling g' mk (Value.ref b :: As).toArray, t, U', L, hT, X', hL, e1, e2, hq, st⟩
  · dsimp only [Pt.U, Pt.locs, Pt.cells, Pt.slots] at X' e1 e2 h1 h2 h3 st hcl
    subst h1; subst h2; subst h3
    exact Or.inr ⟨q, (T.setVm vm₁).calling g' mk (Value.ref b :: As).toArray, t, U', L, E, ce, hT, X', hL, e1, e2, hq, hce, hcv, vx_cls hW₁ hcl, st⟩
end VXIB
/-! ===== END ===== -/
section JO
variable {l : Launch} {D : va_G} {cy : Nat → ClassId} {Γ : Ctx} {o : Nat} {cc : ByteArray} {nL d mc ms : Nat} {ini : Bool} {pc : Nat} {lv : List (Option AV)} {st : List AV} {ca sl : Nat}
/-- an Ink or a Job into its array -/
theorem J_astQ {a v kk ci : Nat} {j : Int} {n : Nat} {Rf : Nat → Nat → Option Nat} {M : Nat → Nat → Int} (hF : Fa D cy Γ o cc nL d mc ms ini) (hd : decode cc pc = .ok (.aastore, 1)) (hq : (kk = 12 ∧ ci = 0) ∨ (kk = 13 ∧ ci = 1)) (hk : kd a = kk) (hkv : kd v = ci) (ha9 : a < n) (hv9 : v < n) (h0 : 0 ≤ j) (h1 : j < ln a) (k : J l D cy Γ (pc + 1) lv st (n, upR Rf a j.toNat (some v), M) ca sl) : J l D cy Γ pc lv (.inr (.inr (some v)) :: .inl j :: .inr (.inr (some a)) :: st) (n, Rf, M) ca sl := by
  intro p e s m args below meth c A R Q ad0 n0 hG ad H locs ls hP hD hS hl hn ha
  obtain ⟨⟨hx, hb, hml, hown⟩, hts, hK, hA, ⟨hmc, hms, hfr, hlo⟩, hlk, hin, hev⟩ := hF _ _ _ _ _ _ _ _ _ _ _ _ _ hG
  have he := wld_get (cy := cy) (ad := ad) (μ := (n, Rf, M)) ha9
  rw [cel_r (by omega), hk] at he
  have hev2 := wld_get (cy := cy) (ad := ad) (μ := (n, Rf, M)) hv9
  rw [cel_o hkv (by omega)] at hev2
  have ew := wld_set (cy := cy) (ad := ad) (μ := (n, Rf, M)) (ν := (n, upR Rf a j.toNat (some v), M)) (c := a) (e := .inl (cy kk, ln a, .inr (.inr (.inr (.inr (va_up (fun j => (Rf a j).map ad) (Int32.ofInt j).toNatClampNeg (some (ad v)))))))) rfl (by
    rw [cel_r (by omega), hk, ix_cl h0 h1]
    congr 7
    funext q
    by_cases hq : q = j.toNat
    · subst hq; simp [va_up, upR]
    · simp [va_up, upR, hq]) (fun d hd => cel_upR hd)
  rcases hq with ⟨rfl, rfl⟩ | ⟨rfl, rfl⟩
  · refine va_astq hx hb hK hP hD hS a 2 v 0 (r := (Cn 0, Tn 0, Nn 0)) he rfl hev2 (vwCl_at (by decide)) (ix_in h0 h1) hd (fun H1 locs1 hP1 hD1 hS1 => ?_)
    rw [ew] at hP1 hD1
    exact k p e s m args below meth c A R Q ad0 n0 hG ad H1 locs1 ls hP1 hD1 hS1 hl hn ha
  · refine va_astq hx hb hK hP hD hS a 3 v 1 (r := (Cn 1, Tn 1, Nn 1)) he rfl hev2 (vwCl_at (by decide)) (ix_in h0 h1) hd (fun H1 locs1 hP1 hD1 hS1 => ?_)
    rw [ew] at hP1 hD1
    exact k p e s m args below meth c A R Q ad0 n0 hG ad H1 locs1 ls hP1 hD1 hS1 hl hn ha
/-- an int[] into an int[][] -/
theorem J_astI {a v : Nat} {j : Int} {n : Nat} {Rf : Nat → Nat → Option Nat} {M : Nat → Nat → Int} (hF : Fa D cy Γ o cc nL d mc ms ini) (hd : decode cc pc = .ok (.aastore, 1)) (hk : kd a = 14) (hkv : kd v = 10) (ha9 : a < n) (hv9 : v < n) (h0 : 0 ≤ j) (h1 : j < ln a) (k : J l D cy Γ (pc + 1) lv st (n, upR Rf a j.toNat (some v), M) ca sl) : J l D cy Γ pc lv (.inr (.inr (some v)) :: .inl j :: .inr (.inr (some a)) :: st) (n, Rf, M) ca sl := by
  intro p e s m args below meth c A R Q ad0 n0 hG ad H locs ls hP hD hS hl hn ha
  obtain ⟨⟨hx, hb, hml, hown⟩, hts, hK, hA, ⟨hmc, hms, hfr, hlo⟩, hlk, hin, hev⟩ := hF _ _ _ _ _ _ _ _ _ _ _ _ _ hG
  have he := wld_get (cy := cy) (ad := ad) (μ := (n, Rf, M)) ha9
  rw [cel_r (by omega), hk] at he
  have hev2 := wld_get (cy := cy) (ad := ad) (μ := (n, Rf, M)) hv9
  rw [cel_i hkv] at hev2
  have ew := wld_set (cy := cy) (ad := ad) (μ := (n, Rf, M)) (ν := (n, upR Rf a j.toNat (some v), M)) (c := a) (e := .inl (cy 14, ln a, .inr (.inr (.inr (.inr (va_up (fun j => (Rf a j).map ad) (Int32.ofInt j).toNatClampNeg (some (ad v)))))))) rfl (by
    rw [cel_r (by omega), hk, ix_cl h0 h1]
    congr 7
    funext q
    by_cases hq : q = j.toNat
    · subst hq; simp [va_up, upR]
    · simp [va_up, upR, hq]) (fun d hd => cel_upR hd)
  obtain ⟨comp, cA, kA, f1, -, f3, f4, f5⟩ := arrayOverA_spec (va_AOA.use (A := args) hev.2.2.2.2.2)
  have g14 : s.vm.findClass ("[" ++ (FieldType.array .int).toString) = some (cy 14) := (hK.2 4 _ rfl).2
  have g10 : s.vm.findClass ("[" ++ FieldType.int.toString) = some (cy 10) := (hK.2 0 _ rfl).2
  have eA : cA = cy 14 := Option.some.inj (f5.symm.trans g14)
  have eC : comp = cy 10 := Option.some.inj (f1.symm.trans g10)
  subst eA
  subst eC
  obtain ⟨kC, hkC, -⟩ := Vm.findClass_spec g10
  have hin9 : vp_in (Int32.ofInt j) (ln a) := ix_in h0 h1
  have hlt : (Int32.ofInt j).toNatClampNeg < ln a := Nat.not_le.mp fun q => hin9 (Or.inr q)
  have hn0 : ¬ Int32.ofInt j < 0 := fun q => hin9 (Or.inl q)
  refine W.aast hx hb (hP a _ he) (fun q h => by cases h) (fun h => by cases h) f3 f4 rfl hkC ⟨hn0, by show _ < (arrV _ _ _).slots.size; rw [arrV_size]; exact hlt⟩ (hP v _ hev2) (fun q h => by cases h) hkC (va_asg _ _) rfl rfl hd fun H1 e1 z oq => ?_
  have hP1 := hP.set (e := (Sum.inl (cy 14, ln a, .inr (.inr (.inr (.inr (va_up (fun j => (Rf a j).map ad) (Int32.ofInt j).toNatClampNeg (some (ad v))))))) : va_E)) hD he (by
    show H1[ad a]? = some (vp_cell _ _)
    rw [e1]
    rw [vp_cell_q, vp_cell_q, arrV_store]
    congr 2
    funext q
    by_cases hq : q = (Int32.ofInt j).toNatClampNeg
    · subst hq
      simp [updV, va_up, va_rf]
    · simp [updV, va_up, hq]) oq
  rw [ew] at hP1
  exact k p e s m args below meth c A R Q ad0 n0 hG ad H1 _ ls hP1 (by rw [← ew]; exact hD.set he) (hS.put z oq (hD.2 a _ he)) hl hn ha
theorem wsI_good {o idx : Nat} {y : MethodName} {bytes : ByteArray} {maxL : Nat} {ret' : Option FieldType} {n : Nat} (h : cOK 2 o idx y bytes maxL ret' n) : GoodIn gT (Cond.code y bytes maxL ret' :: gT) := by
  obtain ⟨-, -, h3, -⟩ := h
  have key : ∀ w, w ∈ gT → w ∈ gT ∧ ((w.onTables && w.keeps) = true ∨ ∃ ty, w = .arrayClass ty) := fun w hw => ⟨hw, good_of_word (List.mem_filter.mp hw).2⟩
  intro w hw
  apply key
  rcases List.mem_cons.mp hw with rfl | hw
  · exact h3
  · exact hw
/-- a constructor is called -/
theorem J_callI {d' mc' ms' idx n maxL c' : Nat} {y : MethodName} {bytes : ByteArray} {as : List AV} {Φ' : Out → Mem → Prop} {stk : List AV} {μ : Mem} (hF : Fa D cy Γ o cc nL d mc ms ini) (hok : Ok l D cy d' mc' ms' y bytes maxL none (.inr (.inr (some c')) :: as) μ Φ')
    (hd : decode cc pc = .ok (.invokespecial idx, 3)) (hc : cOK 2 o idx y bytes maxL none n) (hdd : d' + 1 ≤ d) (hM : maxL ≤ 21) (hm : ca + mc' ≤ mc ∧ sl + ms' ≤ ms) (hn9 : as.length = n) (hst : st.length ≤ 4) (hs : stk = as.reverse ++ .inr (.inr (some c')) :: st)
    (hw : ∀ (q : Out) (ν : Mem), Φ' q ν → (∃ v, q = .inl v) ∧ (ν.1 = μ.1 ∨ (inW μ.1 lv st ∧ ν.1 ≤ 1000000)))
    (k : ∀ (v : Option AV) (ν : Mem), Φ' (.inl v) ν → J l D cy Γ (pc + 3) lv (v.toList ++ st) ν (ca + mc') (sl + ms')) : J l D cy Γ pc lv stk μ ca sl := by
  refine J_call_core (d' := d') (idx := idx) (as := .inr (.inr (some c')) :: as) hF (fun q ν h => (hw q ν h).2) ?_ (fun E ν h => by obtain ⟨⟨v, hv⟩, -⟩ := hw _ _ h; cases hv) (fun v ν h _ => k v ν h)
  intro p e s m args below meth c A R Q ad0 n0 hG ad H locs ls hP hD hS hl hn
  obtain ⟨⟨hxx, hb, hml, hown⟩, hts, hK, hA, ⟨hmc, hms, hfr, hlo⟩, hlk, hin, hev⟩ := hF _ _ _ _ _ _ _ _ _ _ _ _ _ hG
  obtain ⟨w1, w2, w3, -, -, w6, w7, w8⟩ := id hc
  obtain ⟨w6a, w6b, -⟩ := w6 rfl
  refine vx_runI (As := as.map (cv ad)) (b := ad c') ⟨hxx, hb, hml, hown, hts⟩ (hok ad H.size) (cwI n hts (wsI_good hc) rfl rfl rfl (hts _ w2) (hts _ w1) (hts _ w6a) w6b ⟨w7.1, w7.2, w8⟩ (run_room hdd hfr hlo hM)) ⟨pre_blind, ?_⟩ rfl (by rw [List.length_map]; exact hn9) (by rw [← hml, ← hn]; exact hl.1) ?_ (by
    have h9 := lv_room (pc := pc) (m := m) (ls := ls) (rest := stk.map (cv ad)) (st := st.map (cv ad)) (Nat.le_trans (cat_sum st) (by omega))
    exact h9) hd ⟨by rw [hmc]; exact hm.1, by rw [hms]; exact hm.2⟩
  · exact call_pre (as := .inr (.inr (some c')) :: as) hK hev hP hD hS hA
  · show stk.map (cv ad) = _
    rw [hs]
    simp [cv, va_rf]
end JO
