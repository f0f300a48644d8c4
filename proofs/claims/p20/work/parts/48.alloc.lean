/-! RULES FOR MAKING: a new cell takes the next number -/
theorem cel_ad {cy : Nat → ClassId} {ad ad' : Nat → Nat} {n n' : Nat} {Rf : Nat → Nat → Option Nat} {M : Nat → Nat → Int} {c : Nat} (h : ∀ k r, Rf c k = some r → ad' r = ad r) : cel cy ad' (n', Rf, M) c = cel cy ad (n, Rf, M) c := by
  have e : ∀ k, (Rf c k).map ad' = (Rf c k).map ad := by
    intro k
    cases hk : Rf c k with
    | none => rfl
    | some r => simp [h k r hk]
  unfold cel
  simp only [fva, e]
def adN (ad : Nat → Nat) (n q : Nat) : Nat → Nat := fun i => if i = n then q else ad i
theorem adN_s {ad : Nat → Nat} {n q : Nat} : adN ad n q n = q := by simp [adN]
theorem adN_n {ad : Nat → Nat} {n q i : Nat} (h : i ≠ n) : adN ad n q i = ad i := by simp [adN, h]
/-- no cell refers to one that isn't made yet -/
def RK (n : Nat) (Rf : Nat → Nat → Option Nat) : Prop := ∀ c k r, c < n → Rf c k = some r → r < n
/-- what isn't made yet is empty -/
def Z0 (n : Nat) (Rf : Nat → Nat → Option Nat) (M : Nat → Nat → Int) : Prop := ∀ c k, n ≤ c → Rf c k = none ∧ M c k = 0
theorem wld_add {cy : Nat → ClassId} {ad : Nat → Nat} {n q : Nat} {Rf : Nat → Nat → Option Nat} {M : Nat → Nat → Int} (hR : RK n Rf) : wld cy (adN ad n q) (n + 1, Rf, M) = wld cy ad (n, Rf, M) ++ [(q, cel cy (adN ad n q) (n, Rf, M) n)] := by
  unfold wld
  show (List.range (n + 1)).map _ = _
  rw [List.range_succ, List.map_append, List.map_singleton, adN_s]
  congr 1
  apply List.map_congr_left
  intro d hd
  have hd : d < n := List.mem_range.mp hd
  rw [adN_n (by omega)]
  congr 1
  exact cel_ad (fun k r hr => adN_n (by have := hR d k r hd hr; omega))
theorem cv_adN {ad : Nat → Nat} {n q : Nat} {v : AV} (hn : n < 1000000) (hv : refs n (some v) = true) : cv (adN ad n q) v = cv ad v := by
  rcases v with z | z | r
  · rfl
  · rfl
  · cases r with
    | none => rfl
    | some x =>
      simp only [refs, Bool.or_eq_true, decide_eq_true_eq] at hv
      simp only [cv, Option.map_some]
      rw [adN_n (by omega)]
def W0 (n : Nat) (Rf : Nat → Nat → Option Nat) (M : Nat → Nat → Int) : Prop := Z0 n Rf M ∧ RK n Rf
section JN
variable {l : Launch} {D : va_G} {cy : Nat → ClassId} {Γ : Ctx} {o : Nat} {cc : ByteArray} {nL d mc ms : Nat} {ini : Bool} {pc : Nat} {lv : List (Option AV)} {st : List AV} {ca sl : Nat}
/-- what surrounds a new cell: the locals and the stack stay -/
theorem new_lv {ad : Nat → Nat} {n q : Nat} {ls : Array Slot} (hn : n < 1000000) (hw : inW n lv st) (hl : lv_has ls lv.length (prs ad lv)) : lv_has ls lv.length (prs (adN ad n q) lv) ∧ st.map (cv (adN ad n q)) = st.map (cv ad) := by
  refine ⟨prs_sub (lv := lv) hl rfl (fun i v hv => ?_), List.map_congr_left (fun v hv => cv_adN hn (hw.2 v hv))⟩
  rw [cv_adN hn (hw.1 _ (lg_mem lv i v hv))]
  exact prs_mem.mpr ⟨v, hv, rfl⟩
def nOK (o idx ci : Nat) : Prop := ci < 10 ∧ Cond.classLink (oN o) idx (Cn ci) ∈ gT ∧ Cond.instantiable (Cn ci) (Nn ci) ∈ gT ∧ Cond.initialized (Cn ci) ∈ gT
theorem dfl_all : ∀ ci, ci < 10 → ∀ k, k < Nn ci → defaultValue (tyT ci k) = (if fty ci k = 2 then Value.null else Value.int (Int32.ofInt 0)) := by
  intro ci hci k hk
  have h := fty_all ci hci k hk
  revert h
  generalize tyT ci k = ty
  generalize fty ci k = t
  intro h
  unfold tyOK at h
  split at h <;> first | rfl | cases h
theorem J_new {idx ci n : Nat} {Rf : Nat → Nat → Option Nat} {M : Nat → Nat → Int} (hF : Fa D cy Γ o cc nL d mc ms ini) (hd : decode cc pc = .ok (.new idx, 3)) (hN : nOK o idx ci) (hk : kd n = ci) (hWW : W0 n Rf M) (hn : n < 1000000) (hw : inW n lv st) (hm : ca + 1 ≤ mc ∧ sl + Nn ci ≤ ms)
    (k : J l D cy Γ (pc + 3) lv (.inr (.inr (some n)) :: st) (n + 1, Rf, M) (ca + 1) (sl + Nn ci)) : J l D cy Γ pc lv st (n, Rf, M) ca sl := by
  obtain ⟨hz, hR⟩ := id hWW
  intro p e s m args below meth c A R Q ad0 n0 hG ad H locs ls hP hD hS hl hnl ha
  obtain ⟨⟨hx, hb, hml, hown⟩, hts, hK, hA, ⟨hmc, hms, hfr, hlo⟩, hlk, hin, hev⟩ := hF _ _ _ _ _ _ _ _ _ _ _ _ _ hG
  obtain ⟨h10, q1, q2, q3⟩ := hN
  refine va_new (own := oN o) (C := Cn ci) (T := Tn ci) (N := Nn ci) (ci := ci) (Ts := gT) hx hb hts (cw_all h10) (tyT ci) (ty_all h10) hown (hts _ q1) (hts _ q2) (hts _ q3) hK hP hD hS hA (vwCl_at h10) (fs := (List.range (Nn ci)).map (fun k => if fty ci k = 2 then Value.null else Value.int (Int32.ofInt 0))) (fun j hj => ?_) (by rw [hmc]; exact hm.1) (by rw [hms]; exact hm.2) hd (fun q H1 hP1 hD1 hS1 => ?_)
  · rw [dfl_all ci h10 j hj, vp_V]
    simp [hj]
  · obtain ⟨b1, b2⟩ := new_lv (q := q) hn hw hl
    have ec : cel cy (adN ad n q) (n, Rf, M) n = .inr (ci, (List.range (Nn ci)).map (fun k => if fty ci k = 2 then Value.null else Value.int (Int32.ofInt 0))) := by
      rw [cel_o hk h10]
      congr 2
      refine List.map_congr_left (fun j _ => ?_)
      simp only [fva, (hz n j (Nat.le_refl n)).1, (hz n j (Nat.le_refl n)).2]
      rfl
    rw [← ec, ← wld_add hR] at hP1 hD1
    have k' := k p e s m args below meth c A R Q ad0 n0 hG (adN ad n q) H1 locs ls hP1 hD1 hS1 b1 hnl ⟨fun i hi => by
      have h1 := ha.1 i (by rcases hi with h | h; exact Or.inl h; exact Or.inr (show n ≤ i by have : n + 1 ≤ i := h; omega))
      rw [adN_n (by
        have h2 : n0 ≤ n := ha.2
        rcases hi with h | h
        · omega
        · have : n + 1 ≤ i := h
          omega), h1], Nat.le_succ_of_le ha.2⟩
    rw [List.map_cons, b2] at k'
    have e9 : cv (adN ad n q) (.inr (.inr (some n))) = .ref q := by simp [cv, va_rf, adN_s]
    rw [e9] at k'
    exact k'
/-- behind the making: the walk goes on over the world with the new cell -/
theorem grow {p : Program} {e : Env} {s : State} {m : MethodId} {args : Array Value} {below : List Frame} {meth : Method} {c : Code} {A : Nat → Prop} {R : Room} {Q : State → Prop} {ad0 : Nat → Nat} {n0 pc' n q ca' sl' : Nat} {Rf : Nat → Nat → Option Nat} {M : Nat → Nat → Int} {ad : Nat → Nat} {H1 : Heap} {locs : List Loc} {ls : Array Slot} {ee : va_E} (hG : Γ p e s m args below meth c A R Q ad0 n0) (hR : RK n Rf) (hn : n < 1000000) (hw : inW n lv st) (hl : lv_has ls lv.length (prs ad lv)) (hnl : lv.length = c.maxLocals) (ha : (∀ i : Nat, (i < n0 ∨ n ≤ i) → ad i = ad0 i) ∧ n0 ≤ n) (ec : cel cy (adN ad n q) (n, Rf, M) n = ee) (hP1 : va_P D vwCl (wld cy ad (n, Rf, M) ++ [(q, ee)]) H1) (hD1 : va_D A (wld cy ad (n, Rf, M) ++ [(q, ee)])) (hS1 : va_S A s.heap H1 locs)
    (k : J l D cy Γ pc' lv (.inr (.inr (some n)) :: st) (n + 1, Rf, M) ca' sl') : W p l e R s m args below meth c H1 locs ca' sl' Q (F0 m pc' ls (.ref q :: st.map (cv ad))) := by
  obtain ⟨b1, b2⟩ := new_lv (q := q) hn hw hl
  rw [← ec, ← wld_add hR] at hP1 hD1
  have k' := k p e s m args below meth c A R Q ad0 n0 hG (adN ad n q) H1 locs ls hP1 hD1 hS1 b1 hnl ⟨fun i hi => by
    have h1 := ha.1 i (by rcases hi with h | h; exact Or.inl h; exact Or.inr (show n ≤ i by have : n + 1 ≤ i := h; omega))
    rw [adN_n (by
      have h2 : n0 ≤ n := ha.2
      rcases hi with h | h
      · omega
      · have : n + 1 ≤ i := h
        omega), h1], Nat.le_succ_of_le ha.2⟩
  rw [List.map_cons, b2] at k'
  have e9 : cv (adN ad n q) (.inr (.inr (some n))) = .ref q := by simp [cv, va_rf, adN_s]
  rw [e9] at k'
  exact k'
theorem len_ok {N : Nat} (h : N ≤ 100000) : ¬ Int32.ofInt (N : Int) < 0 ∧ (Int32.ofInt (N : Int)).toNatClampNeg = N := by
  rw [ofI_nI (by omega), Int.toNat_natCast]
  exact ⟨nI_pos (by omega), nI_clamp (by omega)⟩
theorem wAcI : Cond.arrayClass .int ∈ gT := by decide +kernel
theorem J_newI {n N : Nat} {Rf : Nat → Nat → Option Nat} {M : Nat → Nat → Int} (hF : Fa D cy Γ o cc nL d mc ms ini) (hd : decode cc pc = .ok (.newarray .int, 2)) (hk : kd n = 10) (hlen : ln n = N) (hN : N ≤ 100000) (hWW : W0 n Rf M) (hn : n < 1000000) (hw : inW n lv st) (hm : ca + 1 ≤ mc ∧ sl + N ≤ ms)
    (k : J l D cy Γ (pc + 2) lv (.inr (.inr (some n)) :: st) (n + 1, Rf, M) (ca + 1) (sl + N)) : J l D cy Γ pc lv (.inl (N : Int) :: st) (n, Rf, M) ca sl := by
  obtain ⟨hz, hR⟩ := id hWW
  intro p e s m args below meth c A R Q ad0 n0 hG ad H locs ls hP hD hS hl hnl ha
  obtain ⟨⟨hx, hb, hml, hown⟩, hts, hK, hA, ⟨hmc, hms, hfr, hlo⟩, hlk, hin, hev⟩ := hF _ _ _ _ _ _ _ _ _ _ _ _ _ hG
  obtain ⟨l1, l2⟩ := len_ok hN
  refine va_newa (ty := .int) (N' := N) (a0 := (N, .inl (fun _ => Int32.ofInt 0))) hx hb (atype := .int) (hts _ wAcI) rfl hK hP hD hS hA (fun _ => rfl) l1 l2 (by show N * 4 ≤ _; omega) (by rw [hmc]; exact hm.1) (by rw [hms]; exact hm.2) hd (fun q cA H1 hK1 hP1 hD1 hS1 => ?_)
  have ecy : cA = cy 10 := by
    have h1 : s.vm.findClass ("[" ++ FieldType.int.toString) = some (cy 10) := (hK.2 0 _ rfl).2
    have h2 : s.vm.findClass ("[" ++ FieldType.int.toString) = some cA := (hK1.2 5 (cA, .int) rfl).2
    exact Option.some.inj (h2.symm.trans h1)
  subst ecy
  refine grow hG hR hn hw hl hnl ha ?_ hP1 hD1 hS1 k
  rw [cel_i hk, hlen]
  simp only [(hz n _ (Nat.le_refl n)).2]
/-- Ink[] and Job[] -/
def qOK (o idx kk : Nat) (C : String) : Prop := Cond.classLink (oN o) idx C ∈ gT ∧ ((kk = 12 ∧ C = "InkKitchen$Ink") ∨ (kk = 13 ∧ C = "InkKitchen$Job"))
theorem J_newQ {idx n N kk : Nat} {C : String} {Rf : Nat → Nat → Option Nat} {M : Nat → Nat → Int} (hF : Fa D cy Γ o cc nL d mc ms ini) (hd : decode cc pc = .ok (.anewarray idx, 3)) (hq : qOK o idx kk C) (hk : kd n = kk) (hlen : ln n = N) (hN : N ≤ 100000) (hWW : W0 n Rf M) (hn : n < 1000000) (hw : inW n lv st) (hm : ca + 1 ≤ mc ∧ sl + N ≤ ms)
    (k : J l D cy Γ (pc + 3) lv (.inr (.inr (some n)) :: st) (n + 1, Rf, M) (ca + 1) (sl + N)) : J l D cy Γ pc lv (.inl (N : Int) :: st) (n, Rf, M) ca sl := by
  obtain ⟨hz, hR⟩ := id hWW
  intro p e s m args below meth c A R Q ad0 n0 hG ad H locs ls hP hD hS hl hnl ha
  obtain ⟨⟨hx, hb, hml, hown⟩, hts, hK, hA, ⟨hmc, hms, hfr, hlo⟩, hlk, hin, hev⟩ := hF _ _ _ _ _ _ _ _ _ _ _ _ _ hG
  obtain ⟨l1, l2⟩ := len_ok hN
  obtain ⟨q1, q2⟩ := hq
  have hover : va_AO C s := by
    rcases q2 with ⟨-, rfl⟩ | ⟨-, rfl⟩
    · exact hev.2.2.2.1
    · exact hev.2.2.2.2.1
  refine va_newq (N' := N) hx hb hown (hts _ q1) hover hK hP hD hS hA l1 l2 (by omega) (by rw [hmc]; exact hm.1) (by rw [hms]; exact hm.2) hd (fun q cA H1 hK1 hP1 hD1 hS1 => ?_)
  have ecy : cA = cy kk := by
    obtain ⟨-, -, -, -, -, -, h2⟩ := hK1.2 5 (cA, .object C) rfl
    rcases q2 with ⟨rfl, rfl⟩ | ⟨rfl, rfl⟩
    · obtain ⟨-, -, -, -, -, -, h1⟩ := hK.2 2 (cy 12, .object "InkKitchen$Ink") rfl
      exact Option.some.inj (h2.symm.trans h1)
    · obtain ⟨-, -, -, -, -, -, h1⟩ := hK.2 3 (cy 13, .object "InkKitchen$Job") rfl
      exact Option.some.inj (h2.symm.trans h1)
  subst ecy
  refine grow hG hR hn hw hl hnl ha ?_ hP1 hD1 hS1 k
  rw [cel_r (by rcases q2 with ⟨h, -⟩ | ⟨h, -⟩ <;> omega), hk, hlen]
  simp only [(hz n _ (Nat.le_refl n)).1]
  rfl
/-- int[][] -/
theorem J_newA {idx n N : Nat} {Rf : Nat → Nat → Option Nat} {M : Nat → Nat → Int} (hF : Fa D cy Γ o cc nL d mc ms ini) (hd : decode cc pc = .ok (.anewarray idx, 3)) (hq : Cond.classLink (oN o) idx (FieldType.array .int).toString ∈ gT) (hk : kd n = 14) (hlen : ln n = N) (hN : N ≤ 100000) (hWW : W0 n Rf M) (hn : n < 1000000) (hw : inW n lv st) (hm : ca + 1 ≤ mc ∧ sl + N ≤ ms)
    (k : J l D cy Γ (pc + 3) lv (.inr (.inr (some n)) :: st) (n + 1, Rf, M) (ca + 1) (sl + N)) : J l D cy Γ pc lv (.inl (N : Int) :: st) (n, Rf, M) ca sl := by
  obtain ⟨hz, hR⟩ := id hWW
  intro p e s m args below meth c A R Q ad0 n0 hG ad H locs ls hP hD hS hl hnl ha
  obtain ⟨⟨hx, hb, hml, hown⟩, hts, hK, hA, ⟨hmc, hms, hfr, hlo⟩, hlk, hin, hev⟩ := hF _ _ _ _ _ _ _ _ _ _ _ _ _ hG
  obtain ⟨l1, l2⟩ := len_ok hN
  refine W.anewA (t := .int) hx hb hown (hts _ hq) (va_AOA.use hev.2.2.2.2.2) rfl hd rfl l1 (by rw [l2]; omega) (by rw [hmc]; exact hm.1) (by rw [l2, hms]; exact hm.2) (fun cA kA comp f1 f2 f3 f4 => ?_)
  rw [l2]
  have ecy : cA = cy 14 := by
    have h1 : s.vm.findClass ("[" ++ (FieldType.array .int).toString) = some (cy 14) := (hK.2 4 _ rfl).2
    exact Option.some.inj (f1.symm.trans h1)
  subst ecy
  generalize hH1 : H.push ({ cls := cy 14, slots := Array.replicate N .null, vm := .none } : Cell) = H1
  have z1 : H1.size = H.size + 1 := by rw [← hH1, Array.size_push]
  have e1 : H1[H.size]? = some (arrV (cy 14) N (fun _ => .null)) := by rw [← hH1, Array.getElem?_push_size, ← arrV_new]
  have o1 : ∀ q : Nat, q < H.size → H1[q]? = H[q]? := fun q hq => by rw [← hH1, Array.getElem?_push, if_neg (Nat.ne_of_lt hq)]
  have hkp : ∀ (k : Nat) (x : Nat × va_E), (wld cy ad (n, Rf, M))[k]? = some x → H1[x.1]? = H[x.1]? := fun k x hx => o1 x.1 ((hP k x hx).lt)
  have hP1 : va_P D vwCl (wld cy ad (n, Rf, M) ++ [(H.size, (Sum.inl (cy 14, N, .inr (.inr (.inr (.inr (fun _ => none))))) : va_E))]) H1 := (hP.kept hkp).app (fun k x hx => by
    have hz : k < 1 := (List.getElem?_eq_some_iff.mp hx).1
    rw [show k = 0 by omega] at hx
    cases hx
    show H1[H.size]? = some (vp_cell _ _)
    rw [vp_cell_q]
    exact e1)
  refine grow hG hR hn hw hl hnl ha ?_ hP1 (hD.push hP rfl (hA _ hS.1)) ⟨Nat.le_trans hS.1 (by omega), fun x h1 h2 => (o1 x (Nat.lt_of_lt_of_le h1 hS.1)).trans (hS.2.1 x h1 h2), hS.2.2⟩ k
  rw [cel_r (by omega), hk, hlen]
  simp only [(hz n _ (Nat.le_refl n)).1]
  rfl
end JN
