/-! a row of rows is made at once -/
def adM (ad : Nat → Nat) (n N q : Nat) (r : Nat → Nat) : Nat → Nat := fun i => if i = n then q else if n < i ∧ i < n + 1 + N then r (i - (n + 1)) else ad i
def upM (Rf : Nat → Nat → Option Nat) (n N : Nat) : Nat → Nat → Option Nat := fun c k => if c = n ∧ k < N then some (n + 1 + k) else Rf c k
theorem wld_many {cy : Nat → ClassId} {ad r : Nat → Nat} {n N K q : Nat} {Rf : Nat → Nat → Option Nat} {M : Nat → Nat → Int} {f : Nat → va_E} (hR : RK n Rf) (hz : Z0 n Rf M) (hk : kd n = 14) (hlen : ln n = N) (hki : ∀ i, i < N → kd (n + 1 + i) = 10 ∧ ln (n + 1 + i) = K) : wld cy (adM ad n N q r) (n + 1 + N, upM Rf n N, M) = (wld cy ad (n, Rf, M) ++ [(q, (Sum.inl (cy 14, N, .inr (.inr (.inr (.inr (fun i => if i < N then some (r i) else none))))) : va_E))]) ++ va_pl ([] ++ (List.range N).map r) (vr_up f ((List.range N).map r) (.inl (cy 10, (K, .inl (fun _ => Int32.ofInt 0))))) := by
  have hlX : (wld cy ad (n, Rf, M)).length = n := by simp [wld]
  have hlY : ((wld cy ad (n, Rf, M)) ++ [(q, (Sum.inl (cy 14, N, .inr (.inr (.inr (.inr (fun i => if i < N then some (r i) else none))))) : va_E))]).length = n + 1 := by simp [hlX]
  apply List.ext_getElem?
  intro i
  rcases (show i < n ∨ i = n ∨ (n < i ∧ i < n + 1 + N) ∨ n + 1 + N ≤ i by omega) with h | h | h | h
  · rw [List.getElem?_append_left (by rw [hlY]; omega), List.getElem?_append_left (by rw [hlX]; omega), wld_get (μ := (n, Rf, M)) (show i < n from h), wld_get (μ := (n + 1 + N, upM Rf n N, M)) (show i < n + 1 + N by omega)]
    have e1 : adM ad n N q r i = ad i := by
      unfold adM
      rw [if_neg (by omega), if_neg (by omega)]
    have e2 : ∀ k, (upM Rf n N i k).map (adM ad n N q r) = (Rf i k).map ad := by
      intro k
      have e3 : upM Rf n N i k = Rf i k := by
        unfold upM
        rw [if_neg (by omega)]
      rw [e3]
      cases hrk : Rf i k with
      | none => rfl
      | some x =>
        have := hR i k x h hrk
        simp only [Option.map_some]
        unfold adM
        rw [if_neg (by omega), if_neg (by omega)]
    rw [e1]
    congr 2
    unfold cel
    simp only [fva, e2]
  · subst h
    rw [List.getElem?_append_left (by rw [hlY]; omega), List.getElem?_append_right (by rw [hlX]; omega), hlX, wld_get (μ := (i + 1 + N, upM Rf i N, M)) (show i < i + 1 + N by omega)]
    simp only [Nat.sub_self, List.getElem?_cons_zero]
    congr 2
    · simp [adM]
    · rw [cel_r (by omega), hk, hlen]
      congr 7
      funext j
      show (upM Rf i N i j).map _ = _
      unfold upM
      rcases (show j < N ∨ ¬ j < N by omega) with hj | hj
      · rw [if_pos ⟨rfl, hj⟩, if_pos hj, Option.map_some]
        unfold adM
        rw [if_neg (by omega), if_pos (by omega), show i + 1 + j - (i + 1) = j by omega]
      · rw [if_neg (by omega), if_neg hj, (hz i j (Nat.le_refl i)).1]
        rfl
  · obtain ⟨j, rfl⟩ : ∃ j, i = n + 1 + j := ⟨i - (n + 1), by omega⟩
    rw [List.getElem?_append_right (by rw [hlY]; omega), hlY, wld_get (μ := (n + 1 + N, upM Rf n N, M)) (show n + 1 + j < n + 1 + N by omega), show n + 1 + j - (n + 1) = j by omega]
    have hj : j < N := by omega
    unfold va_pl
    rw [List.nil_append, List.map_map, List.getElem?_map, List.getElem?_range hj]
    simp only [Option.map_some, Function.comp]
    have e1 : adM ad n N q r (n + 1 + j) = r j := by
      unfold adM
      rw [if_neg (by omega), if_pos (by omega), show n + 1 + j - (n + 1) = j by omega]
    rw [e1, vr_up_in (List.mem_map.mpr ⟨j, List.mem_range.mpr hj, rfl⟩), cel_i (hki j hj).1, (hki j hj).2]
    simp only [(hz (n + 1 + j) _ (by omega)).2]
  · rw [List.getElem?_eq_none (by simp [wld]; omega), List.getElem?_eq_none (by rw [List.length_append, hlY]; simp [va_pl]; omega)]
section JP
variable {l : Launch} {D : va_G} {cy : Nat → ClassId} {Γ : Ctx} {o : Nat} {cc : ByteArray} {nL d mc ms : Nat} {ini : Bool} {pc : Nat} {lv : List (Option AV)} {st : List AV} {ca sl : Nat}
theorem J_mna {idx n N K : Nat} {Rf : Nat → Nat → Option Nat} {M : Nat → Nat → Int} (hF : Fa D cy Γ o cc nL d mc ms ini) (hd : decode cc pc = .ok (.multianewarray idx 2, 4)) (hq : Cond.classLink (oN o) idx ("[" ++ (FieldType.array .int).toString) ∈ gT) (hk : kd n = 14) (hlen : ln n = N) (hki : ∀ i, i < N → kd (n + 1 + i) = 10 ∧ ln (n + 1 + i) = K) (hN : N ≤ 1000) (hK9 : K ≤ 1000) (hWW : W0 n Rf M) (hn : n + 1 + N < 1000000) (hw : inW n lv st) (hm : ca + (1 + N) ≤ mc ∧ sl + (N + N * K) ≤ ms)
    (k : J l D cy Γ (pc + 4) lv (.inr (.inr (some n)) :: st) (n + 1 + N, upM Rf n N, M) (ca + 1 + N) (sl + N + N * K)) : J l D cy Γ pc lv (.inl (K : Int) :: .inl (N : Int) :: st) (n, Rf, M) ca sl := by
  obtain ⟨hz, hR⟩ := id hWW
  intro p e s m args below meth c A R Q ad0 n0 hG ad H locs ls hP hD hS hl hnl ha
  obtain ⟨⟨hx, hb, hml, hown⟩, hts, hK, hA, ⟨hmc, hms, hfr, hlo⟩, hlk, hin, hev⟩ := hF _ _ _ _ _ _ _ _ _ _ _ _ _ hG
  obtain ⟨l1, l2⟩ := len_ok (N := N) (by omega)
  obtain ⟨l3, l4⟩ := len_ok (N := K) (by omega)
  have g10 : s.vm.findClass (FieldType.array .int).toString = some (cy 10) := (hK.2 0 _ rfl).2
  have hP' : va_P D vwCl (wld cy ad (n, Rf, M) ++ va_pl [] (fun _ => (Sum.inr (0, []) : va_E))) H := by
    simpa [va_pl] using hP
  have hD' : va_D A (wld cy ad (n, Rf, M) ++ va_pl [] (fun _ => (Sum.inr (0, []) : va_E))) := by
    simpa [va_pl] using hD
  refine va_mna (ty := .int) (N' := N) (K' := K) (z := (K, .inl (fun _ => Int32.ofInt 0))) hx hb hown (hts _ hq) hev.2.2.2.2.2 (hts _ wAcI) g10 hK hP' hD' hS hA l1 l3 l2 l4 (by omega) (by show K * 4 ≤ _; omega) (by omega) rfl rfl (by rw [hmc]; exact hm.1) (by rw [hms]; exact hm.2) (fun cA => ?_) hd (fun q r cA H1 hr1 hr2 hK1 hP1 hD1 hS1 => ?_)
  · rw [vp_cell_i, ← arrV_new]
    rfl
  · have g14 : s.vm.findClass ("[" ++ (FieldType.array .int).toString) = some (cy 14) := (hK.2 4 _ rfl).2
    have g14' : s.vm.findClass ("[" ++ (FieldType.array .int).toString) = some cA := (hK1.2 5 (cA, .array .int) rfl).2
    have ecy : cA = cy 14 := Option.some.inj (g14'.symm.trans g14)
    subst ecy
    rw [← wld_many hR hz hk hlen hki] at hP1 hD1
    have hn0 : n0 ≤ n := ha.2
    have ead : ∀ i, (i < n ∨ n + 1 + N ≤ i) → adM ad n N q r i = ad i := by
      intro i hi
      unfold adM
      rw [if_neg (by omega), if_neg (by omega)]
    have ecv : ∀ v : AV, refs n (some v) = true → cv (adM ad n N q r) v = cv ad v := by
      intro v hv
      rcases v with z | z | x
      · rfl
      · rfl
      · cases x with
        | none => rfl
        | some x =>
          simp only [refs, Bool.or_eq_true, decide_eq_true_eq] at hv
          simp only [cv, Option.map_some]
          rw [ead x (by omega)]
    have b1 : lv_has ls lv.length (prs (adM ad n N q r) lv) := prs_sub (lv := lv) hl rfl (fun i v hv => by
      rw [ecv v (hw.1 _ (lg_mem lv i v hv))]
      exact prs_mem.mpr ⟨v, hv, rfl⟩)
    have b2 : st.map (cv (adM ad n N q r)) = st.map (cv ad) := List.map_congr_left (fun v hv => ecv v (hw.2 v hv))
    have k' := k p e s m args below meth c A R Q ad0 n0 hG (adM ad n N q r) H1 locs ls hP1 hD1 hS1 b1 hnl ⟨fun i hi => by
      have hi' : i < n0 ∨ n + 1 + N ≤ i := hi
      rw [ead i (by omega)]
      exact ha.1 i (by rcases hi' with h | h; exact Or.inl h; exact Or.inr (show n ≤ i by omega)), by show n0 ≤ n + 1 + N; omega⟩
    rw [List.map_cons, b2] at k'
    have e9 : cv (adM ad n N q r) (.inr (.inr (some n))) = .ref q := by simp [cv, va_rf, adM]
    rw [e9] at k'
    exact k'
end JP
