def cstL : List ((Nat × Nat) × Int) := [((7, 44), 1000000), ((10, 7), 2147483647), ((10, 8), 40503), ((8, 91), 100000)]
def cst (o i : Nat) : Option Int := (cstL.find? (fun q => q.1.1 == o && q.1.2 == i)).map (fun q => q.2)
def csl (_ _ : Nat) : Option Int := none
theorem cst_7_44 : cst 7 44 = some 1000000 := rfl
theorem cst_10_7 : cst 10 7 = some 2147483647 := rfl
theorem cst_10_8 : cst 10 8 = some 40503 := rfl
theorem cst_8_91 : cst 8 91 = some 100000 := rfl
theorem cw_7_44 : Cond.constant (oN 7) 44 (Int32.ofInt (1000000)) ∈ gT := gT_of 447 (by decide +kernel) rfl
theorem cw_10_7 : Cond.constant (oN 10) 7 (Int32.ofInt (2147483647)) ∈ gT := gT_of 478 (by decide +kernel) rfl
theorem cw_10_8 : Cond.constant (oN 10) 8 (Int32.ofInt (40503)) ∈ gT := gT_of 482 (by decide +kernel) rfl
theorem cw_8_91 : Cond.constant (oN 8) 91 (Int32.ofInt (100000)) ∈ gT := gT_of 491 (by decide +kernel) rfl
theorem cst_ok {o i : Nat} {z : Int} (h : cst o i = some z) : Cond.constant (oN o) i (Int32.ofInt z) ∈ gT := by
  unfold cst at h
  cases hf : cstL.find? (fun q => q.1.1 == o && q.1.2 == i) with
  | none => rw [hf] at h; cases h
  | some q =>
    rw [hf] at h
    have h1 := List.find?_some hf
    have h2 := List.mem_of_find?_eq_some hf
    simp only [Bool.and_eq_true, beq_iff_eq] at h1
    simp only [Option.map_some, Option.some.injEq] at h
    obtain ⟨e1, e2⟩ := h1
    subst e1 e2 h
    simp only [cstL, List.mem_cons, List.not_mem_nil, or_false] at h2
    rcases h2 with rfl | rfl | rfl | rfl
    · exact cw_7_44
    · exact cw_10_7
    · exact cw_10_8
    · exact cw_8_91
theorem csl_ok {o i : Nat} {z : Int} (h : csl o i = some z) : Cond.constantLong (oN o) i (Int64.ofInt z) ∈ gT := by
  unfold csl at h
  cases h
def exNames : List String := ["java/lang/RuntimeException", "java/lang/Exception"]
/-- what the tables say of 'throw new cls()' in the class InkKitchen -/
def tOK (ik ic : Nat) (cls : String) : Prop := Cond.classLink RX8 ik cls ∈ gT ∧ Cond.initialized cls ∈ gT ∧ Bundle.fit cls = true ∧ (∀ w ∈ (vx_at0 RX8 ic cls exNames).filter goodWord, w ∈ gT) ∧ (∀ w ∈ (vx_at0 RX8 ic cls exNames).filter (fun w => !goodWord w), w ∈ bads) ∧ (∀ w ∈ Cond.classLink RX8 ik cls :: Cond.initialized cls :: vx_at0 RX8 ic cls exNames, vx_ot w = true)
set_option maxRecDepth 20000 in
theorem tOK_70 : tOK 70 72 "java/lang/IllegalArgumentException" := ⟨gT_of 289 (by decide +kernel) rfl, gT_of 29 (by decide +kernel) rfl, by decide +kernel, by decide +kernel, by decide +kernel, by decide +kernel⟩
set_option maxRecDepth 20000 in
theorem tOK_77 : tOK 77 79 "java/lang/IllegalStateException" := ⟨gT_of 352 (by decide +kernel) rfl, gT_of 31 (by decide +kernel) rfl, by decide +kernel, by decide +kernel, by decide +kernel, by decide +kernel⟩
set_option maxRecDepth 20000 in
theorem tOK_215 : tOK 215 217 "java/lang/IndexOutOfBoundsException" := ⟨gT_of 382 (by decide +kernel) rfl, gT_of 28 (by decide +kernel) rfl, by decide +kernel, by decide +kernel, by decide +kernel, by decide +kernel⟩
/-- 0 Math.abs, 1 Math.min, 2 Object() -/
def jdL : List ((Nat × Nat) × (Nat × Nat)) := [((3, 27), (0, 431)), ((7, 45), (1, 448)), ((5, 126), (0, 575)), ((1, 39), (1, 630)), ((8, 210), (0, 631)), ((8, 1), (2, 37)), ((6, 3), (2, 45)), ((0, 3), (2, 53)), ((3, 3), (2, 92)), ((2, 3), (2, 109)), ((5, 3), (2, 123)), ((4, 3), (2, 129)), ((7, 3), (2, 184)), ((1, 3), (2, 206))]
def jd (o i : Nat) : Option (Nat × Nat) := (jdL.find? (fun q => q.1.1 == o && q.1.2 == i)).map (fun q => q.2)
theorem jd_3_27 : jd 3 27 = some (0, 431) := rfl
theorem jd_7_45 : jd 7 45 = some (1, 448) := rfl
theorem jd_5_126 : jd 5 126 = some (0, 575) := rfl
theorem jd_1_39 : jd 1 39 = some (1, 630) := rfl
theorem jd_8_210 : jd 8 210 = some (0, 631) := rfl
theorem jd_8_1 : jd 8 1 = some (2, 37) := rfl
theorem jd_6_3 : jd 6 3 = some (2, 45) := rfl
theorem jd_0_3 : jd 0 3 = some (2, 53) := rfl
theorem jd_3_3 : jd 3 3 = some (2, 92) := rfl
theorem jd_2_3 : jd 2 3 = some (2, 109) := rfl
theorem jd_5_3 : jd 5 3 = some (2, 123) := rfl
theorem jd_4_3 : jd 4 3 = some (2, 129) := rfl
theorem jd_7_3 : jd 7 3 = some (2, 184) := rfl
theorem jd_1_3 : jd 1 3 = some (2, 206) := rfl
def jdN (k : Nat) : MethodName := match k with | 0 => Lib.Math.abs.name | 1 => Lib.Math.min.name | _ => objectInit
def jdC (q : (Nat × Nat) × (Nat × Nat)) : Bool := decide (lw_tbl[q.2.2]? = some (Cond.methodLink (oN q.1.1) q.1.2 (jdN q.2.1)))
theorem jdL_ok : jdL.all jdC = true := by decide +kernel
theorem jd_ok {o i k pl : Nat} (h : jd o i = some (k, pl)) : Cond.methodLink (oN o) i (jdN k) ∈ gT := by
  unfold jd at h
  cases hf : jdL.find? (fun q => q.1.1 == o && q.1.2 == i) with
  | none => rw [hf] at h; cases h
  | some q =>
    rw [hf] at h
    have h1 := List.find?_some hf
    have h2 := List.all_eq_true.mp jdL_ok q (List.mem_of_find?_eq_some hf)
    simp only [Bool.and_eq_true, beq_iff_eq] at h1
    simp only [Option.map_some, Option.some.injEq] at h
    obtain ⟨⟨o', i'⟩, k', p'⟩ := q
    obtain ⟨e1, e2⟩ := h1
    dsimp only at e1 e2 h h2
    subst e1 e2
    cases h
    simp only [jdC, decide_eq_true_eq] at h2
    exact gT_of _ h2 rfl
theorem wAbsS : Cond.static Lib.Math.abs.name ∈ gT := gT_of 432 (by decide +kernel) rfl
theorem wAbsC : Cond.code Lib.Math.abs.name Lib.Math.abs.code 1 (some .int) ∈ gT := gT_of 433 (by decide +kernel) rfl
theorem wMinS : Cond.static Lib.Math.min.name ∈ gT := gT_of 449 (by decide +kernel) rfl
theorem wMinC : Cond.code Lib.Math.min.name Lib.Math.min.code 2 (some .int) ∈ gT := gT_of 450 (by decide +kernel) rfl
theorem wMathI : Cond.initialized "java/lang/Math" ∈ gT := gT_of 30 (by decide +kernel) rfl
theorem wObjI : Cond.instanceMethod objectInit ∈ gT := gT_of 38 (by decide +kernel) rfl
theorem wObjC : Cond.code objectInit ⟨#[0xb1]⟩ 1 none ∈ gT := gT_of 39 (by decide +kernel) rfl
section JT
variable {l : Launch} {D : va_G} {cy : Nat → ClassId} {Γ : Ctx} {o : Nat} {cc : ByteArray} {nL d mc ms : Nat} {ini : Bool} {ret : Option FieldType} {Φ : Out → Mem → Prop} {pc : Nat} {lv : List (Option AV)} {st : List AV} {μ : Mem} {ca sl : Nat}
theorem J_throw {ik ic : Nat} {cls : String} (hl9 : l.stackTraces = false) (hT : tOK ik ic cls) (d0 : decode cc pc = .ok (.new ik, 3)) (d3 : decode cc (pc + 3) = .ok (.dup, 1)) (d4 : decode cc (pc + 4) = .ok (.invokespecial ic, 3)) (d7 : decode cc (pc + 7) = .ok (.athrow, 1)) (hd6 : 6 ≤ d) (hst : st.length ≤ 4) (hc : ca + 1 ≤ mc) (hs : sl + 6 ≤ ms) (h : Φ (.inr cls) μ) : J l D cy (GM l D cy 8 cc nL d mc ms ini ret Φ) pc lv st μ ca sl := by
  intro p e s m args below meth c A R Q ad0 n0 hG ad H locs ls hP hD hS hl hn ha
  obtain ⟨⟨⟨hx, hb, hml, hown⟩, hts, hK, hA, ⟨hmc, hms, hfr, hlo⟩, hlk, hin, hev⟩, hret, hout, hAA, hQ⟩ := hG
  obtain ⟨t1, t2, t3, t4, t5, t6⟩ := hT
  obtain ⟨e1, e2, e3, -⟩ := hev
  subst hQ
  refine vx_throw0 (own := RX8) (cls := cls) (names := exNames) hx hb hl9 hown t3 (by decide +kernel) (hts _ t1) (hts _ t2) (vx_hat (B := bads) (fun w hw => hts w (t4 w hw)) t5 (fun w hw => va_Nw.use (by
    simp only [bads, List.mem_cons, List.not_mem_nil, or_false] at hw
    rcases hw with rfl | rfl | rfl | rfl | rfl | rfl <;> rfl) (e3 w hw))) t6 e1 e2 hS (by rw [← hn]; exact hl.1) d0 d3 d4 d7 (fun x hx => (hout x hx).elim) (by show 2 + 3 < R.frames; omega) (by
    have := cat_sum (ad := ad) st
    show _ + (13 * (2 + 1) + 42) ≤ R.locals
    omega) (by rw [hmc]; exact hc) (by rw [hms]; exact hs) hlk (fun t _ hz hk => ⟨⟨μ, ad, h, ha.1, ha.2, hP.kept (fun k q hq => hk q.1 ((hP k q hq).lt)), hD⟩, ⟨Nat.le_trans hS.1 hz, fun q h1 h2 => by rw [hk q (Nat.lt_of_lt_of_le h1 hS.1)]; exact hS.2.1 q h1 h2⟩⟩) hS.2.2 hc hs
theorem J_abs {i pl : Nat} {z : Int} (hF : Fa D cy Γ o cc nL d mc ms ini) (hd : decode cc pc = .ok (.invokestatic i, 3)) (hj : jd o i = some (0, pl)) (hd1 : 1 ≤ d) (hst : st.length ≤ 8) (hca : ca ≤ mc) (hsl : sl ≤ ms) (hz : -2147483647 ≤ z ∧ z ≤ 2147483647) (k : J l D cy Γ (pc + 3) lv (.inl (z.natAbs : Int) :: st) μ ca sl) : J l D cy Γ pc lv (.inl z :: st) μ ca sl := by
  intro p e s m args below meth c A R Q ad0 n0 hG ad H locs ls hP hD hS hl hn ha
  obtain ⟨⟨hx, hb, hml, hown⟩, hts, hK, hA, ⟨hmc, hms, hfr, hlo⟩, hlk, hin, hev⟩ := hF _ _ _ _ _ _ _ _ _ _ _ _ _ hG
  have k' := k p e s m args below meth c A R Q ad0 n0 hG ad H locs ls hP hD hS hl hn ha
  refine va_mabs hx hb (by rw [← hn]; exact hl.1.symm) hown (hts _ (jd_ok hj)) (hts _ wAbsS) (hts _ wMathI) (hts _ wAbsC) (by omega) (by have := cat_sum (ad := ad) st; omega) (by rw [hmc]; exact hca) (by rw [hms]; exact hsl) hd ?_
  have e9 : cv ad (.inl (z.natAbs : Int)) = .int (if 0 ≤ Int32.ofInt z then Int32.ofInt z else 0 - Int32.ofInt z) := by
    show Value.int _ = _
    congr 1
    rw [← ofI_0]
    by_cases h : 0 ≤ z
    · rw [if_pos ((r32_le r32_0 ⟨by omega, hz.2⟩).mpr h)]
      congr 1
      omega
    · rw [if_neg (fun q => h ((r32_le r32_0 ⟨by omega, hz.2⟩).mp q)), ← Int32.ofInt_sub]
      congr 1
      omega
  rw [List.map_cons, e9] at k'
  exact k'
theorem J_min {i pl : Nat} {a b : Int} (hF : Fa D cy Γ o cc nL d mc ms ini) (hd : decode cc pc = .ok (.invokestatic i, 3)) (hj : jd o i = some (1, pl)) (hd1 : 1 ≤ d) (hst : st.length ≤ 8) (hca : ca ≤ mc) (hsl : sl ≤ ms) (h1 : r32 a) (h2 : r32 b) (k : J l D cy Γ (pc + 3) lv (.inl (if b < a then b else a) :: st) μ ca sl) : J l D cy Γ pc lv (.inl b :: .inl a :: st) μ ca sl := by
  intro p e s m args below meth c A R Q ad0 n0 hG ad H locs ls hP hD hS hl hn ha
  obtain ⟨⟨hx, hb, hml, hown⟩, hts, hK, hA, ⟨hmc, hms, hfr, hlo⟩, hlk, hin, hev⟩ := hF _ _ _ _ _ _ _ _ _ _ _ _ _ hG
  have k' := k p e s m args below meth c A R Q ad0 n0 hG ad H locs ls hP hD hS hl hn ha
  refine va_mmin hx hb (by rw [← hn]; exact hl.1.symm) hown (hts _ (jd_ok hj)) (hts _ wMinS) (hts _ wMathI) (hts _ wMinC) (by omega) (by have := cat_sum (ad := ad) st; omega) (by rw [hmc]; exact hca) (by rw [hms]; exact hsl) hd ?_
  have e9 : cv ad (.inl (if b < a then b else a)) = .int (if Int32.ofInt b < Int32.ofInt a then Int32.ofInt b else Int32.ofInt a) := by
    show Value.int _ = _
    congr 1
    by_cases h : b < a
    · rw [if_pos h, if_pos ((r32_lt h2 h1).mpr h)]
    · rw [if_neg h, if_neg (fun q => h ((r32_lt h2 h1).mp q))]
  rw [List.map_cons, e9] at k'
  exact k'
theorem J_objInit {i pl c' : Nat} (hF : Fa D cy Γ o cc nL d mc ms ini) (hd : decode cc pc = .ok (.invokespecial i, 3)) (hj : jd o i = some (2, pl)) (hd1 : 1 ≤ d) (hst : st.length ≤ 8) (k : J l D cy Γ (pc + 3) lv st μ ca sl) : J l D cy Γ pc lv (.inr (.inr (some c')) :: st) μ ca sl := by
  intro p e s m args below meth c A R Q ad0 n0 hG ad H locs ls hP hD hS hl hn ha
  obtain ⟨⟨hx, hb, hml, hown⟩, hts, hK, hA, ⟨hmc, hms, hfr, hlo⟩, hlk, hin, hev⟩ := hF _ _ _ _ _ _ _ _ _ _ _ _ _ hG
  refine W.objInit (g := F0 m pc ls (.ref (ad c') :: st.map (cv ad))) hx hb hown (hts _ (jd_ok hj)) (hts _ wObjI) (hts _ wObjC) rfl (by rw [← hn]; exact hl.1) rfl hd (by omega) (by
    have := cat_sum (ad := ad) st
    have h2 : (F0 m pc ls (.ref (ad c') :: st.map (cv ad))).monitorRoom = 0 := rfl
    rw [h2]
    omega) ?_
  exact k p e s m args below meth c A R Q ad0 n0 hG ad H locs ls hP hD hS hl hn ha
end JT

