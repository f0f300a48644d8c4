/-! contracts of one outcome, and the calls of such methods -/
def det (v : Option AV) (μ : Mem) : Out → Mem → Prop := fun o ν => o = .inl v ∧ ν = μ
/-- never throws, makes no cells -/
def Calm (n : Nat) (Φ : Out → Mem → Prop) : Prop := ∀ (q : Out) (ν : Mem), Φ q ν → (∃ v, q = .inl v) ∧ ν.1 = n
theorem calm_det {v : Option AV} {μ : Mem} : Calm μ.1 (det v μ) := fun q ν h => ⟨⟨v, h.1⟩, by rw [h.2]⟩
theorem isWithin_fact : True := trivial
section JD
variable {l : Launch} {D : va_G} {cy : Nat → ClassId} {Γ : Ctx} {o : Nat} {cc : ByteArray} {nL d mc ms : Nat} {ini : Bool} {ret : Option FieldType} {Φ : Out → Mem → Prop} {pc : Nat} {lv : List (Option AV)} {st : List AV} {μ : Mem} {ca sl : Nat}
theorem J_rnG (hF : Fa D cy Γ o cc nL d mc ms ini) (hd1 : 1 ≤ d) (hca : ca ≤ mc) (hsl : sl ≤ ms) (n pc : Nat) (lv : List (Option AV)) (st : List AV) (μ : Mem) (h : ∀ K : K9, (∀ pc lv st μ, K pc lv st μ = J l D cy Γ pc lv st μ ca sl) → rn o ini cc n pc lv st μ K) : J l D cy Γ pc lv st μ ca sl :=
  J_rn hF hd1 hca hsl n pc lv st μ (h _ (fun _ _ _ _ => rfl))
theorem J_callV {d' idx n maxL c' ci : Nat} {y : MethodName} {bytes : ByteArray} {ret' : Option FieldType} {as : List AV} {Φ' : Out → Mem → Prop} {stk : List AV} (hF : Fa D cy Γ o cc nL d mc ms ini) (hok : Ok l D cy d' 0 0 y bytes maxL ret' (.inr (.inr (some c')) :: as) μ Φ') (hcalm : Calm μ.1 Φ')
    (hd : decode cc pc = .ok (.invokevirtual idx, 3)) (hc : cOK 0 o idx y bytes maxL ret' n) (hdd : d' + 1 ≤ d) (hM : maxL ≤ 21) (hm : ca ≤ mc ∧ sl ≤ ms) (hn9 : as.length = n) (hk : kd c' = ci) (hcl : y.cls = Cn ci) (hk10 : ci < 10) (hc' : c' < μ.1) (hst : st.length ≤ 4) (hs : stk = as.reverse ++ .inr (.inr (some c')) :: st)
    (k : ∀ (v : Option AV) (ν : Mem), Φ' (.inl v) ν → J l D cy Γ (pc + 3) lv (v.toList ++ st) ν ca sl) : J l D cy Γ pc lv stk μ ca sl := by
  subst hk
  exact J_callV0 hF hok hd hc hdd hM hm hn9 hcl hk10 hc' hst hs (fun q ν h => Or.inl (hcalm q ν h).2) (fun E ν h => by obtain ⟨⟨v, hv⟩, -⟩ := hcalm _ _ h; cases hv) (fun v ν h _ => k v ν h)
theorem J_callVd {d' idx n maxL c' ci : Nat} {y : MethodName} {bytes : ByteArray} {ret' : Option FieldType} {as : List AV} {v0 : Option AV} {μ' : Mem} {stk : List AV} (hF : Fa D cy Γ o cc nL d mc ms ini) (hok : Ok l D cy d' 0 0 y bytes maxL ret' (.inr (.inr (some c')) :: as) μ (det v0 μ'))
    (hd : decode cc pc = .ok (.invokevirtual idx, 3)) (hc : cOK 0 o idx y bytes maxL ret' n) (hdd : d' + 1 ≤ d) (hM : maxL ≤ 21) (hm : ca ≤ mc ∧ sl ≤ ms) (hn9 : as.length = n) (hk : kd c' = ci) (hcl : y.cls = Cn ci) (hk10 : ci < 10) (hc' : c' < μ.1) (hst : st.length ≤ 4) (hs : stk = as.reverse ++ .inr (.inr (some c')) :: st) (hμ : μ'.1 = μ.1)
    (k : J l D cy Γ (pc + 3) lv (v0.toList ++ st) μ' ca sl) : J l D cy Γ pc lv stk μ ca sl := by
  refine J_callV hF hok (by rw [← hμ]; exact calm_det) hd hc hdd hM hm hn9 hk hcl hk10 hc' hst hs (fun v ν h => ?_)
  obtain ⟨h1, rfl⟩ := h
  cases h1
  exact k
theorem J_callS {d' idx n maxL : Nat} {y : MethodName} {bytes : ByteArray} {ret' : Option FieldType} {as : List AV} {Φ' : Out → Mem → Prop} {stk : List AV} (hF : Fa D cy Γ o cc nL d mc ms ini) (hok : Ok l D cy d' 0 0 y bytes maxL ret' as μ Φ') (hcalm : Calm μ.1 Φ')
    (hd : decode cc pc = .ok (.invokestatic idx, 3)) (hc : cOK 1 o idx y bytes maxL ret' n) (hdd : d' + 1 ≤ d) (hM : maxL ≤ 21) (hm : ca ≤ mc ∧ sl ≤ ms) (hn9 : as.length = n) (hst : st.length ≤ 4) (hs : stk = as.reverse ++ st)
    (k : ∀ (v : Option AV) (ν : Mem), Φ' (.inl v) ν → J l D cy Γ (pc + 3) lv (v.toList ++ st) ν ca sl) : J l D cy Γ pc lv stk μ ca sl :=
  J_callS0 hF hok hd hc hdd hM hm hn9 hst hs (fun q ν h => Or.inl (hcalm q ν h).2) (fun E ν h => by obtain ⟨⟨v, hv⟩, -⟩ := hcalm _ _ h; cases hv) (fun v ν h _ => k v ν h)
theorem J_callSd {d' idx n maxL : Nat} {y : MethodName} {bytes : ByteArray} {ret' : Option FieldType} {as : List AV} {v0 : Option AV} {μ' : Mem} {stk : List AV} (hF : Fa D cy Γ o cc nL d mc ms ini) (hok : Ok l D cy d' 0 0 y bytes maxL ret' as μ (det v0 μ'))
    (hd : decode cc pc = .ok (.invokestatic idx, 3)) (hc : cOK 1 o idx y bytes maxL ret' n) (hdd : d' + 1 ≤ d) (hM : maxL ≤ 21) (hm : ca ≤ mc ∧ sl ≤ ms) (hn9 : as.length = n) (hst : st.length ≤ 4) (hs : stk = as.reverse ++ st) (hμ : μ'.1 = μ.1)
    (k : J l D cy Γ (pc + 3) lv (v0.toList ++ st) μ' ca sl) : J l D cy Γ pc lv stk μ ca sl := by
  refine J_callS hF hok (by rw [← hμ]; exact calm_det) hd hc hdd hM hm hn9 hst hs (fun v ν h => ?_)
  obtain ⟨h1, rfl⟩ := h
  cases h1
  exact k
end JD
