/-! what is made, in order: the words of each making, and what stays true of the world -/
theorem W0.z {n : Nat} {Rf : Nat → Nat → Option Nat} {M : Nat → Nat → Int} (h : W0 n Rf M) : Z0 n Rf M := h.1
theorem W0.r {n : Nat} {Rf : Nat → Nat → Option Nat} {M : Nat → Nat → Int} (h : W0 n Rf M) : RK n Rf := h.2
theorem W0.new {n : Nat} {Rf : Nat → Nat → Option Nat} {M : Nat → Nat → Int} (h : W0 n Rf M) : W0 (n + 1) Rf M := ⟨fun c k hc => h.1 c k (by omega), fun c k r hc hr => by
  rcases (show c < n ∨ c = n by omega) with q | q
  · have := h.2 c k r q hr
    omega
  · rw [q, (h.1 n k (Nat.le_refl n)).1] at hr
    cases hr⟩
theorem W0.up {n c k : Nat} {z : Int} {Rf : Nat → Nat → Option Nat} {M : Nat → Nat → Int} (h : W0 n Rf M) (hc : c < n) : W0 n Rf (up2 M c k z) := ⟨fun x j hx => ⟨(h.1 x j hx).1, by rw [up2_c (by omega)]; exact (h.1 x j hx).2⟩, h.2⟩
theorem W0.ur {n c k r : Nat} {Rf : Nat → Nat → Option Nat} {M : Nat → Nat → Int} (h : W0 n Rf M) (hc : c < n) (hr : r < n) : W0 n (upR Rf c k (some r)) M := ⟨fun x j hx => ⟨by simp only [upR]; rw [if_neg (by omega)]; exact (h.1 x j hx).1, (h.1 x j hx).2⟩, fun x j q hx hq => by
  simp only [upR] at hq
  split at hq
  · cases hq
    exact hr
  · exact h.2 x j q hx hq⟩
theorem W0.many {n N : Nat} {Rf : Nat → Nat → Option Nat} {M : Nat → Nat → Int} (h : W0 n Rf M) : W0 (n + 1 + N) (upM Rf n N) M := ⟨fun x j hx => ⟨by unfold upM; rw [if_neg (by omega)]; exact (h.1 x j (by omega)).1, (h.1 x j (by omega)).2⟩, fun x j q hx hq => by
  unfold upM at hq
  split at hq
  · cases hq
    omega
  · rcases (show x < n ∨ n ≤ x by omega) with e | e
    · have := h.2 x j q e hq
      omega
    · rw [(h.1 x j e).1] at hq
      cases hq⟩
theorem W0.mn {m n N : Nat} {Rf : Nat → Nat → Option Nat} {M : Nat → Nat → Int} (h : W0 n Rf M) (hm : m = n + 1 + N) : W0 m (upM Rf n N) M := by
  subst hm
  exact W0.many h
theorem inW_of {n : Nat} {lv : List (Option AV)} {st : List AV} (h : lv.all (refs n) = true) (h2 : st.all (fun v => refs n (some v)) = true) : inW n lv st := ⟨fun v hv => List.all_eq_true.mp h v hv, fun v hv => List.all_eq_true.mp h2 v hv⟩
/-- the cells from c to n' are f's, the others g's -/
def rng {α : Type} (c n' : Nat) (f g : Nat → Nat → α) : Nat → Nat → α := fun x k => if c ≤ x ∧ x < n' then f x k else g x k
theorem rng_in {α : Type} {c n' x k : Nat} {f g : Nat → Nat → α} (h : c ≤ x ∧ x < n') : rng c n' f g x k = f x k := if_pos h
theorem rng_out {α : Type} {c n' x k : Nat} {f g : Nat → Nat → α} (h : ¬ (c ≤ x ∧ x < n')) : rng c n' f g x k = g x k := if_neg h
theorem W0.rg {c n n' : Nat} {Rf : Nat → Nat → Option Nat} {f M : Nat → Nat → Int} (h : W0 n Rf M) (hn : n ≤ n') (hR : ∀ x k r, c ≤ x → x < n' → R0 x k = some r → r < n') : W0 n' (rng c n' R0 Rf) (rng c n' f M) := ⟨fun x j hx => ⟨by rw [rng_out (by omega)]; exact (h.1 x j (by omega)).1, by rw [rng_out (by omega)]; exact (h.1 x j (by omega)).2⟩, fun x j q hx hq => by
  rcases (show (c ≤ x ∧ x < n') ∨ ¬ (c ≤ x ∧ x < n') by omega) with e | e
  · rw [rng_in e] at hq
    exact hR x j q e.1 e.2 hq
  · rw [rng_out e] at hq
    rcases (show x < n ∨ n ≤ x by omega) with e2 | e2
    · have := h.2 x j q e2 hq
      omega
    · rw [(h.1 x j e2).1] at hq
      cases hq⟩
theorem nk_1_18 : nOK 1 18 0 := ⟨by decide, by decide +kernel, by decide +kernel, by decide +kernel⟩
theorem nk_5_9 : nOK 5 9 4 := ⟨by decide, by decide +kernel, by decide +kernel, by decide +kernel⟩
theorem nk_5_18 : nOK 5 18 2 := ⟨by decide, by decide +kernel, by decide +kernel, by decide +kernel⟩
theorem nk_6_17 : nOK 6 17 0 := ⟨by decide, by decide +kernel, by decide +kernel, by decide +kernel⟩
theorem nk_8_7 : nOK 8 7 6 := ⟨by decide, by decide +kernel, by decide +kernel, by decide +kernel⟩
theorem nk_8_20 : nOK 8 20 0 := ⟨by decide, by decide +kernel, by decide +kernel, by decide +kernel⟩
theorem nk_8_27 : nOK 8 27 1 := ⟨by decide, by decide +kernel, by decide +kernel, by decide +kernel⟩
theorem nk_8_33 : nOK 8 33 3 := ⟨by decide, by decide +kernel, by decide +kernel, by decide +kernel⟩
theorem nk_8_40 : nOK 8 40 2 := ⟨by decide, by decide +kernel, by decide +kernel, by decide +kernel⟩
theorem nk_8_47 : nOK 8 47 5 := ⟨by decide, by decide +kernel, by decide +kernel, by decide +kernel⟩
theorem nk_8_54 : nOK 8 54 7 := ⟨by decide, by decide +kernel, by decide +kernel, by decide +kernel⟩
theorem nk_10_10 : nOK 10 10 8 := ⟨by decide, by decide +kernel, by decide +kernel, by decide +kernel⟩
theorem qk_6_17 : qOK 6 17 12 "InkKitchen$Ink" := ⟨by decide +kernel, Or.inl ⟨rfl, rfl⟩⟩
theorem qk_8_27 : qOK 8 27 13 "InkKitchen$Job" := ⟨by decide +kernel, Or.inr ⟨rfl, rfl⟩⟩
theorem ak_6_9 : Cond.classLink (oN 6) 9 (FieldType.array .int).toString ∈ gT := by decide +kernel
theorem mk_7_15 : Cond.classLink (oN 7) 15 ("[" ++ (FieldType.array .int).toString) ∈ gT := by decide +kernel
section JQ
variable {l : Launch} {D : va_G} {cy : Nat → ClassId} {Γ : Ctx} {o : Nat} {cc : ByteArray} {nL d mc ms : Nat} {ini : Bool} {pc : Nat} {lv : List (Option AV)} {st : List AV} {ca sl : Nat}
theorem J_newc {idx ci n w : Nat} {Rf : Nat → Nat → Option Nat} {M : Nat → Nat → Int} (hF : Fa D cy Γ o cc nL d mc ms ini) (hd : decode cc pc = .ok (.new idx, 3)) (hN : nOK o idx ci) (hk : kd n = ci) (hw9 : Nn ci = w) (hWW : W0 n Rf M) (hn : n < 1000000) (hw : inW n lv st) (hm : ca + 1 ≤ mc ∧ sl + w ≤ ms)
    (k : J l D cy Γ (pc + 3) lv (.inr (.inr (some n)) :: st) (n + 1, Rf, M) (ca + 1) (sl + w)) : J l D cy Γ pc lv st (n, Rf, M) ca sl := by
  obtain ⟨hz, hR⟩ := id hWW
  subst hw9
  exact J_new hF hd hN hk hWW hn hw hm k
theorem J_callId {d' mc' ms' idx n maxL c' : Nat} {y : MethodName} {bytes : ByteArray} {as : List AV} {stk : List AV} {μ μ' : Mem} (hF : Fa D cy Γ o cc nL d mc ms ini) (hok : Ok l D cy d' mc' ms' y bytes maxL none (.inr (.inr (some c')) :: as) μ (det none μ'))
    (hd : decode cc pc = .ok (.invokespecial idx, 3)) (hc : cOK 2 o idx y bytes maxL none n) (hdd : d' + 1 ≤ d) (hM : maxL ≤ 21) (hm : ca + mc' ≤ mc ∧ sl + ms' ≤ ms) (hn9 : as.length = n) (hst : st.length ≤ 4) (hs : stk = as.reverse ++ .inr (.inr (some c')) :: st)
    (hw : inW μ.1 lv st) (h9 : μ'.1 ≤ 1000000) (k : J l D cy Γ (pc + 3) lv st μ' (ca + mc') (sl + ms')) : J l D cy Γ pc lv stk μ ca sl := by
  refine J_callI hF hok hd hc hdd hM hm hn9 hst hs (fun q ν h => ⟨⟨none, h.1⟩, Or.inr ⟨hw, by rw [h.2]; exact h9⟩⟩) (fun v ν h => ?_)
  obtain ⟨h1, rfl⟩ := h
  cases h1
  exact k
end JQ
