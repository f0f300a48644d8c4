/-! a run of single instructions, as a formula that simp computes -/
abbrev K9 : Type := Nat → List (Option AV) → List AV → Mem → Prop
def pI (st : List AV) (f : Int → List AV → Prop) : Prop := match st with | .inl a :: t => f a t | _ => False
def pII (st : List AV) (f : Int → Int → List AV → Prop) : Prop := match st with | .inl b :: .inl a :: t => f a b t | _ => False
def pL (st : List AV) (f : Int → List AV → Prop) : Prop := match st with | .inr (.inl a) :: t => f a t | _ => False
def pLL (st : List AV) (f : Int → Int → List AV → Prop) : Prop := match st with | .inr (.inl b) :: .inr (.inl a) :: t => f a b t | _ => False
def pR (st : List AV) (f : Nat → List AV → Prop) : Prop := match st with | .inr (.inr (some c)) :: t => f c t | _ => False
def pRI (st : List AV) (f : Nat → Int → List AV → Prop) : Prop := match st with | .inl j :: .inr (.inr (some c)) :: t => f c j t | _ => False
def pRII (st : List AV) (f : Nat → Int → Int → List AV → Prop) : Prop := match st with | .inl z :: .inl j :: .inr (.inr (some c)) :: t => f c j z t | _ => False
def pRIL (st : List AV) (f : Nat → Int → Int → List AV → Prop) : Prop := match st with | .inr (.inl z) :: .inl j :: .inr (.inr (some c)) :: t => f c j z t | _ => False
def pRR (st : List AV) (f : Nat → Option Nat → List AV → Prop) : Prop := match st with | .inr (.inr r) :: .inr (.inr (some c)) :: t => f c r t | _ => False
def pV (st : List AV) (f : AV → List AV → Prop) : Prop := match st with | v :: t => f v t | _ => False
def pVV (st : List AV) (f : AV → AV → List AV → Prop) : Prop := match st with | v :: u :: t => f v u t | _ => False
def gI (v : Option AV) (f : Int → Prop) : Prop := match v with | some (.inl z) => f z | _ => False
def gL (v : Option AV) (f : Int → Prop) : Prop := match v with | some (.inr (.inl z)) => f z | _ => False
def gR (v : Option AV) (f : Nat → Prop) : Prop := match v with | some (.inr (.inr (some z))) => f z | _ => False
theorem pI_c {a : Int} {t : List AV} {f : Int → List AV → Prop} : pI (.inl a :: t) f = f a t := propext Iff.rfl
theorem pII_c {a b : Int} {t : List AV} {f : Int → Int → List AV → Prop} : pII (.inl b :: .inl a :: t) f = f a b t := propext Iff.rfl
theorem pL_c {a : Int} {t : List AV} {f : Int → List AV → Prop} : pL (.inr (.inl a) :: t) f = f a t := propext Iff.rfl
theorem pLL_c {a b : Int} {t : List AV} {f : Int → Int → List AV → Prop} : pLL (.inr (.inl b) :: .inr (.inl a) :: t) f = f a b t := propext Iff.rfl
theorem pR_c {c : Nat} {t : List AV} {f : Nat → List AV → Prop} : pR (.inr (.inr (some c)) :: t) f = f c t := propext Iff.rfl
theorem pRI_c {c : Nat} {j : Int} {t : List AV} {f : Nat → Int → List AV → Prop} : pRI (.inl j :: .inr (.inr (some c)) :: t) f = f c j t := propext Iff.rfl
theorem pRII_c {c : Nat} {j z : Int} {t : List AV} {f : Nat → Int → Int → List AV → Prop} : pRII (.inl z :: .inl j :: .inr (.inr (some c)) :: t) f = f c j z t := propext Iff.rfl
theorem pRIL_c {c : Nat} {j z : Int} {t : List AV} {f : Nat → Int → Int → List AV → Prop} : pRIL (.inr (.inl z) :: .inl j :: .inr (.inr (some c)) :: t) f = f c j z t := propext Iff.rfl
theorem pRR_c {c : Nat} {r : Option Nat} {t : List AV} {f : Nat → Option Nat → List AV → Prop} : pRR (.inr (.inr r) :: .inr (.inr (some c)) :: t) f = f c r t := propext Iff.rfl
theorem pV_c {v : AV} {t : List AV} {f : AV → List AV → Prop} : pV (v :: t) f = f v t := propext Iff.rfl
theorem pVV_c {v u : AV} {t : List AV} {f : AV → AV → List AV → Prop} : pVV (v :: u :: t) f = f v u t := propext Iff.rfl
theorem gI_c {z : Int} {f : Int → Prop} : gI (some (.inl z)) f = f z := propext Iff.rfl
theorem gL_c {z : Int} {f : Int → Prop} : gL (some (.inr (.inl z))) f = f z := propext Iff.rfl
theorem gR_c {z : Nat} {f : Nat → Prop} : gR (some (.inr (.inr (some z)))) f = f z := propext Iff.rfl
theorem pI_e {st : List AV} {f : Int → List AV → Prop} (h : pI st f) : ∃ a t, st = .inl a :: t ∧ f a t := by
  unfold pI at h; split at h
  · exact ⟨_, _, rfl, h⟩
  · exact h.elim
theorem pII_e {st : List AV} {f : Int → Int → List AV → Prop} (h : pII st f) : ∃ a b t, st = .inl b :: .inl a :: t ∧ f a b t := by
  unfold pII at h; split at h
  · exact ⟨_, _, _, rfl, h⟩
  · exact h.elim
theorem pL_e {st : List AV} {f : Int → List AV → Prop} (h : pL st f) : ∃ a t, st = .inr (.inl a) :: t ∧ f a t := by
  unfold pL at h; split at h
  · exact ⟨_, _, rfl, h⟩
  · exact h.elim
theorem pLL_e {st : List AV} {f : Int → Int → List AV → Prop} (h : pLL st f) : ∃ a b t, st = .inr (.inl b) :: .inr (.inl a) :: t ∧ f a b t := by
  unfold pLL at h; split at h
  · exact ⟨_, _, _, rfl, h⟩
  · exact h.elim
theorem pR_e {st : List AV} {f : Nat → List AV → Prop} (h : pR st f) : ∃ c t, st = .inr (.inr (some c)) :: t ∧ f c t := by
  unfold pR at h; split at h
  · exact ⟨_, _, rfl, h⟩
  · exact h.elim
theorem pRI_e {st : List AV} {f : Nat → Int → List AV → Prop} (h : pRI st f) : ∃ c j t, st = .inl j :: .inr (.inr (some c)) :: t ∧ f c j t := by
  unfold pRI at h; split at h
  · exact ⟨_, _, _, rfl, h⟩
  · exact h.elim
theorem pRII_e {st : List AV} {f : Nat → Int → Int → List AV → Prop} (h : pRII st f) : ∃ c j z t, st = .inl z :: .inl j :: .inr (.inr (some c)) :: t ∧ f c j z t := by
  unfold pRII at h; split at h
  · exact ⟨_, _, _, _, rfl, h⟩
  · exact h.elim
theorem pRIL_e {st : List AV} {f : Nat → Int → Int → List AV → Prop} (h : pRIL st f) : ∃ c j z t, st = .inr (.inl z) :: .inl j :: .inr (.inr (some c)) :: t ∧ f c j z t := by
  unfold pRIL at h; split at h
  · exact ⟨_, _, _, _, rfl, h⟩
  · exact h.elim
theorem pRR_e {st : List AV} {f : Nat → Option Nat → List AV → Prop} (h : pRR st f) : ∃ c r t, st = .inr (.inr r) :: .inr (.inr (some c)) :: t ∧ f c r t := by
  unfold pRR at h; split at h
  · exact ⟨_, _, _, rfl, h⟩
  · exact h.elim
theorem pV_e {st : List AV} {f : AV → List AV → Prop} (h : pV st f) : ∃ v t, st = v :: t ∧ f v t := by
  unfold pV at h; split at h
  · exact ⟨_, _, rfl, h⟩
  · exact h.elim
theorem pVV_e {st : List AV} {f : AV → AV → List AV → Prop} (h : pVV st f) : ∃ v u t, st = v :: u :: t ∧ f v u t := by
  unfold pVV at h; split at h
  · exact ⟨_, _, _, rfl, h⟩
  · exact h.elim
theorem gI_e {v : Option AV} {f : Int → Prop} (h : gI v f) : ∃ z, v = some (.inl z) ∧ f z := by
  unfold gI at h; split at h
  · exact ⟨_, rfl, h⟩
  · exact h.elim
theorem gL_e {v : Option AV} {f : Int → Prop} (h : gL v f) : ∃ z, v = some (.inr (.inl z)) ∧ f z := by
  unfold gL at h; split at h
  · exact ⟨_, rfl, h⟩
  · exact h.elim
theorem gR_e {v : Option AV} {f : Nat → Prop} (h : gR v f) : ∃ z, v = some (.inr (.inr (some z))) ∧ f z := by
  unfold gR at h; split at h
  · exact ⟨_, rfl, h⟩
  · exact h.elim
def f4 (k : Fin 4) : Nat := k
theorem f4_0 : f4 0 = 0 := rfl
theorem f4_1 : f4 1 = 1 := rfl
theorem f4_2 : f4 2 = 2 := rfl
theorem f4_3 : f4 3 = 3 := rfl
def f2 (k : Fin 2) : Int := ((k : Nat) : Int)
theorem f2_0 : f2 0 = 0 := rfl
theorem f2_1 : f2 1 = 1 := rfl
def cnI (c : Jvm.ClassFile.Cond) (a b : Int) (P Q : Prop) : Prop := match c with
  | .eq => (a = b → P) ∧ (¬ a = b → Q)
  | .ne => (¬ a = b → P) ∧ (a = b → Q)
  | .lt => (a < b → P) ∧ (¬ a < b → Q)
  | .ge => (b ≤ a → P) ∧ (¬ b ≤ a → Q)
  | .gt => (b < a → P) ∧ (¬ b < a → Q)
  | .le => (a ≤ b → P) ∧ (¬ a ≤ b → Q)
theorem cnI_eq {a b : Int} {P Q : Prop} : cnI .eq a b P Q = ((a = b → P) ∧ (¬ a = b → Q)) := propext Iff.rfl
theorem cnI_ne {a b : Int} {P Q : Prop} : cnI .ne a b P Q = ((¬ a = b → P) ∧ (a = b → Q)) := propext Iff.rfl
theorem cnI_lt {a b : Int} {P Q : Prop} : cnI .lt a b P Q = ((a < b → P) ∧ (¬ a < b → Q)) := propext Iff.rfl
theorem cnI_ge {a b : Int} {P Q : Prop} : cnI .ge a b P Q = ((b ≤ a → P) ∧ (¬ b ≤ a → Q)) := propext Iff.rfl
theorem cnI_gt {a b : Int} {P Q : Prop} : cnI .gt a b P Q = ((b < a → P) ∧ (¬ b < a → Q)) := propext Iff.rfl
theorem cnI_le {a b : Int} {P Q : Prop} : cnI .le a b P Q = ((a ≤ b → P) ∧ (¬ a ≤ b → Q)) := propext Iff.rfl
def st1 (lv : List (Option AV)) (i : Nat) (v : AV) (f : List (Option AV) → Prop) : Prop := nl lv i = true ∧ i < lv.length ∧ f (lst lv i (some v))
def st2 (lv : List (Option AV)) (i : Nat) (v : Int) (f : List (Option AV) → Prop) : Prop := nl lv i = true ∧ i + 1 < lv.length ∧ f (lst (lst lv i (some (.inr (.inl v)))) (i + 1) none)
def gF (o i : Nat) (f : Nat → Nat → Nat → Nat → Prop) : Prop := match fl o i with | some (ci, k, t, w, _) => f ci k t w | none => False
theorem gF_c {o i ci k t w pl : Nat} {f : Nat → Nat → Nat → Nat → Prop} (h : fl o i = some (ci, k, t, w, pl)) : gF o i f = f ci k t w := by simp [gF, h]
def gC (o i : Nat) (f : Int → Prop) : Prop := match cst o i with | some z => f z | none => False
theorem gC_c {o i : Nat} {z : Int} {f : Int → Prop} (h : cst o i = some z) : gC o i f = f z := by simp [gC, h]
def gD (o i : Nat) (f : Int → Prop) : Prop := match csl o i with | some z => f z | none => False
theorem gD_c {o i : Nat} {z : Int} {f : Int → Prop} (h : csl o i = some z) : gD o i f = f z := by simp [gD, h]
def gJ (o i : Nat) (P : Prop) (f : Nat → Prop) : Prop := match jd o i with | some (k, _) => f k | none => P
theorem gJ_c {o i k pl : Nat} {P : Prop} {f : Nat → Prop} (h : jd o i = some (k, pl)) : gJ o i P f = f k := by simp [gJ, h]
theorem gJ_n {o i : Nat} {P : Prop} {f : Nat → Prop} (h : jd o i = none) : gJ o i P f = P := by simp [gJ, h]
def swL : List Int → Int → Int → (Int → Prop) → Prop
  | [], _, _, _ => True
  | off :: r, lo, a, f => (a = lo → f off) ∧ swL r (lo + 1) a f
theorem swL_e : ∀ (l : List Int) (lo a : Int) (f : Int → Prop), swL l lo a f → ∀ (j : Nat) (off : Int), l[j]? = some off → a = lo + j → f off
  | [], _, _, _, _, j, off, h, _ => by simp at h
  | x :: r, lo, a, f, h, 0, off, h1, h2 => by
    simp only [List.getElem?_cons_zero, Option.some.injEq] at h1
    subst h1
    exact h.1 (by omega)
  | x :: r, lo, a, f, h, j + 1, off, h1, h2 => swL_e r (lo + 1) a f h.2 j off (by simpa using h1) (by omega)
def ins (o : Nat) (ini : Bool) (i : Instr) (len pc : Nat) (lv : List (Option AV)) (st : List AV) (μ : Mem) (K : K9) : Prop :=
  match i with
  | .iconst n => len = 1 ∧ K (pc + 1) lv (.inl n :: st) μ
  | .bipush n => len = 2 ∧ (-128 ≤ n ∧ n ≤ 127) ∧ K (pc + 2) lv (.inl n :: st) μ
  | .sipush n => len = 3 ∧ (-32768 ≤ n ∧ n ≤ 32767) ∧ K (pc + 3) lv (.inl n :: st) μ
  | .lconst n => len = 1 ∧ K (pc + 1) lv (.inr (.inl (f2 n)) :: st) μ
  | .ldc x => len = 2 ∧ gC o x (fun z => K (pc + 2) lv (.inl z :: st) μ)
  | .ldc2_w x => len = 3 ∧ gD o x (fun z => K (pc + 3) lv (.inr (.inl z) :: st) μ)
  | .iload_n x => len = 1 ∧ gI (lg lv (f4 x)) (fun z => K (pc + 1) lv (.inl z :: st) μ)
  | .iload x => len = 2 ∧ gI (lg lv x) (fun z => K (pc + 2) lv (.inl z :: st) μ)
  | .lload x => len = 2 ∧ gL (lg lv x) (fun z => K (pc + 2) lv (.inr (.inl z) :: st) μ)
  | .aload_n x => len = 1 ∧ gR (lg lv (f4 x)) (fun z => K (pc + 1) lv (.inr (.inr (some z)) :: st) μ)
  | .aload x => len = 2 ∧ gR (lg lv x) (fun z => K (pc + 2) lv (.inr (.inr (some z)) :: st) μ)
  | .istore_n x => len = 1 ∧ pI st (fun z t => st1 lv (f4 x) (.inl z) (fun lv' => K (pc + 1) lv' t μ))
  | .istore x => len = 2 ∧ pI st (fun z t => st1 lv x (.inl z) (fun lv' => K (pc + 2) lv' t μ))
  | .lstore x => len = 2 ∧ pL st (fun z t => st2 lv x z (fun lv' => K (pc + 2) lv' t μ))
  | .astore_n x => len = 1 ∧ pR st (fun z t => st1 lv (f4 x) (.inr (.inr (some z))) (fun lv' => K (pc + 1) lv' t μ))
  | .astore x => len = 2 ∧ pR st (fun z t => st1 lv x (.inr (.inr (some z))) (fun lv' => K (pc + 2) lv' t μ))
  | .iinc x n => len = 3 ∧ gI (lg lv x) (fun z => nl lv x = true ∧ K (pc + 3) (lst lv x (some (.inl (z + n)))) st μ)
  | .iadd => len = 1 ∧ pII st (fun a b t => K (pc + 1) lv (.inl (a + b) :: t) μ)
  | .isub => len = 1 ∧ pII st (fun a b t => K (pc + 1) lv (.inl (a - b) :: t) μ)
  | .imul => len = 1 ∧ pII st (fun a b t => K (pc + 1) lv (.inl (a * b) :: t) μ)
  | .iand => len = 1 ∧ pII st (fun a b t => K (pc + 1) lv (.inl (bAnd a b) :: t) μ)
  | .ixor => len = 1 ∧ pII st (fun a b t => K (pc + 1) lv (.inl (bXor a b) :: t) μ)
  | .ineg => len = 1 ∧ pI st (fun a t => K (pc + 1) lv (.inl (-a) :: t) μ)
  | .idiv => len = 1 ∧ pII st (fun a b t => (0 ≤ a ∧ a ≤ 2147483647) ∧ (0 < b ∧ b ≤ 2147483647) ∧ K (pc + 1) lv (.inl (a / b) :: t) μ)
  | .irem => len = 1 ∧ pII st (fun a b t => (0 ≤ a ∧ a ≤ 2147483647) ∧ (0 < b ∧ b ≤ 2147483647) ∧ K (pc + 1) lv (.inl (a % b) :: t) μ)
  | .ishl => len = 1 ∧ pII st (fun a b t => (0 ≤ a ∧ a * 2 ^ b.toNat ≤ 2147483647) ∧ (0 ≤ b ∧ b < 31) ∧ K (pc + 1) lv (.inl (a * 2 ^ b.toNat) :: t) μ)
  | .ishr => len = 1 ∧ pII st (fun a b t => (-2147483648 ≤ a ∧ a ≤ 2147483647) ∧ (0 ≤ b ∧ b < 31) ∧ K (pc + 1) lv (.inl (a / 2 ^ b.toNat) :: t) μ)
  | .ladd => len = 1 ∧ pLL st (fun a b t => K (pc + 1) lv (.inr (.inl (a + b)) :: t) μ)
  | .lmul => len = 1 ∧ pLL st (fun a b t => K (pc + 1) lv (.inr (.inl (a * b)) :: t) μ)
  | .ldiv => len = 1 ∧ pLL st (fun a b t => (0 ≤ a ∧ a ≤ 9223372036854775807) ∧ (0 < b ∧ b ≤ 9223372036854775807) ∧ K (pc + 1) lv (.inr (.inl (a / b)) :: t) μ)
  | .lrem => len = 1 ∧ pLL st (fun a b t => (0 ≤ a ∧ a ≤ 9223372036854775807) ∧ (0 < b ∧ b ≤ 9223372036854775807) ∧ K (pc + 1) lv (.inr (.inl (a % b)) :: t) μ)
  | .lcmp => len = 1 ∧ pLL st (fun a b t => r64 a ∧ r64 b ∧ K (pc + 1) lv (.inl (lcI a b) :: t) μ)
  | .i2l => len = 1 ∧ pI st (fun a t => r32 a ∧ K (pc + 1) lv (.inr (.inl a) :: t) μ)
  | .l2i => len = 1 ∧ pL st (fun a t => K (pc + 1) lv (.inl a :: t) μ)
  | .dup => len = 1 ∧ pV st (fun v t => isLg (some v) = false ∧ K (pc + 1) lv (v :: v :: t) μ)
  | .dup2 => len = 1 ∧ pVV st (fun v u t => isLg (some v) = false ∧ isLg (some u) = false ∧ K (pc + 1) lv (v :: u :: v :: u :: t) μ)
  | .goto off => len = 3 ∧ 0 ≤ (pc : Int) + off ∧ K ((pc : Int) + off).toNat lv st μ
  | .if_icmp cnd off => len = 3 ∧ 0 ≤ (pc : Int) + off ∧ pII st (fun a b t => r32 a ∧ r32 b ∧ cnI cnd a b (K ((pc : Int) + off).toNat lv t μ) (K (pc + 3) lv t μ))
  | .ifCond cnd off => len = 3 ∧ 0 ≤ (pc : Int) + off ∧ pI st (fun a t => r32 a ∧ cnI cnd a 0 (K ((pc : Int) + off).toNat lv t μ) (K (pc + 3) lv t μ))
  | .getfield x => len = 3 ∧ pR st (fun c t => gF o x (fun ci k ty _ => kd c = ci ∧ c < μ.1 ∧ K (pc + 3) lv (fld μ c k ty :: t) μ))
  | .putfield x => len = 3 ∧ gF o x (fun ci k ty w => (w = 0 ∨ (ini = true ∧ o = ci)) ∧ (if ty = 2 then pRR st (fun c r t => kd c = ci ∧ c < μ.1 ∧ K (pc + 3) lv t (μ.1, upR μ.2.1 c k r, μ.2.2)) else pRI st (fun c z t => (ty = 0 ∨ ty = 1 ∧ (z = 0 ∨ z = 1)) ∧ kd c = ci ∧ c < μ.1 ∧ K (pc + 3) lv t (μ.1, μ.2.1, up2 μ.2.2 c k z))))
  | .iaload => len = 1 ∧ pRI st (fun c j t => kd c = 10 ∧ c < μ.1 ∧ 0 ≤ j ∧ j < ln c ∧ K (pc + 1) lv (.inl (μ.2.2 c j.toNat) :: t) μ)
  | .laload => len = 1 ∧ pRI st (fun c j t => kd c = 11 ∧ c < μ.1 ∧ 0 ≤ j ∧ j < ln c ∧ K (pc + 1) lv (.inr (.inl (μ.2.2 c j.toNat)) :: t) μ)
  | .aaload => len = 1 ∧ pRI st (fun c j t => (12 ≤ kd c ∧ kd c ≤ 14) ∧ c < μ.1 ∧ 0 ≤ j ∧ j < ln c ∧ K (pc + 1) lv (.inr (.inr (μ.2.1 c j.toNat)) :: t) μ)
  | .iastore => len = 1 ∧ pRII st (fun c j z t => kd c = 10 ∧ c < μ.1 ∧ 0 ≤ j ∧ j < ln c ∧ K (pc + 1) lv t (μ.1, μ.2.1, up2 μ.2.2 c j.toNat z))
  | .lastore => len = 1 ∧ pRIL st (fun c j z t => kd c = 11 ∧ c < μ.1 ∧ 0 ≤ j ∧ j < ln c ∧ K (pc + 1) lv t (μ.1, μ.2.1, up2 μ.2.2 c j.toNat z))
  | .arraylength => len = 1 ∧ pR st (fun c t => kd c = 10 ∧ c < μ.1 ∧ K (pc + 1) lv (.inl (ln c : Int) :: t) μ)
  | .invokestatic x => len = 3 ∧ gJ o x (K pc lv st μ) (fun k => if k = 0 then pI st (fun z t => t.length ≤ 8 ∧ (-2147483647 ≤ z ∧ z ≤ 2147483647) ∧ K (pc + 3) lv (.inl (z.natAbs : Int) :: t) μ) else if k = 1 then pII st (fun a b t => t.length ≤ 8 ∧ r32 a ∧ r32 b ∧ K (pc + 3) lv (.inl (if b < a then b else a) :: t) μ) else False)
  | .invokespecial x => len = 3 ∧ gJ o x (K pc lv st μ) (fun k => k = 2 ∧ pR st (fun _ t => t.length ≤ 8 ∧ K (pc + 3) lv t μ))
  | .ireturn => K pc lv st μ
  | .return_ => K pc lv st μ
  | .areturn => K pc lv st μ
  | .athrow => K pc lv st μ
  | .invokevirtual _ => K pc lv st μ
  | .new _ => K pc lv st μ
  | .newarray _ => K pc lv st μ
  | .anewarray _ => K pc lv st μ
  | .multianewarray _ _ => K pc lv st μ
  | .aastore => K pc lv st μ
  | .tableswitch dflt lo hi offs => pI st (fun a t => r32 a ∧ 0 ≤ (pc : Int) + dflt ∧ hi + 1 = lo + offs.toList.length ∧ (a < lo ∨ hi < a → K ((pc : Int) + dflt).toNat lv t μ) ∧ swL offs.toList lo a (fun off => 0 ≤ (pc : Int) + off ∧ K ((pc : Int) + off).toNat lv t μ))
  | _ => False
theorem i_iconst {o : Nat} {ini : Bool} {len pc : Nat} {lv : List (Option AV)} {st : List AV} {μ : Mem} {K : K9} {n : Int} : ins o ini (.iconst n) len pc lv st μ K = (len = 1 ∧ K (pc + 1) lv (.inl n :: st) μ) := propext Iff.rfl
theorem i_bipush {o : Nat} {ini : Bool} {len pc : Nat} {lv : List (Option AV)} {st : List AV} {μ : Mem} {K : K9} {n : Int} : ins o ini (.bipush n) len pc lv st μ K = (len = 2 ∧ (-128 ≤ n ∧ n ≤ 127) ∧ K (pc + 2) lv (.inl n :: st) μ) := propext Iff.rfl
theorem i_sipush {o : Nat} {ini : Bool} {len pc : Nat} {lv : List (Option AV)} {st : List AV} {μ : Mem} {K : K9} {n : Int} : ins o ini (.sipush n) len pc lv st μ K = (len = 3 ∧ (-32768 ≤ n ∧ n ≤ 32767) ∧ K (pc + 3) lv (.inl n :: st) μ) := propext Iff.rfl
theorem i_lconst {o : Nat} {ini : Bool} {len pc : Nat} {lv : List (Option AV)} {st : List AV} {μ : Mem} {K : K9} {n : Fin 2} : ins o ini (.lconst n) len pc lv st μ K = (len = 1 ∧ K (pc + 1) lv (.inr (.inl (f2 n)) :: st) μ) := propext Iff.rfl
theorem i_ldc {o : Nat} {ini : Bool} {len pc : Nat} {lv : List (Option AV)} {st : List AV} {μ : Mem} {K : K9} {x : Nat} : ins o ini (.ldc x) len pc lv st μ K = (len = 2 ∧ gC o x (fun z => K (pc + 2) lv (.inl z :: st) μ)) := propext Iff.rfl
theorem i_ldc2_w {o : Nat} {ini : Bool} {len pc : Nat} {lv : List (Option AV)} {st : List AV} {μ : Mem} {K : K9} {x : Nat} : ins o ini (.ldc2_w x) len pc lv st μ K = (len = 3 ∧ gD o x (fun z => K (pc + 3) lv (.inr (.inl z) :: st) μ)) := propext Iff.rfl
theorem i_iload_n {o : Nat} {ini : Bool} {len pc : Nat} {lv : List (Option AV)} {st : List AV} {μ : Mem} {K : K9} {x : Fin 4} : ins o ini (.iload_n x) len pc lv st μ K = (len = 1 ∧ gI (lg lv (f4 x)) (fun z => K (pc + 1) lv (.inl z :: st) μ)) := propext Iff.rfl
theorem i_iload {o : Nat} {ini : Bool} {len pc : Nat} {lv : List (Option AV)} {st : List AV} {μ : Mem} {K : K9} {x : Nat} : ins o ini (.iload x) len pc lv st μ K = (len = 2 ∧ gI (lg lv x) (fun z => K (pc + 2) lv (.inl z :: st) μ)) := propext Iff.rfl
theorem i_lload {o : Nat} {ini : Bool} {len pc : Nat} {lv : List (Option AV)} {st : List AV} {μ : Mem} {K : K9} {x : Nat} : ins o ini (.lload x) len pc lv st μ K = (len = 2 ∧ gL (lg lv x) (fun z => K (pc + 2) lv (.inr (.inl z) :: st) μ)) := propext Iff.rfl
theorem i_aload_n {o : Nat} {ini : Bool} {len pc : Nat} {lv : List (Option AV)} {st : List AV} {μ : Mem} {K : K9} {x : Fin 4} : ins o ini (.aload_n x) len pc lv st μ K = (len = 1 ∧ gR (lg lv (f4 x)) (fun z => K (pc + 1) lv (.inr (.inr (some z)) :: st) μ)) := propext Iff.rfl
theorem i_aload {o : Nat} {ini : Bool} {len pc : Nat} {lv : List (Option AV)} {st : List AV} {μ : Mem} {K : K9} {x : Nat} : ins o ini (.aload x) len pc lv st μ K = (len = 2 ∧ gR (lg lv x) (fun z => K (pc + 2) lv (.inr (.inr (some z)) :: st) μ)) := propext Iff.rfl
theorem i_istore_n {o : Nat} {ini : Bool} {len pc : Nat} {lv : List (Option AV)} {st : List AV} {μ : Mem} {K : K9} {x : Fin 4} : ins o ini (.istore_n x) len pc lv st μ K = (len = 1 ∧ pI st (fun z t => st1 lv (f4 x) (.inl z) (fun lv' => K (pc + 1) lv' t μ))) := propext Iff.rfl
theorem i_istore {o : Nat} {ini : Bool} {len pc : Nat} {lv : List (Option AV)} {st : List AV} {μ : Mem} {K : K9} {x : Nat} : ins o ini (.istore x) len pc lv st μ K = (len = 2 ∧ pI st (fun z t => st1 lv x (.inl z) (fun lv' => K (pc + 2) lv' t μ))) := propext Iff.rfl
theorem i_lstore {o : Nat} {ini : Bool} {len pc : Nat} {lv : List (Option AV)} {st : List AV} {μ : Mem} {K : K9} {x : Nat} : ins o ini (.lstore x) len pc lv st μ K = (len = 2 ∧ pL st (fun z t => st2 lv x z (fun lv' => K (pc + 2) lv' t μ))) := propext Iff.rfl
theorem i_astore_n {o : Nat} {ini : Bool} {len pc : Nat} {lv : List (Option AV)} {st : List AV} {μ : Mem} {K : K9} {x : Fin 4} : ins o ini (.astore_n x) len pc lv st μ K = (len = 1 ∧ pR st (fun z t => st1 lv (f4 x) (.inr (.inr (some z))) (fun lv' => K (pc + 1) lv' t μ))) := propext Iff.rfl
theorem i_astore {o : Nat} {ini : Bool} {len pc : Nat} {lv : List (Option AV)} {st : List AV} {μ : Mem} {K : K9} {x : Nat} : ins o ini (.astore x) len pc lv st μ K = (len = 2 ∧ pR st (fun z t => st1 lv x (.inr (.inr (some z))) (fun lv' => K (pc + 2) lv' t μ))) := propext Iff.rfl
theorem i_iinc {o : Nat} {ini : Bool} {len pc : Nat} {lv : List (Option AV)} {st : List AV} {μ : Mem} {K : K9} {x : Nat} {n : Int} : ins o ini (.iinc x n) len pc lv st μ K = (len = 3 ∧ gI (lg lv x) (fun z => nl lv x = true ∧ K (pc + 3) (lst lv x (some (.inl (z + n)))) st μ)) := propext Iff.rfl
theorem i_iadd {o : Nat} {ini : Bool} {len pc : Nat} {lv : List (Option AV)} {st : List AV} {μ : Mem} {K : K9} : ins o ini (.iadd) len pc lv st μ K = (len = 1 ∧ pII st (fun a b t => K (pc + 1) lv (.inl (a + b) :: t) μ)) := propext Iff.rfl
theorem i_isub {o : Nat} {ini : Bool} {len pc : Nat} {lv : List (Option AV)} {st : List AV} {μ : Mem} {K : K9} : ins o ini (.isub) len pc lv st μ K = (len = 1 ∧ pII st (fun a b t => K (pc + 1) lv (.inl (a - b) :: t) μ)) := propext Iff.rfl
theorem i_imul {o : Nat} {ini : Bool} {len pc : Nat} {lv : List (Option AV)} {st : List AV} {μ : Mem} {K : K9} : ins o ini (.imul) len pc lv st μ K = (len = 1 ∧ pII st (fun a b t => K (pc + 1) lv (.inl (a * b) :: t) μ)) := propext Iff.rfl
theorem i_iand {o : Nat} {ini : Bool} {len pc : Nat} {lv : List (Option AV)} {st : List AV} {μ : Mem} {K : K9} : ins o ini (.iand) len pc lv st μ K = (len = 1 ∧ pII st (fun a b t => K (pc + 1) lv (.inl (bAnd a b) :: t) μ)) := propext Iff.rfl
theorem i_ixor {o : Nat} {ini : Bool} {len pc : Nat} {lv : List (Option AV)} {st : List AV} {μ : Mem} {K : K9} : ins o ini (.ixor) len pc lv st μ K = (len = 1 ∧ pII st (fun a b t => K (pc + 1) lv (.inl (bXor a b) :: t) μ)) := propext Iff.rfl
theorem i_ineg {o : Nat} {ini : Bool} {len pc : Nat} {lv : List (Option AV)} {st : List AV} {μ : Mem} {K : K9} : ins o ini (.ineg) len pc lv st μ K = (len = 1 ∧ pI st (fun a t => K (pc + 1) lv (.inl (-a) :: t) μ)) := propext Iff.rfl
theorem i_idiv {o : Nat} {ini : Bool} {len pc : Nat} {lv : List (Option AV)} {st : List AV} {μ : Mem} {K : K9} : ins o ini (.idiv) len pc lv st μ K = (len = 1 ∧ pII st (fun a b t => (0 ≤ a ∧ a ≤ 2147483647) ∧ (0 < b ∧ b ≤ 2147483647) ∧ K (pc + 1) lv (.inl (a / b) :: t) μ)) := propext Iff.rfl
theorem i_irem {o : Nat} {ini : Bool} {len pc : Nat} {lv : List (Option AV)} {st : List AV} {μ : Mem} {K : K9} : ins o ini (.irem) len pc lv st μ K = (len = 1 ∧ pII st (fun a b t => (0 ≤ a ∧ a ≤ 2147483647) ∧ (0 < b ∧ b ≤ 2147483647) ∧ K (pc + 1) lv (.inl (a % b) :: t) μ)) := propext Iff.rfl
theorem i_ishl {o : Nat} {ini : Bool} {len pc : Nat} {lv : List (Option AV)} {st : List AV} {μ : Mem} {K : K9} : ins o ini (.ishl) len pc lv st μ K = (len = 1 ∧ pII st (fun a b t => (0 ≤ a ∧ a * 2 ^ b.toNat ≤ 2147483647) ∧ (0 ≤ b ∧ b < 31) ∧ K (pc + 1) lv (.inl (a * 2 ^ b.toNat) :: t) μ)) := propext Iff.rfl
theorem i_ishr {o : Nat} {ini : Bool} {len pc : Nat} {lv : List (Option AV)} {st : List AV} {μ : Mem} {K : K9} : ins o ini (.ishr) len pc lv st μ K = (len = 1 ∧ pII st (fun a b t => (-2147483648 ≤ a ∧ a ≤ 2147483647) ∧ (0 ≤ b ∧ b < 31) ∧ K (pc + 1) lv (.inl (a / 2 ^ b.toNat) :: t) μ)) := propext Iff.rfl
theorem i_ladd {o : Nat} {ini : Bool} {len pc : Nat} {lv : List (Option AV)} {st : List AV} {μ : Mem} {K : K9} : ins o ini (.ladd) len pc lv st μ K = (len = 1 ∧ pLL st (fun a b t => K (pc + 1) lv (.inr (.inl (a + b)) :: t) μ)) := propext Iff.rfl
theorem i_lmul {o : Nat} {ini : Bool} {len pc : Nat} {lv : List (Option AV)} {st : List AV} {μ : Mem} {K : K9} : ins o ini (.lmul) len pc lv st μ K = (len = 1 ∧ pLL st (fun a b t => K (pc + 1) lv (.inr (.inl (a * b)) :: t) μ)) := propext Iff.rfl
theorem i_ldiv {o : Nat} {ini : Bool} {len pc : Nat} {lv : List (Option AV)} {st : List AV} {μ : Mem} {K : K9} : ins o ini (.ldiv) len pc lv st μ K = (len = 1 ∧ pLL st (fun a b t => (0 ≤ a ∧ a ≤ 9223372036854775807) ∧ (0 < b ∧ b ≤ 9223372036854775807) ∧ K (pc + 1) lv (.inr (.inl (a / b)) :: t) μ)) := propext Iff.rfl
theorem i_lrem {o : Nat} {ini : Bool} {len pc : Nat} {lv : List (Option AV)} {st : List AV} {μ : Mem} {K : K9} : ins o ini (.lrem) len pc lv st μ K = (len = 1 ∧ pLL st (fun a b t => (0 ≤ a ∧ a ≤ 9223372036854775807) ∧ (0 < b ∧ b ≤ 9223372036854775807) ∧ K (pc + 1) lv (.inr (.inl (a % b)) :: t) μ)) := propext Iff.rfl
theorem i_lcmp {o : Nat} {ini : Bool} {len pc : Nat} {lv : List (Option AV)} {st : List AV} {μ : Mem} {K : K9} : ins o ini (.lcmp) len pc lv st μ K = (len = 1 ∧ pLL st (fun a b t => r64 a ∧ r64 b ∧ K (pc + 1) lv (.inl (lcI a b) :: t) μ)) := propext Iff.rfl
theorem i_i2l {o : Nat} {ini : Bool} {len pc : Nat} {lv : List (Option AV)} {st : List AV} {μ : Mem} {K : K9} : ins o ini (.i2l) len pc lv st μ K = (len = 1 ∧ pI st (fun a t => r32 a ∧ K (pc + 1) lv (.inr (.inl a) :: t) μ)) := propext Iff.rfl
theorem i_l2i {o : Nat} {ini : Bool} {len pc : Nat} {lv : List (Option AV)} {st : List AV} {μ : Mem} {K : K9} : ins o ini (.l2i) len pc lv st μ K = (len = 1 ∧ pL st (fun a t => K (pc + 1) lv (.inl a :: t) μ)) := propext Iff.rfl
theorem i_dup {o : Nat} {ini : Bool} {len pc : Nat} {lv : List (Option AV)} {st : List AV} {μ : Mem} {K : K9} : ins o ini (.dup) len pc lv st μ K = (len = 1 ∧ pV st (fun v t => isLg (some v) = false ∧ K (pc + 1) lv (v :: v :: t) μ)) := propext Iff.rfl
theorem i_dup2 {o : Nat} {ini : Bool} {len pc : Nat} {lv : List (Option AV)} {st : List AV} {μ : Mem} {K : K9} : ins o ini (.dup2) len pc lv st μ K = (len = 1 ∧ pVV st (fun v u t => isLg (some v) = false ∧ isLg (some u) = false ∧ K (pc + 1) lv (v :: u :: v :: u :: t) μ)) := propext Iff.rfl
theorem i_goto {o : Nat} {ini : Bool} {len pc : Nat} {lv : List (Option AV)} {st : List AV} {μ : Mem} {K : K9} {off : Int} : ins o ini (.goto off) len pc lv st μ K = (len = 3 ∧ 0 ≤ (pc : Int) + off ∧ K ((pc : Int) + off).toNat lv st μ) := propext Iff.rfl
theorem i_if_icmp {o : Nat} {ini : Bool} {len pc : Nat} {lv : List (Option AV)} {st : List AV} {μ : Mem} {K : K9} {cnd : Jvm.ClassFile.Cond} {off : Int} : ins o ini (.if_icmp cnd off) len pc lv st μ K = (len = 3 ∧ 0 ≤ (pc : Int) + off ∧ pII st (fun a b t => r32 a ∧ r32 b ∧ cnI cnd a b (K ((pc : Int) + off).toNat lv t μ) (K (pc + 3) lv t μ))) := propext Iff.rfl
theorem i_ifCond {o : Nat} {ini : Bool} {len pc : Nat} {lv : List (Option AV)} {st : List AV} {μ : Mem} {K : K9} {cnd : Jvm.ClassFile.Cond} {off : Int} : ins o ini (.ifCond cnd off) len pc lv st μ K = (len = 3 ∧ 0 ≤ (pc : Int) + off ∧ pI st (fun a t => r32 a ∧ cnI cnd a 0 (K ((pc : Int) + off).toNat lv t μ) (K (pc + 3) lv t μ))) := propext Iff.rfl
theorem i_getfield {o : Nat} {ini : Bool} {len pc : Nat} {lv : List (Option AV)} {st : List AV} {μ : Mem} {K : K9} {x : Nat} : ins o ini (.getfield x) len pc lv st μ K = (len = 3 ∧ pR st (fun c t => gF o x (fun ci k ty _ => kd c = ci ∧ c < μ.1 ∧ K (pc + 3) lv (fld μ c k ty :: t) μ))) := propext Iff.rfl
theorem i_putfield {o : Nat} {ini : Bool} {len pc : Nat} {lv : List (Option AV)} {st : List AV} {μ : Mem} {K : K9} {x : Nat} : ins o ini (.putfield x) len pc lv st μ K = (len = 3 ∧ gF o x (fun ci k ty w => (w = 0 ∨ (ini = true ∧ o = ci)) ∧ (if ty = 2 then pRR st (fun c r t => kd c = ci ∧ c < μ.1 ∧ K (pc + 3) lv t (μ.1, upR μ.2.1 c k r, μ.2.2)) else pRI st (fun c z t => (ty = 0 ∨ ty = 1 ∧ (z = 0 ∨ z = 1)) ∧ kd c = ci ∧ c < μ.1 ∧ K (pc + 3) lv t (μ.1, μ.2.1, up2 μ.2.2 c k z))))) := propext Iff.rfl
theorem i_iaload {o : Nat} {ini : Bool} {len pc : Nat} {lv : List (Option AV)} {st : List AV} {μ : Mem} {K : K9} : ins o ini (.iaload) len pc lv st μ K = (len = 1 ∧ pRI st (fun c j t => kd c = 10 ∧ c < μ.1 ∧ 0 ≤ j ∧ j < ln c ∧ K (pc + 1) lv (.inl (μ.2.2 c j.toNat) :: t) μ)) := propext Iff.rfl
theorem i_laload {o : Nat} {ini : Bool} {len pc : Nat} {lv : List (Option AV)} {st : List AV} {μ : Mem} {K : K9} : ins o ini (.laload) len pc lv st μ K = (len = 1 ∧ pRI st (fun c j t => kd c = 11 ∧ c < μ.1 ∧ 0 ≤ j ∧ j < ln c ∧ K (pc + 1) lv (.inr (.inl (μ.2.2 c j.toNat)) :: t) μ)) := propext Iff.rfl
theorem i_aaload {o : Nat} {ini : Bool} {len pc : Nat} {lv : List (Option AV)} {st : List AV} {μ : Mem} {K : K9} : ins o ini (.aaload) len pc lv st μ K = (len = 1 ∧ pRI st (fun c j t => (12 ≤ kd c ∧ kd c ≤ 14) ∧ c < μ.1 ∧ 0 ≤ j ∧ j < ln c ∧ K (pc + 1) lv (.inr (.inr (μ.2.1 c j.toNat)) :: t) μ)) := propext Iff.rfl
theorem i_iastore {o : Nat} {ini : Bool} {len pc : Nat} {lv : List (Option AV)} {st : List AV} {μ : Mem} {K : K9} : ins o ini (.iastore) len pc lv st μ K = (len = 1 ∧ pRII st (fun c j z t => kd c = 10 ∧ c < μ.1 ∧ 0 ≤ j ∧ j < ln c ∧ K (pc + 1) lv t (μ.1, μ.2.1, up2 μ.2.2 c j.toNat z))) := propext Iff.rfl
theorem i_lastore {o : Nat} {ini : Bool} {len pc : Nat} {lv : List (Option AV)} {st : List AV} {μ : Mem} {K : K9} : ins o ini (.lastore) len pc lv st μ K = (len = 1 ∧ pRIL st (fun c j z t => kd c = 11 ∧ c < μ.1 ∧ 0 ≤ j ∧ j < ln c ∧ K (pc + 1) lv t (μ.1, μ.2.1, up2 μ.2.2 c j.toNat z))) := propext Iff.rfl
theorem i_arraylength {o : Nat} {ini : Bool} {len pc : Nat} {lv : List (Option AV)} {st : List AV} {μ : Mem} {K : K9} : ins o ini (.arraylength) len pc lv st μ K = (len = 1 ∧ pR st (fun c t => kd c = 10 ∧ c < μ.1 ∧ K (pc + 1) lv (.inl (ln c : Int) :: t) μ)) := propext Iff.rfl
theorem i_invokestatic {o : Nat} {ini : Bool} {len pc : Nat} {lv : List (Option AV)} {st : List AV} {μ : Mem} {K : K9} {x : Nat} : ins o ini (.invokestatic x) len pc lv st μ K = (len = 3 ∧ gJ o x (K pc lv st μ) (fun k => if k = 0 then pI st (fun z t => t.length ≤ 8 ∧ (-2147483647 ≤ z ∧ z ≤ 2147483647) ∧ K (pc + 3) lv (.inl (z.natAbs : Int) :: t) μ) else if k = 1 then pII st (fun a b t => t.length ≤ 8 ∧ r32 a ∧ r32 b ∧ K (pc + 3) lv (.inl (if b < a then b else a) :: t) μ) else False)) := propext Iff.rfl
theorem i_invokespecial {o : Nat} {ini : Bool} {len pc : Nat} {lv : List (Option AV)} {st : List AV} {μ : Mem} {K : K9} {x : Nat} : ins o ini (.invokespecial x) len pc lv st μ K = (len = 3 ∧ gJ o x (K pc lv st μ) (fun k => k = 2 ∧ pR st (fun _ t => t.length ≤ 8 ∧ K (pc + 3) lv t μ))) := propext Iff.rfl
theorem i_ireturn {o : Nat} {ini : Bool} {len pc : Nat} {lv : List (Option AV)} {st : List AV} {μ : Mem} {K : K9} : ins o ini (.ireturn) len pc lv st μ K = (K pc lv st μ) := propext Iff.rfl
theorem i_return_ {o : Nat} {ini : Bool} {len pc : Nat} {lv : List (Option AV)} {st : List AV} {μ : Mem} {K : K9} : ins o ini (.return_) len pc lv st μ K = (K pc lv st μ) := propext Iff.rfl
theorem i_areturn {o : Nat} {ini : Bool} {len pc : Nat} {lv : List (Option AV)} {st : List AV} {μ : Mem} {K : K9} : ins o ini (.areturn) len pc lv st μ K = (K pc lv st μ) := propext Iff.rfl
theorem i_athrow {o : Nat} {ini : Bool} {len pc : Nat} {lv : List (Option AV)} {st : List AV} {μ : Mem} {K : K9} : ins o ini (.athrow) len pc lv st μ K = (K pc lv st μ) := propext Iff.rfl
theorem i_invokevirtual {o : Nat} {ini : Bool} {len pc : Nat} {lv : List (Option AV)} {st : List AV} {μ : Mem} {K : K9} {z0 : Nat} : ins o ini (.invokevirtual z0) len pc lv st μ K = (K pc lv st μ) := propext Iff.rfl
theorem i_new {o : Nat} {ini : Bool} {len pc : Nat} {lv : List (Option AV)} {st : List AV} {μ : Mem} {K : K9} {z0 : Nat} : ins o ini (.new z0) len pc lv st μ K = (K pc lv st μ) := propext Iff.rfl
theorem i_newarray {o : Nat} {ini : Bool} {len pc : Nat} {lv : List (Option AV)} {st : List AV} {μ : Mem} {K : K9} {z0 : ArrayType} : ins o ini (.newarray z0) len pc lv st μ K = (K pc lv st μ) := propext Iff.rfl
theorem i_anewarray {o : Nat} {ini : Bool} {len pc : Nat} {lv : List (Option AV)} {st : List AV} {μ : Mem} {K : K9} {z0 : Nat} : ins o ini (.anewarray z0) len pc lv st μ K = (K pc lv st μ) := propext Iff.rfl
theorem i_multianewarray {o : Nat} {ini : Bool} {len pc : Nat} {lv : List (Option AV)} {st : List AV} {μ : Mem} {K : K9} {z0 : Nat} {z1 : Nat} : ins o ini (.multianewarray z0 z1) len pc lv st μ K = (K pc lv st μ) := propext Iff.rfl
theorem i_aastore {o : Nat} {ini : Bool} {len pc : Nat} {lv : List (Option AV)} {st : List AV} {μ : Mem} {K : K9} : ins o ini (.aastore) len pc lv st μ K = (K pc lv st μ) := propext Iff.rfl
theorem i_tableswitch {o : Nat} {ini : Bool} {len pc : Nat} {lv : List (Option AV)} {st : List AV} {μ : Mem} {K : K9} {dflt lo hi : Int} {offs : Array Int} : ins o ini (.tableswitch dflt lo hi offs) len pc lv st μ K = (pI st (fun a t => r32 a ∧ 0 ≤ (pc : Int) + dflt ∧ hi + 1 = lo + offs.toList.length ∧ (a < lo ∨ hi < a → K ((pc : Int) + dflt).toNat lv t μ) ∧ swL offs.toList lo a (fun off => 0 ≤ (pc : Int) + off ∧ K ((pc : Int) + off).toNat lv t μ))) := propext Iff.rfl
theorem st1_u {lv : List (Option AV)} {i : Nat} {v : AV} {f : List (Option AV) → Prop} : st1 lv i v f = (nl lv i = true ∧ i < lv.length ∧ f (lst lv i (some v))) := propext Iff.rfl
theorem st2_u {lv : List (Option AV)} {i : Nat} {v : Int} {f : List (Option AV) → Prop} : st2 lv i v f = (nl lv i = true ∧ i + 1 < lv.length ∧ f (lst (lst lv i (some (.inr (.inl v)))) (i + 1) none)) := propext Iff.rfl
theorem swL_n {lo a : Int} {f : Int → Prop} : swL [] lo a f = True := propext Iff.rfl
theorem swL_c {off lo a : Int} {r : List Int} {f : Int → Prop} : swL (off :: r) lo a f = ((a = lo → f off) ∧ swL r (lo + 1) a f) := propext Iff.rfl
def rn (o : Nat) (ini : Bool) (cc : ByteArray) : Nat → Nat → List (Option AV) → List AV → Mem → K9 → Prop
  | 0, pc, lv, st, μ, K => K pc lv st μ
  | n + 1, pc, lv, st, μ, K => match decode cc pc with
    | .ok (i, len) => ins o ini i len pc lv st μ (fun pc lv st μ => rn o ini cc n pc lv st μ K)
    | .error _ => False
theorem rn_0 {o : Nat} {ini : Bool} {cc : ByteArray} {pc : Nat} {lv : List (Option AV)} {st : List AV} {μ : Mem} {K : K9} : rn o ini cc 0 pc lv st μ K = K pc lv st μ := propext Iff.rfl
theorem rn_s {o : Nat} {ini : Bool} {cc : ByteArray} {n pc len : Nat} {i : Instr} {lv : List (Option AV)} {st : List AV} {μ : Mem} {K : K9} (h : decode cc pc = .ok (i, len)) : rn o ini cc (n + 1) pc lv st μ K = ins o ini i len pc lv st μ (fun pc lv st μ => rn o ini cc n pc lv st μ K) := by
  simp [rn, h]
section JN
variable {l : Launch} {D : va_G} {cy : Nat → ClassId} {Γ : Ctx} {o : Nat} {cc : ByteArray} {nL d mc ms : Nat} {ini : Bool} {pc : Nat} {lv : List (Option AV)} {st : List AV} {μ : Mem} {ca sl : Nat}
theorem tgt_of {pc : Nat} {off : Int} (h : 0 ≤ (pc : Int) + off) : (pc : Int) + off = (((pc : Int) + off).toNat : Int) := (Int.toNat_of_nonneg h).symm
set_option maxHeartbeats 4000000 in
theorem J_ins {i : Instr} {len : Nat} {K : K9} (hF : Fa D cy Γ o cc nL d mc ms ini) (hd1 : 1 ≤ d) (hca : ca ≤ mc) (hsl : sl ≤ ms) (hd : decode cc pc = .ok (i, len)) (hK : ∀ pc lv st μ, K pc lv st μ → J l D cy Γ pc lv st μ ca sl) (h : ins o ini i len pc lv st μ K) : J l D cy Γ pc lv st μ ca sl := by
  obtain ⟨n, Rf, M⟩ := μ
  unfold ins at h
  split at h
  · obtain ⟨rfl, h⟩ := h
    exact J_iconst hF hd (hK _ _ _ _ h)
  · obtain ⟨rfl, h1, h⟩ := h
    exact J_bipush hF hd (Int8.toInt32_ofInt h1.1 h1.2) (hK _ _ _ _ h)
  · obtain ⟨rfl, h1, h⟩ := h
    exact J_sipush hF hd (Int16.toInt32_ofInt h1.1 h1.2) (hK _ _ _ _ h)
  · obtain ⟨rfl, h⟩ := h
    exact J_lconst hF hd (hK _ _ _ _ h)
  · obtain ⟨rfl, h⟩ := h
    unfold gC at h
    split at h
    · rename_i q
      exact J_ldc hF hd (cst_ok q) (hK _ _ _ _ h)
    · exact h.elim
  · obtain ⟨rfl, h⟩ := h
    unfold gD at h
    split at h
    · rename_i q
      exact J_ldc2 hF hd (csl_ok q) (hK _ _ _ _ h)
    · exact h.elim
  · obtain ⟨rfl, h⟩ := h
    obtain ⟨z, e, h⟩ := gI_e h
    exact J_iload_n hF hd e (hK _ _ _ _ h)
  · obtain ⟨rfl, h⟩ := h
    obtain ⟨z, e, h⟩ := gI_e h
    exact J_iload hF hd e (hK _ _ _ _ h)
  · obtain ⟨rfl, h⟩ := h
    obtain ⟨z, e, h⟩ := gL_e h
    exact J_lload hF hd e (hK _ _ _ _ h)
  · obtain ⟨rfl, h⟩ := h
    obtain ⟨z, e, h⟩ := gR_e h
    exact J_aload_n hF hd e (hK _ _ _ _ h)
  · obtain ⟨rfl, h⟩ := h
    obtain ⟨z, e, h⟩ := gR_e h
    exact J_aload hF hd e (hK _ _ _ _ h)
  · obtain ⟨rfl, h⟩ := h
    obtain ⟨z, t, rfl, h1, h2, h⟩ := pI_e h
    exact J_istore_n hF hd h1 h2 (hK _ _ _ _ h)
  · obtain ⟨rfl, h⟩ := h
    obtain ⟨z, t, rfl, h1, h2, h⟩ := pI_e h
    exact J_istore hF hd h1 h2 (hK _ _ _ _ h)
  · obtain ⟨rfl, h⟩ := h
    obtain ⟨z, t, rfl, h1, h2, h⟩ := pL_e h
    exact J_lstore hF hd h1 h2 (hK _ _ _ _ h)
  · obtain ⟨rfl, h⟩ := h
    obtain ⟨z, t, rfl, h1, h2, h⟩ := pR_e h
    exact J_astore_n hF hd h1 h2 (hK _ _ _ _ h)
  · obtain ⟨rfl, h⟩ := h
    obtain ⟨z, t, rfl, h1, h2, h⟩ := pR_e h
    exact J_astore hF hd h1 h2 (hK _ _ _ _ h)
  · obtain ⟨rfl, h⟩ := h
    obtain ⟨z, e, h1, h⟩ := gI_e h
    exact J_iinc hF hd e h1 (hK _ _ _ _ h)
  · obtain ⟨rfl, h⟩ := h
    obtain ⟨a, b, t, rfl, h⟩ := pII_e h
    exact J_iadd hF hd (hK _ _ _ _ h)
  · obtain ⟨rfl, h⟩ := h
    obtain ⟨a, b, t, rfl, h⟩ := pII_e h
    exact J_isub hF hd (hK _ _ _ _ h)
  · obtain ⟨rfl, h⟩ := h
    obtain ⟨a, b, t, rfl, h⟩ := pII_e h
    exact J_imul hF hd (hK _ _ _ _ h)
  · obtain ⟨rfl, h⟩ := h
    obtain ⟨a, b, t, rfl, h⟩ := pII_e h
    exact J_iand hF hd (hK _ _ _ _ h)
  · obtain ⟨rfl, h⟩ := h
    obtain ⟨a, b, t, rfl, h⟩ := pII_e h
    exact J_ixor hF hd (hK _ _ _ _ h)
  · obtain ⟨rfl, h⟩ := h
    obtain ⟨a, t, rfl, h⟩ := pI_e h
    exact J_ineg hF hd (hK _ _ _ _ h)
  · obtain ⟨rfl, h⟩ := h
    obtain ⟨a, b, t, rfl, h1, h2, h⟩ := pII_e h
    exact J_idiv hF hd h1 h2 (hK _ _ _ _ h)
  · obtain ⟨rfl, h⟩ := h
    obtain ⟨a, b, t, rfl, h1, h2, h⟩ := pII_e h
    exact J_irem hF hd h1 h2 (hK _ _ _ _ h)
  · obtain ⟨rfl, h⟩ := h
    obtain ⟨a, b, t, rfl, h1, h2, h⟩ := pII_e h
    exact J_ishl hF hd h1 h2 (hK _ _ _ _ h)
  · obtain ⟨rfl, h⟩ := h
    obtain ⟨a, b, t, rfl, h1, h2, h⟩ := pII_e h
    exact J_ishr hF hd h1 h2 (hK _ _ _ _ h)
  · obtain ⟨rfl, h⟩ := h
    obtain ⟨a, b, t, rfl, h⟩ := pLL_e h
    exact J_ladd hF hd (hK _ _ _ _ h)
  · obtain ⟨rfl, h⟩ := h
    obtain ⟨a, b, t, rfl, h⟩ := pLL_e h
    exact J_lmul hF hd (hK _ _ _ _ h)
  · obtain ⟨rfl, h⟩ := h
    obtain ⟨a, b, t, rfl, h1, h2, h⟩ := pLL_e h
    exact J_ldiv hF hd h1 h2 (hK _ _ _ _ h)
  · obtain ⟨rfl, h⟩ := h
    obtain ⟨a, b, t, rfl, h1, h2, h⟩ := pLL_e h
    exact J_lrem hF hd h1 h2 (hK _ _ _ _ h)
  · obtain ⟨rfl, h⟩ := h
    obtain ⟨a, b, t, rfl, h1, h2, h⟩ := pLL_e h
    exact J_lcmp hF hd h1 h2 (hK _ _ _ _ h)
  · obtain ⟨rfl, h⟩ := h
    obtain ⟨a, t, rfl, h1, h⟩ := pI_e h
    exact J_i2l hF hd h1 (hK _ _ _ _ h)
  · obtain ⟨rfl, h⟩ := h
    obtain ⟨a, t, rfl, h⟩ := pL_e h
    exact J_l2i hF hd (hK _ _ _ _ h)
  · obtain ⟨rfl, h⟩ := h
    obtain ⟨v, t, rfl, h1, h⟩ := pV_e h
    exact J_dup hF hd h1 (hK _ _ _ _ h)
  · obtain ⟨rfl, h⟩ := h
    obtain ⟨v, u, t, rfl, h1, h2, h⟩ := pVV_e h
    exact J_dup2 hF hd h1 h2 (hK _ _ _ _ h)
  · obtain ⟨rfl, h1, h⟩ := h
    exact J_goto hF hd (tgt_of h1) (hK _ _ _ _ h)
  · obtain ⟨rfl, h1, h⟩ := h
    obtain ⟨a, b, t, rfl, h2, h3, h⟩ := pII_e h
    rename_i cnd off zz
    cases cnd
    · exact J_icmp_eq hF hd (tgt_of h1) h2 h3 (fun q => hK _ _ _ _ (h.1 q)) (fun q => hK _ _ _ _ (h.2 q))
    · exact J_icmp_ne hF hd (tgt_of h1) h2 h3 (fun q => hK _ _ _ _ (h.1 q)) (fun q => hK _ _ _ _ (h.2 q))
    · exact J_icmp_lt hF hd (tgt_of h1) h2 h3 (fun q => hK _ _ _ _ (h.1 q)) (fun q => hK _ _ _ _ (h.2 q))
    · exact J_icmp_ge hF hd (tgt_of h1) h2 h3 (fun q => hK _ _ _ _ (h.1 q)) (fun q => hK _ _ _ _ (h.2 q))
    · exact J_icmp_gt hF hd (tgt_of h1) h2 h3 (fun q => hK _ _ _ _ (h.1 q)) (fun q => hK _ _ _ _ (h.2 q))
    · exact J_icmp_le hF hd (tgt_of h1) h2 h3 (fun q => hK _ _ _ _ (h.1 q)) (fun q => hK _ _ _ _ (h.2 q))
  · obtain ⟨rfl, h1, h⟩ := h
    obtain ⟨a, t, rfl, h2, h⟩ := pI_e h
    rename_i cnd off zz
    cases cnd
    · exact J_if_eq hF hd (tgt_of h1) h2 (fun q => hK _ _ _ _ (h.1 q)) (fun q => hK _ _ _ _ (h.2 q))
    · exact J_if_ne hF hd (tgt_of h1) h2 (fun q => hK _ _ _ _ (h.1 q)) (fun q => hK _ _ _ _ (h.2 q))
    · exact J_if_lt hF hd (tgt_of h1) h2 (fun q => hK _ _ _ _ (h.1 q)) (fun q => hK _ _ _ _ (h.2 q))
    · exact J_if_ge hF hd (tgt_of h1) h2 (fun q => hK _ _ _ _ (h.1 q)) (fun q => hK _ _ _ _ (h.2 q))
    · exact J_if_gt hF hd (tgt_of h1) h2 (fun q => hK _ _ _ _ (h.1 q)) (fun q => hK _ _ _ _ (h.2 q))
    · exact J_if_le hF hd (tgt_of h1) h2 (fun q => hK _ _ _ _ (h.1 q)) (fun q => hK _ _ _ _ (h.2 q))
  · obtain ⟨rfl, h⟩ := h
    obtain ⟨c, t, rfl, h⟩ := pR_e h
    unfold gF at h
    split at h
    · rename_i q
      exact J_getfield hF hd q h.1 h.2.1 (hK _ _ _ _ h.2.2)
    · exact h.elim
  · obtain ⟨rfl, h⟩ := h
    unfold gF at h
    split at h
    · rename_i q
      obtain ⟨hw, h⟩ := h
      split at h
      · rename_i h2
        obtain ⟨c, r, t, rfl, h3, h4, h⟩ := pRR_e h
        exact J_putR hF hd q h3 h4 h2 hw (hK _ _ _ _ h)
      · obtain ⟨c, z, t, rfl, h2, h3, h4, h⟩ := pRI_e h
        exact J_putI hF hd q h3 h4 h2 hw (hK _ _ _ _ h)
    · exact h.elim
  · obtain ⟨rfl, h⟩ := h
    obtain ⟨c, j, t, rfl, h1, h2, h3, h4, h⟩ := pRI_e h
    exact J_iaload hF hd h1 h2 h3 h4 (hK _ _ _ _ h)
  · obtain ⟨rfl, h⟩ := h
    obtain ⟨c, j, t, rfl, h1, h2, h3, h4, h⟩ := pRI_e h
    exact J_laload hF hd h1 h2 h3 h4 (hK _ _ _ _ h)
  · obtain ⟨rfl, h⟩ := h
    obtain ⟨c, j, t, rfl, h1, h2, h3, h4, h⟩ := pRI_e h
    exact J_aaload hF hd h1 h2 h3 h4 (hK _ _ _ _ h)
  · obtain ⟨rfl, h⟩ := h
    obtain ⟨c, j, z, t, rfl, h1, h2, h3, h4, h⟩ := pRII_e h
    exact J_iastore hF hd h1 h2 h3 h4 (hK _ _ _ _ h)
  · obtain ⟨rfl, h⟩ := h
    obtain ⟨c, j, z, t, rfl, h1, h2, h3, h4, h⟩ := pRIL_e h
    exact J_lastore hF hd h1 h2 h3 h4 (hK _ _ _ _ h)
  · obtain ⟨rfl, h⟩ := h
    obtain ⟨c, t, rfl, h1, h2, h⟩ := pR_e h
    exact J_alen hF hd h1 h2 (hK _ _ _ _ h)
  · obtain ⟨rfl, h⟩ := h
    unfold gJ at h
    split at h
    · rename_i q
      split at h
      · rename_i h0
        subst h0
        obtain ⟨z, t, rfl, h1, h2, h⟩ := pI_e h
        exact J_abs hF hd q hd1 h1 hca hsl h2 (hK _ _ _ _ h)
      · split at h
        · rename_i h0
          subst h0
          obtain ⟨a, b, t, rfl, h1, h2, h3, h⟩ := pII_e h
          exact J_min hF hd q hd1 h1 hca hsl h2 h3 (hK _ _ _ _ h)
        · exact h.elim
    · exact hK _ _ _ _ h
  · obtain ⟨rfl, h⟩ := h
    unfold gJ at h
    split at h
    · rename_i q
      obtain ⟨rfl, h⟩ := h
      obtain ⟨c, t, rfl, h1, h⟩ := pR_e h
      exact J_objInit hF hd q hd1 h1 (hK _ _ _ _ h)
    · exact hK _ _ _ _ h
  · exact hK _ _ _ _ h
  · exact hK _ _ _ _ h
  · exact hK _ _ _ _ h
  · exact hK _ _ _ _ h
  · exact hK _ _ _ _ h
  · exact hK _ _ _ _ h
  · exact hK _ _ _ _ h
  · exact hK _ _ _ _ h
  · exact hK _ _ _ _ h
  · exact hK _ _ _ _ h
  · obtain ⟨a, t, rfl, h1, h2, h3, h4, h5⟩ := pI_e h
    rename_i dflt lo hi offs
    intro p e s m args below meth c A R Q ad0 n0 hG ad H locs ls hP hD hS hl hn ha
    obtain ⟨⟨hx, hb, hml, hown⟩, -⟩ := hF _ _ _ _ _ _ _ _ _ _ _ _ _ hG
    by_cases q : a < lo ∨ hi < a
    · exact lv_tableOut hx hb hd (by rw [r32_t h1]; exact q) (tgt_of h2) (hK _ _ _ _ (h4 q) p e s m args below meth c A R Q ad0 n0 hG ad H locs ls hP hD hS hl hn ha)
    · have q1 : ¬ a < lo := fun z => q (Or.inl z)
      have q2 : ¬ hi < a := fun z => q (Or.inr z)
      obtain ⟨j, hj⟩ : ∃ j : Nat, a = lo + j := ⟨(a - lo).toNat, by omega⟩
      have hjl : j < offs.toList.length := by omega
      obtain ⟨off, ho⟩ : ∃ off, offs.toList[j]? = some off := ⟨_, List.getElem?_eq_getElem hjl⟩
      obtain ⟨g1, g2⟩ := swL_e _ _ _ _ h5 j off ho hj
      exact lv_tableIn hx hb hd (by rw [r32_t h1]; exact q1) (by rw [r32_t h1]; exact q2) (off := off) (by rw [r32_t h1, hj, show (lo + (j : Int) - lo).toNat = j by omega]; simpa using ho) (tgt_of g1) (hK _ _ _ _ g2 p e s m args below meth c A R Q ad0 n0 hG ad H locs ls hP hD hS hl hn ha)
  · exact h.elim
theorem J_rn (hF : Fa D cy Γ o cc nL d mc ms ini) (hd1 : 1 ≤ d) (hca : ca ≤ mc) (hsl : sl ≤ ms) : ∀ (n pc : Nat) (lv : List (Option AV)) (st : List AV) (μ : Mem), rn o ini cc n pc lv st μ (fun pc lv st μ => J l D cy Γ pc lv st μ ca sl) → J l D cy Γ pc lv st μ ca sl
  | 0, _, _, _, _, h => h
  | n + 1, pc, lv, st, μ, h => by
    unfold rn at h
    split at h
    · rename_i q
      exact J_ins hF hd1 hca hsl q (fun pc lv st μ h => J_rn hF hd1 hca hsl n pc lv st μ h) h
    · exact h.elim
end JN
