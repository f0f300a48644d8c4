/-- what surrounds a method's walk: the machine, the method's start, its own cells, its room, its end, where the cells lay at its start, how many there were -/
abbrev Ctx : Type := Program → Env → State → MethodId → Array Value → List Frame → Method → Code → (Nat → Prop) → Room → (State → Prop) → (Nat → Nat) → Nat → Prop
def tys (cy : Nat → ClassId) : List (ClassId × FieldType) := [(cy 10, .int), (cy 10, .int), (cy 12, .object "InkKitchen$Ink"), (cy 13, .object "InkKitchen$Job"), (cy 14, .array .int)]
/-- what a throw and a making of arrays need of the start: the two statics of Throwable, the words that aren't good, the classes of arrays -/
def bads : List Cond := [.declares (Bundle.init0 "java/lang/RuntimeException"), .declares (Bundle.init0 "java/lang/Exception"), .declares (Bundle.init0 "java/lang/Throwable"), .castable "java/lang/IllegalArgumentException" "java/lang/IllegalArgumentException", .castable "java/lang/IllegalStateException" "java/lang/IllegalStateException", .castable "java/lang/IndexOutOfBoundsException" "java/lang/IndexOutOfBoundsException"]
def EnvR (A : Nat → Prop) (U : State) (H : Heap) : Prop := vx_Zq Bundle.tN "UNASSIGNED_STACK" Bundle.steD A U H ∧ vx_Zq Bundle.tN "SUPPRESSED_SENTINEL" Bundle.listD A U H ∧ (∀ w ∈ bads, va_Nw w U) ∧ va_AO "InkKitchen$Ink" U ∧ va_AO "InkKitchen$Job" U ∧ va_AOA .int U
def Fx (D : va_G) (cy : Nat → ClassId) (o : Nat) (cc : ByteArray) (nL d mc ms : Nat) (ini : Bool) : Ctx := fun p e s m args below meth c A R Q ad0 n0 =>
  (p.tables.exec = Jvm.exec ∧ c.code = cc ∧ c.maxLocals = nL ∧ s.vm.findClass (oN o) = some m.cls) ∧ (∀ w ∈ gT, w.before args s = true) ∧ va_K D vwCl (tys cy) s ∧ (∀ q : Nat, s.heap.size ≤ q → A q) ∧ (R.cells = mc ∧ R.slots = ms ∧ d ≤ R.frames ∧ 40 * d ≤ R.locals) ∧ meth.locks = false ∧ (ini = true → meth.name = "<init>") ∧ EnvR A s s.heap
def Fa (D : va_G) (cy : Nat → ClassId) (Γ : Ctx) (o : Nat) (cc : ByteArray) (nL d mc ms : Nat) (ini : Bool) : Prop := ∀ p e s m args below meth c A R Q ad0 n0, Γ p e s m args below meth c A R Q ad0 n0 → Fx D cy o cc nL d mc ms ini p e s m args below meth c A R Q ad0 n0
/-- the machine, at pc with these locals and this stack over this world, comes to the end that Γ tells -/
def J (l : Launch) (D : va_G) (cy : Nat → ClassId) (Γ : Ctx) (pc : Nat) (lv : List (Option AV)) (st : List AV) (μ : Mem) (ca sl : Nat) : Prop :=
  ∀ p e s m args below meth c A R Q ad0 n0, Γ p e s m args below meth c A R Q ad0 n0 → ∀ (ad : Nat → Nat) (H : Heap) (locs : List Loc) (ls : Array Slot), va_P D vwCl (wld cy ad μ) H → va_D A (wld cy ad μ) → va_S A s.heap H locs → lv_has ls lv.length (prs ad lv) → lv.length = c.maxLocals → ((∀ i : Nat, (i < n0 ∨ μ.1 ≤ i) → ad i = ad0 i) ∧ n0 ≤ μ.1) →
    W p l e R s m args below meth c H locs ca sl Q (F0 m pc ls (st.map (cv ad)))
def r32 (z : Int) : Prop := -2147483648 ≤ z ∧ z ≤ 2147483647
def r64 (z : Int) : Prop := -9223372036854775808 ≤ z ∧ z ≤ 9223372036854775807
theorem r32_t {z : Int} (h : r32 z) : (Int32.ofInt z).toInt = z := Int32.toInt_ofInt_of_le (by have := h.1; simpa using this) (by have := h.2; show z < 2147483648; omega)
theorem r32_eq {a b : Int} (ha : r32 a) (hb : r32 b) : Int32.ofInt a = Int32.ofInt b ↔ a = b := by
  constructor
  · intro h
    rw [← r32_t ha, ← r32_t hb, h]
  · rintro rfl; rfl
theorem r32_lt {a b : Int} (ha : r32 a) (hb : r32 b) : Int32.ofInt a < Int32.ofInt b ↔ a < b := by rw [Int32.lt_iff_toInt_lt, r32_t ha, r32_t hb]
theorem r32_le {a b : Int} (ha : r32 a) (hb : r32 b) : Int32.ofInt a ≤ Int32.ofInt b ↔ a ≤ b := by rw [Int32.le_iff_toInt_le, r32_t ha, r32_t hb]
theorem r64_t {z : Int} (h : r64 z) : (Int64.ofInt z).toInt = z := Int64.toInt_ofInt_of_le (by have := h.1; simpa using this) (by have := h.2; show z < 9223372036854775808; omega)
theorem r64_eq {a b : Int} (ha : r64 a) (hb : r64 b) : Int64.ofInt a = Int64.ofInt b ↔ a = b := by
  constructor
  · intro h
    rw [← r64_t ha, ← r64_t hb, h]
  · rintro rfl; rfl
theorem r64_lt {a b : Int} (ha : r64 a) (hb : r64 b) : Int64.ofInt a < Int64.ofInt b ↔ a < b := by rw [Int64.lt_iff_toInt_lt, r64_t ha, r64_t hb]
theorem r32_0 : r32 0 := ⟨by decide, by decide⟩
theorem ofI_0 : Int32.ofInt 0 = 0 := rfl
theorem ofI_nI {z : Int} (h : 0 ≤ z) : Int32.ofInt z = nI z.toNat := by
  obtain ⟨n, rfl⟩ := Int.eq_ofNat_of_zero_le h
  rw [Int.toNat_natCast]
  exact Int32.ofInt_eq_ofNat
theorem ofI_lN {z : Int} (h : 0 ≤ z) : Int64.ofInt z = lN z.toNat := by
  obtain ⟨n, rfl⟩ := Int.eq_ofNat_of_zero_le h
  rw [Int.toNat_natCast]
  exact Int64.ofInt_eq_ofNat
def bAnd (a b : Int) : Int := (BitVec.ofInt 32 a &&& BitVec.ofInt 32 b).toInt
def bXor (a b : Int) : Int := (BitVec.ofInt 32 a ^^^ BitVec.ofInt 32 b).toInt
theorem ofI_and (a b : Int) : Int32.ofInt (bAnd a b) = Int32.ofInt a &&& Int32.ofInt b := by
  apply Int32.toBitVec_inj.mp
  simp only [bAnd, Int32.toBitVec_ofInt, BitVec.ofInt_toInt, Int32.toBitVec_and]
theorem ofI_xor (a b : Int) : Int32.ofInt (bXor a b) = Int32.ofInt a ^^^ Int32.ofInt b := by
  apply Int32.toBitVec_inj.mp
  simp only [bXor, Int32.toBitVec_ofInt, BitVec.ofInt_toInt, Int32.toBitVec_xor]
def lcI (a b : Int) : Int := if a > b then 1 else if a = b then 0 else -1
theorem ofI_cmp {a b : Int} (ha : r64 a) (hb : r64 b) : Int32.ofInt (lcI a b) = lg_cmp (Int64.ofInt a) (Int64.ofInt b) := by
  unfold lcI lg_cmp
  by_cases h : b < a
  · rw [if_pos h, if_pos ((r64_lt hb ha).mpr h)]; rfl
  · rw [if_neg h, if_neg (fun q => h ((r64_lt hb ha).mp q))]
    by_cases h2 : a = b
    · rw [if_pos h2, if_pos (by rw [h2])]; rfl
    · rw [if_neg h2, if_neg (fun q => h2 ((r64_eq ha hb).mp q))]; rfl
theorem ofI_div {a b : Int} (ha : 0 ≤ a) (ha2 : a ≤ 2147483647) (hb : 0 < b) (hb2 : b ≤ 2147483647) : Int32.ofInt (a / b) = Int32.ofInt a / Int32.ofInt b := by
  have e1 : Int32.ofInt (a / b) = nI (a.toNat / b.toNat) := by
    rw [ofI_nI (Int.ediv_nonneg ha (by omega))]
    congr 1
    obtain ⟨x, rfl⟩ := Int.eq_ofNat_of_zero_le ha
    obtain ⟨y, rfl⟩ := Int.eq_ofNat_of_zero_le (show 0 ≤ b by omega)
    simp only [Int.toNat_natCast]
    rw [← Int.natCast_ediv, Int.toNat_natCast]
  rw [e1, ofI_nI ha, ofI_nI (show 0 ≤ b by omega), pk_div (by omega) (by omega) (by omega)]
theorem ofL_div {a b : Int} (ha : 0 ≤ a) (ha2 : a ≤ 9223372036854775807) (hb : 0 < b) (hb2 : b ≤ 9223372036854775807) : Int64.ofInt (a / b) = Int64.ofInt a / Int64.ofInt b := by
  have e1 : Int64.ofInt (a / b) = lN (a.toNat / b.toNat) := by
    rw [ofI_lN (Int.ediv_nonneg ha (by omega))]
    congr 1
    obtain ⟨x, rfl⟩ := Int.eq_ofNat_of_zero_le ha
    obtain ⟨y, rfl⟩ := Int.eq_ofNat_of_zero_le (show 0 ≤ b by omega)
    simp only [Int.toNat_natCast]
    rw [← Int.natCast_ediv, Int.toNat_natCast]
  rw [e1, ofI_lN ha, ofI_lN (show 0 ≤ b by omega), pk_lDiv (by omega) (by omega) (by omega)]
theorem ln_le (c : Nat) : ln c ≤ 4352 := by
  unfold ln
  have key : ∀ (l : List Nat) (i : Nat), (∀ x ∈ l, x ≤ 4352) → l.getD i 0 ≤ 4352 := by
    intro l i h
    rw [List.getD_eq_getElem?_getD]
    cases hi : l[i]? with
    | none => simp
    | some x => simpa using h x (List.mem_of_getElem? hi)
  split
  · exact key _ _ (by decide)
  split
  · omega
  split
  · exact key _ _ (by decide)
  split
  · omega
  split
  · omega
  split
  · omega
  split
  · omega
  split
  · omega
  split
  · split <;> omega
  · exact key _ _ (by decide)
theorem ix_in {j : Int} {c : Nat} (h0 : 0 ≤ j) (h1 : j < ln c) : vp_in (Int32.ofInt j) (ln c) := by
  have := ln_le c
  rw [vp_in_iff, r32_t ⟨by omega, by omega⟩]
  exact ⟨h0, h1⟩
theorem ix_cl {j : Int} {c : Nat} (h0 : 0 ≤ j) (h1 : j < ln c) : (Int32.ofInt j).toNatClampNeg = j.toNat := by
  have := ln_le c
  show (Int32.ofInt j).toInt.toNat = j.toNat
  rw [r32_t ⟨by omega, by omega⟩]
/-- what a field answers -/
def fld (μ : Mem) (c k t : Nat) : AV := if t = 2 then .inr (.inr (μ.2.1 c k)) else .inl (μ.2.2 c k)
theorem cv_fld {ad : Nat → Nat} {μ : Mem} {c k t : Nat} : cv ad (fld μ c k t) = fva ad μ c k t := by
  unfold fld fva
  split <;> rfl
theorem cel_o {cy : Nat → ClassId} {ad : Nat → Nat} {μ : Mem} {c ci : Nat} (h : kd c = ci) (h10 : ci < 10) : cel cy ad μ c = .inr (ci, (List.range (Nn ci)).map (fun k => fva ad μ c k (fty ci k))) := by
  unfold cel
  rw [if_pos (by omega), h]
theorem cel_i {cy : Nat → ClassId} {ad : Nat → Nat} {μ : Mem} {c : Nat} (h : kd c = 10) : cel cy ad μ c = .inl (cy 10, ln c, .inl (fun j => Int32.ofInt (μ.2.2 c j))) := by
  unfold cel
  rw [if_neg (by omega), if_pos h]
theorem cel_l {cy : Nat → ClassId} {ad : Nat → Nat} {μ : Mem} {c : Nat} (h : kd c = 11) : cel cy ad μ c = .inl (cy 11, ln c, .inr (.inl (fun j => Int64.ofInt (μ.2.2 c j)))) := by
  unfold cel
  rw [if_neg (by omega), if_neg (by omega), if_pos h]
theorem cel_r {cy : Nat → ClassId} {ad : Nat → Nat} {μ : Mem} {c : Nat} (h : 12 ≤ kd c) : cel cy ad μ c = .inl (cy (kd c), ln c, .inr (.inr (.inr (.inr (fun j => (μ.2.1 c j).map ad))))) := by
  unfold cel
  rw [if_neg (by omega), if_neg (by omega), if_neg (by omega)]
/-- another cell isn't changed by a number written -/
theorem cel_up {cy : Nat → ClassId} {ad : Nat → Nat} {n : Nat} {Rf : Nat → Nat → Option Nat} {M : Nat → Nat → Int} {c k : Nat} {z : Int} {d : Nat} (h : d ≠ c) : cel cy ad (n, Rf, up2 M c k z) d = cel cy ad (n, Rf, M) d := by
  have e : ∀ j, up2 M c k z d j = M d j := fun j => up2_c h
  unfold cel
  simp only [fva, e]
theorem cel_upR {cy : Nat → ClassId} {ad : Nat → Nat} {n : Nat} {Rf : Nat → Nat → Option Nat} {M : Nat → Nat → Int} {c k : Nat} {z : Option Nat} {d : Nat} (h : d ≠ c) : cel cy ad (n, upR Rf c k z, M) d = cel cy ad (n, Rf, M) d := by
  have e : ∀ j, upR Rf c k z d j = Rf d j := fun j => by simp [upR, h]
  unfold cel
  simp only [fva, e]
theorem oN_Cn {ci : Nat} (h : ci < 10) : oN ci = Cn ci := by
  match ci, h with
  | 0, _ | 1, _ | 2, _ | 3, _ | 4, _ | 5, _ | 6, _ | 7, _ | 8, _ | 9, _ => rfl
theorem sh_c : ∀ n : Nat, n < 31 → ((nI n &&& 31).toBitVec.smod 32).toNat = n := by decide +kernel
theorem sh_l {a b : Int} (h1 : 0 ≤ a) (h2 : a * 2 ^ b.toNat ≤ 2147483647) (h3 : 0 ≤ b) (h4 : b < 31) {ad : Nat → Nat} : cv ad (.inl (a * 2 ^ b.toNat)) = .int (Int32.ofInt a <<< (Int32.ofInt b &&& 31)) := by
  obtain ⟨x, rfl⟩ := Int.eq_ofNat_of_zero_le h1
  obtain ⟨y, rfl⟩ := Int.eq_ofNat_of_zero_le h3
  have e : ((x : Int) * 2 ^ (y : Int).toNat) = ((x * 2 ^ y : Nat) : Int) := by simp
  rw [e] at h2 ⊢
  show Value.int _ = _
  rw [ofI_nI (Int.natCast_nonneg _), ofI_nI h1, ofI_nI h3]
  simp only [Int.toNat_natCast]
  rw [pk_shlN _ y (sh_c y (by omega)) (by omega)]
theorem sh_r {a b : Int} (h1 : -2147483648 ≤ a) (h2 : a ≤ 2147483647) (h3 : 0 ≤ b) (h4 : b < 31) {ad : Nat → Nat} : cv ad (.inl (a / 2 ^ b.toNat)) = .int (Int32.ofInt a >>> (Int32.ofInt b &&& 31)) := by
  obtain ⟨y, rfl⟩ := Int.eq_ofNat_of_zero_le h3
  simp only [Int.toNat_natCast]
  show Value.int _ = _
  rw [ofI_nI h3]
  simp only [Int.toNat_natCast]
  have hp : (0 : Int) < 2 ^ y := Int.pow_pos (by decide)
  have e : Int32.ofInt (a / 2 ^ y) = Int32.ofInt a >>> (nI y &&& 31) := by
    apply Int32.toInt_inj.mp
    have b1 : -2147483648 ≤ a / 2 ^ y := by
      apply Int.le_ediv_of_mul_le hp
      generalize (2 : Int) ^ y = P at hp ⊢
      omega
    have b2 : a / 2 ^ y ≤ 2147483647 := by
      apply Int.ediv_le_of_le_mul hp
      generalize (2 : Int) ^ y = P at hp ⊢
      omega
    rw [pk_shr _ _ y (sh_c y (by omega)), r32_t ⟨h1, h2⟩, r32_t ⟨b1, b2⟩, Int.shiftRight_eq_div_pow]
    congr 1
  rw [e]
section JR
variable {l : Launch} {D : va_G} {cy : Nat → ClassId} {Γ : Ctx} {o : Nat} {cc : ByteArray} {nL d mc ms : Nat} {ini : Bool} {pc : Nat} {lv : List (Option AV)} {st : List AV} {μ : Mem} {ca sl : Nat}
theorem J_iadd {a b : Int} (hF : Fa D cy Γ o cc nL d mc ms ini) (hd : decode cc pc = .ok (.iadd, 1)) (k : J l D cy Γ (pc + 1) lv (.inl (a + b) :: st) μ ca sl) : J l D cy Γ pc lv (.inl b :: .inl a :: st) μ ca sl := by
  intro p e s m args below meth c A R Q ad0 n0 hG ad H locs ls hP hD hS hl hn ha
  obtain ⟨⟨hx, hb, hml, hown⟩, hts, hK, hA, ⟨hmc, hms, hfr, hlo⟩, hlk, hin, hev⟩ := hF _ _ _ _ _ _ _ _ _ _ _ _ _ hG
  have k' := k p e s m args below meth c A R Q ad0 n0 hG ad H locs ls hP hD hS hl hn ha
  have e9 : cv ad (.inl (a + b)) = .int (Int32.ofInt a + Int32.ofInt b) := by simp [cv]
  rw [List.map_cons, e9] at k'
  exact lv_iadd hx hb hd k'
theorem J_isub {a b : Int} (hF : Fa D cy Γ o cc nL d mc ms ini) (hd : decode cc pc = .ok (.isub, 1)) (k : J l D cy Γ (pc + 1) lv (.inl (a - b) :: st) μ ca sl) : J l D cy Γ pc lv (.inl b :: .inl a :: st) μ ca sl := by
  intro p e s m args below meth c A R Q ad0 n0 hG ad H locs ls hP hD hS hl hn ha
  obtain ⟨⟨hx, hb, hml, hown⟩, hts, hK, hA, ⟨hmc, hms, hfr, hlo⟩, hlk, hin, hev⟩ := hF _ _ _ _ _ _ _ _ _ _ _ _ _ hG
  have k' := k p e s m args below meth c A R Q ad0 n0 hG ad H locs ls hP hD hS hl hn ha
  have e9 : cv ad (.inl (a - b)) = .int (Int32.ofInt a - Int32.ofInt b) := by simp [cv]
  rw [List.map_cons, e9] at k'
  exact lv_isub hx hb hd k'
theorem J_imul {a b : Int} (hF : Fa D cy Γ o cc nL d mc ms ini) (hd : decode cc pc = .ok (.imul, 1)) (k : J l D cy Γ (pc + 1) lv (.inl (a * b) :: st) μ ca sl) : J l D cy Γ pc lv (.inl b :: .inl a :: st) μ ca sl := by
  intro p e s m args below meth c A R Q ad0 n0 hG ad H locs ls hP hD hS hl hn ha
  obtain ⟨⟨hx, hb, hml, hown⟩, hts, hK, hA, ⟨hmc, hms, hfr, hlo⟩, hlk, hin, hev⟩ := hF _ _ _ _ _ _ _ _ _ _ _ _ _ hG
  have k' := k p e s m args below meth c A R Q ad0 n0 hG ad H locs ls hP hD hS hl hn ha
  have e9 : cv ad (.inl (a * b)) = .int (Int32.ofInt a * Int32.ofInt b) := by simp [cv]
  rw [List.map_cons, e9] at k'
  exact lv_imul hx hb hd k'
theorem J_ladd {a b : Int} (hF : Fa D cy Γ o cc nL d mc ms ini) (hd : decode cc pc = .ok (.ladd, 1)) (k : J l D cy Γ (pc + 1) lv (.inr (.inl (a + b)) :: st) μ ca sl) : J l D cy Γ pc lv (.inr (.inl b) :: .inr (.inl a) :: st) μ ca sl := by
  intro p e s m args below meth c A R Q ad0 n0 hG ad H locs ls hP hD hS hl hn ha
  obtain ⟨⟨hx, hb, hml, hown⟩, hts, hK, hA, ⟨hmc, hms, hfr, hlo⟩, hlk, hin, hev⟩ := hF _ _ _ _ _ _ _ _ _ _ _ _ _ hG
  have k' := k p e s m args below meth c A R Q ad0 n0 hG ad H locs ls hP hD hS hl hn ha
  have e9 : cv ad (.inr (.inl (a + b))) = .long (Int64.ofInt a + Int64.ofInt b) := by simp [cv]
  rw [List.map_cons, e9] at k'
  exact lv_ladd hx hb hd k'
theorem J_lmul {a b : Int} (hF : Fa D cy Γ o cc nL d mc ms ini) (hd : decode cc pc = .ok (.lmul, 1)) (k : J l D cy Γ (pc + 1) lv (.inr (.inl (a * b)) :: st) μ ca sl) : J l D cy Γ pc lv (.inr (.inl b) :: .inr (.inl a) :: st) μ ca sl := by
  intro p e s m args below meth c A R Q ad0 n0 hG ad H locs ls hP hD hS hl hn ha
  obtain ⟨⟨hx, hb, hml, hown⟩, hts, hK, hA, ⟨hmc, hms, hfr, hlo⟩, hlk, hin, hev⟩ := hF _ _ _ _ _ _ _ _ _ _ _ _ _ hG
  have k' := k p e s m args below meth c A R Q ad0 n0 hG ad H locs ls hP hD hS hl hn ha
  have e9 : cv ad (.inr (.inl (a * b))) = .long (Int64.ofInt a * Int64.ofInt b) := by simp [cv]
  rw [List.map_cons, e9] at k'
  exact lv_lmul hx hb hd k'
theorem J_ineg {a : Int} (hF : Fa D cy Γ o cc nL d mc ms ini) (hd : decode cc pc = .ok (.ineg, 1)) (k : J l D cy Γ (pc + 1) lv (.inl (-a) :: st) μ ca sl) : J l D cy Γ pc lv (.inl a :: st) μ ca sl := by
  intro p e s m args below meth c A R Q ad0 n0 hG ad H locs ls hP hD hS hl hn ha
  obtain ⟨⟨hx, hb, hml, hown⟩, hts, hK, hA, ⟨hmc, hms, hfr, hlo⟩, hlk, hin, hev⟩ := hF _ _ _ _ _ _ _ _ _ _ _ _ _ hG
  have k' := k p e s m args below meth c A R Q ad0 n0 hG ad H locs ls hP hD hS hl hn ha
  have e9 : cv ad (.inl (-a)) = .int (-Int32.ofInt a) := by simp [cv]
  rw [List.map_cons, e9] at k'
  exact lv_ineg hx hb hd k'
theorem J_iand {a b : Int} (hF : Fa D cy Γ o cc nL d mc ms ini) (hd : decode cc pc = .ok (.iand, 1)) (k : J l D cy Γ (pc + 1) lv (.inl (bAnd a b) :: st) μ ca sl) : J l D cy Γ pc lv (.inl b :: .inl a :: st) μ ca sl := by
  intro p e s m args below meth c A R Q ad0 n0 hG ad H locs ls hP hD hS hl hn ha
  obtain ⟨⟨hx, hb, hml, hown⟩, hts, hK, hA, ⟨hmc, hms, hfr, hlo⟩, hlk, hin, hev⟩ := hF _ _ _ _ _ _ _ _ _ _ _ _ _ hG
  have k' := k p e s m args below meth c A R Q ad0 n0 hG ad H locs ls hP hD hS hl hn ha
  have e9 : cv ad (.inl (bAnd a b)) = .int (Int32.ofInt a &&& Int32.ofInt b) := by show Value.int _ = _; rw [ofI_and]
  rw [List.map_cons, e9] at k'
  exact lv_iand hx hb hd k'
theorem J_ixor {a b : Int} (hF : Fa D cy Γ o cc nL d mc ms ini) (hd : decode cc pc = .ok (.ixor, 1)) (k : J l D cy Γ (pc + 1) lv (.inl (bXor a b) :: st) μ ca sl) : J l D cy Γ pc lv (.inl b :: .inl a :: st) μ ca sl := by
  intro p e s m args below meth c A R Q ad0 n0 hG ad H locs ls hP hD hS hl hn ha
  obtain ⟨⟨hx, hb, hml, hown⟩, hts, hK, hA, ⟨hmc, hms, hfr, hlo⟩, hlk, hin, hev⟩ := hF _ _ _ _ _ _ _ _ _ _ _ _ _ hG
  have k' := k p e s m args below meth c A R Q ad0 n0 hG ad H locs ls hP hD hS hl hn ha
  have e9 : cv ad (.inl (bXor a b)) = .int (Int32.ofInt a ^^^ Int32.ofInt b) := by show Value.int _ = _; rw [ofI_xor]
  rw [List.map_cons, e9] at k'
  exact lv_ixor hx hb hd k'
theorem J_idiv {a b : Int} (hF : Fa D cy Γ o cc nL d mc ms ini) (hd : decode cc pc = .ok (.idiv, 1)) (h1 : 0 ≤ a ∧ a ≤ 2147483647) (h2 : 0 < b ∧ b ≤ 2147483647) (k : J l D cy Γ (pc + 1) lv (.inl (a / b) :: st) μ ca sl) : J l D cy Γ pc lv (.inl b :: .inl a :: st) μ ca sl := by
  intro p e s m args below meth c A R Q ad0 n0 hG ad H locs ls hP hD hS hl hn ha
  obtain ⟨⟨hx, hb, hml, hown⟩, hts, hK, hA, ⟨hmc, hms, hfr, hlo⟩, hlk, hin, hev⟩ := hF _ _ _ _ _ _ _ _ _ _ _ _ _ hG
  have k' := k p e s m args below meth c A R Q ad0 n0 hG ad H locs ls hP hD hS hl hn ha
  have e9 : cv ad (.inl (a / b)) = .int (Int32.ofInt a / Int32.ofInt b) := by show Value.int _ = _; rw [ofI_div h1.1 h1.2 h2.1 h2.2]
  rw [List.map_cons, e9] at k'
  exact lv_idiv hx hb hd (fun q => by have := (r32_eq (a := b) (b := 0) ⟨by omega, by omega⟩ r32_0).mp q; omega) k'
theorem J_irem {a b : Int} (hF : Fa D cy Γ o cc nL d mc ms ini) (hd : decode cc pc = .ok (.irem, 1)) (h1 : 0 ≤ a ∧ a ≤ 2147483647) (h2 : 0 < b ∧ b ≤ 2147483647) (k : J l D cy Γ (pc + 1) lv (.inl (a % b) :: st) μ ca sl) : J l D cy Γ pc lv (.inl b :: .inl a :: st) μ ca sl := by
  intro p e s m args below meth c A R Q ad0 n0 hG ad H locs ls hP hD hS hl hn ha
  obtain ⟨⟨hx, hb, hml, hown⟩, hts, hK, hA, ⟨hmc, hms, hfr, hlo⟩, hlk, hin, hev⟩ := hF _ _ _ _ _ _ _ _ _ _ _ _ _ hG
  have k' := k p e s m args below meth c A R Q ad0 n0 hG ad H locs ls hP hD hS hl hn ha
  have e9 : cv ad (.inl (a % b)) = .int (Int32.ofInt a - Int32.ofInt a / Int32.ofInt b * Int32.ofInt b) := by show Value.int _ = _; rw [Int.emod_def, Int.mul_comm, Int32.ofInt_sub, Int32.ofInt_mul, ofI_div h1.1 h1.2 h2.1 h2.2]
  rw [List.map_cons, e9] at k'
  exact lv_irem hx hb hd (fun q => by have := (r32_eq (a := b) (b := 0) ⟨by omega, by omega⟩ r32_0).mp q; omega) k'
theorem J_ldiv {a b : Int} (hF : Fa D cy Γ o cc nL d mc ms ini) (hd : decode cc pc = .ok (.ldiv, 1)) (h1 : 0 ≤ a ∧ a ≤ 9223372036854775807) (h2 : 0 < b ∧ b ≤ 9223372036854775807) (k : J l D cy Γ (pc + 1) lv (.inr (.inl (a / b)) :: st) μ ca sl) : J l D cy Γ pc lv (.inr (.inl b) :: .inr (.inl a) :: st) μ ca sl := by
  intro p e s m args below meth c A R Q ad0 n0 hG ad H locs ls hP hD hS hl hn ha
  obtain ⟨⟨hx, hb, hml, hown⟩, hts, hK, hA, ⟨hmc, hms, hfr, hlo⟩, hlk, hin, hev⟩ := hF _ _ _ _ _ _ _ _ _ _ _ _ _ hG
  have k' := k p e s m args below meth c A R Q ad0 n0 hG ad H locs ls hP hD hS hl hn ha
  have e9 : cv ad (.inr (.inl (a / b))) = .long (Int64.ofInt a / Int64.ofInt b) := by show Value.long _ = _; rw [ofL_div h1.1 h1.2 h2.1 h2.2]
  rw [List.map_cons, e9] at k'
  exact lv_ldiv hx hb hd (fun q => by have := (r64_eq (a := b) (b := 0) ⟨by omega, by omega⟩ ⟨by omega, by omega⟩).mp q; omega) k'
theorem J_lrem {a b : Int} (hF : Fa D cy Γ o cc nL d mc ms ini) (hd : decode cc pc = .ok (.lrem, 1)) (h1 : 0 ≤ a ∧ a ≤ 9223372036854775807) (h2 : 0 < b ∧ b ≤ 9223372036854775807) (k : J l D cy Γ (pc + 1) lv (.inr (.inl (a % b)) :: st) μ ca sl) : J l D cy Γ pc lv (.inr (.inl b) :: .inr (.inl a) :: st) μ ca sl := by
  intro p e s m args below meth c A R Q ad0 n0 hG ad H locs ls hP hD hS hl hn ha
  obtain ⟨⟨hx, hb, hml, hown⟩, hts, hK, hA, ⟨hmc, hms, hfr, hlo⟩, hlk, hin, hev⟩ := hF _ _ _ _ _ _ _ _ _ _ _ _ _ hG
  have k' := k p e s m args below meth c A R Q ad0 n0 hG ad H locs ls hP hD hS hl hn ha
  have e9 : cv ad (.inr (.inl (a % b))) = .long (Int64.ofInt a - Int64.ofInt a / Int64.ofInt b * Int64.ofInt b) := by show Value.long _ = _; rw [Int.emod_def, Int.mul_comm, Int64.ofInt_sub, Int64.ofInt_mul, ofL_div h1.1 h1.2 h2.1 h2.2]
  rw [List.map_cons, e9] at k'
  exact lv_lrem hx hb hd (fun q => by have := (r64_eq (a := b) (b := 0) ⟨by omega, by omega⟩ ⟨by omega, by omega⟩).mp q; omega) k'
theorem J_ishl {a b : Int} (hF : Fa D cy Γ o cc nL d mc ms ini) (hd : decode cc pc = .ok (.ishl, 1)) (h1 : 0 ≤ a ∧ a * 2 ^ b.toNat ≤ 2147483647) (h2 : 0 ≤ b ∧ b < 31) (k : J l D cy Γ (pc + 1) lv (.inl (a * 2 ^ b.toNat) :: st) μ ca sl) : J l D cy Γ pc lv (.inl b :: .inl a :: st) μ ca sl := by
  intro p e s m args below meth c A R Q ad0 n0 hG ad H locs ls hP hD hS hl hn ha
  obtain ⟨⟨hx, hb, hml, hown⟩, hts, hK, hA, ⟨hmc, hms, hfr, hlo⟩, hlk, hin, hev⟩ := hF _ _ _ _ _ _ _ _ _ _ _ _ _ hG
  have k' := k p e s m args below meth c A R Q ad0 n0 hG ad H locs ls hP hD hS hl hn ha
  have e9 : cv ad (.inl (a * 2 ^ b.toNat)) = .int (Int32.ofInt a <<< (Int32.ofInt b &&& 31)) := by exact sh_l h1.1 h1.2 h2.1 h2.2
  rw [List.map_cons, e9] at k'
  exact lv_ishl hx hb hd k'
theorem J_ishr {a b : Int} (hF : Fa D cy Γ o cc nL d mc ms ini) (hd : decode cc pc = .ok (.ishr, 1)) (h1 : -2147483648 ≤ a ∧ a ≤ 2147483647) (h2 : 0 ≤ b ∧ b < 31) (k : J l D cy Γ (pc + 1) lv (.inl (a / 2 ^ b.toNat) :: st) μ ca sl) : J l D cy Γ pc lv (.inl b :: .inl a :: st) μ ca sl := by
  intro p e s m args below meth c A R Q ad0 n0 hG ad H locs ls hP hD hS hl hn ha
  obtain ⟨⟨hx, hb, hml, hown⟩, hts, hK, hA, ⟨hmc, hms, hfr, hlo⟩, hlk, hin, hev⟩ := hF _ _ _ _ _ _ _ _ _ _ _ _ _ hG
  have k' := k p e s m args below meth c A R Q ad0 n0 hG ad H locs ls hP hD hS hl hn ha
  have e9 : cv ad (.inl (a / 2 ^ b.toNat)) = .int (Int32.ofInt a >>> (Int32.ofInt b &&& 31)) := by exact sh_r h1.1 h1.2 h2.1 h2.2
  rw [List.map_cons, e9] at k'
  exact lv_ishr hx hb hd k'
theorem J_lcmp {a b : Int} (hF : Fa D cy Γ o cc nL d mc ms ini) (hd : decode cc pc = .ok (.lcmp, 1)) (h1 : r64 a) (h2 : r64 b) (k : J l D cy Γ (pc + 1) lv (.inl (lcI a b) :: st) μ ca sl) : J l D cy Γ pc lv (.inr (.inl b) :: .inr (.inl a) :: st) μ ca sl := by
  intro p e s m args below meth c A R Q ad0 n0 hG ad H locs ls hP hD hS hl hn ha
  obtain ⟨⟨hx, hb, hml, hown⟩, hts, hK, hA, ⟨hmc, hms, hfr, hlo⟩, hlk, hin, hev⟩ := hF _ _ _ _ _ _ _ _ _ _ _ _ _ hG
  have k' := k p e s m args below meth c A R Q ad0 n0 hG ad H locs ls hP hD hS hl hn ha
  have e9 : cv ad (.inl (lcI a b)) = .int (lg_cmp (Int64.ofInt a) (Int64.ofInt b)) := by show Value.int _ = _; rw [ofI_cmp h1 h2]
  rw [List.map_cons, e9] at k'
  exact W.lcmp hx hb hd k'
theorem J_i2l {a : Int} (hF : Fa D cy Γ o cc nL d mc ms ini) (hd : decode cc pc = .ok (.i2l, 1)) (h1 : r32 a) (k : J l D cy Γ (pc + 1) lv (.inr (.inl a) :: st) μ ca sl) : J l D cy Γ pc lv (.inl a :: st) μ ca sl := by
  intro p e s m args below meth c A R Q ad0 n0 hG ad H locs ls hP hD hS hl hn ha
  obtain ⟨⟨hx, hb, hml, hown⟩, hts, hK, hA, ⟨hmc, hms, hfr, hlo⟩, hlk, hin, hev⟩ := hF _ _ _ _ _ _ _ _ _ _ _ _ _ hG
  have k' := k p e s m args below meth c A R Q ad0 n0 hG ad H locs ls hP hD hS hl hn ha
  have e9 : cv ad (.inr (.inl a)) = .long (Int64.ofInt a) := by rfl
  rw [List.map_cons, e9] at k'
  exact lv_i2l hx hb hd (Int32.toInt64_ofInt h1.1 h1.2) k'
theorem J_l2i {a : Int} (hF : Fa D cy Γ o cc nL d mc ms ini) (hd : decode cc pc = .ok (.l2i, 1)) (k : J l D cy Γ (pc + 1) lv (.inl a :: st) μ ca sl) : J l D cy Γ pc lv (.inr (.inl a) :: st) μ ca sl := by
  intro p e s m args below meth c A R Q ad0 n0 hG ad H locs ls hP hD hS hl hn ha
  obtain ⟨⟨hx, hb, hml, hown⟩, hts, hK, hA, ⟨hmc, hms, hfr, hlo⟩, hlk, hin, hev⟩ := hF _ _ _ _ _ _ _ _ _ _ _ _ _ hG
  have k' := k p e s m args below meth c A R Q ad0 n0 hG ad H locs ls hP hD hS hl hn ha
  have e9 : cv ad (.inl a) = .int (Int32.ofInt a) := by rfl
  rw [List.map_cons, e9] at k'
  exact lv_l2i hx hb hd Int64.toInt32_ofInt k'
theorem J_iconst {n : Int} (hF : Fa D cy Γ o cc nL d mc ms ini) (hd : decode cc pc = .ok (.iconst n, 1)) (k : J l D cy Γ (pc + 1) lv (.inl n :: st) μ ca sl) : J l D cy Γ pc lv (st) μ ca sl := by
  intro p e s m args below meth c A R Q ad0 n0 hG ad H locs ls hP hD hS hl hn ha
  obtain ⟨⟨hx, hb, hml, hown⟩, hts, hK, hA, ⟨hmc, hms, hfr, hlo⟩, hlk, hin, hev⟩ := hF _ _ _ _ _ _ _ _ _ _ _ _ _ hG
  have k' := k p e s m args below meth c A R Q ad0 n0 hG ad H locs ls hP hD hS hl hn ha
  have e9 : cv ad (.inl n) = .int (Int32.ofInt n) := by rfl
  rw [List.map_cons, e9] at k'
  exact lv_iconst hx hb hd rfl k'
theorem J_bipush {n : Int} (hF : Fa D cy Γ o cc nL d mc ms ini) (hd : decode cc pc = .ok (.bipush n, 2)) (h1 : (Int8.ofInt n).toInt32 = Int32.ofInt n) (k : J l D cy Γ (pc + 2) lv (.inl n :: st) μ ca sl) : J l D cy Γ pc lv (st) μ ca sl := by
  intro p e s m args below meth c A R Q ad0 n0 hG ad H locs ls hP hD hS hl hn ha
  obtain ⟨⟨hx, hb, hml, hown⟩, hts, hK, hA, ⟨hmc, hms, hfr, hlo⟩, hlk, hin, hev⟩ := hF _ _ _ _ _ _ _ _ _ _ _ _ _ hG
  have k' := k p e s m args below meth c A R Q ad0 n0 hG ad H locs ls hP hD hS hl hn ha
  have e9 : cv ad (.inl n) = .int (Int32.ofInt n) := by rfl
  rw [List.map_cons, e9] at k'
  exact lv_bipush hx hb hd h1 k'
theorem J_sipush {n : Int} (hF : Fa D cy Γ o cc nL d mc ms ini) (hd : decode cc pc = .ok (.sipush n, 3)) (h1 : (Int16.ofInt n).toInt32 = Int32.ofInt n) (k : J l D cy Γ (pc + 3) lv (.inl n :: st) μ ca sl) : J l D cy Γ pc lv (st) μ ca sl := by
  intro p e s m args below meth c A R Q ad0 n0 hG ad H locs ls hP hD hS hl hn ha
  obtain ⟨⟨hx, hb, hml, hown⟩, hts, hK, hA, ⟨hmc, hms, hfr, hlo⟩, hlk, hin, hev⟩ := hF _ _ _ _ _ _ _ _ _ _ _ _ _ hG
  have k' := k p e s m args below meth c A R Q ad0 n0 hG ad H locs ls hP hD hS hl hn ha
  have e9 : cv ad (.inl n) = .int (Int32.ofInt n) := by rfl
  rw [List.map_cons, e9] at k'
  exact lv_sipush hx hb hd h1 k'
theorem J_lconst {n : Fin 2} (hF : Fa D cy Γ o cc nL d mc ms ini) (hd : decode cc pc = .ok (.lconst n, 1)) (k : J l D cy Γ (pc + 1) lv (.inr (.inl (n : Nat)) :: st) μ ca sl) : J l D cy Γ pc lv (st) μ ca sl := by
  intro p e s m args below meth c A R Q ad0 n0 hG ad H locs ls hP hD hS hl hn ha
  obtain ⟨⟨hx, hb, hml, hown⟩, hts, hK, hA, ⟨hmc, hms, hfr, hlo⟩, hlk, hin, hev⟩ := hF _ _ _ _ _ _ _ _ _ _ _ _ _ hG
  have k' := k p e s m args below meth c A R Q ad0 n0 hG ad H locs ls hP hD hS hl hn ha
  have e9 : cv ad (.inr (.inl (n : Nat))) = .long (Int64.ofNat (n : Nat)) := by show Value.long _ = _; rw [Int64.ofInt_eq_ofNat]
  rw [List.map_cons, e9] at k'
  exact lv_lconst hx hb hd rfl k'
theorem J_ldc {i : Nat} {n : Int} (hF : Fa D cy Γ o cc nL d mc ms ini) (hd : decode cc pc = .ok (.ldc i, 2)) (h1 : Cond.constant (oN o) i (Int32.ofInt n) ∈ gT) (k : J l D cy Γ (pc + 2) lv (.inl n :: st) μ ca sl) : J l D cy Γ pc lv (st) μ ca sl := by
  intro p e s m args below meth c A R Q ad0 n0 hG ad H locs ls hP hD hS hl hn ha
  obtain ⟨⟨hx, hb, hml, hown⟩, hts, hK, hA, ⟨hmc, hms, hfr, hlo⟩, hlk, hin, hev⟩ := hF _ _ _ _ _ _ _ _ _ _ _ _ _ hG
  have k' := k p e s m args below meth c A R Q ad0 n0 hG ad H locs ls hP hD hS hl hn ha
  have e9 : cv ad (.inl n) = .int (Int32.ofInt n) := by rfl
  rw [List.map_cons, e9] at k'
  exact lv_ldc hx hb hown (hts _ h1) hd k'
theorem J_ldc2 {i : Nat} {n : Int} (hF : Fa D cy Γ o cc nL d mc ms ini) (hd : decode cc pc = .ok (.ldc2_w i, 3)) (h1 : Cond.constantLong (oN o) i (Int64.ofInt n) ∈ gT) (k : J l D cy Γ (pc + 3) lv (.inr (.inl n) :: st) μ ca sl) : J l D cy Γ pc lv (st) μ ca sl := by
  intro p e s m args below meth c A R Q ad0 n0 hG ad H locs ls hP hD hS hl hn ha
  obtain ⟨⟨hx, hb, hml, hown⟩, hts, hK, hA, ⟨hmc, hms, hfr, hlo⟩, hlk, hin, hev⟩ := hF _ _ _ _ _ _ _ _ _ _ _ _ _ hG
  have k' := k p e s m args below meth c A R Q ad0 n0 hG ad H locs ls hP hD hS hl hn ha
  have e9 : cv ad (.inr (.inl n)) = .long (Int64.ofInt n) := by rfl
  rw [List.map_cons, e9] at k'
  exact lv_ldc2 hx hb hown (hts _ h1) hd k'
theorem J_iload_n {i : Fin 4} {z : Int} (hF : Fa D cy Γ o cc nL d mc ms ini) (hd : decode cc pc = .ok (.iload_n i, 1)) (h1 : lg lv (i : Nat) = some (.inl z)) (k : J l D cy Γ (pc + 1) lv (.inl z :: st) μ ca sl) : J l D cy Γ pc lv (st) μ ca sl := by
  intro p e s m args below meth c A R Q ad0 n0 hG ad H locs ls hP hD hS hl hn ha
  obtain ⟨⟨hx, hb, hml, hown⟩, hts, hK, hA, ⟨hmc, hms, hfr, hlo⟩, hlk, hin, hev⟩ := hF _ _ _ _ _ _ _ _ _ _ _ _ _ hG
  have k' := k p e s m args below meth c A R Q ad0 n0 hG ad H locs ls hP hD hS hl hn ha
  have e9 : cv ad (.inl z) = .int (Int32.ofInt z) := by rfl
  rw [List.map_cons, e9] at k'
  exact lv_iload_n hx hb hd rfl (prs_at hl h1) k'
theorem J_iload {i : Nat} {z : Int} (hF : Fa D cy Γ o cc nL d mc ms ini) (hd : decode cc pc = .ok (.iload i, 2)) (h1 : lg lv i = some (.inl z)) (k : J l D cy Γ (pc + 2) lv (.inl z :: st) μ ca sl) : J l D cy Γ pc lv (st) μ ca sl := by
  intro p e s m args below meth c A R Q ad0 n0 hG ad H locs ls hP hD hS hl hn ha
  obtain ⟨⟨hx, hb, hml, hown⟩, hts, hK, hA, ⟨hmc, hms, hfr, hlo⟩, hlk, hin, hev⟩ := hF _ _ _ _ _ _ _ _ _ _ _ _ _ hG
  have k' := k p e s m args below meth c A R Q ad0 n0 hG ad H locs ls hP hD hS hl hn ha
  have e9 : cv ad (.inl z) = .int (Int32.ofInt z) := by rfl
  rw [List.map_cons, e9] at k'
  exact lv_iload hx hb hd (prs_at hl h1) k'
theorem J_aload_n {i : Fin 4} {q : Nat} (hF : Fa D cy Γ o cc nL d mc ms ini) (hd : decode cc pc = .ok (.aload_n i, 1)) (h1 : lg lv (i : Nat) = some (.inr (.inr (some q)))) (k : J l D cy Γ (pc + 1) lv (.inr (.inr (some q)) :: st) μ ca sl) : J l D cy Γ pc lv (st) μ ca sl := by
  intro p e s m args below meth c A R Q ad0 n0 hG ad H locs ls hP hD hS hl hn ha
  obtain ⟨⟨hx, hb, hml, hown⟩, hts, hK, hA, ⟨hmc, hms, hfr, hlo⟩, hlk, hin, hev⟩ := hF _ _ _ _ _ _ _ _ _ _ _ _ _ hG
  have k' := k p e s m args below meth c A R Q ad0 n0 hG ad H locs ls hP hD hS hl hn ha
  have e9 : cv ad (.inr (.inr (some q))) = .ref (ad q) := by rfl
  rw [List.map_cons, e9] at k'
  exact lv_aload_n hx hb hd rfl (prs_at hl h1) k'
theorem J_aload {i : Nat} {q : Nat} (hF : Fa D cy Γ o cc nL d mc ms ini) (hd : decode cc pc = .ok (.aload i, 2)) (h1 : lg lv i = some (.inr (.inr (some q)))) (k : J l D cy Γ (pc + 2) lv (.inr (.inr (some q)) :: st) μ ca sl) : J l D cy Γ pc lv (st) μ ca sl := by
  intro p e s m args below meth c A R Q ad0 n0 hG ad H locs ls hP hD hS hl hn ha
  obtain ⟨⟨hx, hb, hml, hown⟩, hts, hK, hA, ⟨hmc, hms, hfr, hlo⟩, hlk, hin, hev⟩ := hF _ _ _ _ _ _ _ _ _ _ _ _ _ hG
  have k' := k p e s m args below meth c A R Q ad0 n0 hG ad H locs ls hP hD hS hl hn ha
  have e9 : cv ad (.inr (.inr (some q))) = .ref (ad q) := by rfl
  rw [List.map_cons, e9] at k'
  exact lv_aload hx hb hd (prs_at hl h1) k'
theorem J_lload {i : Nat} {z : Int} (hF : Fa D cy Γ o cc nL d mc ms ini) (hd : decode cc pc = .ok (.lload i, 2)) (h1 : lg lv i = some (.inr (.inl z))) (k : J l D cy Γ (pc + 2) lv (.inr (.inl z) :: st) μ ca sl) : J l D cy Γ pc lv (st) μ ca sl := by
  intro p e s m args below meth c A R Q ad0 n0 hG ad H locs ls hP hD hS hl hn ha
  obtain ⟨⟨hx, hb, hml, hown⟩, hts, hK, hA, ⟨hmc, hms, hfr, hlo⟩, hlk, hin, hev⟩ := hF _ _ _ _ _ _ _ _ _ _ _ _ _ hG
  have k' := k p e s m args below meth c A R Q ad0 n0 hG ad H locs ls hP hD hS hl hn ha
  have e9 : cv ad (.inr (.inl z)) = .long (Int64.ofInt z) := by rfl
  rw [List.map_cons, e9] at k'
  exact lv_lload hx hb hd (prs_at hl h1) k'
theorem J_istore_n {i : Fin 4} {z : Int} (hF : Fa D cy Γ o cc nL d mc ms ini) (hd : decode cc pc = .ok (.istore_n i, 1)) (h1 : nl lv (i : Nat) = true) (h2 : (i : Nat) < lv.length) (k : J l D cy Γ (pc + 1) (lst lv (i : Nat) (some (.inl z))) (st) μ ca sl) : J l D cy Γ pc lv (.inl z :: st) μ ca sl := by
  intro p e s m args below meth c A R Q ad0 n0 hG ad H locs ls hP hD hS hl hn ha
  obtain ⟨⟨hx, hb, hml, hown⟩, hts, hK, hA, ⟨hmc, hms, hfr, hlo⟩, hlk, hin, hev⟩ := hF _ _ _ _ _ _ _ _ _ _ _ _ _ hG
  refine lv_istore_n hx hb hd rfl hl h2 rfl (fun ls' hl' => ?_)
  exact k p e s m args below meth c A R Q ad0 n0 hG ad H locs ls' hP hD hS (prs_st1 h1 h2 hl') (by simp only [lst_len]; exact hn) ha
theorem J_istore {i : Nat} {z : Int} (hF : Fa D cy Γ o cc nL d mc ms ini) (hd : decode cc pc = .ok (.istore i, 2)) (h1 : nl lv i = true) (h2 : i < lv.length) (k : J l D cy Γ (pc + 2) (lst lv i (some (.inl z))) (st) μ ca sl) : J l D cy Γ pc lv (.inl z :: st) μ ca sl := by
  intro p e s m args below meth c A R Q ad0 n0 hG ad H locs ls hP hD hS hl hn ha
  obtain ⟨⟨hx, hb, hml, hown⟩, hts, hK, hA, ⟨hmc, hms, hfr, hlo⟩, hlk, hin, hev⟩ := hF _ _ _ _ _ _ _ _ _ _ _ _ _ hG
  refine lv_istore hx hb hd hl h2 rfl (fun ls' hl' => ?_)
  exact k p e s m args below meth c A R Q ad0 n0 hG ad H locs ls' hP hD hS (prs_st1 h1 h2 hl') (by simp only [lst_len]; exact hn) ha
theorem J_astore_n {i : Fin 4} {q : Nat} (hF : Fa D cy Γ o cc nL d mc ms ini) (hd : decode cc pc = .ok (.astore_n i, 1)) (h1 : nl lv (i : Nat) = true) (h2 : (i : Nat) < lv.length) (k : J l D cy Γ (pc + 1) (lst lv (i : Nat) (some (.inr (.inr (some q))))) (st) μ ca sl) : J l D cy Γ pc lv (.inr (.inr (some q)) :: st) μ ca sl := by
  intro p e s m args below meth c A R Q ad0 n0 hG ad H locs ls hP hD hS hl hn ha
  obtain ⟨⟨hx, hb, hml, hown⟩, hts, hK, hA, ⟨hmc, hms, hfr, hlo⟩, hlk, hin, hev⟩ := hF _ _ _ _ _ _ _ _ _ _ _ _ _ hG
  refine lv_astore_n hx hb hd rfl hl h2 rfl (fun ls' hl' => ?_)
  exact k p e s m args below meth c A R Q ad0 n0 hG ad H locs ls' hP hD hS (prs_st1 h1 h2 hl') (by simp only [lst_len]; exact hn) ha
theorem J_astore {i : Nat} {q : Nat} (hF : Fa D cy Γ o cc nL d mc ms ini) (hd : decode cc pc = .ok (.astore i, 2)) (h1 : nl lv i = true) (h2 : i < lv.length) (k : J l D cy Γ (pc + 2) (lst lv i (some (.inr (.inr (some q))))) (st) μ ca sl) : J l D cy Γ pc lv (.inr (.inr (some q)) :: st) μ ca sl := by
  intro p e s m args below meth c A R Q ad0 n0 hG ad H locs ls hP hD hS hl hn ha
  obtain ⟨⟨hx, hb, hml, hown⟩, hts, hK, hA, ⟨hmc, hms, hfr, hlo⟩, hlk, hin, hev⟩ := hF _ _ _ _ _ _ _ _ _ _ _ _ _ hG
  refine lv_astore hx hb hd hl h2 rfl (fun ls' hl' => ?_)
  exact k p e s m args below meth c A R Q ad0 n0 hG ad H locs ls' hP hD hS (prs_st1 h1 h2 hl') (by simp only [lst_len]; exact hn) ha
theorem J_lstore {i : Nat} {z : Int} (hF : Fa D cy Γ o cc nL d mc ms ini) (hd : decode cc pc = .ok (.lstore i, 2)) (h1 : nl lv i = true) (h2 : i + 1 < lv.length) (k : J l D cy Γ (pc + 2) (lst (lst lv i (some (.inr (.inl z)))) (i + 1) none) (st) μ ca sl) : J l D cy Γ pc lv (.inr (.inl z) :: st) μ ca sl := by
  intro p e s m args below meth c A R Q ad0 n0 hG ad H locs ls hP hD hS hl hn ha
  obtain ⟨⟨hx, hb, hml, hown⟩, hts, hK, hA, ⟨hmc, hms, hfr, hlo⟩, hlk, hin, hev⟩ := hF _ _ _ _ _ _ _ _ _ _ _ _ _ hG
  refine lv_lstore hx hb hd hl h2 rfl (fun ls' hl' => ?_)
  exact k p e s m args below meth c A R Q ad0 n0 hG ad H locs ls' hP hD hS (prs_st2 h1 h2 hl') (by simp only [lst_len]; exact hn) ha
theorem J_iinc {i : Nat} {n z : Int} (hF : Fa D cy Γ o cc nL d mc ms ini) (hd : decode cc pc = .ok (.iinc i n, 3)) (h0 : lg lv i = some (.inl z)) (h1 : nl lv i = true) (k : J l D cy Γ (pc + 3) (lst lv i (some (.inl (z + n)))) (st) μ ca sl) : J l D cy Γ pc lv (st) μ ca sl := by
  intro p e s m args below meth c A R Q ad0 n0 hG ad H locs ls hP hD hS hl hn ha
  obtain ⟨⟨hx, hb, hml, hown⟩, hts, hK, hA, ⟨hmc, hms, hfr, hlo⟩, hlk, hin, hev⟩ := hF _ _ _ _ _ _ _ _ _ _ _ _ _ hG
  have h2 := lg_lt _ _ _ h0
  obtain ⟨k9, hk9⟩ := List.getElem?_of_mem (prs_mem.mpr ⟨_, h0, rfl⟩ : (i, cv ad (.inl z)) ∈ prs ad lv)
  refine lv_iinc hx hb hd hl hk9 (v := Int32.ofInt (z + n)) (by rw [Int32.ofInt_add]) h2 rfl (fun ls' hl' => ?_)
  exact k p e s m args below meth c A R Q ad0 n0 hG ad H locs ls' hP hD hS (prs_st1 (x := .inl (z + n)) h1 h2 hl') (by simp only [lst_len]; exact hn) ha
theorem J_dup {v : AV} (hF : Fa D cy Γ o cc nL d mc ms ini) (hd : decode cc pc = .ok (.dup, 1)) (h1 : isLg (some v) = false) (k : J l D cy Γ (pc + 1) lv (v :: v :: st) μ ca sl) : J l D cy Γ pc lv (v :: st) μ ca sl := by
  intro p e s m args below meth c A R Q ad0 n0 hG ad H locs ls hP hD hS hl hn ha
  obtain ⟨⟨hx, hb, hml, hown⟩, hts, hK, hA, ⟨hmc, hms, hfr, hlo⟩, hlk, hin, hev⟩ := hF _ _ _ _ _ _ _ _ _ _ _ _ _ hG
  exact lv_dup hx hb hd (by rw [cv_cat, h1]; rfl) (k p e s m args below meth c A R Q ad0 n0 hG ad H locs ls hP hD hS hl hn ha)
theorem J_dup2 {v u : AV} (hF : Fa D cy Γ o cc nL d mc ms ini) (hd : decode cc pc = .ok (.dup2, 1)) (h1 : isLg (some v) = false) (h2 : isLg (some u) = false) (k : J l D cy Γ (pc + 1) lv (v :: u :: v :: u :: st) μ ca sl) : J l D cy Γ pc lv (v :: u :: st) μ ca sl := by
  intro p e s m args below meth c A R Q ad0 n0 hG ad H locs ls hP hD hS hl hn ha
  obtain ⟨⟨hx, hb, hml, hown⟩, hts, hK, hA, ⟨hmc, hms, hfr, hlo⟩, hlk, hin, hev⟩ := hF _ _ _ _ _ _ _ _ _ _ _ _ _ hG
  exact lv_dup2_11 hx hb hd (by rw [cv_cat, h1]; rfl) (by rw [cv_cat, h2]; rfl) (k p e s m args below meth c A R Q ad0 n0 hG ad H locs ls hP hD hS hl hn ha)
theorem J_goto {off : Int} {tgt : Nat} (hF : Fa D cy Γ o cc nL d mc ms ini) (hd : decode cc pc = .ok (.goto off, 3)) (ht : (pc : Int) + off = (tgt : Int)) (k : J l D cy Γ tgt lv st μ ca sl) : J l D cy Γ pc lv st μ ca sl := by
  intro p e s m args below meth c A R Q ad0 n0 hG ad H locs ls hP hD hS hl hn ha
  obtain ⟨⟨hx, hb, hml, hown⟩, hts, hK, hA, ⟨hmc, hms, hfr, hlo⟩, hlk, hin, hev⟩ := hF _ _ _ _ _ _ _ _ _ _ _ _ _ hG
  exact lv_goto hx hb hd ht (k p e s m args below meth c A R Q ad0 n0 hG ad H locs ls hP hD hS hl hn ha)
theorem J_icmp_eq {a b : Int} {off : Int} {tgt : Nat} (hF : Fa D cy Γ o cc nL d mc ms ini) (hd : decode cc pc = .ok (.if_icmp .eq off, 3)) (ht : (pc : Int) + off = (tgt : Int)) (h1 : r32 a) (h2 : r32 b) (kt : a = b → J l D cy Γ tgt lv st μ ca sl) (kf : ¬ (a = b) → J l D cy Γ (pc + 3) lv st μ ca sl) : J l D cy Γ pc lv (.inl b :: .inl a :: st) μ ca sl := by
  intro p e s m args below meth c A R Q ad0 n0 hG ad H locs ls hP hD hS hl hn ha
  obtain ⟨⟨hx, hb, hml, hown⟩, hts, hK, hA, ⟨hmc, hms, hfr, hlo⟩, hlk, hin, hev⟩ := hF _ _ _ _ _ _ _ _ _ _ _ _ _ hG
  have hi := r32_eq h1 h2
  exact lv_icmp_eq hx hb hd ht (fun q => kt (hi.mp q) p e s m args below meth c A R Q ad0 n0 hG ad H locs ls hP hD hS hl hn ha) (fun q => kf (fun z => q (hi.mpr z)) p e s m args below meth c A R Q ad0 n0 hG ad H locs ls hP hD hS hl hn ha)
theorem J_if_eq {a : Int} {off : Int} {tgt : Nat} (hF : Fa D cy Γ o cc nL d mc ms ini) (hd : decode cc pc = .ok (.ifCond .eq off, 3)) (ht : (pc : Int) + off = (tgt : Int)) (h1 : r32 a) (kt : a = 0 → J l D cy Γ tgt lv st μ ca sl) (kf : ¬ (a = 0) → J l D cy Γ (pc + 3) lv st μ ca sl) : J l D cy Γ pc lv (.inl a :: st) μ ca sl := by
  intro p e s m args below meth c A R Q ad0 n0 hG ad H locs ls hP hD hS hl hn ha
  obtain ⟨⟨hx, hb, hml, hown⟩, hts, hK, hA, ⟨hmc, hms, hfr, hlo⟩, hlk, hin, hev⟩ := hF _ _ _ _ _ _ _ _ _ _ _ _ _ hG
  have hi := r32_eq h1 r32_0
  exact lv_if_eq hx hb hd ht (fun q => kt (hi.mp q) p e s m args below meth c A R Q ad0 n0 hG ad H locs ls hP hD hS hl hn ha) (fun q => kf (fun z => q (hi.mpr z)) p e s m args below meth c A R Q ad0 n0 hG ad H locs ls hP hD hS hl hn ha)
theorem J_icmp_ne {a b : Int} {off : Int} {tgt : Nat} (hF : Fa D cy Γ o cc nL d mc ms ini) (hd : decode cc pc = .ok (.if_icmp .ne off, 3)) (ht : (pc : Int) + off = (tgt : Int)) (h1 : r32 a) (h2 : r32 b) (kt : ¬ a = b → J l D cy Γ tgt lv st μ ca sl) (kf : a = b → J l D cy Γ (pc + 3) lv st μ ca sl) : J l D cy Γ pc lv (.inl b :: .inl a :: st) μ ca sl := by
  intro p e s m args below meth c A R Q ad0 n0 hG ad H locs ls hP hD hS hl hn ha
  obtain ⟨⟨hx, hb, hml, hown⟩, hts, hK, hA, ⟨hmc, hms, hfr, hlo⟩, hlk, hin, hev⟩ := hF _ _ _ _ _ _ _ _ _ _ _ _ _ hG
  have hi := r32_eq h1 h2
  exact lv_icmp_ne hx hb hd ht (fun q => kt (fun z => q (hi.mpr z)) p e s m args below meth c A R Q ad0 n0 hG ad H locs ls hP hD hS hl hn ha) (fun q => kf (hi.mp q) p e s m args below meth c A R Q ad0 n0 hG ad H locs ls hP hD hS hl hn ha)
theorem J_if_ne {a : Int} {off : Int} {tgt : Nat} (hF : Fa D cy Γ o cc nL d mc ms ini) (hd : decode cc pc = .ok (.ifCond .ne off, 3)) (ht : (pc : Int) + off = (tgt : Int)) (h1 : r32 a) (kt : ¬ a = 0 → J l D cy Γ tgt lv st μ ca sl) (kf : a = 0 → J l D cy Γ (pc + 3) lv st μ ca sl) : J l D cy Γ pc lv (.inl a :: st) μ ca sl := by
  intro p e s m args below meth c A R Q ad0 n0 hG ad H locs ls hP hD hS hl hn ha
  obtain ⟨⟨hx, hb, hml, hown⟩, hts, hK, hA, ⟨hmc, hms, hfr, hlo⟩, hlk, hin, hev⟩ := hF _ _ _ _ _ _ _ _ _ _ _ _ _ hG
  have hi := r32_eq h1 r32_0
  exact lv_if_ne hx hb hd ht (fun q => kt (fun z => q (hi.mpr z)) p e s m args below meth c A R Q ad0 n0 hG ad H locs ls hP hD hS hl hn ha) (fun q => kf (hi.mp q) p e s m args below meth c A R Q ad0 n0 hG ad H locs ls hP hD hS hl hn ha)
theorem J_icmp_lt {a b : Int} {off : Int} {tgt : Nat} (hF : Fa D cy Γ o cc nL d mc ms ini) (hd : decode cc pc = .ok (.if_icmp .lt off, 3)) (ht : (pc : Int) + off = (tgt : Int)) (h1 : r32 a) (h2 : r32 b) (kt : a < b → J l D cy Γ tgt lv st μ ca sl) (kf : ¬ (a < b) → J l D cy Γ (pc + 3) lv st μ ca sl) : J l D cy Γ pc lv (.inl b :: .inl a :: st) μ ca sl := by
  intro p e s m args below meth c A R Q ad0 n0 hG ad H locs ls hP hD hS hl hn ha
  obtain ⟨⟨hx, hb, hml, hown⟩, hts, hK, hA, ⟨hmc, hms, hfr, hlo⟩, hlk, hin, hev⟩ := hF _ _ _ _ _ _ _ _ _ _ _ _ _ hG
  have hi := r32_lt h1 h2
  exact lv_icmp_lt hx hb hd ht (fun q => kt (hi.mp q) p e s m args below meth c A R Q ad0 n0 hG ad H locs ls hP hD hS hl hn ha) (fun q => kf (fun z => q (hi.mpr z)) p e s m args below meth c A R Q ad0 n0 hG ad H locs ls hP hD hS hl hn ha)
theorem J_if_lt {a : Int} {off : Int} {tgt : Nat} (hF : Fa D cy Γ o cc nL d mc ms ini) (hd : decode cc pc = .ok (.ifCond .lt off, 3)) (ht : (pc : Int) + off = (tgt : Int)) (h1 : r32 a) (kt : a < 0 → J l D cy Γ tgt lv st μ ca sl) (kf : ¬ (a < 0) → J l D cy Γ (pc + 3) lv st μ ca sl) : J l D cy Γ pc lv (.inl a :: st) μ ca sl := by
  intro p e s m args below meth c A R Q ad0 n0 hG ad H locs ls hP hD hS hl hn ha
  obtain ⟨⟨hx, hb, hml, hown⟩, hts, hK, hA, ⟨hmc, hms, hfr, hlo⟩, hlk, hin, hev⟩ := hF _ _ _ _ _ _ _ _ _ _ _ _ _ hG
  have hi := r32_lt h1 r32_0
  exact lv_if_lt hx hb hd ht (fun q => kt (hi.mp q) p e s m args below meth c A R Q ad0 n0 hG ad H locs ls hP hD hS hl hn ha) (fun q => kf (fun z => q (hi.mpr z)) p e s m args below meth c A R Q ad0 n0 hG ad H locs ls hP hD hS hl hn ha)
theorem J_icmp_ge {a b : Int} {off : Int} {tgt : Nat} (hF : Fa D cy Γ o cc nL d mc ms ini) (hd : decode cc pc = .ok (.if_icmp .ge off, 3)) (ht : (pc : Int) + off = (tgt : Int)) (h1 : r32 a) (h2 : r32 b) (kt : b ≤ a → J l D cy Γ tgt lv st μ ca sl) (kf : ¬ (b ≤ a) → J l D cy Γ (pc + 3) lv st μ ca sl) : J l D cy Γ pc lv (.inl b :: .inl a :: st) μ ca sl := by
  intro p e s m args below meth c A R Q ad0 n0 hG ad H locs ls hP hD hS hl hn ha
  obtain ⟨⟨hx, hb, hml, hown⟩, hts, hK, hA, ⟨hmc, hms, hfr, hlo⟩, hlk, hin, hev⟩ := hF _ _ _ _ _ _ _ _ _ _ _ _ _ hG
  have hi := r32_le h2 h1
  exact lv_icmp_ge hx hb hd ht (fun q => kt (hi.mp q) p e s m args below meth c A R Q ad0 n0 hG ad H locs ls hP hD hS hl hn ha) (fun q => kf (fun z => q (hi.mpr z)) p e s m args below meth c A R Q ad0 n0 hG ad H locs ls hP hD hS hl hn ha)
theorem J_if_ge {a : Int} {off : Int} {tgt : Nat} (hF : Fa D cy Γ o cc nL d mc ms ini) (hd : decode cc pc = .ok (.ifCond .ge off, 3)) (ht : (pc : Int) + off = (tgt : Int)) (h1 : r32 a) (kt : 0 ≤ a → J l D cy Γ tgt lv st μ ca sl) (kf : ¬ (0 ≤ a) → J l D cy Γ (pc + 3) lv st μ ca sl) : J l D cy Γ pc lv (.inl a :: st) μ ca sl := by
  intro p e s m args below meth c A R Q ad0 n0 hG ad H locs ls hP hD hS hl hn ha
  obtain ⟨⟨hx, hb, hml, hown⟩, hts, hK, hA, ⟨hmc, hms, hfr, hlo⟩, hlk, hin, hev⟩ := hF _ _ _ _ _ _ _ _ _ _ _ _ _ hG
  have hi := r32_le r32_0 h1
  exact lv_if_ge hx hb hd ht (fun q => kt (hi.mp q) p e s m args below meth c A R Q ad0 n0 hG ad H locs ls hP hD hS hl hn ha) (fun q => kf (fun z => q (hi.mpr z)) p e s m args below meth c A R Q ad0 n0 hG ad H locs ls hP hD hS hl hn ha)
theorem J_icmp_gt {a b : Int} {off : Int} {tgt : Nat} (hF : Fa D cy Γ o cc nL d mc ms ini) (hd : decode cc pc = .ok (.if_icmp .gt off, 3)) (ht : (pc : Int) + off = (tgt : Int)) (h1 : r32 a) (h2 : r32 b) (kt : b < a → J l D cy Γ tgt lv st μ ca sl) (kf : ¬ (b < a) → J l D cy Γ (pc + 3) lv st μ ca sl) : J l D cy Γ pc lv (.inl b :: .inl a :: st) μ ca sl := by
  intro p e s m args below meth c A R Q ad0 n0 hG ad H locs ls hP hD hS hl hn ha
  obtain ⟨⟨hx, hb, hml, hown⟩, hts, hK, hA, ⟨hmc, hms, hfr, hlo⟩, hlk, hin, hev⟩ := hF _ _ _ _ _ _ _ _ _ _ _ _ _ hG
  have hi := r32_lt h2 h1
  exact lv_icmp_gt hx hb hd ht (fun q => kt (hi.mp q) p e s m args below meth c A R Q ad0 n0 hG ad H locs ls hP hD hS hl hn ha) (fun q => kf (fun z => q (hi.mpr z)) p e s m args below meth c A R Q ad0 n0 hG ad H locs ls hP hD hS hl hn ha)
theorem J_if_gt {a : Int} {off : Int} {tgt : Nat} (hF : Fa D cy Γ o cc nL d mc ms ini) (hd : decode cc pc = .ok (.ifCond .gt off, 3)) (ht : (pc : Int) + off = (tgt : Int)) (h1 : r32 a) (kt : 0 < a → J l D cy Γ tgt lv st μ ca sl) (kf : ¬ (0 < a) → J l D cy Γ (pc + 3) lv st μ ca sl) : J l D cy Γ pc lv (.inl a :: st) μ ca sl := by
  intro p e s m args below meth c A R Q ad0 n0 hG ad H locs ls hP hD hS hl hn ha
  obtain ⟨⟨hx, hb, hml, hown⟩, hts, hK, hA, ⟨hmc, hms, hfr, hlo⟩, hlk, hin, hev⟩ := hF _ _ _ _ _ _ _ _ _ _ _ _ _ hG
  have hi := r32_lt r32_0 h1
  exact lv_if_gt hx hb hd ht (fun q => kt (hi.mp q) p e s m args below meth c A R Q ad0 n0 hG ad H locs ls hP hD hS hl hn ha) (fun q => kf (fun z => q (hi.mpr z)) p e s m args below meth c A R Q ad0 n0 hG ad H locs ls hP hD hS hl hn ha)
theorem J_icmp_le {a b : Int} {off : Int} {tgt : Nat} (hF : Fa D cy Γ o cc nL d mc ms ini) (hd : decode cc pc = .ok (.if_icmp .le off, 3)) (ht : (pc : Int) + off = (tgt : Int)) (h1 : r32 a) (h2 : r32 b) (kt : a ≤ b → J l D cy Γ tgt lv st μ ca sl) (kf : ¬ (a ≤ b) → J l D cy Γ (pc + 3) lv st μ ca sl) : J l D cy Γ pc lv (.inl b :: .inl a :: st) μ ca sl := by
  intro p e s m args below meth c A R Q ad0 n0 hG ad H locs ls hP hD hS hl hn ha
  obtain ⟨⟨hx, hb, hml, hown⟩, hts, hK, hA, ⟨hmc, hms, hfr, hlo⟩, hlk, hin, hev⟩ := hF _ _ _ _ _ _ _ _ _ _ _ _ _ hG
  have hi := r32_le h1 h2
  exact lv_icmp_le hx hb hd ht (fun q => kt (hi.mp q) p e s m args below meth c A R Q ad0 n0 hG ad H locs ls hP hD hS hl hn ha) (fun q => kf (fun z => q (hi.mpr z)) p e s m args below meth c A R Q ad0 n0 hG ad H locs ls hP hD hS hl hn ha)
theorem J_if_le {a : Int} {off : Int} {tgt : Nat} (hF : Fa D cy Γ o cc nL d mc ms ini) (hd : decode cc pc = .ok (.ifCond .le off, 3)) (ht : (pc : Int) + off = (tgt : Int)) (h1 : r32 a) (kt : a ≤ 0 → J l D cy Γ tgt lv st μ ca sl) (kf : ¬ (a ≤ 0) → J l D cy Γ (pc + 3) lv st μ ca sl) : J l D cy Γ pc lv (.inl a :: st) μ ca sl := by
  intro p e s m args below meth c A R Q ad0 n0 hG ad H locs ls hP hD hS hl hn ha
  obtain ⟨⟨hx, hb, hml, hown⟩, hts, hK, hA, ⟨hmc, hms, hfr, hlo⟩, hlk, hin, hev⟩ := hF _ _ _ _ _ _ _ _ _ _ _ _ _ hG
  have hi := r32_le h1 r32_0
  exact lv_if_le hx hb hd ht (fun q => kt (hi.mp q) p e s m args below meth c A R Q ad0 n0 hG ad H locs ls hP hD hS hl hn ha) (fun q => kf (fun z => q (hi.mpr z)) p e s m args below meth c A R Q ad0 n0 hG ad H locs ls hP hD hS hl hn ha)
theorem J_getfield {i c' ci kf t w pl : Nat} (hF : Fa D cy Γ o cc nL d mc ms ini) (hd : decode cc pc = .ok (.getfield i, 3)) (hf : fl o i = some (ci, kf, t, w, pl)) (hk : kd c' = ci) (hc : c' < μ.1) (k : J l D cy Γ (pc + 3) lv (fld μ c' kf t :: st) μ ca sl) : J l D cy Γ pc lv (.inr (.inr (some c')) :: st) μ ca sl := by
  intro p e s m args below meth c A R Q ad0 n0 hG ad H locs ls hP hD hS hl hn ha
  obtain ⟨⟨hx, hb, hml, hown⟩, hts, hK, hA, ⟨hmc, hms, hfr, hlo⟩, hlk, hin, hev⟩ := hF _ _ _ _ _ _ _ _ _ _ _ _ _ hG
  have h := fl_ok hf
  obtain ⟨-, h2, h10, hkf, ht, -⟩ := id h
  have he : (wld cy ad μ)[c']? = some (ad c', .inr (ci, (List.range (Nn ci)).map (fun k => fva ad μ c' k (fty ci k)))) := by rw [wld_get hc, cel_o hk h10]
  have k' := k p e s m args below meth c A R Q ad0 n0 hG ad H locs ls hP hD hS hl hn ha
  rw [List.map_cons, cv_fld, ht] at k'
  exact va_get (D := D) (C := Cn ci) (T := Tn ci) (N := Nn ci) (ref := Cn ci) hx hb hts (cw_all h10) hown hK hP c' he (vwCl_at h10) kf hkf (hts _ h.word) (fun x hx => by rw [h2] at hx; exact hx) (by rw [List.getElem?_map, List.getElem?_range hkf]; rfl) hd k'
theorem J_iaload {c' : Nat} {j : Int} (hF : Fa D cy Γ o cc nL d mc ms ini) (hd : decode cc pc = .ok (.iaload, 1)) (hk : kd c' = 10) (hc : c' < μ.1) (h0 : 0 ≤ j) (h1 : j < ln c') (k : J l D cy Γ (pc + 1) lv (.inl (μ.2.2 c' j.toNat) :: st) μ ca sl) : J l D cy Γ pc lv (.inl j :: .inr (.inr (some c')) :: st) μ ca sl := by
  intro p e s m args below meth c A R Q ad0 n0 hG ad H locs ls hP hD hS hl hn ha
  obtain ⟨⟨hx, hb, hml, hown⟩, hts, hK, hA, ⟨hmc, hms, hfr, hlo⟩, hlk, hin, hev⟩ := hF _ _ _ _ _ _ _ _ _ _ _ _ _ hG
  have he := wld_get (cy := cy) (ad := ad) hc
  rw [cel_i hk] at he
  refine va_iald hx hb hK hP c' 0 he rfl (ix_in h0 h1) hd ?_
  rw [ix_cl h0 h1]
  exact k p e s m args below meth c A R Q ad0 n0 hG ad H locs ls hP hD hS hl hn ha
theorem J_laload {c' : Nat} {j : Int} (hF : Fa D cy Γ o cc nL d mc ms ini) (hd : decode cc pc = .ok (.laload, 1)) (hk : kd c' = 11) (hc : c' < μ.1) (h0 : 0 ≤ j) (h1 : j < ln c') (k : J l D cy Γ (pc + 1) lv (.inr (.inl (μ.2.2 c' j.toNat)) :: st) μ ca sl) : J l D cy Γ pc lv (.inl j :: .inr (.inr (some c')) :: st) μ ca sl := by
  exact absurd hk (kd_11 _)
theorem J_aaload {c' : Nat} {j : Int} (hF : Fa D cy Γ o cc nL d mc ms ini) (hd : decode cc pc = .ok (.aaload, 1)) (hk : 12 ≤ kd c' ∧ kd c' ≤ 14) (hc : c' < μ.1) (h0 : 0 ≤ j) (h1 : j < ln c') (k : J l D cy Γ (pc + 1) lv (.inr (.inr (μ.2.1 c' j.toNat)) :: st) μ ca sl) : J l D cy Γ pc lv (.inl j :: .inr (.inr (some c')) :: st) μ ca sl := by
  intro p e s m args below meth c A R Q ad0 n0 hG ad H locs ls hP hD hS hl hn ha
  obtain ⟨⟨hx, hb, hml, hown⟩, hts, hK, hA, ⟨hmc, hms, hfr, hlo⟩, hlk, hin, hev⟩ := hF _ _ _ _ _ _ _ _ _ _ _ _ _ hG
  have he := wld_get (cy := cy) (ad := ad) hc
  rw [cel_r hk.1] at he
  have hin9 := ix_in h0 h1
  have hlt : (Int32.ofInt j).toNatClampNeg < ln c' := Nat.not_le.mp fun q => hin9 (Or.inr q)
  obtain ⟨ty, hty, hrf⟩ : ∃ ty, (tys cy)[kd c' - 10]? = some (cy (kd c'), ty) ∧ ty.isReference = true := by
    rcases (show kd c' = 12 ∨ kd c' = 13 ∨ kd c' = 14 by omega) with q | q | q <;> rw [q] <;> exact ⟨_, rfl, rfl⟩
  refine W.aald (v := va_rf ((μ.2.1 c' (Int32.ofInt j).toNatClampNeg).map ad)) (ty := ty) hx hb (hP c' _ he) ((hK.2 _ _ hty).1 (ln c') (fun j => va_rf ((μ.2.1 c' j).map ad))) hrf (fun q => by cases q) (by show ¬ (_ < 0 ∨ (arrV _ _ _).slots.size ≤ _); rw [arrV_size]; exact hin9) (by show (arrV _ _ _).slots[_]? = _; rw [arrV_read _ _ hlt]) rfl rfl hd ?_
  rw [ix_cl h0 h1]
  exact k p e s m args below meth c A R Q ad0 n0 hG ad H locs ls hP hD hS hl hn ha
theorem J_alen {c' : Nat} (hF : Fa D cy Γ o cc nL d mc ms ini) (hd : decode cc pc = .ok (.arraylength, 1)) (hk : kd c' = 10) (hc : c' < μ.1) (k : J l D cy Γ (pc + 1) lv (.inl (ln c' : Int) :: st) μ ca sl) : J l D cy Γ pc lv (.inr (.inr (some c')) :: st) μ ca sl := by
  intro p e s m args below meth c A R Q ad0 n0 hG ad H locs ls hP hD hS hl hn ha
  obtain ⟨⟨hx, hb, hml, hown⟩, hts, hK, hA, ⟨hmc, hms, hfr, hlo⟩, hlk, hin, hev⟩ := hF _ _ _ _ _ _ _ _ _ _ _ _ _ hG
  have he := wld_get (cy := cy) (ad := ad) hc
  rw [cel_i hk] at he
  refine va_alen hx hb hK hP c' 0 he rfl (v := Int32.ofInt (ln c')) Int32.ofInt_eq_ofNat.symm hd ?_
  exact k p e s m args below meth c A R Q ad0 n0 hG ad H locs ls hP hD hS hl hn ha
theorem J_iastore {c' : Nat} {j z : Int} {n : Nat} {Rf : Nat → Nat → Option Nat} {M : Nat → Nat → Int} (hF : Fa D cy Γ o cc nL d mc ms ini) (hd : decode cc pc = .ok (.iastore, 1)) (hk : kd c' = 10) (hc : c' < n) (h0 : 0 ≤ j) (h1 : j < ln c') (k : J l D cy Γ (pc + 1) lv st (n, Rf, up2 M c' j.toNat z) ca sl) : J l D cy Γ pc lv (.inl z :: .inl j :: .inr (.inr (some c')) :: st) (n, Rf, M) ca sl := by
  intro p e s m args below meth c A R Q ad0 n0 hG ad H locs ls hP hD hS hl hn ha
  obtain ⟨⟨hx, hb, hml, hown⟩, hts, hK, hA, ⟨hmc, hms, hfr, hlo⟩, hlk, hin, hev⟩ := hF _ _ _ _ _ _ _ _ _ _ _ _ _ hG
  have he := wld_get (cy := cy) (ad := ad) (μ := (n, Rf, M)) hc
  rw [cel_i hk] at he
  refine va_iast hx hb hK hP hD hS c' 0 he rfl (ix_in h0 h1) hd (fun H1 locs1 hP1 hD1 hS1 => ?_)
  have ew := wld_set (cy := cy) (ad := ad) (μ := (n, Rf, M)) (ν := (n, Rf, up2 M c' j.toNat z)) (c := c') (e := .inl (cy 10, ln c', .inl (upd (fun j => Int32.ofInt (M c' j)) (Int32.ofInt j).toNatClampNeg (Int32.ofInt z)))) rfl (by
    rw [cel_i hk, ix_cl h0 h1]
    congr 4
    funext q
    by_cases hq : q = j.toNat
    · subst hq; simp [upd, up2]
    · simp [upd, up2, hq]) (fun d hd => cel_up hd)
  rw [ew] at hP1 hD1
  exact k p e s m args below meth c A R Q ad0 n0 hG ad H1 locs1 ls hP1 hD1 hS1 hl hn ha
theorem J_lastore {c' : Nat} {j z : Int} {n : Nat} {Rf : Nat → Nat → Option Nat} {M : Nat → Nat → Int} (hF : Fa D cy Γ o cc nL d mc ms ini) (hd : decode cc pc = .ok (.lastore, 1)) (hk : kd c' = 11) (hc : c' < n) (h0 : 0 ≤ j) (h1 : j < ln c') (k : J l D cy Γ (pc + 1) lv st (n, Rf, up2 M c' j.toNat z) ca sl) : J l D cy Γ pc lv (.inr (.inl z) :: .inl j :: .inr (.inr (some c')) :: st) (n, Rf, M) ca sl := by
  exact absurd hk (kd_11 _)
theorem J_putI {i c' ci kf t w pl : Nat} {z : Int} {n : Nat} {Rf : Nat → Nat → Option Nat} {M : Nat → Nat → Int} (hF : Fa D cy Γ o cc nL d mc ms ini) (hd : decode cc pc = .ok (.putfield i, 3)) (hf : fl o i = some (ci, kf, t, w, pl)) (hk : kd c' = ci) (hc : c' < n) (hz : t = 0 ∨ t = 1 ∧ (z = 0 ∨ z = 1)) (hw : w = 0 ∨ (ini = true ∧ o = ci)) (k : J l D cy Γ (pc + 3) lv st (n, Rf, up2 M c' kf z) ca sl) : J l D cy Γ pc lv (.inl z :: .inr (.inr (some c')) :: st) (n, Rf, M) ca sl := by
  intro p e s m args below meth c A R Q ad0 n0 hG ad H locs ls hP hD hS hl hn ha
  obtain ⟨⟨hx, hb, hml, hown⟩, hts, hK, hA, ⟨hmc, hms, hfr, hlo⟩, hlk, hin, hev⟩ := hF _ _ _ _ _ _ _ _ _ _ _ _ _ hG
  have h := fl_ok hf
  obtain ⟨-, h2, h10, hkf, ht, hfin⟩ := id h
  have hty := fty_all ci h10 kf hkf
  have he : (wld cy ad (n, Rf, M))[c']? = some (ad c', .inr (ci, (List.range (Nn ci)).map (fun k => fva ad (n, Rf, M) c' k (fty ci k)))) := by rw [wld_get hc, cel_o hk h10]
  have hnf : narrow (tyT ci kf) (.int (Int32.ofInt z)) = .int (Int32.ofInt z) ∧ fits (tyT ci kf) (.int (Int32.ofInt z)) = true := by
    rw [ht] at hz
    rcases hz with q | ⟨q, z0⟩
    · rw [q] at hty
      cases hy : tyT ci kf <;> rw [hy] at hty <;> first | exact ⟨rfl, rfl⟩ | cases hty
    · rw [q] at hty
      cases hy : tyT ci kf <;> rw [hy] at hty <;> first | (rcases z0 with z0 | z0 <;> subst z0 <;> exact ⟨rfl, rfl⟩) | cases hty
  have ew := wld_set (cy := cy) (ad := ad) (μ := (n, Rf, M)) (ν := (n, Rf, up2 M c' kf z)) (c := c') (e := .inr (ci, ((List.range (Nn ci)).map (fun k => fva ad (n, Rf, M) c' k (fty ci k))).set kf (.int (Int32.ofInt z)))) rfl (by
    rw [cel_o hk h10]
    congr 2
    apply List.ext_getElem?
    intro q
    rw [List.getElem?_set]
    by_cases hq : kf = q
    · subst hq
      rw [if_pos rfl, if_pos (by simp; exact hkf), List.getElem?_map, List.getElem?_range hkf]
      rw [ht] at hz
      simp [fva, up2, upR]
      omega
    · rw [if_neg hq, List.getElem?_map, List.getElem?_map]
      by_cases hql : q < Nn ci
      · rw [List.getElem?_range hql]
        simp [fva, up2, upR, Ne.symm hq]
      · rw [List.getElem?_eq_none (by simp; omega)]; rfl) (fun d hd => cel_up hd)
  cases hfb : (Tn ci kf).2.2.2 with
  | false =>
    refine va_put (D := D) (C := Cn ci) (T := Tn ci) (N := Nn ci) (ref := Cn ci) hx hb hts (cw_all h10) (tyT ci) (ty_all h10) (nm_all h10) hown hK hP hD hS c' he (vwCl_at h10) kf hkf (hts _ h.word) (fun x hx => by rw [h2] at hx; exact hx) hfb (ty_all h10 kf hkf) (v := .int (Int32.ofInt z)) hnf.1 hnf.2 (by simp; exact hkf) hd (fun H1 locs1 hP1 hD1 hS1 => ?_)
    rw [ew] at hP1 hD1
    exact k p e s m args below meth c A R Q ad0 n0 hG ad H1 locs1 ls hP1 hD1 hS1 hl hn ha
  | true =>
    rw [hfb] at hfin
    have hw1 : w = 1 := by simpa using hfin.symm
    obtain ⟨hi1, hi2⟩ : ini = true ∧ o = ci := by
      rcases hw with q | q
      · omega
      · exact q
    refine va_putF (D := D) (C := Cn ci) (T := Tn ci) (N := Nn ci) (ref := Cn ci) hx hb hts (cw_all h10) (tyT ci) (ty_all h10) (nm_all h10) hown hK hP hD hS c' he (vwCl_at h10) kf hkf (hts _ h.word) (fun x hx => by rw [h2] at hx; exact hx) hfb (hin hi1) (by rw [h2, hi2]; exact (oN_Cn h10).symm) (ty_all h10 kf hkf) (v := .int (Int32.ofInt z)) hnf.1 hnf.2 (by simp; exact hkf) hd (fun H1 locs1 hP1 hD1 hS1 => ?_)
    rw [ew] at hP1 hD1
    exact k p e s m args below meth c A R Q ad0 n0 hG ad H1 locs1 ls hP1 hD1 hS1 hl hn ha
theorem J_putR {i c' ci kf t w pl : Nat} {r : Option Nat} {n : Nat} {Rf : Nat → Nat → Option Nat} {M : Nat → Nat → Int} (hF : Fa D cy Γ o cc nL d mc ms ini) (hd : decode cc pc = .ok (.putfield i, 3)) (hf : fl o i = some (ci, kf, t, w, pl)) (hk : kd c' = ci) (hc : c' < n) (hz : t = 2) (hw : w = 0 ∨ (ini = true ∧ o = ci)) (k : J l D cy Γ (pc + 3) lv st (n, upR Rf c' kf r, M) ca sl) : J l D cy Γ pc lv (.inr (.inr r) :: .inr (.inr (some c')) :: st) (n, Rf, M) ca sl := by
  intro p e s m args below meth c A R Q ad0 n0 hG ad H locs ls hP hD hS hl hn ha
  obtain ⟨⟨hx, hb, hml, hown⟩, hts, hK, hA, ⟨hmc, hms, hfr, hlo⟩, hlk, hin, hev⟩ := hF _ _ _ _ _ _ _ _ _ _ _ _ _ hG
  have h := fl_ok hf
  obtain ⟨-, h2, h10, hkf, ht, hfin⟩ := id h
  have hty := fty_all ci h10 kf hkf
  have he : (wld cy ad (n, Rf, M))[c']? = some (ad c', .inr (ci, (List.range (Nn ci)).map (fun k => fva ad (n, Rf, M) c' k (fty ci k)))) := by rw [wld_get hc, cel_o hk h10]
  have hnf : narrow (tyT ci kf) (va_rf (r.map ad)) = va_rf (r.map ad) ∧ fits (tyT ci kf) (va_rf (r.map ad)) = true := by
    rw [ht] at hz
    rw [hz] at hty
    rcases va_rf_or (r.map ad) with q | ⟨a9, q⟩ <;> rw [q] <;> cases hy : tyT ci kf <;> rw [hy] at hty <;> first | exact ⟨rfl, rfl⟩ | cases hty
  have ew := wld_set (cy := cy) (ad := ad) (μ := (n, Rf, M)) (ν := (n, upR Rf c' kf r, M)) (c := c') (e := .inr (ci, ((List.range (Nn ci)).map (fun k => fva ad (n, Rf, M) c' k (fty ci k))).set kf (va_rf (r.map ad)))) rfl (by
    rw [cel_o hk h10]
    congr 2
    apply List.ext_getElem?
    intro q
    rw [List.getElem?_set]
    by_cases hq : kf = q
    · subst hq
      rw [if_pos rfl, if_pos (by simp; exact hkf), List.getElem?_map, List.getElem?_range hkf]
      rw [ht] at hz
      simp [fva, up2, upR]
      simp [hz]
    · rw [if_neg hq, List.getElem?_map, List.getElem?_map]
      by_cases hql : q < Nn ci
      · rw [List.getElem?_range hql]
        simp [fva, up2, upR, Ne.symm hq]
      · rw [List.getElem?_eq_none (by simp; omega)]; rfl) (fun d hd => cel_upR hd)
  cases hfb : (Tn ci kf).2.2.2 with
  | false =>
    refine va_put (D := D) (C := Cn ci) (T := Tn ci) (N := Nn ci) (ref := Cn ci) hx hb hts (cw_all h10) (tyT ci) (ty_all h10) (nm_all h10) hown hK hP hD hS c' he (vwCl_at h10) kf hkf (hts _ h.word) (fun x hx => by rw [h2] at hx; exact hx) hfb (ty_all h10 kf hkf) (v := va_rf (r.map ad)) hnf.1 hnf.2 (by simp; exact hkf) hd (fun H1 locs1 hP1 hD1 hS1 => ?_)
    rw [ew] at hP1 hD1
    exact k p e s m args below meth c A R Q ad0 n0 hG ad H1 locs1 ls hP1 hD1 hS1 hl hn ha
  | true =>
    rw [hfb] at hfin
    have hw1 : w = 1 := by simpa using hfin.symm
    obtain ⟨hi1, hi2⟩ : ini = true ∧ o = ci := by
      rcases hw with q | q
      · omega
      · exact q
    refine va_putF (D := D) (C := Cn ci) (T := Tn ci) (N := Nn ci) (ref := Cn ci) hx hb hts (cw_all h10) (tyT ci) (ty_all h10) (nm_all h10) hown hK hP hD hS c' he (vwCl_at h10) kf hkf (hts _ h.word) (fun x hx => by rw [h2] at hx; exact hx) hfb (hin hi1) (by rw [h2, hi2]; exact (oN_Cn h10).symm) (ty_all h10 kf hkf) (v := va_rf (r.map ad)) hnf.1 hnf.2 (by simp; exact hkf) hd (fun H1 locs1 hP1 hD1 hS1 => ?_)
    rw [ew] at hP1 hD1
    exact k p e s m args below meth c A R Q ad0 n0 hG ad H1 locs1 ls hP1 hD1 hS1 hl hn ha
end JR
